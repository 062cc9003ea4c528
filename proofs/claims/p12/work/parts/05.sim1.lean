
abbrev kTy (c4 : ClassId × ClassId × ClassId × ClassId) : List (ClassId × FieldType) := [(c4.1, .int), (c4.2.1, .byte), (c4.2.2.1, .long), (c4.2.2.2, .boolean)]
/-- the pure state: ints, longs, rows of ints, rows of longs, references that change (to ids) -/
abbrev St : Type := (Nat → Int32) × (Nat → Int64) × (Nat → Nat → Int32) × (Nat → Nat → Int64) × (Nat → Nat)
def gI (σ : St) (k : Nat) : Int32 := σ.1 k
def gL (σ : St) (k : Nat) : Int64 := σ.2.1 k
def gA (σ : St) (j : Nat) : Nat → Int32 := σ.2.2.1 j
def gZ (σ : St) (j : Nat) : Nat → Int64 := σ.2.2.2.1 j
def gP (σ : St) (k : Nat) : Nat := σ.2.2.2.2 k
def sI (σ : St) (k : Nat) (v : Int32) : St := (fun j => if j = k then v else σ.1 j, σ.2)
def sL (σ : St) (k : Nat) (v : Int64) : St := (σ.1, (fun j => if j = k then v else σ.2.1 j), σ.2.2)
def sA (σ : St) (j i : Nat) (v : Int32) : St := (σ.1, σ.2.1, (fun q => if q = j then upd (σ.2.2.1 j) i v else σ.2.2.1 q), σ.2.2.2)
def sZ (σ : St) (j i : Nat) (v : Int64) : St := (σ.1, σ.2.1, σ.2.2.1, (fun q => if q = j then vp_updL (σ.2.2.2.1 j) i v else σ.2.2.2.1 q), σ.2.2.2.2)
def sP (σ : St) (k : Nat) (v : Nat) : St := (σ.1, σ.2.1, σ.2.2.1, σ.2.2.2.1, fun j => if j = k then v else σ.2.2.2.2 j)
def ib (i : Int32) (n : Nat) : Bool := !(decide (i < 0)) && decide (i.toNatClampNeg < n)
def gd {τ : Type} (b : Bool) (F : Option τ) : Option τ := if b then F else none
def bd {ρ τ : Type} (o : Option (ρ × St)) (K : ρ → St → Option τ) : Option τ := match o with
  | none => none
  | some (r, σ) => K r σ
theorem ib_in {i : Int32} {n : Nat} (h : ib i n = true) : vp_in i n := by
  unfold ib at h
  simp only [Bool.and_eq_true, Bool.not_eq_true', decide_eq_false_iff_not, decide_eq_true_eq] at h
  intro q
  rcases q with q | q
  · exact h.1 q
  · omega
theorem gd_some {τ : Type} {b : Bool} {F : Option τ} {x : τ} (h : gd b F = some x) : b = true ∧ F = some x := by
  cases b with
  | true => exact ⟨rfl, h⟩
  | false => cases h
theorem bd_some {ρ τ : Type} {o : Option (ρ × St)} {K : ρ → St → Option τ} {x : τ} (h : bd o K = some x) : ∃ r σ, o = some (r, σ) ∧ K r σ = some x := by
  cases o with
  | none => cases h
  | some q => exact ⟨q.1, q.2, rfl, h⟩
/-- a schema: the ids, the kind of each (0 ints, 1 bytes, 2 longs, 3 booleans, 4 + its class: an object), the length of a row, the kinds of an object's fields (0 int, 1 long, 2 a reference that changes, 3 + id: one that stays) -/
abbrev Sc : Type := List Nat × (Nat → Nat) × (Nat → Nat) × (Nat → List Nat)
def fval (ad : Nat → Nat) (σ : St) (o k kd : Nat) : Value := match kd with
  | 0 => .int (gI σ (100 * o + k))
  | 1 => .long (gL σ (100 * o + k))
  | 2 => .ref (ad (gP σ (100 * o + k)))
  | t + 3 => .ref (ad t)
def flist (ad : Nat → Nat) (σ : St) (o : Nat) : Nat → List Nat → List Value
  | _, [] => []
  | k, kd :: r => fval ad σ o k kd :: flist ad σ o (k + 1) r
theorem flist_get {ad : Nat → Nat} {σ : St} {o : Nat} : ∀ (l : List Nat) (i k : Nat), (flist ad σ o i l)[k]? = (l[k]?).map (fval ad σ o (i + k)) := by
  intro l
  induction l with
  | nil => intro i k; simp [flist]
  | cons a l ih =>
    intro i k
    cases k with
    | zero => simp [flist]
    | succ k =>
      simp only [flist, List.getElem?_cons_succ]
      rw [ih (i + 1) k, show i + 1 + k = i + (k + 1) from by omega]
theorem flist_len {ad : Nat → Nat} {σ : St} {o : Nat} : ∀ (l : List Nat) (i : Nat), (flist ad σ o i l).length = l.length := by
  intro l
  induction l with
  | nil => intro i; rfl
  | cons a l ih => intro i; simp only [flist, List.length_cons, ih]
abbrev C4 : Type := ClassId × ClassId × ClassId × ClassId
def fcell (sc : Sc) (c4 : C4) (ad : Nat → Nat) (σ : St) (j : Nat) : va_E := match sc.2.1 j with
  | 0 => .inl (c4.1, sc.2.2.1 j, .inl (gA σ j))
  | 1 => .inl (c4.2.1, sc.2.2.1 j, .inl (gA σ j))
  | 2 => .inl (c4.2.2.1, sc.2.2.1 j, .inr (.inl (gZ σ j)))
  | 3 => .inl (c4.2.2.2, sc.2.2.1 j, .inl (gA σ j))
  | ci + 4 => .inr (ci, flist ad σ j 0 (sc.2.2.2 j))
def wdS (sc : Sc) (c4 : C4) (ad : Nat → Nat) (σ : St) : va_W := sc.1.map (fun j => (ad j, fcell sc c4 ad σ j))
theorem wd_at {sc : Sc} {c4 : C4} {ad : Nat → Nat} {σ : St} {q j : Nat} (h : sc.1[q]? = some j) : (wdS sc c4 ad σ)[q]? = some (ad j, fcell sc c4 ad σ j) := by
  unfold wdS
  rw [List.getElem?_map, h]
  rfl
theorem wd_set {sc : Sc} {c4 : C4} {ad : Nat → Nat} {σ σ' : St} {A : Nat → Prop} {q j : Nat} {e : va_E} (hD : va_D A (wdS sc c4 ad σ)) (hq : sc.1[q]? = some j) (he : fcell sc c4 ad σ' j = e) (ho : ∀ j', j' ≠ j → fcell sc c4 ad σ' j' = fcell sc c4 ad σ j') : (wdS sc c4 ad σ).set q (ad j, e) = wdS sc c4 ad σ' := by
  have hq1 := wd_at (c4 := c4) (ad := ad) (σ := σ) hq
  apply List.ext_getElem?
  intro k
  by_cases hk : q = k
  · subst hk
    rw [List.getElem?_set_self (List.getElem?_eq_some_iff.mp hq1).1, wd_at hq, he]
  · rw [List.getElem?_set_ne hk]
    unfold wdS
    rw [List.getElem?_map, List.getElem?_map]
    cases h : sc.1[k]? with
    | none => rfl
    | some j' =>
      have hj : j' ≠ j := by
        intro e2
        subst e2
        exact hk (hD.1 q k _ _ hq1 (wd_at h) rfl)
      simp only [Option.map_some, ho j' hj]
theorem fv_sI {ad : Nat → Nat} {σ : St} {o k kd s : Nat} {v : Int32} (h : kd = 0 → 100 * o + k ≠ s) : fval ad (sI σ s v) o k kd = fval ad σ o k kd := by
  match kd with
  | 0 => simp only [fval, gI, sI, if_neg (h rfl)]
  | 1 => rfl
  | 2 => rfl
  | t + 3 => rfl
theorem fv_sL {ad : Nat → Nat} {σ : St} {o k kd s : Nat} {v : Int64} (h : kd = 1 → 100 * o + k ≠ s) : fval ad (sL σ s v) o k kd = fval ad σ o k kd := by
  match kd with
  | 0 => rfl
  | 1 => simp only [fval, gL, sL, if_neg (h rfl)]
  | 2 => rfl
  | t + 3 => rfl
theorem fv_sP {ad : Nat → Nat} {σ : St} {o k kd s : Nat} {v : Nat} (h : kd = 2 → 100 * o + k ≠ s) : fval ad (sP σ s v) o k kd = fval ad σ o k kd := by
  match kd with
  | 0 => rfl
  | 1 => rfl
  | 2 => simp only [fval, gP, sP, if_neg (h rfl)]
  | t + 3 => rfl
/-- the field k of object o set: the list -/
theorem fl_set {ad : Nat → Nat} {σ σ' : St} {o k : Nat} {l : List Nat} {v : Value} (hk : k < l.length) (hs : ∀ kd, l[k]? = some kd → fval ad σ' o k kd = v) (ho : ∀ k' kd, k' ≠ k → l[k']? = some kd → fval ad σ' o k' kd = fval ad σ o k' kd) : flist ad σ' o 0 l = (flist ad σ o 0 l).set k v := by
  apply List.ext_getElem?
  intro i
  by_cases hi : k = i
  · subst hi
    rw [List.getElem?_set_self (by rw [flist_len]; exact hk), flist_get, Nat.zero_add]
    obtain ⟨kd, hkd⟩ : ∃ kd, l[k]? = some kd := ⟨_, List.getElem?_eq_getElem hk⟩
    rw [hkd, Option.map_some, hs kd hkd]
  · rw [List.getElem?_set_ne hi, flist_get, flist_get, Nat.zero_add]
    cases h : l[i]? with
    | none => rfl
    | some kd => simp only [Option.map_some, ho i kd (fun e => hi e.symm) h]
theorem fl_same {ad : Nat → Nat} {σ σ' : St} {o : Nat} {l : List Nat} (ho : ∀ k' kd, l[k']? = some kd → fval ad σ' o k' kd = fval ad σ o k' kd) : flist ad σ' o 0 l = flist ad σ o 0 l := by
  apply List.ext_getElem?
  intro i
  rw [flist_get, flist_get, Nat.zero_add]
  cases h : l[i]? with
  | none => rfl
  | some kd => simp only [Option.map_some, ho i kd h]
/-- every object of the schema has at most 100 fields -/
def ScOk (sc : Sc) : Prop := ∀ o, (sc.2.2.2 o).length ≤ 100
theorem fc_other {sc : Sc} {c4 : C4} {ad : Nat → Nat} {σ σ' : St} {j : Nat} (hA : gA σ' j = gA σ j) (hZ : gZ σ' j = gZ σ j) (hf : ∀ k' kd, (sc.2.2.2 j)[k']? = some kd → fval ad σ' j k' kd = fval ad σ j k' kd) : fcell sc c4 ad σ' j = fcell sc c4 ad σ j := by
  unfold fcell
  rw [hA, hZ, fl_same hf]
theorem fl_lt {l : List Nat} {k kd : Nat} (h : l[k]? = some kd) : k < l.length := (List.getElem?_eq_some_iff.mp h).1
theorem set_I {sc : Sc} {c4 : C4} {ad : Nat → Nat} {σ : St} {A : Nat → Prop} {q o k ci : Nat} {v : Int32} (hsc : ScOk sc) (hD : va_D A (wdS sc c4 ad σ)) (hq : sc.1[q]? = some o) (hk : sc.2.1 o = ci + 4) (hf : (sc.2.2.2 o)[k]? = some 0) : (wdS sc c4 ad σ).set q (ad o, .inr (ci, (flist ad σ o 0 (sc.2.2.2 o)).set k (.int v))) = wdS sc c4 ad (sI σ (100 * o + k) v) := by
  have hl := fl_lt hf
  have hb := hsc o
  refine wd_set hD hq ?_ (fun j' hj => fc_other rfl rfl (fun k' kd h' => fv_sI (fun _ => ?_)))
  · unfold fcell
    rw [hk]
    show (Sum.inr (ci, _) : va_E) = _
    rw [← fl_set (σ' := sI σ (100 * o + k) v) hl (fun kd h => ?_) (fun k' kd h h' => fv_sI (fun _ => by omega))]
    rw [hf] at h
    cases h
    simp only [fval, gI, sI, if_pos]
  · have h1 := fl_lt h'
    have h2 := hsc j'
    omega
theorem set_L {sc : Sc} {c4 : C4} {ad : Nat → Nat} {σ : St} {A : Nat → Prop} {q o k ci : Nat} {v : Int64} (hsc : ScOk sc) (hD : va_D A (wdS sc c4 ad σ)) (hq : sc.1[q]? = some o) (hk : sc.2.1 o = ci + 4) (hf : (sc.2.2.2 o)[k]? = some 1) : (wdS sc c4 ad σ).set q (ad o, .inr (ci, (flist ad σ o 0 (sc.2.2.2 o)).set k (.long v))) = wdS sc c4 ad (sL σ (100 * o + k) v) := by
  have hl := fl_lt hf
  have hb := hsc o
  refine wd_set hD hq ?_ (fun j' hj => fc_other rfl rfl (fun k' kd h' => fv_sL (fun _ => ?_)))
  · unfold fcell
    rw [hk]
    show (Sum.inr (ci, _) : va_E) = _
    rw [← fl_set (σ' := sL σ (100 * o + k) v) hl (fun kd h => ?_) (fun k' kd h h' => fv_sL (fun _ => by omega))]
    rw [hf] at h
    cases h
    simp only [fval, gL, sL, if_pos]
  · have h1 := fl_lt h'
    have h2 := hsc j'
    omega
theorem set_P {sc : Sc} {c4 : C4} {ad : Nat → Nat} {σ : St} {A : Nat → Prop} {q o k ci : Nat} {v : Nat} (hsc : ScOk sc) (hD : va_D A (wdS sc c4 ad σ)) (hq : sc.1[q]? = some o) (hk : sc.2.1 o = ci + 4) (hf : (sc.2.2.2 o)[k]? = some 2) : (wdS sc c4 ad σ).set q (ad o, .inr (ci, (flist ad σ o 0 (sc.2.2.2 o)).set k (.ref (ad v)))) = wdS sc c4 ad (sP σ (100 * o + k) v) := by
  have hl := fl_lt hf
  have hb := hsc o
  refine wd_set hD hq ?_ (fun j' hj => fc_other rfl rfl (fun k' kd h' => fv_sP (fun _ => ?_)))
  · unfold fcell
    rw [hk]
    show (Sum.inr (ci, _) : va_E) = _
    rw [← fl_set (σ' := sP σ (100 * o + k) v) hl (fun kd h => ?_) (fun k' kd h h' => fv_sP (fun _ => by omega))]
    rw [hf] at h
    cases h
    simp only [fval, gP, sP, if_pos]
  · have h1 := fl_lt h'
    have h2 := hsc j'
    omega
theorem fv_sA {ad : Nat → Nat} {σ : St} {o k kd j i : Nat} {v : Int32} : fval ad (sA σ j i v) o k kd = fval ad σ o k kd := by
  match kd with
  | 0 => rfl
  | 1 => rfl
  | 2 => rfl
  | t + 3 => rfl
theorem fv_sZ {ad : Nat → Nat} {σ : St} {o k kd j i : Nat} {v : Int64} : fval ad (sZ σ j i v) o k kd = fval ad σ o k kd := by
  match kd with
  | 0 => rfl
  | 1 => rfl
  | 2 => rfl
  | t + 3 => rfl
theorem set_A {sc : Sc} {c4 : C4} {ad : Nat → Nat} {σ : St} {A : Nat → Prop} {q j i : Nat} {v : Int32} {e : va_E} (hD : va_D A (wdS sc c4 ad σ)) (hq : sc.1[q]? = some j) (he : fcell sc c4 ad (sA σ j i v) j = e) : (wdS sc c4 ad σ).set q (ad j, e) = wdS sc c4 ad (sA σ j i v) := by
  refine wd_set hD hq he (fun j' hj => fc_other ?_ rfl (fun k' kd h' => fv_sA))
  simp only [gA, sA, if_neg hj]
theorem set_Z {sc : Sc} {c4 : C4} {ad : Nat → Nat} {σ : St} {A : Nat → Prop} {q j i : Nat} {v : Int64} {e : va_E} (hD : va_D A (wdS sc c4 ad σ)) (hq : sc.1[q]? = some j) (he : fcell sc c4 ad (sZ σ j i v) j = e) : (wdS sc c4 ad σ).set q (ad j, e) = wdS sc c4 ad (sZ σ j i v) := by
  refine wd_set hD hq he (fun j' hj => fc_other rfl ?_ (fun k' kd h' => fv_sZ))
  simp only [gZ, sZ, if_neg hj]
theorem id_pl {l : List Nat} {j : Nat} (h : j ∈ l) : ∃ q : Nat, l[q]? = some j := List.getElem?_of_mem h
