def lw_gt : List Cond := lw_tbl.filter goodWord
theorem gt_of {w : Cond} (h : w ∈ lw_tbl) (g : goodWord w = true) : w ∈ lw_gt := List.mem_filter.mpr ⟨h, g⟩
theorem gt_in {w : Cond} (h : w ∈ lw_gt) : w ∈ lw_tbl := (List.mem_filter.mp h).1

/-- strings and statics that nobody writes -/
def lenS : List Nat := [2, 2, 3, 3, 3, 4, 5, 6, 7, 44]
def bytS : List (List Int32) := [[105, 102], [105, 115], [97, 110, 121], [110, 101, 119], [110, 111, 116], [101, 108, 115, 101], [119, 104, 105, 108, 101], [114, 101, 116, 117, 114, 110], [110, 111, 116, 104, 105, 110, 103], [105, 102, 32, 101, 108, 115, 101, 32, 119, 104, 105, 108, 101, 32, 105, 115, 32, 110, 111, 116, 32, 110, 111, 116, 104, 105, 110, 103, 32, 110, 101, 119, 32, 97, 110, 121, 32, 114, 101, 116, 117, 114, 110, 32]]
def keyS : List (String × Nat × String) := [("NothingJudge$Tokens", 57, "if"), ("NothingJudge$Tokens", 63, "is"), ("NothingJudge$Tokens", 65, "any"), ("NothingJudge$Tokens", 67, "new"), ("NothingJudge$Tokens", 69, "not"), ("NothingJudge$Tokens", 71, "else"), ("NothingJudge$Tokens", 73, "while"), ("NothingJudge$Tokens", 75, "return"), ("NothingJudge$Tokens", 77, "nothing"), ("NothingJudgeModel", 153, "if else while is not nothing new any return ")]
def Amb (adK adV : Nat → Nat) (A : Nat → Prop) (U : State) : Prop := vk_S 10 lenS bytS adK adV A U U.heap ∧ (∀ (i : Nat) (q : String × Nat × String), keyS[i]? = some q → vk_R q.1 q.2.1 q.2.2 (adK i) U) ∧ va_Z "java/lang/String" "COMPACT_STRINGS" "Z" (.int 1) A U U.heap ∧ ∃ v : Value, va_Z "jdk/internal/util/Preconditions" "SIOOBE_FORMATTER" "Ljava/util/function/BiFunction;" v A U U.heap ∧ v.isRef = true
theorem Amb.pass {adK adV : Nat → Nat} {A A1 : Nat → Prop} {s U : State} {H : Heap} {locs : List Loc} (h : Amb adK adV A s) (hS : va_S A s.heap H locs) (hA : ∀ q, A1 q → A q) (hU : U.heap = H) (hW : s.WarmedH U.vm) : Amb adK adV A1 U := by
  obtain ⟨h1, h2, h3, v, h4, h5⟩ := h
  subst hU
  exact ⟨((h1.kept hS.2.1).moved hW.alike).narrow hA, fun i q hq => vk_R.warm hW (h2 i q hq), ((h3.kept hS.2.1).moved hW.alike).narrow hA, v, ((h4.kept hS.2.1).moved hW.alike).narrow hA, h5⟩
theorem Amb.frame {adK adV : Nat → Nat} {A : Nat → Prop} {U : State} {g : JFrame} {mk : MethodId} {a : Array Value} (h : Amb adK adV A U) : Amb adK adV A (U.calling g mk a) := by
  obtain ⟨h1, h2, h3, v, h4, h5⟩ := h
  exact ⟨vk_S.moved (u := U) (U := U.calling g mk a) (Vm.Alike.refl U.vm) h1, fun i q hq => vk_R.same (u := U) (U := U.calling g mk a) rfl (h2 i q hq), va_Z.moved (u := U) (U := U.calling g mk a) (Vm.Alike.refl U.vm) h3, v, va_Z.moved (u := U) (U := U.calling g mk a) (Vm.Alike.refl U.vm) h4, h5⟩
/-- what is the same in every method of a run: launch, tables' numbers, the places of strings -/
abbrev Yx : Type := Launch × va_G × C4 × (Nat → Nat) × (Nat → Nat)
/-- a method's end: its answer, the world behind it, nothing else changed -/
def qq (Y : Yx) (sc : Sc) (ad : Nat → Nat) (A : Nat → Prop) (o : Option Value) (σ : St) : Array Value → State → Outcome → State → Prop := fun _ st oc t => (oc = .returned o ∧ va_P Y.2.1 vwCl (wdS sc Y.2.2.1 ad σ) t.heap ∧ va_D A (wdS sc Y.2.2.1 ad σ)) ∧ va_F A st t
/-- a method's start -/
def cQ (Y : Yx) (sc : Sc) (ad : Nat → Nat) (av : List Value) (σ : St) (sz : Nat) : Array Value → State → Prop := va_Pc av (fun U => U.heap.size = sz ∧ va_P Y.2.1 vwCl (wdS sc Y.2.2.1 ad σ) U.heap ∧ va_K Y.2.1 vwCl (kTy Y.2.2.1) U ∧ va_D (fun _ => True) (wdS sc Y.2.2.1 ad σ) ∧ Amb Y.2.2.2.1 Y.2.2.2.2 (va_A (wdS sc Y.2.2.1 ad σ) sz) U)
theorem cQ_fb {Y : Yx} {sc : Sc} {ad : Nat → Nat} {av : List Value} {σ : St} {sz : Nat} : FrameBlind (cQ Y sc ad av σ sz) := fun a U g mk q => by
  obtain ⟨q0, q1, qP, qK, qD, qM⟩ := q
  exact ⟨q0, q1, qP, va_K.moved (u := U) (U := U.calling g mk a) (Vm.Alike.refl U.vm) qK, qD, qM.frame⟩
def rmO (fr lo : Nat) : Room := { frames := fr, cells := 0, slots := 0, locals := lo }
/-- a method's contract: from the state σ and the arguments av it answers o, and leaves σ' -/
def Con (Y : Yx) (sc : Sc) (ad : Nat → Nat) (y : MethodName) (cc : ByteArray) (nL : Nat) (ret : Option FieldType) (fr lo : Nat) (av : List Value) (σ : St) (o : Option Value) (σ' : St) : Prop :=
  ∀ sz : Nat, Met Y.1 y (Cond.code y cc nL ret :: lw_gt) (rmO fr lo) (cQ Y sc ad av σ sz) (qq Y sc ad (va_A (wdS sc Y.2.2.1 ad σ) sz) o σ') 0 0 (va_A (wdS sc Y.2.2.1 ad σ) sz)
/-- where a body stands -/
abbrev Cx : Type := Yx × Program × Env × Room × State × MethodId × Array Value × List Frame × Method × Code × (Nat → Prop)
def Ok (X : Cx) (cc : ByteArray) (own : String) (nL : Nat) (ret : Option FieldType) (fr lo : Nat) : Prop := match X with
  | (Y, p, _, R, s, m, args, _, meth, c, A) => p.tables.exec = Jvm.exec ∧ c.code = cc ∧ c.maxLocals = nL ∧ s.vm.findClass own = some m.cls ∧ (∀ w ∈ lw_gt, w.before args s = true) ∧ va_K Y.2.1 vwCl (kTy Y.2.2.1) s ∧ (∀ q, s.heap.size ≤ q → A q) ∧ meth.locks = false ∧ meth.sig.returnType = ret ∧ R = rmO fr lo ∧ Amb Y.2.2.2.1 Y.2.2.2.2 A s
/-- from pc, with the locals lv, the stack st and the state σ, the body comes to its end as F says (where F says something) -/
def Sim (X : Cx) (sc : Sc) (ad : Nat → Nat) (nL : Nat) {ρ : Type} (out : ρ → Option Value) (pc : Nat) (lv : List (Nat × Value)) (st : List Value) (σ : St) (F : Option (ρ × St)) : Prop := match X with
  | (Y, p, e, R, s, m, args, below, meth, c, A) => ∀ (r : ρ) (σ' : St), F = some (r, σ') → ∀ (H : Heap) (locs : List Loc) (ls : Array Slot), va_P Y.2.1 vwCl (wdS sc Y.2.2.1 ad σ) H → va_D A (wdS sc Y.2.2.1 ad σ) → va_S A s.heap H locs → lv_has ls nL lv → W p Y.1 e R s m args below meth c H locs 0 0 (MQ below (qq Y sc ad A (out r) σ') args s 0 0 A) (F0 m pc ls st)
def outI (r : Int32) : Option Value := some (.int r)
def outL (r : Int64) : Option Value := some (.long r)
def outV (_ : Unit) : Option Value := none
theorem con_of {Y : Yx} {sc : Sc} {ad : Nat → Nat} {y : MethodName} {cc : ByteArray} {own : String} {nL : Nat} {ret : Option FieldType} {fr lo : Nat} {av : List Value} {lv : List (Nat × Value)} {σ σ' : St} {ρ : Type} {out : ρ → Option Value} {F : Option (ρ × St)} {r : ρ} (hy : plainName y.cls = true) (ho : y.cls = own) (hn : (lg_sl av).length ≤ nL) (hlv : lv_args 0 av = lv) (h : ∀ X : Cx, X.1 = Y → Ok X cc own nL ret fr lo → Sim X sc ad nL out 0 lv [] σ F) (hF : F = some (r, σ')) : Con Y sc ad y cc nL ret fr lo av σ (out r) σ' := by
  subst hlv
  subst ho
  intro sz
  refine Met.ofW (cc := cc) (maxL := nL) (ret := ret) hy rfl ?_
  intro p e s m args below meth c s₁ B hml hv
  obtain ⟨rfl, hsz, hP, hK, hD0, hM⟩ := hv
  have hts := atoms_spec (ws := Cond.code y cc nL ret :: lw_gt) B.pre
  have hown : s.vm.findClass y.cls = some m.cls := findClass_of_methodNamed B.named
  subst hsz
  have hl := lv_entry av (n := nL) hn
  rw [lg_entry_eq]
  have key := h (Y, p, e, rmO fr lo, s, m, av.toArray, below, meth, c, va_A (wdS sc Y.2.2.1 ad σ) s.heap.size) rfl ⟨B.exec, B.bytes, hml, hown, fun w hw => hts w (List.mem_cons_of_mem _ hw), hK, fun q hq => Or.inr hq, B.notSynchronized, B.returns, rfl, hM⟩
  exact key r σ' hF s.heap [] _ hP hD0.self va_S.rf hl
section SimRows
variable {X : Cx} {cc : ByteArray} {own : String} {nL : Nat} {ret : Option FieldType} {fr lo : Nat} {sc : Sc} {ad : Nat → Nat} {ρ : Type} {out : ρ → Option Value} {pc : Nat} {lv : List (Nat × Value)} {st : List Value} {σ : St} {F F1 F2 : Option (ρ × St)}
theorem g_none : Sim X sc ad nL out pc lv st σ none := by
  obtain ⟨Y, p, e, R, s, m, args, below, meth, c, A⟩ := X
  intro r σ' h
  cases h
theorem g_sub {lv' : List (Nat × Value)} (ks : List Nat) (hl' : lv_pick lv ks = lv') (k : Sim X sc ad nL out pc lv' st σ F) : Sim X sc ad nL out pc lv st σ F := by
  obtain ⟨Y, p, e, R, s, m, args, below, meth, c, A⟩ := X
  intro r σ' hF H locs ls hP hD hS hl
  exact k r σ' hF H locs ls hP hD hS (lv_sub hl ks hl')
theorem g_gd {b : Bool} (k : b = true → Sim X sc ad nL out pc lv st σ F) : Sim X sc ad nL out pc lv st σ (gd b F) := by
  cases b with
  | true => exact k rfl
  | false => exact g_none
theorem g_cs {q : Prop} [inst : Decidable q] (k1 : q → Sim X sc ad nL out pc lv st σ F1) (k2 : ¬ q → Sim X sc ad nL out pc lv st σ F2) : Sim X sc ad nL out pc lv st σ (if q then F1 else F2) := by
  by_cases h : q
  · rw [if_pos h]; exact k1 h
  · rw [if_neg h]; exact k2 h
theorem g_iload_n (C : Ok X cc own nL ret fr lo) {k4 : Fin 4} {i : Nat} {x : Int32} (j : Nat) (hdg : decode cc pc = .ok (.iload_n k4, 1)) (hi : (k4 : Nat) = i) (hj : lv[j]? = some (i, .int x)) (k : Sim X sc ad nL out (pc + 1) lv (.int x :: st) σ F) : Sim X sc ad nL out pc lv st σ F := by
  obtain ⟨Y, p, e, R, s, m, args, below, meth, c, A⟩ := X
  obtain ⟨hx, hb, hml, hown, hts, hK, hA, hlk, hret, hR, hM⟩ := C
  intro r σ' hF H locs ls hP hD hS hl
  exact lv_iload_n hx hb hdg hi (lv_at hl j hj) (k r σ' hF H locs ls hP hD hS hl)

theorem g_iload (C : Ok X cc own nL ret fr lo) {i : Nat} {x : Int32} (j : Nat) (hdg : decode cc pc = .ok (.iload i, 2)) (hj : lv[j]? = some (i, .int x)) (k : Sim X sc ad nL out (pc + 2) lv (.int x :: st) σ F) : Sim X sc ad nL out pc lv st σ F := by
  obtain ⟨Y, p, e, R, s, m, args, below, meth, c, A⟩ := X
  obtain ⟨hx, hb, hml, hown, hts, hK, hA, hlk, hret, hR, hM⟩ := C
  intro r σ' hF H locs ls hP hD hS hl
  exact lv_iload hx hb hdg (lv_at hl j hj) (k r σ' hF H locs ls hP hD hS hl)

theorem g_lload_n (C : Ok X cc own nL ret fr lo) {k4 : Fin 4} {i : Nat} {x : Int64} (j : Nat) (hdg : decode cc pc = .ok (.lload_n k4, 1)) (hi : (k4 : Nat) = i) (hj : lv[j]? = some (i, .long x)) (k : Sim X sc ad nL out (pc + 1) lv (.long x :: st) σ F) : Sim X sc ad nL out pc lv st σ F := by
  obtain ⟨Y, p, e, R, s, m, args, below, meth, c, A⟩ := X
  obtain ⟨hx, hb, hml, hown, hts, hK, hA, hlk, hret, hR, hM⟩ := C
  intro r σ' hF H locs ls hP hD hS hl
  exact lv_lload_n hx hb hdg hi (lv_at hl j hj) (k r σ' hF H locs ls hP hD hS hl)

theorem g_lload (C : Ok X cc own nL ret fr lo) {i : Nat} {x : Int64} (j : Nat) (hdg : decode cc pc = .ok (.lload i, 2)) (hj : lv[j]? = some (i, .long x)) (k : Sim X sc ad nL out (pc + 2) lv (.long x :: st) σ F) : Sim X sc ad nL out pc lv st σ F := by
  obtain ⟨Y, p, e, R, s, m, args, below, meth, c, A⟩ := X
  obtain ⟨hx, hb, hml, hown, hts, hK, hA, hlk, hret, hR, hM⟩ := C
  intro r σ' hF H locs ls hP hD hS hl
  exact lv_lload hx hb hdg (lv_at hl j hj) (k r σ' hF H locs ls hP hD hS hl)

theorem g_aload_n (C : Ok X cc own nL ret fr lo) {k4 : Fin 4} {i : Nat} {x : Nat} (j : Nat) (hdg : decode cc pc = .ok (.aload_n k4, 1)) (hi : (k4 : Nat) = i) (hj : lv[j]? = some (i, .ref x)) (k : Sim X sc ad nL out (pc + 1) lv (.ref x :: st) σ F) : Sim X sc ad nL out pc lv st σ F := by
  obtain ⟨Y, p, e, R, s, m, args, below, meth, c, A⟩ := X
  obtain ⟨hx, hb, hml, hown, hts, hK, hA, hlk, hret, hR, hM⟩ := C
  intro r σ' hF H locs ls hP hD hS hl
  exact lv_aload_n hx hb hdg hi (lv_at hl j hj) (k r σ' hF H locs ls hP hD hS hl)

theorem g_aload (C : Ok X cc own nL ret fr lo) {i : Nat} {x : Nat} (j : Nat) (hdg : decode cc pc = .ok (.aload i, 2)) (hj : lv[j]? = some (i, .ref x)) (k : Sim X sc ad nL out (pc + 2) lv (.ref x :: st) σ F) : Sim X sc ad nL out pc lv st σ F := by
  obtain ⟨Y, p, e, R, s, m, args, below, meth, c, A⟩ := X
  obtain ⟨hx, hb, hml, hown, hts, hK, hA, hlk, hret, hR, hM⟩ := C
  intro r σ' hF H locs ls hP hD hS hl
  exact lv_aload hx hb hdg (lv_at hl j hj) (k r σ' hF H locs ls hP hD hS hl)

theorem g_istore_n (C : Ok X cc own nL ret fr lo) {k4 : Fin 4} {i : Nat} {x : Int32} (lv' : List (Nat × Value)) (hdg : decode cc pc = .ok (.istore_n k4, 1)) (hi : (k4 : Nat) = i) (hn : i < nL) (hl' : (i, Value.int x) :: lv.filter (fun q => !(q.1 == i) && !(q.1 + 1 == i && q.2.category == 2)) = lv') (k : Sim X sc ad nL out (pc + 1) lv' st σ F) : Sim X sc ad nL out pc lv (.int x :: st) σ F := by
  obtain ⟨Y, p, e, R, s, m, args, below, meth, c, A⟩ := X
  obtain ⟨hx, hb, hml, hown, hts, hK, hA, hlk, hret, hR, hM⟩ := C
  intro r σ' hF H locs ls hP hD hS hl
  exact lv_istore_n hx hb hdg hi hl hn hl' (fun ls hl => (k r σ' hF H locs ls hP hD hS hl))

theorem g_istore (C : Ok X cc own nL ret fr lo) {i : Nat} {x : Int32} (lv' : List (Nat × Value)) (hdg : decode cc pc = .ok (.istore i, 2)) (hn : i < nL) (hl' : (i, Value.int x) :: lv.filter (fun q => !(q.1 == i) && !(q.1 + 1 == i && q.2.category == 2)) = lv') (k : Sim X sc ad nL out (pc + 2) lv' st σ F) : Sim X sc ad nL out pc lv (.int x :: st) σ F := by
  obtain ⟨Y, p, e, R, s, m, args, below, meth, c, A⟩ := X
  obtain ⟨hx, hb, hml, hown, hts, hK, hA, hlk, hret, hR, hM⟩ := C
  intro r σ' hF H locs ls hP hD hS hl
  exact lv_istore hx hb hdg hl hn hl' (fun ls hl => (k r σ' hF H locs ls hP hD hS hl))

theorem g_lstore_n (C : Ok X cc own nL ret fr lo) {k4 : Fin 4} {i : Nat} {x : Int64} (lv' : List (Nat × Value)) (hdg : decode cc pc = .ok (.lstore_n k4, 1)) (hi : (k4 : Nat) = i) (hn : i + 1 < nL) (hl' : (i, Value.long x) :: lv.filter (fun q => !(q.1 == i) && (!(q.1 == i + 1) && !(q.1 + 1 == i && q.2.category == 2))) = lv') (k : Sim X sc ad nL out (pc + 1) lv' st σ F) : Sim X sc ad nL out pc lv (.long x :: st) σ F := by
  obtain ⟨Y, p, e, R, s, m, args, below, meth, c, A⟩ := X
  obtain ⟨hx, hb, hml, hown, hts, hK, hA, hlk, hret, hR, hM⟩ := C
  intro r σ' hF H locs ls hP hD hS hl
  exact lv_lstore_n hx hb hdg hi hl hn hl' (fun ls hl => (k r σ' hF H locs ls hP hD hS hl))

theorem g_lstore (C : Ok X cc own nL ret fr lo) {i : Nat} {x : Int64} (lv' : List (Nat × Value)) (hdg : decode cc pc = .ok (.lstore i, 2)) (hn : i + 1 < nL) (hl' : (i, Value.long x) :: lv.filter (fun q => !(q.1 == i) && (!(q.1 == i + 1) && !(q.1 + 1 == i && q.2.category == 2))) = lv') (k : Sim X sc ad nL out (pc + 2) lv' st σ F) : Sim X sc ad nL out pc lv (.long x :: st) σ F := by
  obtain ⟨Y, p, e, R, s, m, args, below, meth, c, A⟩ := X
  obtain ⟨hx, hb, hml, hown, hts, hK, hA, hlk, hret, hR, hM⟩ := C
  intro r σ' hF H locs ls hP hD hS hl
  exact lv_lstore hx hb hdg hl hn hl' (fun ls hl => (k r σ' hF H locs ls hP hD hS hl))

theorem g_astore_n (C : Ok X cc own nL ret fr lo) {k4 : Fin 4} {i : Nat} {x : Nat} (lv' : List (Nat × Value)) (hdg : decode cc pc = .ok (.astore_n k4, 1)) (hi : (k4 : Nat) = i) (hn : i < nL) (hl' : (i, Value.ref x) :: lv.filter (fun q => !(q.1 == i) && !(q.1 + 1 == i && q.2.category == 2)) = lv') (k : Sim X sc ad nL out (pc + 1) lv' st σ F) : Sim X sc ad nL out pc lv (.ref x :: st) σ F := by
  obtain ⟨Y, p, e, R, s, m, args, below, meth, c, A⟩ := X
  obtain ⟨hx, hb, hml, hown, hts, hK, hA, hlk, hret, hR, hM⟩ := C
  intro r σ' hF H locs ls hP hD hS hl
  exact lv_astore_n hx hb hdg hi hl hn hl' (fun ls hl => (k r σ' hF H locs ls hP hD hS hl))

theorem g_astore (C : Ok X cc own nL ret fr lo) {i : Nat} {x : Nat} (lv' : List (Nat × Value)) (hdg : decode cc pc = .ok (.astore i, 2)) (hn : i < nL) (hl' : (i, Value.ref x) :: lv.filter (fun q => !(q.1 == i) && !(q.1 + 1 == i && q.2.category == 2)) = lv') (k : Sim X sc ad nL out (pc + 2) lv' st σ F) : Sim X sc ad nL out pc lv (.ref x :: st) σ F := by
  obtain ⟨Y, p, e, R, s, m, args, below, meth, c, A⟩ := X
  obtain ⟨hx, hb, hml, hown, hts, hK, hA, hlk, hret, hR, hM⟩ := C
  intro r σ' hF H locs ls hP hD hS hl
  exact lv_astore hx hb hdg hl hn hl' (fun ls hl => (k r σ' hF H locs ls hP hD hS hl))

theorem g_iinc (C : Ok X cc own nL ret fr lo) {i : Nat} {n : Int} {x : Int32} (v : Int32) (j : Nat) (lv' : List (Nat × Value)) (hdg : decode cc pc = .ok (.iinc i n, 3)) (hj : lv[j]? = some (i, .int x)) (hv : x + Int32.ofInt n = v) (hn : i < nL) (hl' : (i, Value.int v) :: lv.filter (fun q => !(q.1 == i) && !(q.1 + 1 == i && q.2.category == 2)) = lv') (k : Sim X sc ad nL out (pc + 3) lv' st σ F) : Sim X sc ad nL out pc lv st σ F := by
  obtain ⟨Y, p, e, R, s, m, args, below, meth, c, A⟩ := X
  obtain ⟨hx, hb, hml, hown, hts, hK, hA, hlk, hret, hR, hM⟩ := C
  intro r σ' hF H locs ls hP hD hS hl
  exact lv_iinc hx hb hdg hl hj hv hn hl' (fun ls hl => (k r σ' hF H locs ls hP hD hS hl))

theorem g_iconst (C : Ok X cc own nL ret fr lo) {n : Int} (v : Int32) (hdg : decode cc pc = .ok (.iconst n, 1)) (hv : Int32.ofInt n = v) (k : Sim X sc ad nL out (pc + 1) lv (.int v :: st) σ F) : Sim X sc ad nL out pc lv st σ F := by
  obtain ⟨Y, p, e, R, s, m, args, below, meth, c, A⟩ := X
  obtain ⟨hx, hb, hml, hown, hts, hK, hA, hlk, hret, hR, hM⟩ := C
  intro r σ' hF H locs ls hP hD hS hl
  exact lv_iconst hx hb hdg hv (k r σ' hF H locs ls hP hD hS hl)

theorem g_bipush (C : Ok X cc own nL ret fr lo) {n : Int} (v : Int32) (hdg : decode cc pc = .ok (.bipush n, 2)) (hv : (Int8.ofInt n).toInt32 = v) (k : Sim X sc ad nL out (pc + 2) lv (.int v :: st) σ F) : Sim X sc ad nL out pc lv st σ F := by
  obtain ⟨Y, p, e, R, s, m, args, below, meth, c, A⟩ := X
  obtain ⟨hx, hb, hml, hown, hts, hK, hA, hlk, hret, hR, hM⟩ := C
  intro r σ' hF H locs ls hP hD hS hl
  exact lv_bipush hx hb hdg hv (k r σ' hF H locs ls hP hD hS hl)

theorem g_sipush (C : Ok X cc own nL ret fr lo) {n : Int} (v : Int32) (hdg : decode cc pc = .ok (.sipush n, 3)) (hv : (Int16.ofInt n).toInt32 = v) (k : Sim X sc ad nL out (pc + 3) lv (.int v :: st) σ F) : Sim X sc ad nL out pc lv st σ F := by
  obtain ⟨Y, p, e, R, s, m, args, below, meth, c, A⟩ := X
  obtain ⟨hx, hb, hml, hown, hts, hK, hA, hlk, hret, hR, hM⟩ := C
  intro r σ' hF H locs ls hP hD hS hl
  exact lv_sipush hx hb hdg hv (k r σ' hF H locs ls hP hD hS hl)

theorem g_lconst (C : Ok X cc own nL ret fr lo) {n : Fin 2} (v : Int64) (hdg : decode cc pc = .ok (.lconst n, 1)) (hv : Int64.ofNat (n : Nat) = v) (k : Sim X sc ad nL out (pc + 1) lv (.long v :: st) σ F) : Sim X sc ad nL out pc lv st σ F := by
  obtain ⟨Y, p, e, R, s, m, args, below, meth, c, A⟩ := X
  obtain ⟨hx, hb, hml, hown, hts, hK, hA, hlk, hret, hR, hM⟩ := C
  intro r σ' hF H locs ls hP hD hS hl
  exact lv_lconst hx hb hdg hv (k r σ' hF H locs ls hP hD hS hl)

theorem g_ldc (C : Ok X cc own nL ret fr lo) {index : Nat} {v : Int32} (hw : Cond.constant own index v ∈ lw_gt) (hdg : decode cc pc = .ok (.ldc index, 2)) (k : Sim X sc ad nL out (pc + 2) lv (.int v :: st) σ F) : Sim X sc ad nL out pc lv st σ F := by
  obtain ⟨Y, p, e, R, s, m, args, below, meth, c, A⟩ := X
  obtain ⟨hx, hb, hml, hown, hts, hK, hA, hlk, hret, hR, hM⟩ := C
  intro r σ' hF H locs ls hP hD hS hl
  exact lv_ldc hx hb hown (hts _ hw) hdg (k r σ' hF H locs ls hP hD hS hl)

theorem g_ldc2 (C : Ok X cc own nL ret fr lo) {index : Nat} {v : Int64} (hw : Cond.constantLong own index v ∈ lw_gt) (hdg : decode cc pc = .ok (.ldc2_w index, 3)) (k : Sim X sc ad nL out (pc + 3) lv (.long v :: st) σ F) : Sim X sc ad nL out pc lv st σ F := by
  obtain ⟨Y, p, e, R, s, m, args, below, meth, c, A⟩ := X
  obtain ⟨hx, hb, hml, hown, hts, hK, hA, hlk, hret, hR, hM⟩ := C
  intro r σ' hF H locs ls hP hD hS hl
  exact lv_ldc2 hx hb hown (hts _ hw) hdg (k r σ' hF H locs ls hP hD hS hl)

theorem g_dup (C : Ok X cc own nL ret fr lo) {va : Value} (hdg : decode cc pc = .ok (.dup, 1)) (hva : va.category = 1) (k : Sim X sc ad nL out (pc + 1) lv (va :: va :: st) σ F) : Sim X sc ad nL out pc lv (va :: st) σ F := by
  obtain ⟨Y, p, e, R, s, m, args, below, meth, c, A⟩ := X
  obtain ⟨hx, hb, hml, hown, hts, hK, hA, hlk, hret, hR, hM⟩ := C
  intro r σ' hF H locs ls hP hD hS hl
  exact lv_dup hx hb hdg hva (k r σ' hF H locs ls hP hD hS hl)

theorem g_dup2 (C : Ok X cc own nL ret fr lo) {va vb : Value} (hdg : decode cc pc = .ok (.dup2, 1)) (hva : va.category = 1) (hvb : vb.category = 1) (k : Sim X sc ad nL out (pc + 1) lv (va :: vb :: va :: vb :: st) σ F) : Sim X sc ad nL out pc lv (va :: vb :: st) σ F := by
  obtain ⟨Y, p, e, R, s, m, args, below, meth, c, A⟩ := X
  obtain ⟨hx, hb, hml, hown, hts, hK, hA, hlk, hret, hR, hM⟩ := C
  intro r σ' hF H locs ls hP hD hS hl
  exact lv_dup2_11 hx hb hdg hva hvb (k r σ' hF H locs ls hP hD hS hl)

theorem g_pop (C : Ok X cc own nL ret fr lo) {va : Value} (hdg : decode cc pc = .ok (.pop, 1)) (hva : va.category = 1) (k : Sim X sc ad nL out (pc + 1) lv st σ F) : Sim X sc ad nL out pc lv (va :: st) σ F := by
  obtain ⟨Y, p, e, R, s, m, args, below, meth, c, A⟩ := X
  obtain ⟨hx, hb, hml, hown, hts, hK, hA, hlk, hret, hR, hM⟩ := C
  intro r σ' hF H locs ls hP hD hS hl
  exact lv_pop hx hb hdg hva (k r σ' hF H locs ls hP hD hS hl)

theorem g_iadd (C : Ok X cc own nL ret fr lo) {x y : Int32} (hdg : decode cc pc = .ok (.iadd, 1)) (k : Sim X sc ad nL out (pc + 1) lv (.int (x + y) :: st) σ F) : Sim X sc ad nL out pc lv (.int y :: .int x :: st) σ F := by
  obtain ⟨Y, p, e, R, s, m, args, below, meth, c, A⟩ := X
  obtain ⟨hx, hb, hml, hown, hts, hK, hA, hlk, hret, hR, hM⟩ := C
  intro r σ' hF H locs ls hP hD hS hl
  exact lv_iadd hx hb hdg (k r σ' hF H locs ls hP hD hS hl)

theorem g_isub (C : Ok X cc own nL ret fr lo) {x y : Int32} (hdg : decode cc pc = .ok (.isub, 1)) (k : Sim X sc ad nL out (pc + 1) lv (.int (x - y) :: st) σ F) : Sim X sc ad nL out pc lv (.int y :: .int x :: st) σ F := by
  obtain ⟨Y, p, e, R, s, m, args, below, meth, c, A⟩ := X
  obtain ⟨hx, hb, hml, hown, hts, hK, hA, hlk, hret, hR, hM⟩ := C
  intro r σ' hF H locs ls hP hD hS hl
  exact lv_isub hx hb hdg (k r σ' hF H locs ls hP hD hS hl)

theorem g_imul (C : Ok X cc own nL ret fr lo) {x y : Int32} (hdg : decode cc pc = .ok (.imul, 1)) (k : Sim X sc ad nL out (pc + 1) lv (.int (x * y) :: st) σ F) : Sim X sc ad nL out pc lv (.int y :: .int x :: st) σ F := by
  obtain ⟨Y, p, e, R, s, m, args, below, meth, c, A⟩ := X
  obtain ⟨hx, hb, hml, hown, hts, hK, hA, hlk, hret, hR, hM⟩ := C
  intro r σ' hF H locs ls hP hD hS hl
  exact lv_imul hx hb hdg (k r σ' hF H locs ls hP hD hS hl)

theorem g_iand (C : Ok X cc own nL ret fr lo) {x y : Int32} (hdg : decode cc pc = .ok (.iand, 1)) (k : Sim X sc ad nL out (pc + 1) lv (.int (x &&& y) :: st) σ F) : Sim X sc ad nL out pc lv (.int y :: .int x :: st) σ F := by
  obtain ⟨Y, p, e, R, s, m, args, below, meth, c, A⟩ := X
  obtain ⟨hx, hb, hml, hown, hts, hK, hA, hlk, hret, hR, hM⟩ := C
  intro r σ' hF H locs ls hP hD hS hl
  exact lv_iand hx hb hdg (k r σ' hF H locs ls hP hD hS hl)

theorem g_ior (C : Ok X cc own nL ret fr lo) {x y : Int32} (hdg : decode cc pc = .ok (.ior, 1)) (k : Sim X sc ad nL out (pc + 1) lv (.int (x ||| y) :: st) σ F) : Sim X sc ad nL out pc lv (.int y :: .int x :: st) σ F := by
  obtain ⟨Y, p, e, R, s, m, args, below, meth, c, A⟩ := X
  obtain ⟨hx, hb, hml, hown, hts, hK, hA, hlk, hret, hR, hM⟩ := C
  intro r σ' hF H locs ls hP hD hS hl
  exact lv_ior hx hb hdg (k r σ' hF H locs ls hP hD hS hl)

theorem g_ixor (C : Ok X cc own nL ret fr lo) {x y : Int32} (hdg : decode cc pc = .ok (.ixor, 1)) (k : Sim X sc ad nL out (pc + 1) lv (.int (x ^^^ y) :: st) σ F) : Sim X sc ad nL out pc lv (.int y :: .int x :: st) σ F := by
  obtain ⟨Y, p, e, R, s, m, args, below, meth, c, A⟩ := X
  obtain ⟨hx, hb, hml, hown, hts, hK, hA, hlk, hret, hR, hM⟩ := C
  intro r σ' hF H locs ls hP hD hS hl
  exact lv_ixor hx hb hdg (k r σ' hF H locs ls hP hD hS hl)

theorem g_ishl (C : Ok X cc own nL ret fr lo) {x y : Int32} (hdg : decode cc pc = .ok (.ishl, 1)) (k : Sim X sc ad nL out (pc + 1) lv (.int (x <<< (y &&& 31)) :: st) σ F) : Sim X sc ad nL out pc lv (.int y :: .int x :: st) σ F := by
  obtain ⟨Y, p, e, R, s, m, args, below, meth, c, A⟩ := X
  obtain ⟨hx, hb, hml, hown, hts, hK, hA, hlk, hret, hR, hM⟩ := C
  intro r σ' hF H locs ls hP hD hS hl
  exact lv_ishl hx hb hdg (k r σ' hF H locs ls hP hD hS hl)

theorem g_ishr (C : Ok X cc own nL ret fr lo) {x y : Int32} (hdg : decode cc pc = .ok (.ishr, 1)) (k : Sim X sc ad nL out (pc + 1) lv (.int (x >>> (y &&& 31)) :: st) σ F) : Sim X sc ad nL out pc lv (.int y :: .int x :: st) σ F := by
  obtain ⟨Y, p, e, R, s, m, args, below, meth, c, A⟩ := X
  obtain ⟨hx, hb, hml, hown, hts, hK, hA, hlk, hret, hR, hM⟩ := C
  intro r σ' hF H locs ls hP hD hS hl
  exact lv_ishr hx hb hdg (k r σ' hF H locs ls hP hD hS hl)

theorem g_idiv (C : Ok X cc own nL ret fr lo) {x y : Int32} (hdg : decode cc pc = .ok (.idiv, 1)) (hne : ¬ y = 0) (k : Sim X sc ad nL out (pc + 1) lv (.int (x / y) :: st) σ F) : Sim X sc ad nL out pc lv (.int y :: .int x :: st) σ F := by
  obtain ⟨Y, p, e, R, s, m, args, below, meth, c, A⟩ := X
  obtain ⟨hx, hb, hml, hown, hts, hK, hA, hlk, hret, hR, hM⟩ := C
  intro r σ' hF H locs ls hP hD hS hl
  exact lv_idiv hx hb hdg hne (k r σ' hF H locs ls hP hD hS hl)

theorem g_irem (C : Ok X cc own nL ret fr lo) {x y : Int32} (hdg : decode cc pc = .ok (.irem, 1)) (hne : ¬ y = 0) (k : Sim X sc ad nL out (pc + 1) lv (.int (x - x / y * y) :: st) σ F) : Sim X sc ad nL out pc lv (.int y :: .int x :: st) σ F := by
  obtain ⟨Y, p, e, R, s, m, args, below, meth, c, A⟩ := X
  obtain ⟨hx, hb, hml, hown, hts, hK, hA, hlk, hret, hR, hM⟩ := C
  intro r σ' hF H locs ls hP hD hS hl
  exact lv_irem hx hb hdg hne (k r σ' hF H locs ls hP hD hS hl)

theorem g_land (C : Ok X cc own nL ret fr lo) {x y : Int64} (hdg : decode cc pc = .ok (.land, 1)) (k : Sim X sc ad nL out (pc + 1) lv (.long (x &&& y) :: st) σ F) : Sim X sc ad nL out pc lv (.long y :: .long x :: st) σ F := by
  obtain ⟨Y, p, e, R, s, m, args, below, meth, c, A⟩ := X
  obtain ⟨hx, hb, hml, hown, hts, hK, hA, hlk, hret, hR, hM⟩ := C
  intro r σ' hF H locs ls hP hD hS hl
  exact lv_land hx hb hdg (k r σ' hF H locs ls hP hD hS hl)

theorem g_lor (C : Ok X cc own nL ret fr lo) {x y : Int64} (hdg : decode cc pc = .ok (.lor, 1)) (k : Sim X sc ad nL out (pc + 1) lv (.long (x ||| y) :: st) σ F) : Sim X sc ad nL out pc lv (.long y :: .long x :: st) σ F := by
  obtain ⟨Y, p, e, R, s, m, args, below, meth, c, A⟩ := X
  obtain ⟨hx, hb, hml, hown, hts, hK, hA, hlk, hret, hR, hM⟩ := C
  intro r σ' hF H locs ls hP hD hS hl
  exact lv_lor hx hb hdg (k r σ' hF H locs ls hP hD hS hl)

theorem g_lxor (C : Ok X cc own nL ret fr lo) {x y : Int64} (hdg : decode cc pc = .ok (.lxor, 1)) (k : Sim X sc ad nL out (pc + 1) lv (.long (x ^^^ y) :: st) σ F) : Sim X sc ad nL out pc lv (.long y :: .long x :: st) σ F := by
  obtain ⟨Y, p, e, R, s, m, args, below, meth, c, A⟩ := X
  obtain ⟨hx, hb, hml, hown, hts, hK, hA, hlk, hret, hR, hM⟩ := C
  intro r σ' hF H locs ls hP hD hS hl
  exact lv_lxor hx hb hdg (k r σ' hF H locs ls hP hD hS hl)

theorem g_lshl (C : Ok X cc own nL ret fr lo) {x : Int64} {y : Int32} (hdg : decode cc pc = .ok (.lshl, 1)) (k : Sim X sc ad nL out (pc + 1) lv (.long (x <<< (y.toInt64 &&& 63)) :: st) σ F) : Sim X sc ad nL out pc lv (.int y :: .long x :: st) σ F := by
  obtain ⟨Y, p, e, R, s, m, args, below, meth, c, A⟩ := X
  obtain ⟨hx, hb, hml, hown, hts, hK, hA, hlk, hret, hR, hM⟩ := C
  intro r σ' hF H locs ls hP hD hS hl
  exact lv_lshl hx hb hdg rfl (k r σ' hF H locs ls hP hD hS hl)

theorem g_lshr (C : Ok X cc own nL ret fr lo) {x : Int64} {y : Int32} (hdg : decode cc pc = .ok (.lshr, 1)) (k : Sim X sc ad nL out (pc + 1) lv (.long (x >>> (y.toInt64 &&& 63)) :: st) σ F) : Sim X sc ad nL out pc lv (.int y :: .long x :: st) σ F := by
  obtain ⟨Y, p, e, R, s, m, args, below, meth, c, A⟩ := X
  obtain ⟨hx, hb, hml, hown, hts, hK, hA, hlk, hret, hR, hM⟩ := C
  intro r σ' hF H locs ls hP hD hS hl
  exact lv_lshr hx hb hdg rfl (k r σ' hF H locs ls hP hD hS hl)

theorem g_i2l (C : Ok X cc own nL ret fr lo) {x : Int32} (hdg : decode cc pc = .ok (.i2l, 1)) (k : Sim X sc ad nL out (pc + 1) lv (.long x.toInt64 :: st) σ F) : Sim X sc ad nL out pc lv (.int x :: st) σ F := by
  obtain ⟨Y, p, e, R, s, m, args, below, meth, c, A⟩ := X
  obtain ⟨hx, hb, hml, hown, hts, hK, hA, hlk, hret, hR, hM⟩ := C
  intro r σ' hF H locs ls hP hD hS hl
  exact lv_i2l hx hb hdg rfl (k r σ' hF H locs ls hP hD hS hl)

theorem g_l2i (C : Ok X cc own nL ret fr lo) {x : Int64} (hdg : decode cc pc = .ok (.l2i, 1)) (k : Sim X sc ad nL out (pc + 1) lv (.int x.toInt32 :: st) σ F) : Sim X sc ad nL out pc lv (.long x :: st) σ F := by
  obtain ⟨Y, p, e, R, s, m, args, below, meth, c, A⟩ := X
  obtain ⟨hx, hb, hml, hown, hts, hK, hA, hlk, hret, hR, hM⟩ := C
  intro r σ' hF H locs ls hP hD hS hl
  exact lv_l2i hx hb hdg rfl (k r σ' hF H locs ls hP hD hS hl)

theorem g_i2b (C : Ok X cc own nL ret fr lo) {x : Int32} (hdg : decode cc pc = .ok (.i2b, 1)) (k : Sim X sc ad nL out (pc + 1) lv (.int x.toInt8.toInt32 :: st) σ F) : Sim X sc ad nL out pc lv (.int x :: st) σ F := by
  obtain ⟨Y, p, e, R, s, m, args, below, meth, c, A⟩ := X
  obtain ⟨hx, hb, hml, hown, hts, hK, hA, hlk, hret, hR, hM⟩ := C
  intro r σ' hF H locs ls hP hD hS hl
  exact lv_i2b hx hb hdg rfl (k r σ' hF H locs ls hP hD hS hl)

theorem g_i2c (C : Ok X cc own nL ret fr lo) {x : Int32} (hdg : decode cc pc = .ok (.i2c, 1)) (k : Sim X sc ad nL out (pc + 1) lv (.int (x.toUInt32 % 65536).toInt32 :: st) σ F) : Sim X sc ad nL out pc lv (.int x :: st) σ F := by
  obtain ⟨Y, p, e, R, s, m, args, below, meth, c, A⟩ := X
  obtain ⟨hx, hb, hml, hown, hts, hK, hA, hlk, hret, hR, hM⟩ := C
  intro r σ' hF H locs ls hP hD hS hl
  exact lv_i2c hx hb hdg rfl (k r σ' hF H locs ls hP hD hS hl)

theorem g_lcmp (C : Ok X cc own nL ret fr lo) {x y : Int64} (hdg : decode cc pc = .ok (.lcmp, 1)) (k : Sim X sc ad nL out (pc + 1) lv (.int (lg_cmp x y) :: st) σ F) : Sim X sc ad nL out pc lv (.long y :: .long x :: st) σ F := by
  obtain ⟨Y, p, e, R, s, m, args, below, meth, c, A⟩ := X
  obtain ⟨hx, hb, hml, hown, hts, hK, hA, hlk, hret, hR, hM⟩ := C
  intro r σ' hF H locs ls hP hD hS hl
  exact W.lcmp hx hb hdg (k r σ' hF H locs ls hP hD hS hl)

theorem g_goto (C : Ok X cc own nL ret fr lo) {off : Int} (tgt : Nat) (hdg : decode cc pc = .ok (.goto off, 3)) (ht : (pc : Int) + off = (tgt : Int)) (k : Sim X sc ad nL out tgt lv st σ F) : Sim X sc ad nL out pc lv st σ F := by
  obtain ⟨Y, p, e, R, s, m, args, below, meth, c, A⟩ := X
  obtain ⟨hx, hb, hml, hown, hts, hK, hA, hlk, hret, hR, hM⟩ := C
  intro r σ' hF H locs ls hP hD hS hl
  exact lv_goto hx hb hdg ht (k r σ' hF H locs ls hP hD hS hl)

theorem g_if_eq (C : Ok X cc own nL ret fr lo) {x : Int32} {off : Int} [inst : Decidable (x = 0)] (tgt : Nat) (hdg : decode cc pc = .ok (.ifCond .eq off, 3)) (ht : (pc : Int) + off = (tgt : Int)) (k1 : Sim X sc ad nL out tgt lv st σ F1) (k2 : Sim X sc ad nL out (pc + 3) lv st σ F2) : Sim X sc ad nL out pc lv (.int x :: st) σ (if x = 0 then F1 else F2) := by
  obtain ⟨Y, p, e, R, s, m, args, below, meth, c, A⟩ := X
  obtain ⟨hx, hb, hml, hown, hts, hK, hA, hlk, hret, hR, hM⟩ := C
  intro r σ' hF H locs ls hP hD hS hl
  refine lv_if_eq hx hb hdg ht (fun h => k1 r σ' ?_ H locs ls hP hD hS hl) (fun h => k2 r σ' ?_ H locs ls hP hD hS hl)
  · rw [if_pos h] at hF; exact hF
  · rw [if_neg h] at hF; exact hF

theorem g_icmp_eq (C : Ok X cc own nL ret fr lo) {x y : Int32} {off : Int} [inst : Decidable (x = y)] (tgt : Nat) (hdg : decode cc pc = .ok (.if_icmp .eq off, 3)) (ht : (pc : Int) + off = (tgt : Int)) (k1 : Sim X sc ad nL out tgt lv st σ F1) (k2 : Sim X sc ad nL out (pc + 3) lv st σ F2) : Sim X sc ad nL out pc lv (.int y :: .int x :: st) σ (if x = y then F1 else F2) := by
  obtain ⟨Y, p, e, R, s, m, args, below, meth, c, A⟩ := X
  obtain ⟨hx, hb, hml, hown, hts, hK, hA, hlk, hret, hR, hM⟩ := C
  intro r σ' hF H locs ls hP hD hS hl
  refine lv_icmp_eq hx hb hdg ht (fun h => k1 r σ' ?_ H locs ls hP hD hS hl) (fun h => k2 r σ' ?_ H locs ls hP hD hS hl)
  · rw [if_pos h] at hF; exact hF
  · rw [if_neg h] at hF; exact hF

theorem g_if_ne (C : Ok X cc own nL ret fr lo) {x : Int32} {off : Int} [inst : Decidable (x = 0)] (tgt : Nat) (hdg : decode cc pc = .ok (.ifCond .ne off, 3)) (ht : (pc : Int) + off = (tgt : Int)) (k1 : Sim X sc ad nL out tgt lv st σ F2) (k2 : Sim X sc ad nL out (pc + 3) lv st σ F1) : Sim X sc ad nL out pc lv (.int x :: st) σ (if x = 0 then F1 else F2) := by
  obtain ⟨Y, p, e, R, s, m, args, below, meth, c, A⟩ := X
  obtain ⟨hx, hb, hml, hown, hts, hK, hA, hlk, hret, hR, hM⟩ := C
  intro r σ' hF H locs ls hP hD hS hl
  refine lv_if_ne hx hb hdg ht (fun h => k1 r σ' ?_ H locs ls hP hD hS hl) (fun h => k2 r σ' ?_ H locs ls hP hD hS hl)
  · rw [if_neg h] at hF; exact hF
  · rw [if_pos h] at hF; exact hF

theorem g_icmp_ne (C : Ok X cc own nL ret fr lo) {x y : Int32} {off : Int} [inst : Decidable (x = y)] (tgt : Nat) (hdg : decode cc pc = .ok (.if_icmp .ne off, 3)) (ht : (pc : Int) + off = (tgt : Int)) (k1 : Sim X sc ad nL out tgt lv st σ F2) (k2 : Sim X sc ad nL out (pc + 3) lv st σ F1) : Sim X sc ad nL out pc lv (.int y :: .int x :: st) σ (if x = y then F1 else F2) := by
  obtain ⟨Y, p, e, R, s, m, args, below, meth, c, A⟩ := X
  obtain ⟨hx, hb, hml, hown, hts, hK, hA, hlk, hret, hR, hM⟩ := C
  intro r σ' hF H locs ls hP hD hS hl
  refine lv_icmp_ne hx hb hdg ht (fun h => k1 r σ' ?_ H locs ls hP hD hS hl) (fun h => k2 r σ' ?_ H locs ls hP hD hS hl)
  · rw [if_neg h] at hF; exact hF
  · rw [if_pos h] at hF; exact hF

theorem g_if_lt (C : Ok X cc own nL ret fr lo) {x : Int32} {off : Int} [inst : Decidable (x < 0)] (tgt : Nat) (hdg : decode cc pc = .ok (.ifCond .lt off, 3)) (ht : (pc : Int) + off = (tgt : Int)) (k1 : Sim X sc ad nL out tgt lv st σ F1) (k2 : Sim X sc ad nL out (pc + 3) lv st σ F2) : Sim X sc ad nL out pc lv (.int x :: st) σ (if x < 0 then F1 else F2) := by
  obtain ⟨Y, p, e, R, s, m, args, below, meth, c, A⟩ := X
  obtain ⟨hx, hb, hml, hown, hts, hK, hA, hlk, hret, hR, hM⟩ := C
  intro r σ' hF H locs ls hP hD hS hl
  refine lv_if_lt hx hb hdg ht (fun h => k1 r σ' ?_ H locs ls hP hD hS hl) (fun h => k2 r σ' ?_ H locs ls hP hD hS hl)
  · rw [if_pos h] at hF; exact hF
  · rw [if_neg h] at hF; exact hF

theorem g_icmp_lt (C : Ok X cc own nL ret fr lo) {x y : Int32} {off : Int} [inst : Decidable (x < y)] (tgt : Nat) (hdg : decode cc pc = .ok (.if_icmp .lt off, 3)) (ht : (pc : Int) + off = (tgt : Int)) (k1 : Sim X sc ad nL out tgt lv st σ F1) (k2 : Sim X sc ad nL out (pc + 3) lv st σ F2) : Sim X sc ad nL out pc lv (.int y :: .int x :: st) σ (if x < y then F1 else F2) := by
  obtain ⟨Y, p, e, R, s, m, args, below, meth, c, A⟩ := X
  obtain ⟨hx, hb, hml, hown, hts, hK, hA, hlk, hret, hR, hM⟩ := C
  intro r σ' hF H locs ls hP hD hS hl
  refine lv_icmp_lt hx hb hdg ht (fun h => k1 r σ' ?_ H locs ls hP hD hS hl) (fun h => k2 r σ' ?_ H locs ls hP hD hS hl)
  · rw [if_pos h] at hF; exact hF
  · rw [if_neg h] at hF; exact hF

theorem g_if_ge (C : Ok X cc own nL ret fr lo) {x : Int32} {off : Int} [inst : Decidable (0 ≤ x)] (tgt : Nat) (hdg : decode cc pc = .ok (.ifCond .ge off, 3)) (ht : (pc : Int) + off = (tgt : Int)) (k1 : Sim X sc ad nL out tgt lv st σ F1) (k2 : Sim X sc ad nL out (pc + 3) lv st σ F2) : Sim X sc ad nL out pc lv (.int x :: st) σ (if 0 ≤ x then F1 else F2) := by
  obtain ⟨Y, p, e, R, s, m, args, below, meth, c, A⟩ := X
  obtain ⟨hx, hb, hml, hown, hts, hK, hA, hlk, hret, hR, hM⟩ := C
  intro r σ' hF H locs ls hP hD hS hl
  refine lv_if_ge hx hb hdg ht (fun h => k1 r σ' ?_ H locs ls hP hD hS hl) (fun h => k2 r σ' ?_ H locs ls hP hD hS hl)
  · rw [if_pos h] at hF; exact hF
  · rw [if_neg h] at hF; exact hF

theorem g_icmp_ge (C : Ok X cc own nL ret fr lo) {x y : Int32} {off : Int} [inst : Decidable (y ≤ x)] (tgt : Nat) (hdg : decode cc pc = .ok (.if_icmp .ge off, 3)) (ht : (pc : Int) + off = (tgt : Int)) (k1 : Sim X sc ad nL out tgt lv st σ F1) (k2 : Sim X sc ad nL out (pc + 3) lv st σ F2) : Sim X sc ad nL out pc lv (.int y :: .int x :: st) σ (if y ≤ x then F1 else F2) := by
  obtain ⟨Y, p, e, R, s, m, args, below, meth, c, A⟩ := X
  obtain ⟨hx, hb, hml, hown, hts, hK, hA, hlk, hret, hR, hM⟩ := C
  intro r σ' hF H locs ls hP hD hS hl
  refine lv_icmp_ge hx hb hdg ht (fun h => k1 r σ' ?_ H locs ls hP hD hS hl) (fun h => k2 r σ' ?_ H locs ls hP hD hS hl)
  · rw [if_pos h] at hF; exact hF
  · rw [if_neg h] at hF; exact hF

theorem g_if_gt (C : Ok X cc own nL ret fr lo) {x : Int32} {off : Int} [inst : Decidable (0 < x)] (tgt : Nat) (hdg : decode cc pc = .ok (.ifCond .gt off, 3)) (ht : (pc : Int) + off = (tgt : Int)) (k1 : Sim X sc ad nL out tgt lv st σ F1) (k2 : Sim X sc ad nL out (pc + 3) lv st σ F2) : Sim X sc ad nL out pc lv (.int x :: st) σ (if 0 < x then F1 else F2) := by
  obtain ⟨Y, p, e, R, s, m, args, below, meth, c, A⟩ := X
  obtain ⟨hx, hb, hml, hown, hts, hK, hA, hlk, hret, hR, hM⟩ := C
  intro r σ' hF H locs ls hP hD hS hl
  refine lv_if_gt hx hb hdg ht (fun h => k1 r σ' ?_ H locs ls hP hD hS hl) (fun h => k2 r σ' ?_ H locs ls hP hD hS hl)
  · rw [if_pos h] at hF; exact hF
  · rw [if_neg h] at hF; exact hF

theorem g_icmp_gt (C : Ok X cc own nL ret fr lo) {x y : Int32} {off : Int} [inst : Decidable (y < x)] (tgt : Nat) (hdg : decode cc pc = .ok (.if_icmp .gt off, 3)) (ht : (pc : Int) + off = (tgt : Int)) (k1 : Sim X sc ad nL out tgt lv st σ F1) (k2 : Sim X sc ad nL out (pc + 3) lv st σ F2) : Sim X sc ad nL out pc lv (.int y :: .int x :: st) σ (if y < x then F1 else F2) := by
  obtain ⟨Y, p, e, R, s, m, args, below, meth, c, A⟩ := X
  obtain ⟨hx, hb, hml, hown, hts, hK, hA, hlk, hret, hR, hM⟩ := C
  intro r σ' hF H locs ls hP hD hS hl
  refine lv_icmp_gt hx hb hdg ht (fun h => k1 r σ' ?_ H locs ls hP hD hS hl) (fun h => k2 r σ' ?_ H locs ls hP hD hS hl)
  · rw [if_pos h] at hF; exact hF
  · rw [if_neg h] at hF; exact hF

theorem g_if_le (C : Ok X cc own nL ret fr lo) {x : Int32} {off : Int} [inst : Decidable (x ≤ 0)] (tgt : Nat) (hdg : decode cc pc = .ok (.ifCond .le off, 3)) (ht : (pc : Int) + off = (tgt : Int)) (k1 : Sim X sc ad nL out tgt lv st σ F1) (k2 : Sim X sc ad nL out (pc + 3) lv st σ F2) : Sim X sc ad nL out pc lv (.int x :: st) σ (if x ≤ 0 then F1 else F2) := by
  obtain ⟨Y, p, e, R, s, m, args, below, meth, c, A⟩ := X
  obtain ⟨hx, hb, hml, hown, hts, hK, hA, hlk, hret, hR, hM⟩ := C
  intro r σ' hF H locs ls hP hD hS hl
  refine lv_if_le hx hb hdg ht (fun h => k1 r σ' ?_ H locs ls hP hD hS hl) (fun h => k2 r σ' ?_ H locs ls hP hD hS hl)
  · rw [if_pos h] at hF; exact hF
  · rw [if_neg h] at hF; exact hF

theorem g_icmp_le (C : Ok X cc own nL ret fr lo) {x y : Int32} {off : Int} [inst : Decidable (x ≤ y)] (tgt : Nat) (hdg : decode cc pc = .ok (.if_icmp .le off, 3)) (ht : (pc : Int) + off = (tgt : Int)) (k1 : Sim X sc ad nL out tgt lv st σ F1) (k2 : Sim X sc ad nL out (pc + 3) lv st σ F2) : Sim X sc ad nL out pc lv (.int y :: .int x :: st) σ (if x ≤ y then F1 else F2) := by
  obtain ⟨Y, p, e, R, s, m, args, below, meth, c, A⟩ := X
  obtain ⟨hx, hb, hml, hown, hts, hK, hA, hlk, hret, hR, hM⟩ := C
  intro r σ' hF H locs ls hP hD hS hl
  refine lv_icmp_le hx hb hdg ht (fun h => k1 r σ' ?_ H locs ls hP hD hS hl) (fun h => k2 r σ' ?_ H locs ls hP hD hS hl)
  · rw [if_pos h] at hF; exact hF
  · rw [if_neg h] at hF; exact hF

theorem g_tabIn (C : Ok X cc own nL ret fr lo) {dflt lo9 hi9 : Int} {offs : Array Int} {len : Nat} {x : Int32} {off : Int} (tgt : Nat) (n : Int) (hx9 : x.toInt = n) (hdg : decode cc pc = .ok (.tableswitch dflt lo9 hi9 offs, len)) (h1 : ¬ n < lo9) (h2 : ¬ hi9 < n) (ho : offs[(n - lo9).toNat]? = some off) (ht : (pc : Int) + off = (tgt : Int)) (k : Sim X sc ad nL out tgt lv st σ F) : Sim X sc ad nL out pc lv (.int x :: st) σ F := by
  obtain ⟨Y, p, e, R, s, m, args, below, meth, c, A⟩ := X
  obtain ⟨hx, hb, hml, hown, hts, hK, hA, hlk, hret, hR, hM⟩ := C
  intro r σ' hF H locs ls hP hD hS hl
  subst hx9
  exact lv_tableIn hx hb hdg h1 h2 ho ht (k r σ' hF H locs ls hP hD hS hl)

theorem g_tabOut (C : Ok X cc own nL ret fr lo) {dflt lo9 hi9 : Int} {offs : Array Int} {len : Nat} {x : Int32} (tgt : Nat) (hdg : decode cc pc = .ok (.tableswitch dflt lo9 hi9 offs, len)) (h : x.toInt < lo9 ∨ hi9 < x.toInt) (ht : (pc : Int) + dflt = (tgt : Int)) (k : Sim X sc ad nL out tgt lv st σ F) : Sim X sc ad nL out pc lv (.int x :: st) σ F := by
  obtain ⟨Y, p, e, R, s, m, args, below, meth, c, A⟩ := X
  obtain ⟨hx, hb, hml, hown, hts, hK, hA, hlk, hret, hR, hM⟩ := C
  intro r σ' hF H locs ls hP hD hS hl
  exact lv_tableOut hx hb hdg h ht (k r σ' hF H locs ls hP hD hS hl)

theorem g_lookup (C : Ok X cc own nL ret fr lo) {dflt : Int} {ps : Array (Int × Int)} {len : Nat} {x : Int32} {off : Int} (tgt : Nat) (hdg : decode cc pc = .ok (.lookupswitch dflt ps, len)) (hp : (ps.toList.zip (ps.toList.drop 1)).all (fun (a, next) => a.1 < next.1) = true) (ho : Op.lookupswitch.offset ps.toList dflt x.toInt = off) (ht : (pc : Int) + off = (tgt : Int)) (k : Sim X sc ad nL out tgt lv st σ F) : Sim X sc ad nL out pc lv (.int x :: st) σ F := by
  obtain ⟨Y, p, e, R, s, m, args, below, meth, c, A⟩ := X
  obtain ⟨hx, hb, hml, hown, hts, hK, hA, hlk, hret, hR, hM⟩ := C
  intro r σ' hF H locs ls hP hD hS hl
  exact lv_lookup hx hb hdg hp ho ht (k r σ' hF H locs ls hP hD hS hl)

theorem g_iald (C : Ok X cc own nL ret fr lo) {j : Nat} {i : Int32} (hj : j ∈ sc.1) (hk : sc.2.1 j = 0) {n : Nat} (hn : sc.2.2.1 j = n) (hdg : decode cc pc = .ok (.iaload, 1)) (k : Sim X sc ad nL out (pc + 1) lv (.int (gA σ j i.toNatClampNeg) :: st) σ F) : Sim X sc ad nL out pc lv (.int i :: .ref (ad j) :: st) σ (gd (ib i n) F) := by
  obtain ⟨Y, p, e, R, s, m, args, below, meth, c, A⟩ := X
  obtain ⟨hx, hb, hml, hown, hts, hK, hA, hlk, hret, hR, hM⟩ := C
  intro r σ' hF H locs ls hP hD hS hl
  subst hn
  obtain ⟨hi, hF⟩ := gd_some hF
  obtain ⟨q, hq⟩ := id_pl hj
  have hw := wd_at (c4 := Y.2.2.1) (ad := ad) (σ := σ) hq
  rw [show fcell sc Y.2.2.1 ad σ j = .inl (Y.2.2.1.1, sc.2.2.1 j, .inl (gA σ j)) from by unfold fcell; rw [hk]] at hw
  exact va_iald hx hb hK hP q 0 hw rfl (ib_in hi) hdg (k r σ' hF H locs ls hP hD hS hl)

theorem g_bald (C : Ok X cc own nL ret fr lo) {j : Nat} {i : Int32} (hj : j ∈ sc.1) (hk : sc.2.1 j = 1) {n : Nat} (hn : sc.2.2.1 j = n) (hdg : decode cc pc = .ok (.baload, 1)) (k : Sim X sc ad nL out (pc + 1) lv (.int (gA σ j i.toNatClampNeg) :: st) σ F) : Sim X sc ad nL out pc lv (.int i :: .ref (ad j) :: st) σ (gd (ib i n) F) := by
  obtain ⟨Y, p, e, R, s, m, args, below, meth, c, A⟩ := X
  obtain ⟨hx, hb, hml, hown, hts, hK, hA, hlk, hret, hR, hM⟩ := C
  intro r σ' hF H locs ls hP hD hS hl
  subst hn
  obtain ⟨hi, hF⟩ := gd_some hF
  obtain ⟨q, hq⟩ := id_pl hj
  have hw := wd_at (c4 := Y.2.2.1) (ad := ad) (σ := σ) hq
  rw [show fcell sc Y.2.2.1 ad σ j = .inl (Y.2.2.1.2.1, sc.2.2.1 j, .inl (gA σ j)) from by unfold fcell; rw [hk]] at hw
  exact va_bald hx hb hK hP q 1 hw rfl (ib_in hi) hdg (k r σ' hF H locs ls hP hD hS hl)

theorem g_zald (C : Ok X cc own nL ret fr lo) {j : Nat} {i : Int32} (hj : j ∈ sc.1) (hk : sc.2.1 j = 3) {n : Nat} (hn : sc.2.2.1 j = n) (hdg : decode cc pc = .ok (.baload, 1)) (k : Sim X sc ad nL out (pc + 1) lv (.int (gA σ j i.toNatClampNeg) :: st) σ F) : Sim X sc ad nL out pc lv (.int i :: .ref (ad j) :: st) σ (gd (ib i n) F) := by
  obtain ⟨Y, p, e, R, s, m, args, below, meth, c, A⟩ := X
  obtain ⟨hx, hb, hml, hown, hts, hK, hA, hlk, hret, hR, hM⟩ := C
  intro r σ' hF H locs ls hP hD hS hl
  subst hn
  obtain ⟨hi, hF⟩ := gd_some hF
  obtain ⟨q, hq⟩ := id_pl hj
  have hw := wd_at (c4 := Y.2.2.1) (ad := ad) (σ := σ) hq
  rw [show fcell sc Y.2.2.1 ad σ j = .inl (Y.2.2.1.2.2.2, sc.2.2.1 j, .inl (gA σ j)) from by unfold fcell; rw [hk]] at hw
  exact va_zald hx hb hK hP q 3 hw rfl (ib_in hi) hdg (k r σ' hF H locs ls hP hD hS hl)

theorem g_lald (C : Ok X cc own nL ret fr lo) {j : Nat} {i : Int32} (hj : j ∈ sc.1) (hk : sc.2.1 j = 2) {n : Nat} (hn : sc.2.2.1 j = n) (hdg : decode cc pc = .ok (.laload, 1)) (k : Sim X sc ad nL out (pc + 1) lv (.long (gZ σ j i.toNatClampNeg) :: st) σ F) : Sim X sc ad nL out pc lv (.int i :: .ref (ad j) :: st) σ (gd (ib i n) F) := by
  obtain ⟨Y, p, e, R, s, m, args, below, meth, c, A⟩ := X
  obtain ⟨hx, hb, hml, hown, hts, hK, hA, hlk, hret, hR, hM⟩ := C
  intro r σ' hF H locs ls hP hD hS hl
  subst hn
  obtain ⟨hi, hF⟩ := gd_some hF
  obtain ⟨q, hq⟩ := id_pl hj
  have hw := wd_at (c4 := Y.2.2.1) (ad := ad) (σ := σ) hq
  rw [show fcell sc Y.2.2.1 ad σ j = .inl (Y.2.2.1.2.2.1, sc.2.2.1 j, .inr (.inl (gZ σ j))) from by unfold fcell; rw [hk]] at hw
  exact va_lald hx hb hK hP q 2 hw rfl (ib_in hi) hdg (k r σ' hF H locs ls hP hD hS hl)

theorem g_iast (C : Ok X cc own nL ret fr lo) {j : Nat} {i x : Int32} (hj : j ∈ sc.1) (hk : sc.2.1 j = 0) {n : Nat} (hn : sc.2.2.1 j = n) (hdg : decode cc pc = .ok (.iastore, 1)) (k : Sim X sc ad nL out (pc + 1) lv st (sA σ j i.toNatClampNeg x) F) : Sim X sc ad nL out pc lv (.int x :: .int i :: .ref (ad j) :: st) σ (gd (ib i n) F) := by
  obtain ⟨Y, p, e, R, s, m, args, below, meth, c, A⟩ := X
  obtain ⟨hx, hb, hml, hown, hts, hK, hA, hlk, hret, hR, hM⟩ := C
  intro r σ' hF H locs ls hP hD hS hl
  subst hn
  obtain ⟨hi, hF⟩ := gd_some hF
  obtain ⟨q, hq⟩ := id_pl hj
  have hw := wd_at (c4 := Y.2.2.1) (ad := ad) (σ := σ) hq
  rw [show fcell sc Y.2.2.1 ad σ j = .inl (Y.2.2.1.1, sc.2.2.1 j, .inl (gA σ j)) from by unfold fcell; rw [hk]] at hw
  refine va_iast hx hb hK hP hD hS q 0 hw rfl (ib_in hi) hdg (fun H locs hP1 hD1 hS => ?_)
  have he := set_A (i := i.toNatClampNeg) (v := x) hD hq (show fcell sc Y.2.2.1 ad (sA σ j i.toNatClampNeg x) j = .inl (Y.2.2.1.1, sc.2.2.1 j, .inl (upd (gA σ j) i.toNatClampNeg x)) from by unfold fcell; rw [hk]; simp only [gA, sA, if_pos])
  rw [he] at hP1 hD1
  exact k r σ' hF H locs ls hP1 hD1 hS hl

theorem g_bast (C : Ok X cc own nL ret fr lo) {j : Nat} {i x : Int32} (hj : j ∈ sc.1) (hk : sc.2.1 j = 1) {n : Nat} (hn : sc.2.2.1 j = n) (hdg : decode cc pc = .ok (.bastore, 1)) (k : Sim X sc ad nL out (pc + 1) lv st (sA σ j i.toNatClampNeg (vp_nar .byte x)) F) : Sim X sc ad nL out pc lv (.int x :: .int i :: .ref (ad j) :: st) σ (gd (ib i n) F) := by
  obtain ⟨Y, p, e, R, s, m, args, below, meth, c, A⟩ := X
  obtain ⟨hx, hb, hml, hown, hts, hK, hA, hlk, hret, hR, hM⟩ := C
  intro r σ' hF H locs ls hP hD hS hl
  subst hn
  obtain ⟨hi, hF⟩ := gd_some hF
  obtain ⟨q, hq⟩ := id_pl hj
  have hw := wd_at (c4 := Y.2.2.1) (ad := ad) (σ := σ) hq
  rw [show fcell sc Y.2.2.1 ad σ j = .inl (Y.2.2.1.2.1, sc.2.2.1 j, .inl (gA σ j)) from by unfold fcell; rw [hk]] at hw
  refine va_bast hx hb hK hP hD hS q 1 hw rfl (ib_in hi) hdg (fun H locs hP1 hD1 hS => ?_)
  have he := set_A (i := i.toNatClampNeg) (v := (vp_nar .byte x)) hD hq (show fcell sc Y.2.2.1 ad (sA σ j i.toNatClampNeg (vp_nar .byte x)) j = .inl (Y.2.2.1.2.1, sc.2.2.1 j, .inl (upd (gA σ j) i.toNatClampNeg (vp_nar .byte x))) from by unfold fcell; rw [hk]; simp only [gA, sA, if_pos])
  rw [he] at hP1 hD1
  exact k r σ' hF H locs ls hP1 hD1 hS hl

theorem g_zast (C : Ok X cc own nL ret fr lo) {j : Nat} {i x : Int32} (hj : j ∈ sc.1) (hk : sc.2.1 j = 3) {n : Nat} (hn : sc.2.2.1 j = n) (hdg : decode cc pc = .ok (.bastore, 1)) (k : Sim X sc ad nL out (pc + 1) lv st (sA σ j i.toNatClampNeg (vp_nar .boolean x)) F) : Sim X sc ad nL out pc lv (.int x :: .int i :: .ref (ad j) :: st) σ (gd (ib i n) F) := by
  obtain ⟨Y, p, e, R, s, m, args, below, meth, c, A⟩ := X
  obtain ⟨hx, hb, hml, hown, hts, hK, hA, hlk, hret, hR, hM⟩ := C
  intro r σ' hF H locs ls hP hD hS hl
  subst hn
  obtain ⟨hi, hF⟩ := gd_some hF
  obtain ⟨q, hq⟩ := id_pl hj
  have hw := wd_at (c4 := Y.2.2.1) (ad := ad) (σ := σ) hq
  rw [show fcell sc Y.2.2.1 ad σ j = .inl (Y.2.2.1.2.2.2, sc.2.2.1 j, .inl (gA σ j)) from by unfold fcell; rw [hk]] at hw
  refine va_zast hx hb hK hP hD hS q 3 hw rfl (ib_in hi) hdg (fun H locs hP1 hD1 hS => ?_)
  have he := set_A (i := i.toNatClampNeg) (v := (vp_nar .boolean x)) hD hq (show fcell sc Y.2.2.1 ad (sA σ j i.toNatClampNeg (vp_nar .boolean x)) j = .inl (Y.2.2.1.2.2.2, sc.2.2.1 j, .inl (upd (gA σ j) i.toNatClampNeg (vp_nar .boolean x))) from by unfold fcell; rw [hk]; simp only [gA, sA, if_pos])
  rw [he] at hP1 hD1
  exact k r σ' hF H locs ls hP1 hD1 hS hl

theorem g_last (C : Ok X cc own nL ret fr lo) {j : Nat} {i : Int32} {x : Int64} (hj : j ∈ sc.1) (hk : sc.2.1 j = 2) {n : Nat} (hn : sc.2.2.1 j = n) (hdg : decode cc pc = .ok (.lastore, 1)) (k : Sim X sc ad nL out (pc + 1) lv st (sZ σ j i.toNatClampNeg x) F) : Sim X sc ad nL out pc lv (.long x :: .int i :: .ref (ad j) :: st) σ (gd (ib i n) F) := by
  obtain ⟨Y, p, e, R, s, m, args, below, meth, c, A⟩ := X
  obtain ⟨hx, hb, hml, hown, hts, hK, hA, hlk, hret, hR, hM⟩ := C
  intro r σ' hF H locs ls hP hD hS hl
  subst hn
  obtain ⟨hi, hF⟩ := gd_some hF
  obtain ⟨q, hq⟩ := id_pl hj
  have hw := wd_at (c4 := Y.2.2.1) (ad := ad) (σ := σ) hq
  rw [show fcell sc Y.2.2.1 ad σ j = .inl (Y.2.2.1.2.2.1, sc.2.2.1 j, .inr (.inl (gZ σ j))) from by unfold fcell; rw [hk]] at hw
  refine va_last hx hb hK hP hD hS q 2 hw rfl (ib_in hi) hdg (fun H locs hP1 hD1 hS => ?_)
  have he := set_Z (i := i.toNatClampNeg) (v := x) hD hq (show fcell sc Y.2.2.1 ad (sZ σ j i.toNatClampNeg x) j = .inl (Y.2.2.1.2.2.1, sc.2.2.1 j, .inr (.inl (vp_updL (gZ σ j) i.toNatClampNeg x))) from by unfold fcell; rw [hk]; simp only [gZ, sZ, if_pos])
  rw [he] at hP1 hD1
  exact k r σ' hF H locs ls hP1 hD1 hS hl

theorem g_alen0 (C : Ok X cc own nL ret fr lo) {j : Nat} (v : Int32) (hj : j ∈ sc.1) (hk : sc.2.1 j = 0) (hv : Int32.ofNat (sc.2.2.1 j) = v) (hdg : decode cc pc = .ok (.arraylength, 1)) (k : Sim X sc ad nL out (pc + 1) lv (.int v :: st) σ F) : Sim X sc ad nL out pc lv (.ref (ad j) :: st) σ F := by
  obtain ⟨Y, p, e, R, s, m, args, below, meth, c, A⟩ := X
  obtain ⟨hx, hb, hml, hown, hts, hK, hA, hlk, hret, hR, hM⟩ := C
  intro r σ' hF H locs ls hP hD hS hl
  obtain ⟨q, hq⟩ := id_pl hj
  have hw := wd_at (c4 := Y.2.2.1) (ad := ad) (σ := σ) hq
  rw [show fcell sc Y.2.2.1 ad σ j = .inl (Y.2.2.1.1, sc.2.2.1 j, .inl (gA σ j)) from by unfold fcell; rw [hk]] at hw
  exact va_alen hx hb hK hP q 0 hw rfl hv hdg (k r σ' hF H locs ls hP hD hS hl)

theorem g_alen1 (C : Ok X cc own nL ret fr lo) {j : Nat} (v : Int32) (hj : j ∈ sc.1) (hk : sc.2.1 j = 1) (hv : Int32.ofNat (sc.2.2.1 j) = v) (hdg : decode cc pc = .ok (.arraylength, 1)) (k : Sim X sc ad nL out (pc + 1) lv (.int v :: st) σ F) : Sim X sc ad nL out pc lv (.ref (ad j) :: st) σ F := by
  obtain ⟨Y, p, e, R, s, m, args, below, meth, c, A⟩ := X
  obtain ⟨hx, hb, hml, hown, hts, hK, hA, hlk, hret, hR, hM⟩ := C
  intro r σ' hF H locs ls hP hD hS hl
  obtain ⟨q, hq⟩ := id_pl hj
  have hw := wd_at (c4 := Y.2.2.1) (ad := ad) (σ := σ) hq
  rw [show fcell sc Y.2.2.1 ad σ j = .inl (Y.2.2.1.2.1, sc.2.2.1 j, .inl (gA σ j)) from by unfold fcell; rw [hk]] at hw
  exact va_alen hx hb hK hP q 1 hw rfl hv hdg (k r σ' hF H locs ls hP hD hS hl)

theorem g_alen2 (C : Ok X cc own nL ret fr lo) {j : Nat} (v : Int32) (hj : j ∈ sc.1) (hk : sc.2.1 j = 2) (hv : Int32.ofNat (sc.2.2.1 j) = v) (hdg : decode cc pc = .ok (.arraylength, 1)) (k : Sim X sc ad nL out (pc + 1) lv (.int v :: st) σ F) : Sim X sc ad nL out pc lv (.ref (ad j) :: st) σ F := by
  obtain ⟨Y, p, e, R, s, m, args, below, meth, c, A⟩ := X
  obtain ⟨hx, hb, hml, hown, hts, hK, hA, hlk, hret, hR, hM⟩ := C
  intro r σ' hF H locs ls hP hD hS hl
  obtain ⟨q, hq⟩ := id_pl hj
  have hw := wd_at (c4 := Y.2.2.1) (ad := ad) (σ := σ) hq
  rw [show fcell sc Y.2.2.1 ad σ j = .inl (Y.2.2.1.2.2.1, sc.2.2.1 j, .inr (.inl (gZ σ j))) from by unfold fcell; rw [hk]] at hw
  exact va_alen hx hb hK hP q 2 hw rfl hv hdg (k r σ' hF H locs ls hP hD hS hl)

theorem g_alen3 (C : Ok X cc own nL ret fr lo) {j : Nat} (v : Int32) (hj : j ∈ sc.1) (hk : sc.2.1 j = 3) (hv : Int32.ofNat (sc.2.2.1 j) = v) (hdg : decode cc pc = .ok (.arraylength, 1)) (k : Sim X sc ad nL out (pc + 1) lv (.int v :: st) σ F) : Sim X sc ad nL out pc lv (.ref (ad j) :: st) σ F := by
  obtain ⟨Y, p, e, R, s, m, args, below, meth, c, A⟩ := X
  obtain ⟨hx, hb, hml, hown, hts, hK, hA, hlk, hret, hR, hM⟩ := C
  intro r σ' hF H locs ls hP hD hS hl
  obtain ⟨q, hq⟩ := id_pl hj
  have hw := wd_at (c4 := Y.2.2.1) (ad := ad) (σ := σ) hq
  rw [show fcell sc Y.2.2.1 ad σ j = .inl (Y.2.2.1.2.2.2, sc.2.2.1 j, .inl (gA σ j)) from by unfold fcell; rw [hk]] at hw
  exact va_alen hx hb hK hP q 3 hw rfl hv hdg (k r σ' hF H locs ls hP hD hS hl)

theorem g_getI (C : Ok X cc own nL ret fr lo) {o k0 ci N index : Nat} {Cn ref : String} {T : u_T} {v : Int32} (ho : o ∈ sc.1) (hk : sc.2.1 o = ci + 4) (hf : (sc.2.2.2 o)[k0]? = some 0) (hcl : vwCl[ci]? = some (Cn, T, N)) (hN : k0 < N) (hin : ∀ w ∈ u_ws Cn T N, w ∈ lw_gt) (hw : Cond.fieldLink own index ref (T k0).2.1 (T k0).2.2.1 ∈ lw_gt) (hsame : (T k0).1 = ref) (hdg : decode cc pc = .ok (.getfield index, 3)) (hv : gI σ (100 * o + k0) = v) (k : Sim X sc ad nL out (pc + 3) lv (.int v :: st) σ F) : Sim X sc ad nL out pc lv (.ref (ad o) :: st) σ F := by
  obtain ⟨Y, p, e, R, s, m, args, below, meth, c, A⟩ := X
  obtain ⟨hx, hb, hml, hown, hts, hK, hA, hlk, hret, hR, hM⟩ := C
  intro r σ' hF H locs ls hP hD hS hl
  obtain ⟨q, hq⟩ := id_pl ho
  have hw2 := wd_at (c4 := Y.2.2.1) (ad := ad) (σ := σ) hq
  rw [show fcell sc Y.2.2.1 ad σ o = .inr (ci, flist ad σ o 0 (sc.2.2.2 o)) from by unfold fcell; rw [hk]] at hw2
  subst hsame
  exact va_get hx hb hts hin hown hK hP q hw2 hcl k0 hN (hts _ hw) (fun _ h9 => h9) (by rw [flist_get, Nat.zero_add, hf]; show some _ = _; rw [← hv]; rfl) hdg (k r σ' hF H locs ls hP hD hS hl)

theorem g_getL (C : Ok X cc own nL ret fr lo) {o k0 ci N index : Nat} {Cn ref : String} {T : u_T} {v : Int64} (ho : o ∈ sc.1) (hk : sc.2.1 o = ci + 4) (hf : (sc.2.2.2 o)[k0]? = some 1) (hcl : vwCl[ci]? = some (Cn, T, N)) (hN : k0 < N) (hin : ∀ w ∈ u_ws Cn T N, w ∈ lw_gt) (hw : Cond.fieldLink own index ref (T k0).2.1 (T k0).2.2.1 ∈ lw_gt) (hsame : (T k0).1 = ref) (hdg : decode cc pc = .ok (.getfield index, 3)) (hv : gL σ (100 * o + k0) = v) (k : Sim X sc ad nL out (pc + 3) lv (.long v :: st) σ F) : Sim X sc ad nL out pc lv (.ref (ad o) :: st) σ F := by
  obtain ⟨Y, p, e, R, s, m, args, below, meth, c, A⟩ := X
  obtain ⟨hx, hb, hml, hown, hts, hK, hA, hlk, hret, hR, hM⟩ := C
  intro r σ' hF H locs ls hP hD hS hl
  obtain ⟨q, hq⟩ := id_pl ho
  have hw2 := wd_at (c4 := Y.2.2.1) (ad := ad) (σ := σ) hq
  rw [show fcell sc Y.2.2.1 ad σ o = .inr (ci, flist ad σ o 0 (sc.2.2.2 o)) from by unfold fcell; rw [hk]] at hw2
  subst hsame
  exact va_get hx hb hts hin hown hK hP q hw2 hcl k0 hN (hts _ hw) (fun _ h9 => h9) (by rw [flist_get, Nat.zero_add, hf]; show some _ = _; rw [← hv]; rfl) hdg (k r σ' hF H locs ls hP hD hS hl)

theorem g_getP (C : Ok X cc own nL ret fr lo) {o k0 ci N index : Nat} {Cn ref : String} {T : u_T} {v : Nat} (ho : o ∈ sc.1) (hk : sc.2.1 o = ci + 4) (hf : (sc.2.2.2 o)[k0]? = some 2) (hcl : vwCl[ci]? = some (Cn, T, N)) (hN : k0 < N) (hin : ∀ w ∈ u_ws Cn T N, w ∈ lw_gt) (hw : Cond.fieldLink own index ref (T k0).2.1 (T k0).2.2.1 ∈ lw_gt) (hsame : (T k0).1 = ref) (hdg : decode cc pc = .ok (.getfield index, 3)) (hv : gP σ (100 * o + k0) = v) (k : Sim X sc ad nL out (pc + 3) lv (.ref (ad v) :: st) σ F) : Sim X sc ad nL out pc lv (.ref (ad o) :: st) σ F := by
  obtain ⟨Y, p, e, R, s, m, args, below, meth, c, A⟩ := X
  obtain ⟨hx, hb, hml, hown, hts, hK, hA, hlk, hret, hR, hM⟩ := C
  intro r σ' hF H locs ls hP hD hS hl
  obtain ⟨q, hq⟩ := id_pl ho
  have hw2 := wd_at (c4 := Y.2.2.1) (ad := ad) (σ := σ) hq
  rw [show fcell sc Y.2.2.1 ad σ o = .inr (ci, flist ad σ o 0 (sc.2.2.2 o)) from by unfold fcell; rw [hk]] at hw2
  subst hsame
  exact va_get hx hb hts hin hown hK hP q hw2 hcl k0 hN (hts _ hw) (fun _ h9 => h9) (by rw [flist_get, Nat.zero_add, hf]; show some _ = _; rw [← hv]; rfl) hdg (k r σ' hF H locs ls hP hD hS hl)

theorem g_getR (C : Ok X cc own nL ret fr lo) {o k0 ci N index : Nat} {Cn ref : String} {T : u_T} {t : Nat} (ho : o ∈ sc.1) (hk : sc.2.1 o = ci + 4) (hf : (sc.2.2.2 o)[k0]? = some (t + 3)) (hcl : vwCl[ci]? = some (Cn, T, N)) (hN : k0 < N) (hin : ∀ w ∈ u_ws Cn T N, w ∈ lw_gt) (hw : Cond.fieldLink own index ref (T k0).2.1 (T k0).2.2.1 ∈ lw_gt) (hsame : (T k0).1 = ref) (hdg : decode cc pc = .ok (.getfield index, 3)) (k : Sim X sc ad nL out (pc + 3) lv (.ref (ad t) :: st) σ F) : Sim X sc ad nL out pc lv (.ref (ad o) :: st) σ F := by
  obtain ⟨Y, p, e, R, s, m, args, below, meth, c, A⟩ := X
  obtain ⟨hx, hb, hml, hown, hts, hK, hA, hlk, hret, hR, hM⟩ := C
  intro r σ' hF H locs ls hP hD hS hl
  obtain ⟨q, hq⟩ := id_pl ho
  have hw2 := wd_at (c4 := Y.2.2.1) (ad := ad) (σ := σ) hq
  rw [show fcell sc Y.2.2.1 ad σ o = .inr (ci, flist ad σ o 0 (sc.2.2.2 o)) from by unfold fcell; rw [hk]] at hw2
  subst hsame
  exact va_get hx hb hts hin hown hK hP q hw2 hcl k0 hN (hts _ hw) (fun _ h9 => h9) (by rw [flist_get, Nat.zero_add, hf]; rfl) hdg (k r σ' hF H locs ls hP hD hS hl)

theorem g_putI (C : Ok X cc own nL ret fr lo) (hsc : ScOk sc) {o k0 ci N index : Nat} {Cn ref : String} {T : u_T} {v : Int32} {ty : FieldType} {ty0 : Nat → FieldType} (ho : o ∈ sc.1) (hk : sc.2.1 o = ci + 4) (hf : (sc.2.2.2 o)[k0]? = some 0) (hcl : vwCl[ci]? = some (Cn, T, N)) (hN : k0 < N) (hin : ∀ w ∈ u_ws Cn T N, w ∈ lw_gt) (hw : Cond.fieldLink own index ref (T k0).2.1 (T k0).2.2.1 ∈ lw_gt) (hsame : (T k0).1 = ref) (hty : ∀ k, k < N → parseFieldDescriptor (T k).2.2.1 = some (ty0 k)) (hnm : ∀ a, a < N → ∀ b, b < N → a ≠ b → (T a).2.1 ≠ (T b).2.1) (hfin : (T k0).2.2.2 = false) (hd : parseFieldDescriptor (T k0).2.2.1 = some ty) (hna : narrow ty (.int v) = .int v) (hfit : fits ty (.int v) = true) (hdg : decode cc pc = .ok (.putfield index, 3)) (k : Sim X sc ad nL out (pc + 3) lv st (sI σ (100 * o + k0) v) F) : Sim X sc ad nL out pc lv (.int v :: .ref (ad o) :: st) σ F := by
  obtain ⟨Y, p, e, R, s, m, args, below, meth, c, A⟩ := X
  obtain ⟨hx, hb, hml, hown, hts, hK, hA, hlk, hret, hR, hM⟩ := C
  intro r σ' hF H locs ls hP hD hS hl
  obtain ⟨q, hq⟩ := id_pl ho
  have hw2 := wd_at (c4 := Y.2.2.1) (ad := ad) (σ := σ) hq
  rw [show fcell sc Y.2.2.1 ad σ o = .inr (ci, flist ad σ o 0 (sc.2.2.2 o)) from by unfold fcell; rw [hk]] at hw2
  subst hsame
  refine va_put hx hb hts hin ty0 hty hnm hown hK hP hD hS q hw2 hcl k0 hN (hts _ hw) (fun _ h9 => h9) hfin hd hna hfit (by rw [flist_len]; exact fl_lt hf) hdg (fun H locs hP1 hD1 hS => ?_)
  rw [set_I hsc hD hq hk hf] at hP1 hD1
  exact k r σ' hF H locs ls hP1 hD1 hS hl

theorem g_putL (C : Ok X cc own nL ret fr lo) (hsc : ScOk sc) {o k0 ci N index : Nat} {Cn ref : String} {T : u_T} {v : Int64} {ty : FieldType} {ty0 : Nat → FieldType} (ho : o ∈ sc.1) (hk : sc.2.1 o = ci + 4) (hf : (sc.2.2.2 o)[k0]? = some 1) (hcl : vwCl[ci]? = some (Cn, T, N)) (hN : k0 < N) (hin : ∀ w ∈ u_ws Cn T N, w ∈ lw_gt) (hw : Cond.fieldLink own index ref (T k0).2.1 (T k0).2.2.1 ∈ lw_gt) (hsame : (T k0).1 = ref) (hty : ∀ k, k < N → parseFieldDescriptor (T k).2.2.1 = some (ty0 k)) (hnm : ∀ a, a < N → ∀ b, b < N → a ≠ b → (T a).2.1 ≠ (T b).2.1) (hfin : (T k0).2.2.2 = false) (hd : parseFieldDescriptor (T k0).2.2.1 = some ty) (hna : narrow ty (.long v) = .long v) (hfit : fits ty (.long v) = true) (hdg : decode cc pc = .ok (.putfield index, 3)) (k : Sim X sc ad nL out (pc + 3) lv st (sL σ (100 * o + k0) v) F) : Sim X sc ad nL out pc lv (.long v :: .ref (ad o) :: st) σ F := by
  obtain ⟨Y, p, e, R, s, m, args, below, meth, c, A⟩ := X
  obtain ⟨hx, hb, hml, hown, hts, hK, hA, hlk, hret, hR, hM⟩ := C
  intro r σ' hF H locs ls hP hD hS hl
  obtain ⟨q, hq⟩ := id_pl ho
  have hw2 := wd_at (c4 := Y.2.2.1) (ad := ad) (σ := σ) hq
  rw [show fcell sc Y.2.2.1 ad σ o = .inr (ci, flist ad σ o 0 (sc.2.2.2 o)) from by unfold fcell; rw [hk]] at hw2
  subst hsame
  refine va_put hx hb hts hin ty0 hty hnm hown hK hP hD hS q hw2 hcl k0 hN (hts _ hw) (fun _ h9 => h9) hfin hd hna hfit (by rw [flist_len]; exact fl_lt hf) hdg (fun H locs hP1 hD1 hS => ?_)
  rw [set_L hsc hD hq hk hf] at hP1 hD1
  exact k r σ' hF H locs ls hP1 hD1 hS hl

theorem g_putP (C : Ok X cc own nL ret fr lo) (hsc : ScOk sc) {o k0 ci N index : Nat} {Cn ref : String} {T : u_T} {v : Nat} {ty : FieldType} {ty0 : Nat → FieldType} (ho : o ∈ sc.1) (hk : sc.2.1 o = ci + 4) (hf : (sc.2.2.2 o)[k0]? = some 2) (hcl : vwCl[ci]? = some (Cn, T, N)) (hN : k0 < N) (hin : ∀ w ∈ u_ws Cn T N, w ∈ lw_gt) (hw : Cond.fieldLink own index ref (T k0).2.1 (T k0).2.2.1 ∈ lw_gt) (hsame : (T k0).1 = ref) (hty : ∀ k, k < N → parseFieldDescriptor (T k).2.2.1 = some (ty0 k)) (hnm : ∀ a, a < N → ∀ b, b < N → a ≠ b → (T a).2.1 ≠ (T b).2.1) (hfin : (T k0).2.2.2 = false) (hd : parseFieldDescriptor (T k0).2.2.1 = some ty) (hna : narrow ty (.ref (ad v)) = .ref (ad v)) (hfit : fits ty (.ref (ad v)) = true) (hdg : decode cc pc = .ok (.putfield index, 3)) (k : Sim X sc ad nL out (pc + 3) lv st (sP σ (100 * o + k0) v) F) : Sim X sc ad nL out pc lv (.ref (ad v) :: .ref (ad o) :: st) σ F := by
  obtain ⟨Y, p, e, R, s, m, args, below, meth, c, A⟩ := X
  obtain ⟨hx, hb, hml, hown, hts, hK, hA, hlk, hret, hR, hM⟩ := C
  intro r σ' hF H locs ls hP hD hS hl
  obtain ⟨q, hq⟩ := id_pl ho
  have hw2 := wd_at (c4 := Y.2.2.1) (ad := ad) (σ := σ) hq
  rw [show fcell sc Y.2.2.1 ad σ o = .inr (ci, flist ad σ o 0 (sc.2.2.2 o)) from by unfold fcell; rw [hk]] at hw2
  subst hsame
  refine va_put hx hb hts hin ty0 hty hnm hown hK hP hD hS q hw2 hcl k0 hN (hts _ hw) (fun _ h9 => h9) hfin hd hna hfit (by rw [flist_len]; exact fl_lt hf) hdg (fun H locs hP1 hD1 hS => ?_)
  rw [set_P hsc hD hq hk hf] at hP1 hD1
  exact k r σ' hF H locs ls hP1 hD1 hS hl

theorem g_iret (C : Ok X cc own nL (some .int) fr lo) {v : Int32} (hdg : decode cc pc = .ok (.ireturn, 1)) : Sim X sc ad nL outI pc lv [.int v] σ (some (v, σ)) := by
  obtain ⟨Y, p, e, R, s, m, args, below, meth, c, A⟩ := X
  obtain ⟨hx, hb, hml, hown, hts, hK, hA, hlk, hret, hR, hM⟩ := C
  intro r σ' hF H locs ls hP hD hS hl
  cases hF
  exact W.iret hx hb hret (fun t ht hW => ⟨⟨rfl, by rw [ht]; exact hP, hD⟩, hS.F ht⟩) hS.2.2 hdg hlk

theorem g_zret {ty : FieldType} (C : Ok X cc own nL (some ty) fr lo) {v : Int32} (hn : narrow ty (.int v) = .int v) (hdg : decode cc pc = .ok (.ireturn, 1)) : Sim X sc ad nL outI pc lv [.int v] σ (some (v, σ)) := by
  obtain ⟨Y, p, e, R, s, m, args, below, meth, c, A⟩ := X
  obtain ⟨hx, hb, hml, hown, hts, hK, hA, hlk, hret, hR, hM⟩ := C
  intro r σ' hF H locs ls hP hD hS hl
  cases hF
  exact W.zret hx hb hret hn (fun t ht hW => ⟨⟨rfl, by rw [ht]; exact hP, hD⟩, hS.F ht⟩) hS.2.2 hdg hlk

theorem g_lret (C : Ok X cc own nL (some .long) fr lo) {v : Int64} (hdg : decode cc pc = .ok (.lreturn, 1)) : Sim X sc ad nL outL pc lv [.long v] σ (some (v, σ)) := by
  obtain ⟨Y, p, e, R, s, m, args, below, meth, c, A⟩ := X
  obtain ⟨hx, hb, hml, hown, hts, hK, hA, hlk, hret, hR, hM⟩ := C
  intro r σ' hF H locs ls hP hD hS hl
  cases hF
  exact W.lret hx hb hret (fun t ht hW => ⟨⟨rfl, by rw [ht]; exact hP, hD⟩, hS.F ht⟩) hS.2.2 hdg hlk

theorem g_vret (C : Ok X cc own nL none fr lo) (hdg : decode cc pc = .ok (.return_, 1)) : Sim X sc ad nL outV pc lv [] σ (some ((), σ)) := by
  obtain ⟨Y, p, e, R, s, m, args, below, meth, c, A⟩ := X
  obtain ⟨hx, hb, hml, hown, hts, hK, hA, hlk, hret, hR, hM⟩ := C
  intro r σ' hF H locs ls hP hD hS hl
  cases hF
  exact W.vret hx hb hret (fun t ht hW => ⟨⟨rfl, by rw [ht]; exact hP, hD⟩, hS.F ht⟩) hS.2.2 hdg hlk

def isb (v : Int32) : Bool := v == 0 || v == 1
theorem isb_nar {v : Int32} (h : isb v = true) : narrow .boolean (.int v) = .int v := by
  unfold isb at h
  rw [Bool.or_eq_true] at h
  rcases h with h | h <;> (rw [beq_iff_eq] at h; subst h; rfl)
theorem isb_fit {v : Int32} (h : isb v = true) : fits .boolean (.int v) = true := by
  unfold isb at h
  rw [Bool.or_eq_true] at h
  rcases h with h | h <;> (rw [beq_iff_eq] at h; subst h; rfl)
/-- behind a call -/
theorem g9_callq {p : Program} {e : Env} {R : Room} {s : State} {m : MethodId} {args : Array Value} {below : List Frame} {meth : Method} {c : Code} {H : Heap} {locs : List Loc} {Q : State → Prop} {ls : Array Slot} {rest st0 : List Value} {a : Array Value} {A0 A1 : Nat → Prop} {H0 : Heap} {free : Addr → Prop} {Y : Yx} {o : Option Value} {σ1 : St} (hr : va_Run p Y.1 e R s m args below meth c H locs 0 0 0 0 (F0 m pc ls st0) rest (qq Y sc ad A1 o σ1 a) free) (hS : va_S A0 H0 H locs) (hA : ∀ q, q < H.size → A1 q → A0 q) (hf : ∀ q, free q → A0 q)
    (kk : ∀ (H1 : Heap) (locs1 : List Loc), va_P Y.2.1 vwCl (wdS sc Y.2.2.1 ad σ1) H1 → va_D A1 (wdS sc Y.2.2.1 ad σ1) → va_S A0 H0 H1 locs1 → W p Y.1 e R s m args below meth c H1 locs1 0 0 Q (F0 m (pc + 3) ls (o.toList ++ rest))) : W p Y.1 e R s m args below meth c H locs 0 0 Q (F0 m pc ls st0) := by
  intro T hT X
  obtain ⟨v, st₀, t, T', L, h0, X', hL, e1, e2, ⟨⟨hv, hp, hb⟩, hz, hk⟩, st⟩ := hr T hT X
  cases hv
  rw [h0] at hz hk
  obtain ⟨t2, a1, b1⟩ := kk T'.heap (locs ++ L) (by rw [e1]; exact hp) hb
    ⟨Nat.le_trans hS.1 (by rw [e1]; exact hz), fun q h1 h2 => by rw [e1, hk q (Nat.lt_of_lt_of_le h1 hS.1) (fun z => h2 (hA q (Nat.lt_of_lt_of_le h1 hS.1) z))]; exact hS.2.1 q h1 h2, fun q hq => by
      rcases List.mem_append.mp hq with h | h
      · exact hS.2.2 q h
      · exact hf _ (hL q h)⟩ T' rfl X'
  exact ⟨t2, st t2 a1, b1⟩
theorem wd_free {A0 : Nat → Prop} {ws : va_W} {H0 H : Heap} {locs : List Loc} (hD : va_D A0 ws) (hS : va_S A0 H0 H locs) (hA : ∀ q, H0.size ≤ q → A0 q) : ∀ q, va_A ws H.size q → A0 q := by
  intro q h
  rcases h with ⟨k, e, h⟩ | h
  · exact hD.2 k (q, e) h
  · exact hA q (Nat.le_trans hS.1 h)
theorem cQ_pre {Y : Yx} {A : Nat → Prop} {s : State} {H : Heap} {locs : List Loc} {av : List Value} (hP : va_P Y.2.1 vwCl (wdS sc Y.2.2.1 ad σ) H) (hK : va_K Y.2.1 vwCl (kTy Y.2.2.1) s) (hD : va_D A (wdS sc Y.2.2.1 ad σ)) (hS : va_S A s.heap H locs) (hA : ∀ q, s.heap.size ≤ q → A q) (hM : Amb Y.2.2.2.1 Y.2.2.2.2 A s) (U : State) (hU : U.heap = H) (hW : s.WarmedH U.vm) : cQ Y sc ad av σ H.size av.toArray U :=
  ⟨rfl, by rw [hU], by rw [hU]; exact hP, va_K.moved hW.alike hK, hD.weaken (fun _ _ _ _ => trivial), hM.pass hS (wd_free hD hS hA) hU hW⟩
/-- the words of a call: of an instance method, of a static one -/
def wV (own : String) (idx : Nat) (y : MethodName) (bytes : ByteArray) (maxL : Nat) (ret : Option FieldType) : Prop := Cond.methodLink own idx y ∈ lw_gt ∧ Cond.instanceMethod y ∈ lw_gt ∧ Cond.selects y.cls y y ∈ lw_gt ∧ Cond.initialized y.cls ∈ lw_gt ∧ Cond.code y bytes maxL ret ∈ lw_gt
def wS (own : String) (idx : Nat) (y : MethodName) (bytes : ByteArray) (maxL : Nat) (ret : Option FieldType) : Prop := Cond.methodLink own idx y ∈ lw_gt ∧ Cond.static y ∈ lw_gt ∧ Cond.initialized y.cls ∈ lw_gt ∧ Cond.code y bytes maxL ret ∈ lw_gt
theorem lw_gin {w : Cond} (h : w ∈ lw_gt) : w ∈ lw_gt ∧ ((w.onTables && w.keeps) = true ∨ ∃ ty, w = .arrayClass ty) := ⟨h, good_of_word (List.mem_filter.mp h).2⟩
theorem wV_good {own : String} {idx : Nat} {y : MethodName} {bytes : ByteArray} {maxL : Nat} {ret : Option FieldType} (h : wV own idx y bytes maxL ret) : GoodIn lw_gt (wsV own idx y.cls y (Cond.code y bytes maxL ret :: lw_gt)) := by
  obtain ⟨h1, h2, h3, h4, h5⟩ := h
  intro w hw
  unfold wsV at hw
  rcases List.mem_append.mp hw with h | h
  · simp only [List.mem_cons, List.not_mem_nil, or_false] at h
    rcases h with rfl | rfl | rfl | rfl
    · exact lw_gin h1
    · exact lw_gin h2
    · exact lw_gin h3
    · exact lw_gin h4
  · rcases List.mem_cons.mp h with rfl | h
    · exact lw_gin h5
    · exact lw_gin h
theorem wS_good {own : String} {idx : Nat} {y : MethodName} {bytes : ByteArray} {maxL : Nat} {ret : Option FieldType} (h : wS own idx y bytes maxL ret) : GoodIn lw_gt (va_wsS own idx y (Cond.code y bytes maxL ret :: lw_gt)) := by
  obtain ⟨h1, h2, h4, h5⟩ := h
  intro w hw
  unfold va_wsS at hw
  rcases List.mem_append.mp hw with h | h
  · simp only [List.mem_cons, List.not_mem_nil, or_false] at h
    rcases h with rfl | rfl | rfl
    · exact lw_gin h1
    · exact lw_gin h2
    · exact lw_gin h4
  · rcases List.mem_cons.mp h with rfl | h
    · exact lw_gin h5
    · exact lw_gin h
def callee (y : MethodName) (n : Nat) : Bool := decide (y.cls ≠ "java/lang/invoke/MethodHandle") && decide (y.cls ≠ "java/lang/invoke/VarHandle") && decide ((parseMethodDescriptor y.desc).map (fun d => d.parameters.length) = some n)
theorem callee_spec {y : MethodName} {n : Nat} (h : callee y n = true) : y.cls ≠ "java/lang/invoke/MethodHandle" ∧ y.cls ≠ "java/lang/invoke/VarHandle" ∧ (parseMethodDescriptor y.desc).map (fun d => d.parameters.length) = some n := by
  unfold callee at h
  simp only [Bool.and_eq_true, decide_eq_true_eq] at h
  exact ⟨h.1.1, h.1.2, h.2⟩
theorem g_callV (C : Ok X cc own nL ret fr lo) {ρ1 : Type} {out1 : ρ1 → Option Value} {y : MethodName} {bytes : ByteArray} {maxL index fr1 lo1 : Nat} {ret1 : Option FieldType} {o ci n : Nat} {q9 : vw_C} {As rest : List Value} {F1 : Option (ρ1 × St)} {K : ρ1 → St → Option (ρ × St)} (hw : wV own index y bytes maxL ret1) (hc : callee y n = true) (hR : fr1 + 1 ≤ fr ∧ 8 + (maxL + 11) + lo1 ≤ lo) (ho : o ∈ sc.1) (hk : sc.2.1 o = ci + 4) (hcl : vwCl[ci]? = some q9) (hq9 : q9.1 = y.cls) (hM1 : ∀ (r : ρ1) (σ' : St), F1 = some (r, σ') → Con X.1 sc ad y bytes maxL ret1 fr1 lo1 (.ref (ad o) :: As) σ (out1 r) σ') (hn : As.length = n) (hst : st = As.reverse ++ .ref (ad o) :: rest) (hcat : (rest.map fun v => v.category).sum ≤ 8) (hdg : decode cc pc = .ok (.invokevirtual index, 3))
    (k : ∀ (r : ρ1) (σ' : St), F1 = some (r, σ') → Sim X sc ad nL out (pc + 3) lv ((out1 r).toList ++ rest) σ' (K r σ')) : Sim X sc ad nL out pc lv st σ (bd F1 K) := by
  obtain ⟨Y, p, e, R, s, m, args, below, meth, c, A⟩ := X
  obtain ⟨hx, hb, hml, hown, hts, hK, hA, hlk, hret, hR9, hM⟩ := C
  intro r σ' hF H locs ls hP hD hS hl
  subst hR9
  obtain ⟨r1, σ1, h1, h2⟩ := bd_some hF
  obtain ⟨q, hq⟩ := id_pl ho
  have hw2 := wd_at (c4 := Y.2.2.1) (ad := ad) (σ := σ) hq
  rw [show fcell sc Y.2.2.1 ad σ o = .inr (ci, flist ad σ o 0 (sc.2.2.2 o)) from by unfold fcell; rw [hk]] at hw2
  have hrc := va_recv hK hP hcl hw2
  rw [hq9] at hrc
  obtain ⟨d1, d2, d3⟩ := callee_spec hc
  refine g9_callq (A1 := va_A (wdS sc Y.2.2.1 ad σ) H.size) (va_runV (rm := rmO fr1 lo1) (mc := 0) (ms := 0) (As := As) (rest := rest) (C := y.cls) (b := ad o) ⟨hx, hb, hml, hown, hts⟩ (hM1 r1 σ1 h1 H.size) (cwV n hts (wV_good hw) rfl rfl rfl ⟨rfl, d1, d2, d3⟩ hR) ⟨cQ_fb, hrc, fun U hU hW => cQ_pre hP hK hD hS hA hM U hU hW⟩ rfl hn hl.1 hst (lv_room hcat) hdg ⟨Nat.le_refl 0, Nat.le_refl 0⟩) hS (fun q _ h => wd_free hD hS hA q h) (wd_free hD hS hA) (fun H1 locs1 hP1 hD1 hS1 => ?_)
  exact k r1 σ1 h1 r σ' h2 H1 locs1 ls hP1 (hD1.weaken (fun _ q _ h => wd_free hD hS hA q.1 h)) hS1 hl
theorem g_callS (C : Ok X cc own nL ret fr lo) {ρ1 : Type} {out1 : ρ1 → Option Value} {y : MethodName} {bytes : ByteArray} {maxL index fr1 lo1 : Nat} {ret1 : Option FieldType} {n : Nat} {As rest : List Value} {F1 : Option (ρ1 × St)} {K : ρ1 → St → Option (ρ × St)} (hw : wS own index y bytes maxL ret1) (hc : callee y n = true) (hR : fr1 + 1 ≤ fr ∧ 8 + (maxL + 11) + lo1 ≤ lo) (hM1 : ∀ (r : ρ1) (σ' : St), F1 = some (r, σ') → Con X.1 sc ad y bytes maxL ret1 fr1 lo1 As σ (out1 r) σ') (hn : As.length = n) (hst : st = As.reverse ++ rest) (hcat : (rest.map fun v => v.category).sum ≤ 8) (hdg : decode cc pc = .ok (.invokestatic index, 3))
    (k : ∀ (r : ρ1) (σ' : St), F1 = some (r, σ') → Sim X sc ad nL out (pc + 3) lv ((out1 r).toList ++ rest) σ' (K r σ')) : Sim X sc ad nL out pc lv st σ (bd F1 K) := by
  obtain ⟨Y, p, e, R, s, m, args, below, meth, c, A⟩ := X
  obtain ⟨hx, hb, hml, hown, hts, hK, hA, hlk, hret, hR9, hM⟩ := C
  intro r σ' hF H locs ls hP hD hS hl
  subst hR9
  obtain ⟨r1, σ1, h1, h2⟩ := bd_some hF
  refine g9_callq (A1 := va_A (wdS sc Y.2.2.1 ad σ) H.size) (va_runS (rm := rmO fr1 lo1) (mc := 0) (ms := 0) (As := As) (rest := rest) ⟨hx, hb, hml, hown, hts⟩ (hM1 r1 σ1 h1 H.size) (va_cwS n hts (wS_good hw) rfl rfl rfl (callee_spec hc) hR) ⟨cQ_fb, fun U hU hW => cQ_pre hP hK hD hS hA hM U hU hW⟩ rfl hn hl.1 hst (lv_room hcat) hdg ⟨Nat.le_refl 0, Nat.le_refl 0⟩) hS (fun q _ h => wd_free hD hS hA q h) (wd_free hD hS hA) (fun H1 locs1 hP1 hD1 hS1 => ?_)
  exact k r1 σ1 h1 r σ' h2 H1 locs1 ls hP1 (hD1.weaken (fun _ q _ h => wd_free hD hS hA q.1 h)) hS1 hl
end SimRows
