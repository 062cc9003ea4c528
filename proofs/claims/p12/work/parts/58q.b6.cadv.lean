/-! the class's FACTS: a branch, and a row -/
theorem c_join_or {N G q : Nat} {y : Int64} {σc0 σ : St} (hV : CV σc0 G σ) (hW : CW σ) (hq : q < 304) (hy : y = 0 ∨ WX y) (hT : TH σ) (hz : (∃ n, gB y n 1) → nz σ) : Par (x1_join N σ (nI q) y) (fun _ σ' => OC σc0 G σ σ' ∧ (∀ D, FL (Dc σ) D → (¬ y = 0 → jn D q (gB y)) → FL (Dc σ') D) ∧ (¬ y = 0 → jn (Dc σ') q (gB y)) ∧ TH σ') := by
  rcases hy with e | e
  · rw [e]
    exact c_join0.mono (fun _ σ' z => by rw [z]; exact ⟨oc_r hV hW, fun D h _ => h, fun h => absurd rfl h, hT⟩)
  · exact (c_join hV hW hq e).mono (fun _ σ' z => ⟨z.1, fun D h h2 => z.2.1 D h (h2 (wx_ne e)), fun _ => z.2.2.1, th_join hW z hT hz⟩)
def FK (D : FD) (d : Nat → Nat) (p : Nat) (y1 y2 : Int64) : Prop := (¬ y1 = 0 → D.2.2.2.2 (d 3) 0 ∧ jn D (p + 1) (gB y1)) ∧ (¬ y2 = 0 → D.2.2.2.2 (d 3) 1 ∧ jn D (d 10) (gB y2))
theorem fk_m {D D' : FD} {d : Nat → Nat} {p : Nat} {y1 y2 : Int64} (h : FL D D') (k : FK D d p y1 y2) : FK D' d p y1 y2 := ⟨fun e => ⟨h.2.2.2.2 _ _ (k.1 e).1, jn_m h (fun _ _ _ _ z => z) (k.1 e).2⟩, fun e => ⟨h.2.2.2.2 _ _ (k.2 e).1, jn_m h (fun _ _ _ _ z => z) (k.2 e).2⟩⟩
theorem c_fork70 {N : Nat} {σc0 σm0 σ : St} {G s p : Nat} {φ : Nat → Nat} {y1 y2 : Int64} (hO : PO σc0 σm0 G s φ) (hV : CV σc0 G σ) (hW : CW σ) (hp : p + 1 < s) (h10 : dn σc0 G p 10 < s) (h3 : dn σc0 G p 3 < 24) (hy1 : y1 = 0 ∨ WX y1) (hy2 : y2 = 0 ∨ WX y2) (hT : TH σ) (hz1 : (∃ n, gB y1 n 1) → nz σ) (hz2 : (∃ n, gB y2 n 1) → nz σ) : Par (x1_fork_70 N σ (nI p) y1 y2) (fun _ σ' => OC σc0 G σ σ' ∧ (∀ D, FL (Dc σ) D → FK D (dn σc0 G p) p y1 y2 → FL (Dc σ') D) ∧ FK (Dc σ') (dn σc0 G p) p y1 y2 ∧ TH σ') := by
  have hs := hO.1.2.2.1
  have core : ∀ t0 t1 v, v < 4 → t0 ||| t1 = nI v → (v.testBit 0 = true ↔ ¬ y1 = 0) → (v.testBit 1 = true ↔ ¬ y2 = 0) → Par (x1_fork_94 N σ (nI p) y1 y2 t0 t1) (fun _ σ' => OC σc0 G σ σ' ∧ (∀ D, FL (Dc σ) D → FK D (dn σc0 G p) p y1 y2 → FL (Dc σ') D) ∧ FK (Dc σ') (dn σc0 G p) p y1 y2 ∧ TH σ') := fun t0 t1 v hv et e0 e1 => by
    have eb : ∀ D : FD, FK D (dn σc0 G p) p y1 y2 → ∀ b, b < 2 → v.testBit b = true → D.2.2.2.2 (dn σc0 G p 3) b := fun D hk b hb h => by
      rcases (show b = 0 ∨ b = 1 by omega) with e | e
      · subst e; exact (hk.1 (e0.mp h)).1
      · subst e; exact (hk.2 (e1.mp h)).1
    unfold x1_fork_94
    rw [cfd hO hV, gd_t, cgF (v := 3) hO hV (by omega) (q := 3) (by decide) rfl, bd_s, nI_1]
    refine c_test hV hW h3 hv et (fun σ1 q1 u1 i1 => ?_)
    have hT1 := th_qs hW q1 hT
    refine par_bd (c_join_or q1.1.1 q1.1.2.1 (show p + 1 < 304 by omega) hy1 hT1 (fun h => nz_m hW q1.1.2.2 (hz1 h))) (fun _ σ2 q2 => ?_)
    obtain ⟨q2a, q2b, q2c, q2d⟩ := q2
    rw [cfd hO q2a.1, gd_t, cgF (v := 10) hO q2a.1 (by omega) (q := 10) (by decide) rfl, bd_s]
    refine par_bd (c_join_or q2a.1 q2a.2.1 (show dn σc0 G p 10 < 304 by omega) hy2 q2d (fun h => nz_m q1.1.2.1 q2a.2.2 (nz_m hW q1.1.2.2 (hz2 h)))) (fun _ σ3 q3 => par_some ?_)
    obtain ⟨q3a, q3b, q3c, q3d⟩ := q3
    refine ⟨oc_t q1.1 (oc_t q2a q3a), fun D h1 h2 => q3b D (q2b D (u1 D h1 (eb D h2)) (fun e => (h2.1 e).2)) (fun e => (h2.2 e).2), ⟨fun e => ⟨q3a.2.2.1.2.2.2.2 _ _ (q2a.2.2.1.2.2.2.2 _ _ (i1 0 (by decide) (e0.mpr e))), jn_m q3a.2.2.1 (fun _ _ _ _ z => z) (q2c e)⟩, fun e => ⟨q3a.2.2.1.2.2.2.2 _ _ (q2a.2.2.1.2.2.2.2 _ _ (i1 1 (by decide) (e1.mpr e))), q3c e⟩⟩, q3d⟩
  unfold x1_fork_70 x1_fork_82
  by_cases c1 : y1 = 0
  · rw [if_pos (lgc.mpr c1)]
    by_cases c2 : y2 = 0
    · rw [if_pos (lgc.mpr c2)]
      exact core 0 0 0 (by decide) (by decide) ⟨fun h => absurd h (by decide), fun h => absurd c1 h⟩ ⟨fun h => absurd h (by decide), fun h => absurd c2 h⟩
    · rw [if_neg (fun h => c2 (lgc.mp h))]
      exact core 0 2 2 (by decide) (by decide) ⟨fun h => absurd h (by decide), fun h => absurd c1 h⟩ ⟨fun _ => c2, fun _ => by decide⟩
  · rw [if_neg (fun h => c1 (lgc.mp h))]
    by_cases c2 : y2 = 0
    · rw [if_pos (lgc.mpr c2)]
      exact core 1 0 1 (by decide) (by decide) ⟨fun _ => c1, fun _ => by decide⟩ ⟨fun h => absurd h (by decide), fun h => absurd c2 h⟩
    · rw [if_neg (fun h => c2 (lgc.mp h))]
      exact core 1 2 3 (by decide) (by decide) ⟨fun _ => c1, fun _ => by decide⟩ ⟨fun _ => c2, fun _ => by decide⟩
/-- a narrowed word -/
theorem nw_o {x : Int64} {n w : Nat} (hx : WX x) (hn : n < 26) (hw : w < 2) : nw x n w = 0 ∨ WX (nw x n w) := by
  unfold nw
  by_cases c : (fc x n).testBit w = true
  · rw [if_pos c]
    exact Or.inr (cw_wx hx hn (pw2 hw) (by rcases (show w = 0 ∨ w = 1 by omega) with e | e <;> subst e <;> decide))
  · rw [if_neg c]; exact Or.inl rfl
theorem tp_b {w b : Nat} (hw : w < 2) (hb : b < 2) : (2 ^ w : Nat).testBit b = true ↔ b = w := by
  rcases (show w = 0 ∨ w = 1 by omega) with e | e <;> rcases (show b = 0 ∨ b = 1 by omega) with e2 | e2 <;> subst e <;> subst e2 <;> decide
theorem nw_g {x : Int64} {n w : Nat} (hx : WX x) (hn : n < 26) (hw : w < 2) : (¬ nw x n w = 0 ↔ gB x n w) ∧ ∀ n' b, n' < 26 → b < 2 → gB x n w → (gB (nw x n w) n' b ↔ if n' = n then b = w else gB x n' b) := by
  unfold nw
  by_cases c : (fc x n).testBit w = true
  · have g : gB x n w := ⟨hn, hw, by rw [← fc_b hw]; exact c⟩
    rw [if_pos c]
    refine ⟨⟨fun _ => g, fun _ => wx_ne (cw_wx hx hn (pw2 hw) (by rcases (show w = 0 ∨ w = 1 by omega) with e | e <;> subst e <;> decide))⟩, fun n' b h1 h2 _ => ?_⟩
    rw [cw_g hn]
    by_cases e : n' = n
    · rw [if_pos e, if_pos e]
      exact ⟨fun h => (tp_b hw h2).mp h.2.2, fun h => ⟨h1, h2, (tp_b hw h2).mpr h⟩⟩
    · rw [if_neg e, if_neg e]
      exact ⟨fun h => h.2.2, fun h => ⟨h1, h2, h⟩⟩
  · have g : ¬ gB x n w := fun h => c (by rw [fc_b hw]; exact h.2.2)
    rw [if_neg c]
    exact ⟨⟨fun h => absurd rfl h, fun h => absurd h g⟩, fun n' b _ _ h => absurd h g⟩
/-- what a row leaves -/
def RQ2 (σc0 : St) (G : Nat) (R : RD) (d : Nat → Nat) (p : Nat) (x : Int64) (σ σ' : St) : Prop := OC σc0 G σ σ' ∧ TH σ' ∧ (∀ D, FL (Dc σ) D → rwS R D D.2.2.1 (gB x) d p → FL (Dc σ') D) ∧ (vN σ' = vN σ → rwS R (Dc σ') (Dc σ').2.2.1 (gB x) d p)
theorem dc_mk {σ σ' : St} (h : gA σ' 12 = gA σ 12) : (Dc σ').2.2.1 = (Dc σ).2.2.1 := by
  funext m b
  show (m < 42 ∧ b < 2 ∧ ((gA σ' 12 m).toNatClampNeg).testBit b = true) = (m < 42 ∧ b < 2 ∧ ((gA σ 12 m).toNatClampNeg).testBit b = true)
  rw [h]
theorem c_fork {N : Nat} {σc0 σm0 σ : St} {G s p : Nat} {φ : Nat → Nat} {x : Int64} (hO : PO σc0 σm0 G s φ) (hV : CV σc0 G σ) (hW : CW σ) (hx : WX x) (hT : TH σ) (hnz : (∃ n, gB x n 1) → nz σ) (h0 : dn σc0 G p 0 = 2) (h4 : dn σc0 G p 4 = 1 ∨ ((dn σc0 G p 4 = 6 ∨ dn σc0 G p 4 = 7) ∧ dn σc0 G p 1 < 26)) (h3 : dn σc0 G p 3 < 24) (hp : p + 1 < s) (h10 : dn σc0 G p 10 < s) : Par (x1_fork N σ (nI p) x) (fun _ σ' => RQ2 σc0 G (Rd G σc0 σm0) (dn σc0 G p) p x σ σ') := by
  unfold x1_fork
  rw [cfd hO hV, gd_t, cgF (v := 4) hO hV (by omega) (q := 4) (by decide) rfl, bd_s, cfd hO hV, gd_t, cgF (v := 1) hO hV (by omega) (q := 1) (by decide) rfl, bd_s]
  rcases h4 with k | ⟨k, k1⟩
  · rw [k, if_pos (show nI 1 = 1 from rfl)]
    refine (c_fork70 hO hV hW hp h10 h3 (Or.inr hx) (Or.inr hx) hT hnz hnz).mono (fun _ σ' q => ?_)
    obtain ⟨q1, q2, q3, q4⟩ := q
    have hne := wx_ne hx
    refine ⟨q1, q4, fun D h1 h2 => q2 D h1 ?_, fun _ => ⟨fun e => absurd (h0.symm.trans e) (by decide), fun e => absurd (h0.symm.trans e) (by decide), fun _ _ => ⟨(q3.1 hne).1, (q3.2 hne).1, (q3.1 hne).2, (q3.2 hne).2⟩, fun _ w hw e => absurd (k.symm.trans e) (by omega), fun e => absurd e (by omega)⟩⟩
    obtain ⟨j1, j2, j3, j4⟩ := h2.2.2.1 h0 k
    exact ⟨fun _ => ⟨j1, j3⟩, fun _ => ⟨j2, j4⟩⟩
  · obtain ⟨w, hw, e4⟩ : ∃ w, w < 2 ∧ dn σc0 G p 4 = 6 + w := by
      rcases k with k | k
      · exact ⟨0, by decide, k⟩
      · exact ⟨1, by decide, k⟩
    have main : ∀ t : Int32, t = nI (2 ^ w) → 3 - t = nI (2 ^ (1 - w)) → Par (x1_fork_46 N σ (nI p) x (nI (dn σc0 G p 1)) t) (fun _ σ' => RQ2 σc0 G (Rd G σc0 σm0) (dn σc0 G p) p x σ σ') := fun t e1 e2 => by
      unfold x1_fork_46
      rw [c_narrow k1 hw e1, bd_s, c_narrow k1 (show 1 - w < 2 by omega) e2, bd_s]
      have zz : ∀ w', w' < 2 → (∃ n, gB (nw x (dn σc0 G p 1) w') n 1) → nz σ := fun w' hw' ⟨n, h⟩ => by
        have hne : ¬ nw x (dn σc0 G p 1) w' = 0 := fun e => by
          have := h.2.2
          rw [e, lb_0] at this
          exact absurd this (by decide)
        have g := (nw_g hx k1 hw').1.mp hne
        have := ((nw_g hx k1 hw').2 n 1 h.1 (by decide) g).mp h
        by_cases e : n = dn σc0 G p 1
        · rw [if_pos e] at this
          rw [← this] at g
          exact hnz ⟨_, g⟩
        · rw [if_neg e] at this
          exact hnz ⟨n, this⟩
      refine (c_fork70 hO hV hW hp h10 h3 (nw_o hx k1 hw) (nw_o hx k1 (show 1 - w < 2 by omega)) hT (zz w hw) (zz (1 - w) (by omega))).mono (fun _ σ' q => ?_)
      obtain ⟨q1, q2, q3, q4⟩ := q
      have n1 := nw_g hx k1 hw
      have n2 := nw_g hx k1 (show 1 - w < 2 by omega)
      refine ⟨q1, q4, fun D h1 h2 => q2 D h1 ?_, fun _ => ⟨fun e => absurd (h0.symm.trans e) (by decide), fun e => absurd (h0.symm.trans e) (by decide), fun _ e => absurd (e4.symm.trans e) (by omega), fun _ w' hw' e => ?_, fun e => absurd e (by omega)⟩⟩
      · obtain ⟨j1, j2⟩ := h2.2.2.2.1 h0 w hw e4
        refine ⟨fun hne => ?_, fun hne => ?_⟩
        · have g := n1.1.mp hne
          obtain ⟨a1, a2⟩ := j1 g
          exact ⟨a1, jn_m (fl_r D) (fun n b hn hb h => (n1.2 n b hn hb g).mp h) a2⟩
        · have g := n2.1.mp hne
          obtain ⟨a1, a2⟩ := j2 g
          exact ⟨a1, jn_m (fl_r D) (fun n b hn hb h => (n2.2 n b hn hb g).mp h) a2⟩
      · obtain rfl : w' = w := by omega
        refine ⟨fun g => ?_, fun g => ?_⟩
        · obtain ⟨a1, a2⟩ := q3.1 (n1.1.mpr g)
          exact ⟨a1, jn_m (fl_r _) (fun n b hn hb h => (n1.2 n b hn hb g).mpr h) a2⟩
        · obtain ⟨a1, a2⟩ := q3.2 (n2.1.mpr g)
          exact ⟨a1, jn_m (fl_r _) (fun n b hn hb h => (n2.2 n b hn hb g).mpr h) a2⟩
    rcases (show w = 0 ∨ w = 1 by omega) with e | e
    · subst e
      rw [e4, if_neg (show ¬ nI (6 + 0) = 1 by decide), if_pos (show nI (6 + 0) = 6 from rfl)]
      exact main 1 rfl (by decide)
    · subst e
      rw [e4, if_neg (show ¬ nI (6 + 1) = 1 by decide), if_neg (show ¬ nI (6 + 1) = 6 by decide)]
      exact main 2 rfl (by decide)
/-- the end of a row, by what is asked for -/
theorem fi_of {R : RD} {D : FD} {M g : Nat → Nat → Prop} {d : Nat → Nat} {s p v : Nat} {y : Int64} (hR : RF R d s p) (hv : ∀ b, b < 2 → v.testBit b = true → vB M g d b) (hy : ∀ n b, n < 26 → b < 2 → (gB y n b ↔ nB g d n b)) (h : fiS D M g d p) : FI D d p v y := by
  obtain ⟨h1, h2, h3, h4⟩ := h
  have k1 : d 0 = 3 ∨ d 0 = 4 → d 1 < 26 := fun e => by
    rcases hR with ⟨z, -⟩ | ⟨z, -⟩ | ⟨z, -⟩ | ⟨z, k, -⟩ | ⟨z, k, -⟩ | ⟨z, -⟩ | ⟨z, -⟩ <;> first | exact k | omega
  refine ⟨fun e => jn_m (fl_r D) (fun n b hn hb z => ?_) (h1 e), fun e => ⟨fun u b hb z => (h2 e).1 u b hb ((hy _ b (k1 (Or.inr e)) hb).mp z), fun z => ?_⟩, fun e => jn_m (fl_r D) (fun n b hn hb z => (hy n b hn hb).mp z) (h3 e), fun e b hb z => h4 e b hb (hv b hb z)⟩
  · obtain ⟨-, -, z⟩ := (cw_g (k1 (Or.inl e))).mp z
    exact if_m (hv b hb) (fun z => (hy n b hn hb).mp z) z
  · obtain ⟨a1, a2⟩ := (h2 e).2 ((hy _ 1 (k1 (Or.inr e)) (by decide)).mp z)
    refine ⟨fun b hb z => a1 b hb (hv b hb z), jn_m (fl_r D) (fun n b hn hb z => ?_) a2⟩
    obtain ⟨-, -, z⟩ := (cw_g (k1 (Or.inr e))).mp z
    exact if_m (fun z => ((bit01 2 (by decide) b hb).2.1 rfl).mp z) (fun z => (hy n b hn hb).mp z) z
theorem fi_to {R : RD} {D : FD} {M g : Nat → Nat → Prop} {d : Nat → Nat} {s p v : Nat} {y : Int64} (hR : RF R d s p) (hv : ∀ b, b < 2 → vB M g d b → v.testBit b = true) (hy : ∀ n b, n < 26 → b < 2 → (gB y n b ↔ nB g d n b)) (h : FI D d p v y) : fiS D M g d p := by
  obtain ⟨h1, h2, h3, h4⟩ := h
  have k1 : d 0 = 3 ∨ d 0 = 4 → d 1 < 26 := fun e => by
    rcases hR with ⟨z, -⟩ | ⟨z, -⟩ | ⟨z, -⟩ | ⟨z, k, -⟩ | ⟨z, k, -⟩ | ⟨z, -⟩ | ⟨z, -⟩ <;> first | exact k | omega
  refine ⟨fun e => jn_m (fl_r D) (fun n b hn hb z => (cw_g (k1 (Or.inl e))).mpr ⟨hn, hb, if_m (hv b hb) (fun z => (hy n b hn hb).mpr z) z⟩) (h1 e), fun e => ⟨fun u b hb z => (h2 e).1 u b hb ((hy _ b (k1 (Or.inr e)) hb).mpr z), fun z => ?_⟩, fun e => jn_m (fl_r D) (fun n b hn hb z => (hy n b hn hb).mpr z) (h3 e), fun e b hb z => h4 e b hb (hv b hb z)⟩
  obtain ⟨a1, a2⟩ := (h2 e).2 ((hy _ 1 (k1 (Or.inr e)) (by decide)).mpr z)
  exact ⟨fun b hb z => a1 b hb (hv b hb z), jn_m (fl_r D) (fun n b hn hb z => (cw_g (k1 (Or.inr e))).mpr ⟨hn, hb, if_m (fun z => ((bit01 2 (by decide) b hb).2.1 rfl).mpr z) (fun z => (hy n b hn hb).mpr z) z⟩) a2⟩
theorem c_adv {N : Nat} {σc0 σm0 σ : St} {G s p : Nat} {φ : Nat → Nat} {x : Int64} (hO : PO σc0 σm0 G s φ) (hV : CV σc0 G σ) (hW : CW σ) (hp : p < s) (hx : WX x) (hT : TH σ) (hnz : (∃ n, gB x n 1) → nz σ) (hR : RF (Rd G σc0 σm0) (dn σc0 G p) s p) : Par (x1_advance N σ (nI p) x) (fun _ σ' => RQ2 σc0 G (Rd G σc0 σm0) (dn σc0 G p) p x σ σ') := by
  have hs := hO.1.2.2.1
  have big : 3 ≤ dn σc0 G p 0 → VK (Rd G σc0 σm0) (dn σc0 G p) → Par (bd (x1_work N σ (nI p) x) (fun r4 σ5 => (if (lg_cmp (gL σ5 913) 0) = 0 then some ((), σ5) else bd (x1_finish N σ5 (nI p) (nI (dn σc0 G p 0)) r4) (fun _ σ7 => some ((), σ7))))) (fun _ σ' => RQ2 σc0 G (Rd G σc0 σm0) (dn σc0 G p) p x σ σ') := fun h3 hK => by
    refine par_bd (c_work hO hV hW hp hx hT hnz hK) (fun r σ1 q => ?_)
    obtain ⟨v, e1, e2, e3, e4, e5, e6, e7, e8, e9, e10⟩ := q
    rw [e1]
    have mkD : ∀ D : FD, FL (Dc σ1) D → ∀ m b, (Dc σ1).2.2.1 m b → D.2.2.1 m b := fun D h => h.2.2.1
    refine par_if (fun z => par_some ?_) (fun z => ?_)
    · rcases e10 with ⟨y1, y2⟩ | ⟨y1, -⟩
      · refine ⟨e3, e8, fun D h1 h2 => e4 D h1 (h2.2.2.2.2 h3).1, fun hv => ⟨fun e => absurd e (by omega), fun e => absurd e (by omega), fun e => absurd e (by omega), fun e => absurd e (by omega), fun _ => ⟨e5, fun h => absurd h (y2 hv)⟩⟩⟩
      · exact absurd (lgc.mp z) (wx_ne y1)
    · rcases e10 with ⟨y1, -⟩ | ⟨y1, y2, y3, y4⟩
      · exact absurd (lgc.mpr y1) z
      · have hz1 : (∃ n, gB (gL σ1 913) n 1) → nz σ1 := fun ⟨n, h⟩ => by
          have h := (y4 n 1 h.1 (by decide)).mp h
          unfold nB at h
          by_cases c : dn σc0 G p 4 = 4 ∧ n = dn σc0 G p 5
          · exact nz_m hW e3.2.2 (hnz ⟨_, (y3.1 c.1).1⟩)
          · rw [if_neg c] at h
            exact nz_m hW e3.2.2 (hnz ⟨n, h⟩)
        refine par_bd (c_finish hO e3.1 e3.2.1 hp rfl y1 e8 hz1 e2 y2 e9 hR h3) (fun _ σ2 q2 => par_some ?_)
        obtain ⟨f1, f2, f3, f4⟩ := q2
        refine ⟨oc_t e3 f1, f4, fun D h1 h2 => ?_, fun hv => ⟨fun e => absurd e (by omega), fun e => absurd e (by omega), fun e => absurd e (by omega), fun e => absurd e (by omega), fun _ => ⟨efV_m f1.2.2.1 (fun _ _ h => h) e5, fun _ => ?_⟩⟩⟩
        · have hD1 := e4 D h1 (h2.2.2.2.2 h3).1
          refine f2 D hD1 (fi_of hR (fun b hb h => vB_m (mkD D hD1) (fun _ _ h => h) (e6 b hb h)) y4 ((h2.2.2.2.2 h3).2 (aL_m (mkD D hD1) (fun _ _ h => h) y3)))
        · have l1 := e3.2.2.2.2.2.2.1
          have l2 := f1.2.2.2.2.2.2.1
          have e12 := dc_mk (f1.2.2.2.2.2.2.2.1 (by omega))
          rw [e12]
          exact fi_to hR (fun b hb h => e7 (by omega) b hb h) y4 f3
  unfold x1_advance
  rw [cfd hO hV, gd_t, cgF (v := 0) hO hV hp (q := 0) (by decide) rfl, bd_s]
  rcases id hR with ⟨e, kR⟩ | ⟨e, k10⟩ | ⟨e, k4, k3, kp, k10⟩ | ⟨e, -, -, kK⟩ | ⟨e, -, -, -, kK⟩ | ⟨e, -, kK⟩ | ⟨e, -, kK⟩
  · have h8 := (rd_ok hO kR).1
    rw [e, if_neg (show ¬ nI 0 = 1 by decide), if_pos (show nI 0 = 0 from rfl), cfd hO hV, gd_t, cgF (v := 11) hO hV hp (q := 11) (by decide) rfl, bd_s, show (32 : Int32) + nI (dn σc0 G p 11) = nI (32 + dn σc0 G p 11) from nI_add 32 _]
    have b1 : ∀ b, b < 2 → (1 : Nat).testBit b = true → b = 0 := fun b hb h => ((bit01 1 (by decide) b hb).1 rfl).mp h
    refine par_bd (c_raise (v := 1) hV hW (show 32 + dn σc0 G p 11 < 42 by omega) (by decide)) (fun _ σ2 q => par_some ⟨q.1, th_raise hW (by decide) (by omega) q hT (fun h => absurd h (by decide)), fun D h1 h2 => q.2.1 D h1 (fun b hb h => by rw [b1 b hb h]; exact h2.1 e), fun _ => ⟨fun _ => q.2.2.1 0 (by decide) rfl, fun e2 => absurd (e.symm.trans e2) (by decide), fun e2 => absurd (e.symm.trans e2) (by decide), fun e2 => absurd (e.symm.trans e2) (by decide), fun e2 => absurd e2 (by omega)⟩⟩)
  · rw [e, if_pos (show nI 1 = 1 from rfl), cfd hO hV, gd_t, cgF (v := 10) hO hV hp (q := 10) (by decide) rfl, bd_s]
    refine par_bd (c_join hV hW (show dn σc0 G p 10 < 304 by omega) hx) (fun _ σ2 q => par_some ⟨q.1, th_join hW q hT hnz, fun D h1 h2 => q.2.1 D h1 (h2.2.1 e), fun _ => ⟨fun e2 => absurd (e.symm.trans e2) (by decide), fun _ => q.2.2.1, fun e2 => absurd (e.symm.trans e2) (by decide), fun e2 => absurd (e.symm.trans e2) (by decide), fun e2 => absurd e2 (by omega)⟩⟩)
  · rw [e, if_neg (show ¬ nI 2 = 1 by decide), if_neg (show ¬ nI 2 = 0 by decide), if_pos (show nI 2 = 2 from rfl)]
    exact par_bd (c_fork hO hV hW hx hT hnz e k4 k3 kp k10) (fun _ σ2 q => par_some q)
  · have hb := big (by omega) kK
    rw [e] at hb ⊢
    rw [if_neg (show ¬ nI 3 = 1 by decide), if_neg (show ¬ nI 3 = 0 by decide), if_neg (show ¬ nI 3 = 2 by decide)]
    exact hb
  · have hb := big (by omega) kK
    rw [e] at hb ⊢
    rw [if_neg (show ¬ nI 4 = 1 by decide), if_neg (show ¬ nI 4 = 0 by decide), if_neg (show ¬ nI 4 = 2 by decide)]
    exact hb
  · have hb := big (by omega) kK
    rw [e] at hb ⊢
    rw [if_neg (show ¬ nI 5 = 1 by decide), if_neg (show ¬ nI 5 = 0 by decide), if_neg (show ¬ nI 5 = 2 by decide)]
    exact hb
  · have hb := big (by omega) kK
    rw [e] at hb ⊢
    rw [if_neg (show ¬ nI 6 = 1 by decide), if_neg (show ¬ nI 6 = 0 by decide), if_neg (show ¬ nI 6 = 2 by decide)]
    exact hb
