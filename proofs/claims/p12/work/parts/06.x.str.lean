def Y9 (X : Cx) : Nat → Nat := X.1.2.2.2.1
def Y8 (X : Cx) : Nat → Nat := X.1.2.2.2.2
def chS (i k : Nat) : Int32 := (bytS.getD i []).getD k 0 &&& 255
section SimStr
variable {X : Cx} {cc : ByteArray} {own : String} {nL : Nat} {ret : Option FieldType} {fr lo : Nat} {sc : Sc} {ad : Nat → Nat} {ρ : Type} {out : ρ → Option Value} {pc : Nat} {lv : List (Nat × Value)} {st : List Value} {σ : St} {F : Option (ρ × St)}
theorem g_ldcS (C : Ok X cc own nL ret fr lo) {i idx : Nat} {tx : String} (hk : keyS[i]? = some (own, idx, tx)) (hdg : decode cc pc = .ok (.ldc idx, 2)) (k : Sim X sc ad nL out (pc + 2) lv (.ref (Y9 X i) :: st) σ F) : Sim X sc ad nL out pc lv st σ F := by
  obtain ⟨Y, p, e, R, s, m, args, below, meth, c, A⟩ := X
  obtain ⟨hx, hb, hml, hown, hts, hK, hA, hlk, hret, hR, hM⟩ := C
  intro r σ' hF H locs ls hP hD hS hl
  exact va_ldcS hx hb hown (hM.2.1 i _ hk) hdg (k r σ' hF H locs ls hP hD hS hl)

theorem g_sval (C : Ok X cc RJ0 nL ret fr lo) {i : Nat} (hi : i < 10) (hdg : decode cc pc = .ok (.getfield 9, 3)) (k : Sim X sc ad nL out (pc + 3) lv (.ref (Y8 X i) :: st) σ F) : Sim X sc ad nL out pc lv (.ref (Y9 X i) :: st) σ F := by
  obtain ⟨Y, p, e, R, s, m, args, below, meth, c, A⟩ := X
  obtain ⟨hx, hb, hml, hown, hts, hK, hA, hlk, hret, hR, hM⟩ := C
  intro r σ' hF H locs ls hP hD hS hl
  exact vk_getf hx hb (hM.1.1 i hi).2.2.1 hS hown (hts _ gw_1565) (fun _ h9 => h9) hdg (k r σ' hF H locs ls hP hD hS hl)

theorem g_scod (C : Ok X cc RJ0 nL ret fr lo) {i : Nat} (hi : i < 10) (hdg : decode cc pc = .ok (.getfield 15, 3)) (k : Sim X sc ad nL out (pc + 3) lv (.int 0 :: st) σ F) : Sim X sc ad nL out pc lv (.ref (Y9 X i) :: st) σ F := by
  obtain ⟨Y, p, e, R, s, m, args, below, meth, c, A⟩ := X
  obtain ⟨hx, hb, hml, hown, hts, hK, hA, hlk, hret, hR, hM⟩ := C
  intro r σ' hF H locs ls hP hD hS hl
  exact vk_getf hx hb (hM.1.1 i hi).2.1 hS hown (hts _ gw_1566) (fun _ h9 => h9) hdg (k r σ' hF H locs ls hP hD hS hl)

theorem g_scmp (C : Ok X cc RJ0 nL ret fr lo) (hdg : decode cc pc = .ok (.getstatic 38, 3)) (k : Sim X sc ad nL out (pc + 3) lv (.int 1 :: st) σ F) : Sim X sc ad nL out pc lv st σ F := by
  obtain ⟨Y, p, e, R, s, m, args, below, meth, c, A⟩ := X
  obtain ⟨hx, hb, hml, hown, hts, hK, hA, hlk, hret, hR, hM⟩ := C
  intro r σ' hF H locs ls hP hD hS hl
  exact va_gets hx hb hM.2.2.1 hS hown (hts _ gw_569) (fun _ h9 => h9) hdg (k r σ' hF H locs ls hP hD hS hl)

theorem g_sfmt (C : Ok X cc RJ0 nL ret fr lo) (hdg : decode cc pc = .ok (.getstatic 1053, 3)) (k : ∀ v : Value, v.isRef = true → Sim X sc ad nL out (pc + 3) lv (v :: st) σ F) : Sim X sc ad nL out pc lv st σ F := by
  obtain ⟨Y, p, e, R, s, m, args, below, meth, c, A⟩ := X
  obtain ⟨hx, hb, hml, hown, hts, hK, hA, hlk, hret, hR, hM⟩ := C
  intro r σ' hF H locs ls hP hD hS hl
  obtain ⟨v, h4, h5⟩ := hM.2.2.2
  exact va_gets hx hb h4 hS hown (hts _ gw_585) (fun _ h9 => h9) hdg (k v h5 r σ' hF H locs ls hP hD hS hl)

theorem g_stl (C : Ok X cc own nL ret fr lo) {i : Nat} (hi : i < 10) (hdg : decode cc pc = .ok (.arraylength, 1)) (k : Sim X sc ad nL out (pc + 1) lv (.int (Int32.ofNat (lenS.getD i 0)) :: st) σ F) : Sim X sc ad nL out pc lv (.ref (Y8 X i) :: st) σ F := by
  obtain ⟨Y, p, e, R, s, m, args, below, meth, c, A⟩ := X
  obtain ⟨hx, hb, hml, hown, hts, hK, hA, hlk, hret, hR, hM⟩ := C
  intro r σ' hF H locs ls hP hD hS hl
  exact va_tlen hx hb (hM.1.1 i hi).2.2.2 hS rfl hdg (k r σ' hF H locs ls hP hD hS hl)

theorem g_stb (C : Ok X cc own nL ret fr lo) {i : Nat} {j : Int32} (hi : i < 10) (hj : ib j (lenS.getD i 0) = true) (hdg : decode cc pc = .ok (.baload, 1)) (k : Sim X sc ad nL out (pc + 1) lv (.int ((bytS.getD i []).getD j.toNatClampNeg 0) :: st) σ F) : Sim X sc ad nL out pc lv (.int j :: .ref (Y8 X i) :: st) σ F := by
  obtain ⟨Y, p, e, R, s, m, args, below, meth, c, A⟩ := X
  obtain ⟨hx, hb, hml, hown, hts, hK, hA, hlk, hret, hR, hM⟩ := C
  intro r σ' hF H locs ls hP hD hS hl
  exact va_tb hx hb (hM.1.1 i hi).2.2.2 hS (ib_in hj) rfl hdg (k r σ' hF H locs ls hP hD hS hl)
theorem g_callT (C : Ok X cc own nL ret fr lo) {ρ1 : Type} {out1 : ρ1 → Option Value} {y : MethodName} {bytes : ByteArray} {maxL index fr1 lo1 : Nat} {ret1 : Option FieldType} {i n : Nat} {As rest : List Value} {F1 : Option (ρ1 × St)} {K : ρ1 → St → Option (ρ × St)} (hw : wV own index y bytes maxL ret1) (hc : callee y n = true) (hR : fr1 + 1 ≤ fr ∧ 8 + (maxL + 11) + lo1 ≤ lo) (hi : i < 10) (hq9 : y.cls = "java/lang/String") (hM1 : ∀ (r : ρ1) (σ' : St), F1 = some (r, σ') → Con X.1 sc ad y bytes maxL ret1 fr1 lo1 (.ref (Y9 X i) :: As) σ (out1 r) σ') (hn : As.length = n) (hst : st = As.reverse ++ .ref (Y9 X i) :: rest) (hcat : (rest.map fun v => v.category).sum ≤ 8) (hdg : decode cc pc = .ok (.invokevirtual index, 3))
    (k : ∀ (r : ρ1) (σ' : St), F1 = some (r, σ') → Sim X sc ad nL out (pc + 3) lv ((out1 r).toList ++ rest) σ' (K r σ')) : Sim X sc ad nL out pc lv st σ (bd F1 K) := by
  obtain ⟨Y, p, e, R, s, m, args, below, meth, c, A⟩ := X
  obtain ⟨hx, hb, hml, hown, hts, hK, hA, hlk, hret, hR9, hM⟩ := C
  intro r σ' hF H locs ls hP hD hS hl
  subst hR9
  obtain ⟨r1, σ1, h1, h2⟩ := bd_some hF
  have hrc : ∃ cell : Cell, H[Y.2.2.2.1 i]? = some cell ∧ cell.vm.isStatics = false ∧ s.vm.findClass y.cls = some cell.cls := by
    obtain ⟨cell, g1, g2, g3, -⟩ := ((hM.1.1 i hi).1).kept hS.2.1
    exact ⟨cell, g1, g2, by rw [hq9]; exact g3⟩
  obtain ⟨d1, d2, d3⟩ := callee_spec hc
  refine g9_callq (A1 := va_A (wdS sc Y.2.2.1 ad σ) H.size) (va_runV (rm := rmO fr1 lo1) (mc := 0) (ms := 0) (As := As) (rest := rest) (C := y.cls) (b := Y.2.2.2.1 i) ⟨hx, hb, hml, hown, hts⟩ (hM1 r1 σ1 h1 H.size) (cwV n hts (wV_good hw) rfl rfl rfl ⟨rfl, d1, d2, d3⟩ hR) ⟨cQ_fb, hrc, fun U hU hW => cQ_pre hP hK hD hS hA hM U hU hW⟩ rfl hn hl.1 hst (lv_room hcat) hdg ⟨Nat.le_refl 0, Nat.le_refl 0⟩) hS (fun q _ h => wd_free hD hS hA q h) (wd_free hD hS hA) (fun H1 locs1 hP1 hD1 hS1 => ?_)
  exact k r1 σ1 h1 r σ' h2 H1 locs1 ls hP1 (hD1.weaken (fun _ q _ h => wd_free hD hS hA q.1 h)) hS1 hl
end SimStr
theorem c_coder {Y : Yx} {sc : Sc} {ad : Nat → Nat} {σ : St} {i : Nat} (hi : i < 10) : Con Y sc ad yJ0_coder_7d493 cJ0_coder_7d493 1 (some .byte) 0 0 [.ref (Y.2.2.2.1 i)] σ (outI 0) σ := by
  refine con_of (F := some (0, σ)) (by decide) rfl (Nat.le_of_ble_eq_true rfl) rfl (fun X hX C => ?_) rfl
  subst hX
  refine g_scmp C dJ0_coder_7d493_0 ?_
  rw [show some ((0 : Int32), σ) = (if (1 : Int32) = 0 then none else some (0, σ)) from rfl]
  refine g_if_eq C 13 dJ0_coder_7d493_3 (by decide) g_none ?_
  refine g_aload_n C 0 dJ0_coder_7d493_6 rfl rfl ?_
  refine g_scod C hi dJ0_coder_7d493_7 ?_
  refine g_goto C 14 dJ0_coder_7d493_10 (by decide) ?_
  exact g_zret C rfl dJ0_coder_7d493_14
theorem c_isLatin1 {Y : Yx} {sc : Sc} {ad : Nat → Nat} {σ : St} {i : Nat} (hi : i < 10) : Con Y sc ad yJ0_isLatin1_aae02 cJ0_isLatin1_aae02 1 (some .boolean) 0 0 [.ref (Y.2.2.2.1 i)] σ (outI 1) σ := by
  refine con_of (F := some (1, σ)) (by decide) rfl (Nat.le_of_ble_eq_true rfl) rfl (fun X hX C => ?_) rfl
  subst hX
  refine g_scmp C dJ0_isLatin1_aae02_0 ?_
  rw [show some ((1 : Int32), σ) = (if (1 : Int32) = 0 then none else some (1, σ)) from rfl]
  refine g_if_eq C 17 dJ0_isLatin1_aae02_3 (by decide) g_none ?_
  refine g_aload_n C 0 dJ0_isLatin1_aae02_6 rfl rfl ?_
  refine g_scod C hi dJ0_isLatin1_aae02_7 ?_
  rw [show some ((1 : Int32), σ) = (if (0 : Int32) = 0 then some (1, σ) else none) from rfl]
  refine g_if_ne C 17 dJ0_isLatin1_aae02_10 (by decide) g_none ?_
  refine g_iconst C 1 dJ0_isLatin1_aae02_13 (by decide) ?_
  refine g_goto C 18 dJ0_isLatin1_aae02_14 (by decide) ?_
  exact g_zret C rfl dJ0_isLatin1_aae02_18
theorem c_length {Y : Yx} {sc : Sc} {ad : Nat → Nat} {σ : St} {i : Nat} (hi : i < 10) : Con Y sc ad yJ0_length_8abf5 cJ0_length_8abf5 1 (some .int) 1 20 [.ref (Y.2.2.2.1 i)] σ (outI (Int32.ofNat (lenS.getD i 0) >>> ((0 : Int32) &&& 31))) σ := by
  refine con_of (F := bd (some ((0 : Int32), σ)) (fun r σ1 => some (Int32.ofNat (lenS.getD i 0) >>> (r &&& 31), σ1))) (by decide) rfl (Nat.le_of_ble_eq_true rfl) rfl (fun X hX C => ?_) rfl
  subst hX
  refine g_aload_n C 0 dJ0_length_8abf5_0 rfl rfl ?_
  refine g_sval C hi dJ0_length_8abf5_1 ?_
  refine g_stl C hi dJ0_length_8abf5_4 ?_
  refine g_aload_n C 0 dJ0_length_8abf5_5 rfl rfl ?_
  refine g_callT C (out1 := outI) (y := yJ0_coder_7d493) (fr1 := 0) (lo1 := 0) (n := 0) (As := []) (i := i) ⟨gw_565, gw_566, gw_567, gw_119, gw_568⟩ (by decide +kernel) ⟨by decide, by decide⟩ hi rfl (fun r σ' h => ?_) rfl rfl (Nat.le_of_ble_eq_true rfl) dJ0_length_8abf5_6 (fun r σ' h => ?_)
  · cases h
    exact c_coder hi
  · refine g_ishr C dJ0_length_8abf5_9 ?_
    exact g_iret C dJ0_length_8abf5_10
theorem c_checkIndex3 {Y : Yx} {sc : Sc} {ad : Nat → Nat} {σ : St} {i n : Int32} {v : Value} (hv : v.isRef = true) (h1 : ¬ i < 0) (h2 : i < n) : Con Y sc ad yJ3_checkIndex_8e157 cJ3_checkIndex_8e157 3 (some .int) 0 0 [.int i, .int n, v] σ (outI i) σ := by
  refine con_of (F := (if i < 0 then none else if i < n then some (i, σ) else none)) (own := RJ3) (by decide) rfl ?_ rfl (fun X hX C => ?_) (by rw [if_neg h1, if_pos h2])
  · cases v <;> first | exact Nat.le_of_ble_eq_true rfl | cases hv
  refine g_iload_n C 0 dJ3_checkIndex_8e157_0 rfl rfl ?_
  refine g_if_lt C 9 dJ3_checkIndex_8e157_1 (by decide) g_none ?_
  refine g_iload_n C 0 dJ3_checkIndex_8e157_4 rfl rfl ?_
  refine g_iload_n C 1 dJ3_checkIndex_8e157_5 rfl rfl ?_
  refine g_icmp_lt C 16 dJ3_checkIndex_8e157_6 (by decide) ?_ g_none
  refine g_iload_n C 0 dJ3_checkIndex_8e157_16 rfl rfl ?_
  exact g_iret C dJ3_checkIndex_8e157_17
theorem c_checkIndex0 {Y : Yx} {sc : Sc} {ad : Nat → Nat} {σ : St} {i n : Int32} (h1 : ¬ i < 0) (h2 : i < n) : Con Y sc ad yJ0_checkIndex_df160 cJ0_checkIndex_df160 2 none 1 22 [.int i, .int n] σ (outV ()) σ := by
  refine con_of (F := bd (some (i, σ)) (fun _ σ1 => some ((), σ1))) (by decide) rfl (Nat.le_of_ble_eq_true rfl) rfl (fun X hX C => ?_) rfl
  refine g_iload_n C 0 dJ0_checkIndex_df160_0 rfl rfl ?_
  refine g_iload_n C 1 dJ0_checkIndex_df160_1 rfl rfl ?_
  refine g_sfmt C dJ0_checkIndex_df160_2 (fun v hv => ?_)
  refine g_callS C (out1 := outI) (y := yJ3_checkIndex_8e157) (fr1 := 0) (lo1 := 0) (n := 3) (As := [.int i, .int n, v]) ⟨gw_587, gw_588, gw_121, gw_589⟩ (by decide +kernel) ⟨by decide, by decide⟩ (fun r σ' h => ?_) rfl rfl (Nat.le_of_ble_eq_true rfl) dJ0_checkIndex_df160_5 (fun r σ' h => ?_)
  · cases h
    exact c_checkIndex3 hv h1 h2
  · refine g_pop C dJ0_checkIndex_df160_8 rfl ?_
    exact g_vret C dJ0_checkIndex_df160_9
theorem ib_lt {i : Int32} {n : Nat} (h : ib i n = true) (hn : n < 2 ^ 31) : ¬ i < 0 ∧ i < Int32.ofNat n := by
  unfold ib at h
  simp only [Bool.and_eq_true, Bool.not_eq_true', decide_eq_false_iff_not, decide_eq_true_eq] at h
  refine ⟨h.1, ?_⟩
  obtain ⟨j, hj, rfl⟩ := nI_of h.1
  rw [nI_clamp hj] at h
  exact nI_lt h.2 hn
theorem len_all : ∀ i, i < 10 → (lenS.getD i 0 < 2 ^ 31 ∧ (∀ k, k < lenS.getD i 0 → (((bytS.getD i []).getD k 0 &&& 255).toUInt32 % 65536).toInt32 = chS i k ∧ narrow .char (.int (chS i k)) = .int (chS i k)) ∧ Int32.ofNat (lenS.getD i 0) >>> ((0 : Int32) &&& 31) = Int32.ofNat (lenS.getD i 0)) := by decide +kernel
theorem ib_cl {i : Int32} {n : Nat} (h : ib i n = true) : i.toNatClampNeg < n := by
  unfold ib at h
  simp only [Bool.and_eq_true, Bool.not_eq_true', decide_eq_false_iff_not, decide_eq_true_eq] at h
  exact h.2
theorem c_charAt1 {Y : Yx} {sc : Sc} {ad : Nat → Nat} {σ : St} {i : Nat} {k : Int32} (hi : i < 10) (hk : ib k (lenS.getD i 0) = true) : Con Y sc ad yJ1_charAt_3b067 cJ1_charAt_3b067 2 (some .char) 2 43 [.ref (Y.2.2.2.2 i), .int k] σ (outI (chS i k.toNatClampNeg)) σ := by
  have hl := len_all i hi
  have hc := hl.2.1 _ (ib_cl hk)
  refine con_of (F := bd (some ((), σ)) (fun _ σ1 => some (chS i k.toNatClampNeg, σ1))) (by decide) rfl (Nat.le_of_ble_eq_true rfl) rfl (fun X hX C => ?_) rfl
  subst hX
  refine g_iload_n C 1 dJ1_charAt_3b067_0 rfl rfl ?_
  refine g_aload_n C 0 dJ1_charAt_3b067_1 rfl rfl ?_
  refine g_stl C hi dJ1_charAt_3b067_2 ?_
  refine g_callS C (out1 := outV) (y := yJ0_checkIndex_df160) (fr1 := 1) (lo1 := 22) (n := 2) (As := [.int k, .int (Int32.ofNat (lenS.getD i 0))]) (rest := []) ⟨gw_582, gw_583, gw_119, gw_584⟩ (by decide +kernel) ⟨by decide, by decide⟩ (fun r σ' h => ?_) rfl rfl (Nat.le_of_ble_eq_true rfl) dJ1_charAt_3b067_3 (fun r σ' h => ?_)
  · cases h
    exact c_checkIndex0 (ib_lt hk hl.1).1 (ib_lt hk hl.1).2
  · refine g_aload_n C 0 dJ1_charAt_3b067_6 rfl rfl ?_
    refine g_iload_n C 1 dJ1_charAt_3b067_7 rfl rfl ?_
    refine g_stb C hi hk dJ1_charAt_3b067_8 ?_
    refine g_sipush C 255 dJ1_charAt_3b067_9 (by decide) ?_
    refine g_iand C dJ1_charAt_3b067_12 ?_
    refine g_i2c C dJ1_charAt_3b067_13 ?_
    rw [hc.1]
    exact g_zret C hc.2 dJ1_charAt_3b067_14
theorem c_charAt {Y : Yx} {sc : Sc} {ad : Nat → Nat} {σ : St} {i : Nat} {k : Int32} (hi : i < 10) (hk : ib k (lenS.getD i 0) = true) : Con Y sc ad yJ0_charAt_5068e cJ0_charAt_5068e 2 (some .char) 3 64 [.ref (Y.2.2.2.1 i), .int k] σ (outI (chS i k.toNatClampNeg)) σ := by
  have hc := (len_all i hi).2.1 _ (ib_cl hk)
  refine con_of (F := bd (some ((1 : Int32), σ)) (fun r σ1 => if r = 0 then none else bd (some (chS i k.toNatClampNeg, σ1)) (fun r2 σ2 => gd (narrow .char (.int r2) == .int r2) (some (r2, σ2))))) (by decide) rfl (Nat.le_of_ble_eq_true rfl) rfl (fun X hX C => ?_) (by simp only [bd]; rw [if_neg (by decide), hc.2]; simp [gd])
  subst hX
  refine g_aload_n C 0 dJ0_charAt_5068e_0 rfl rfl ?_
  refine g_callT C (out1 := outI) (y := yJ0_isLatin1_aae02) (fr1 := 0) (lo1 := 0) (n := 0) (As := []) (i := i) ⟨gw_575, gw_576, gw_577, gw_119, gw_578⟩ (by decide +kernel) ⟨by decide, by decide⟩ hi rfl (fun r σ' h => ?_) rfl rfl (Nat.le_of_ble_eq_true rfl) dJ0_charAt_5068e_1 (fun r σ' h => ?_)
  · cases h
    exact c_isLatin1 hi
  refine g_if_eq C 16 dJ0_charAt_5068e_4 (by decide) g_none ?_
  refine g_aload_n C 0 dJ0_charAt_5068e_7 rfl rfl ?_
  refine g_sval C hi dJ0_charAt_5068e_8 ?_
  refine g_iload_n C 1 dJ0_charAt_5068e_11 rfl rfl ?_
  refine g_callS C (out1 := outI) (y := yJ1_charAt_3b067) (fr1 := 2) (lo1 := 43) (n := 2) (As := [.ref (Y8 X i), .int k]) (rest := []) ⟨gw_579, gw_580, gw_120, gw_581⟩ (by decide +kernel) ⟨by decide, by decide⟩ (fun r σ' h => ?_) rfl rfl (Nat.le_of_ble_eq_true rfl) dJ0_charAt_5068e_12 (fun r σ' h => ?_)
  · cases h
    exact c_charAt1 hi hk
  · refine g_gd (fun hb9 => ?_)
    exact g_zret C (by simpa using hb9) dJ0_charAt_5068e_15
/-- length() of the i-th constant -/
theorem g_slen {X : Cx} {cc : ByteArray} {own : String} {nL : Nat} {ret : Option FieldType} {fr lo : Nat} {sc : Sc} {ad : Nat → Nat} {ρ : Type} {out : ρ → Option Value} {pc : Nat} {lv : List (Nat × Value)} {st : List Value} {σ : St} {F : Option (ρ × St)} (C : Ok X cc own nL ret fr lo) {i index : Nat} (v : Int32) (hi : i < 10) (hv : Int32.ofNat (lenS.getD i 0) = v) (hw : wV own index yJ0_length_8abf5 cJ0_length_8abf5 1 (some .int)) (hR : 1 + 1 ≤ fr ∧ 8 + (1 + 11) + 20 ≤ lo) (hcat : (st.map fun v => v.category).sum ≤ 8) (hdg : decode cc pc = .ok (.invokevirtual index, 3)) (k : Sim X sc ad nL out (pc + 3) lv (.int v :: st) σ F) : Sim X sc ad nL out pc lv (.ref (Y9 X i) :: st) σ F := by
  have hb : F = bd (some (Int32.ofNat (lenS.getD i 0) >>> ((0 : Int32) &&& 31), σ)) (fun _ _ => F) := rfl
  rw [hb]
  refine g_callT C (out1 := outI) (n := 0) (As := []) (i := i) hw (by decide +kernel) hR hi rfl (fun r σ' h => ?_) rfl rfl hcat hdg (fun r σ' h => ?_)
  · cases h
    exact c_length hi
  · cases h
    rw [(len_all i hi).2.2, hv]
    exact k
/-- charAt(k) of the i-th constant -/
theorem g_schr {X : Cx} {cc : ByteArray} {own : String} {nL : Nat} {ret : Option FieldType} {fr lo : Nat} {sc : Sc} {ad : Nat → Nat} {ρ : Type} {out : ρ → Option Value} {pc : Nat} {lv : List (Nat × Value)} {st : List Value} {σ : St} {F : Option (ρ × St)} (C : Ok X cc own nL ret fr lo) {i index : Nat} {j : Int32} (hi : i < 10) (hw : wV own index yJ0_charAt_5068e cJ0_charAt_5068e 2 (some .char)) (hR : 3 + 1 ≤ fr ∧ 8 + (2 + 11) + 64 ≤ lo) (hcat : (st.map fun v => v.category).sum ≤ 8) (hdg : decode cc pc = .ok (.invokevirtual index, 3)) (k : Sim X sc ad nL out (pc + 3) lv (.int (chS i j.toNatClampNeg) :: st) σ F) : Sim X sc ad nL out pc lv (.int j :: .ref (Y9 X i) :: st) σ (gd (ib j (lenS.getD i 0)) F) := by
  refine g_gd (fun hj => ?_)
  have hb : F = bd (some (chS i j.toNatClampNeg, σ)) (fun _ _ => F) := rfl
  rw [hb]
  refine g_callT C (out1 := outI) (n := 1) (As := [.int j]) (i := i) hw (by decide +kernel) hR hi rfl (fun r σ' h => ?_) rfl rfl hcat hdg (fun r σ' h => ?_)
  · cases h
    exact c_charAt hi hj
  · cases h
    exact k
