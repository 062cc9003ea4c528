/-! the law's loop -/
theorem and15 {x : Int32} : 0 ≤ (x &&& 15).toInt ∧ (x &&& 15).toInt ≤ 15 := by
  have h : (x &&& 15).toBitVec.toNat ≤ 15 := by
    rw [Int32.toBitVec_and, BitVec.toNat_and]
    exact Nat.and_le_right
  have e : (x &&& 15).toInt = ((x &&& 15).toBitVec.toNat : Int) := BitVec.toInt_eq_toNat_of_lt (by omega)
  rw [e]
  omega
set_option maxHeartbeats 4000000 in
set_option maxRecDepth 100000 in
theorem lw_loop {p : Program} {e : Env} {s : State} {m : MethodId} {below : List Frame} {meth : Method} {c : Code} {Y : Yx} {b L : Nat} {xs : Nat → Int32} {adC adM : Nat → Nat} (C : LC Y p s m meth c b L xs adC adM) : ∀ (n : Nat) (σc σm : St) (H : Heap) (locs : List Loc) (ls : Array Slot) (k : Nat), LI σc σm → LH Y s adC adM σc σm H locs → lv_has ls 4 [(3, .int (nI k)), (2, .ref (adM 0)), (1, .ref (adC 0)), (0, .ref b)] → k ≤ L → L - k < n → W p Y.1 e room_1 s m #[Value.ref b] below meth c H locs 84 30598 (lw_Z below #[Value.ref b] s) (F0 m 18 ls []) := by
  intro n
  induction n with
  | zero => intro σc σm H locs ls k _ _ _ _ h; exact absurd h (Nat.not_lt_zero _)
  | succ n ih =>
    intro σc σm H locs ls k hI hH hl hkL hn
    obtain ⟨hx, hb, hr, hml, hown, hts, hX, hbl, hlk, hK, hM, hap, hL⟩ := id C
    obtain ⟨hP, hP2, hD, hD2, hS⟩ := id hH
    have hbA : ¬ AL s b := Nat.not_le.mpr hbl
    have e6 : (nI L - 6).toInt = (L : Int) - 6 := by
      rw [Int32.toInt_sub, nI_t (by omega), show (6 : Int32).toInt = 6 from rfl]
      exact Int.bmod_eq_of_le (by omega) (by omega)
    refine lv_iload_n hx hb dL_law_18 rfl (lv_at hl 0 rfl) ?_
    refine lv_aload_n hx hb dL_law_19 rfl (lv_at hl 3 rfl) ?_
    refine va_slen hx hb hX hbl hbA hS dL_law_20 ?_
    refine lv_bipush (v := 6) hx hb dL_law_21 (by decide) ?_
    refine lv_isub hx hb dL_law_23 ?_
    refine lv_icmp_gt (tgt := 559) hx hb dL_law_24 (by decide) (fun _ => ?_) (fun c9 => ?_)
    · refine lv_iconst (v := 1) hx hb dL_law_559 (by decide) ?_
      refine va_forget (fun q hq => hS.2.2 q hq) ?_
      exact lw_ret hx hb hr hlk dL_law_560
    · have hk : k + 6 ≤ L := by
        have c9 : ¬ (nI L - 6 < nI k) := c9
        rw [Int32.lt_iff_toInt_lt, e6, nI_t (by omega)] at c9
        omega
      have nxt : ∀ (σc' σm' : St) (H' : Heap) (locs' : List Loc), LI σc' σm' → LH Y s adC adM σc' σm' H' locs' → W p Y.1 e room_1 s m #[Value.ref b] below meth c H' locs' 84 30598 (lw_Z below #[Value.ref b] s) (F0 m 553 ls []) := by
        intro σc' σm' H' locs' hI' hH'
        refine lv_iinc (k := 0) (v := nI (k + 6)) hx hb dL_law_553 hl rfl (by rw [← nI_add]; rfl) (by decide) rfl (fun ls' hl' => ?_)
        refine lv_goto (tgt := 18) hx hb dL_law_556 (by decide) ?_
        exact ih σc' σm' H' locs' ls' (k + 6) hI' hH' hl' (by omega) (by omega)
      refine lv_aload_n hx hb dL_law_27 rfl (lv_at hl 3 rfl) ?_
      refine lv_iload_n hx hb dL_law_28 rfl (lv_at hl 0 rfl) ?_
      refine va_sld hx hb hX hbl hbA hS (ib_in (ibk (by omega) (by omega))) dL_law_29 ?_
      refine lv_bipush (v := 15) hx hb dL_law_30 (by decide) ?_
      refine lv_iand hx hb dL_law_32 ?_
      refine lv_topi (fun v ev => ?_)
      obtain ⟨v1, v2⟩ := and15 (x := xs (nI k).toNatClampNeg)
      obtain ⟨j, j1, j2⟩ := nI_upto v1 (n := 15) v2 (by decide)
      have ej : v = nI j := ev.trans j2
      rcases (show j = 0 ∨ j = 1 ∨ j = 2 ∨ j = 3 ∨ j = 4 ∨ j = 5 ∨ j = 6 ∨ j = 7 ∨ j = 8 ∨ j = 9 ∨ j = 10 ∨ j = 11 ∨ j = 12 ∨ j = 13 ∨ j = 14 ∨ j = 15 by omega) with e | e | e | e | e | e | e | e | e | e | e | e | e | e | e | e
      · obtain rfl : v = 0 := by rw [ej, e]; rfl
        refine lv_tableIn (off := 75) (tgt := 108) hx hb dL_law_33 (by decide) (by decide) (by decide) (by decide) ?_
        exact lc_feed C hI hH hk hl nxt
      · obtain rfl : v = 1 := by rw [ej, e]; rfl
        refine lv_tableIn (off := 138) (tgt := 171) hx hb dL_law_33 (by decide) (by decide) (by decide) (by decide) ?_
        exact lc_text C hI hH hk hl nxt
      · obtain rfl : v = 2 := by rw [ej, e]; rfl
        refine lv_tableIn (off := 161) (tgt := 194) hx hb dL_law_33 (by decide) (by decide) (by decide) (by decide) ?_
        exact lc_fault C hI hH hk hl nxt
      · obtain rfl : v = 3 := by rw [ej, e]; rfl
        refine lv_tableIn (off := 184) (tgt := 217) hx hb dL_law_33 (by decide) (by decide) (by decide) (by decide) ?_
        exact lc_entry C hI hH hk hl nxt
      · obtain rfl : v = 4 := by rw [ej, e]; rfl
        refine lv_tableIn (off := 207) (tgt := 240) hx hb dL_law_33 (by decide) (by decide) (by decide) (by decide) ?_
        exact lc_outer C hI hH hk hl nxt
      · obtain rfl : v = 5 := by rw [ej, e]; rfl
        refine lv_tableIn (off := 240) (tgt := 273) hx hb dL_law_33 (by decide) (by decide) (by decide) (by decide) ?_
        exact lc_mark C hI hH hk hl nxt
      · obtain rfl : v = 6 := by rw [ej, e]; rfl
        refine lv_tableIn (off := 283) (tgt := 316) hx hb dL_law_33 (by decide) (by decide) (by decide) (by decide) ?_
        exact lc_use C hI hH hk hl nxt
      · obtain rfl : v = 7 := by rw [ej, e]; rfl
        refine lv_tableIn (off := 316) (tgt := 349) hx hb dL_law_33 (by decide) (by decide) (by decide) (by decide) ?_
        exact lc_test C hI hH hk hl nxt
      · obtain rfl : v = 8 := by rw [ej, e]; rfl
        refine lv_tableIn (off := 349) (tgt := 382) hx hb dL_law_33 (by decide) (by decide) (by decide) (by decide) ?_
        exact lc_run C hI hH hk hl nxt
      · obtain rfl : v = 9 := by rw [ej, e]; rfl
        refine lv_tableIn (off := 382) (tgt := 415) hx hb dL_law_33 (by decide) (by decide) (by decide) (by decide) ?_
        exact lc_ran C hI hH hk hl nxt
      · obtain rfl : v = 10 := by rw [ej, e]; rfl
        refine lv_tableIn (off := 405) (tgt := 438) hx hb dL_law_33 (by decide) (by decide) (by decide) (by decide) ?_
        exact lc_tries C hI hH hk hl nxt
      · obtain rfl : v = 11 := by rw [ej, e]; rfl
        refine lv_tableIn (off := 428) (tgt := 461) hx hb dL_law_33 (by decide) (by decide) (by decide) (by decide) ?_
        exact lc_price C hI hH hk hl nxt
      · obtain rfl : v = 12 := by rw [ej, e]; rfl
        refine lv_tableIn (off := 461) (tgt := 494) hx hb dL_law_33 (by decide) (by decide) (by decide) (by decide) ?_
        exact lc_mend C hI hH hk hl nxt
      · obtain rfl : v = 13 := by rw [ej, e]; rfl
        refine lv_tableIn (off := 474) (tgt := 507) hx hb dL_law_33 (by decide) (by decide) (by decide) (by decide) ?_
        exact lc_mended C hI hH hk hl nxt
      · obtain rfl : v = 14 := by rw [ej, e]; rfl
        refine lv_tableIn (off := 497) (tgt := 530) hx hb dL_law_33 (by decide) (by decide) (by decide) (by decide) ?_
        exact lc_count C hI hH hk hl nxt
      · obtain rfl : v = 15 := by rw [ej, e]; rfl
        refine lv_tableOut (tgt := 553) hx hb dL_law_33 (by decide) (by decide) ?_
        exact nxt _ _ _ _ hI hH
