theorem dX10_putNumber_44 : decode cX10_putNumber 44 = .ok (.iconst 1, 1) := by decide +kernel
theorem dX10_putNumber_45 : decode cX10_putNumber 45 = .ok (.iadd, 1) := by decide +kernel
theorem dX10_putNumber_46 : decode cX10_putNumber 46 = .ok (.putfield 87, 3) := by decide +kernel
theorem dX10_putNumber_49 : decode cX10_putNumber 49 = .ok (.iinc 2 (-8), 3) := by decide +kernel
theorem dX10_putNumber_52 : decode cX10_putNumber 52 = .ok (.goto (-49), 3) := by decide +kernel
theorem dX10_putNumber_55 : decode cX10_putNumber 55 = .ok (.return_, 1) := by decide +kernel
theorem dX10_forget_0 : decode cX10_forget 0 = .ok (.aload_n 0, 1) := by decide +kernel
theorem dX10_forget_1 : decode cX10_forget 1 = .ok (.getfield 54, 3) := by decide +kernel
theorem dX10_forget_4 : decode cX10_forget 4 = .ok (.iconst 1, 1) := by decide +kernel
theorem dX10_forget_5 : decode cX10_forget 5 = .ok (.putfield 246, 3) := by decide +kernel
theorem dX10_forget_8 : decode cX10_forget 8 = .ok (.aload_n 0, 1) := by decide +kernel
theorem dX10_forget_9 : decode cX10_forget 9 = .ok (.getfield 70, 3) := by decide +kernel
theorem dX10_forget_12 : decode cX10_forget 12 = .ok (.iconst 1, 1) := by decide +kernel
theorem dX10_forget_13 : decode cX10_forget 13 = .ok (.putfield 247, 3) := by decide +kernel
theorem dX10_forget_16 : decode cX10_forget 16 = .ok (.aload_n 0, 1) := by decide +kernel
theorem dX10_forget_17 : decode cX10_forget 17 = .ok (.getfield 79, 3) := by decide +kernel
theorem dX10_forget_20 : decode cX10_forget 20 = .ok (.iconst 1, 1) := by decide +kernel
theorem dX10_forget_21 : decode cX10_forget 21 = .ok (.putfield 221, 3) := by decide +kernel
theorem dX10_forget_24 : decode cX10_forget 24 = .ok (.return_, 1) := by decide +kernel
set_option maxRecDepth 100000 in
theorem mw_wsX10_markIndex_8 : (.code yX3_has cX3_has 2 (some .boolean) : Cond) ∈ wsX10_markIndex := List.mem_of_getElem? (i := 8) rfl
set_option maxRecDepth 100000 in
theorem mw_wsX10_markIndex_9 : (.fieldLink RX3 50 "NothingJudge$Program" "told" "I" : Cond) ∈ wsX10_markIndex := List.mem_of_getElem? (i := 9) (by decide +kernel)
set_option maxRecDepth 20000 in
theorem ggX10_markIndex_X3_has : GoodIn wsX10_markIndex wsX3_has := goodIn_sub (List.forall_mem_cons.mpr ⟨mw_wsX10_markIndex_8, (wK_app (List.forall_mem_cons.mpr ⟨mw_wsX10_markIndex_9, (fun _ h => absurd h List.not_mem_nil)⟩) (fun _ h => List.mem_cons_of_mem _ (List.mem_append_right _ h)))⟩) (by decide +kernel)
set_option maxRecDepth 20000 in
theorem gX10_markIndex_X3_has : GoodIn wsX10_markIndex (wsV RX10 125 RX3 yX3_has wsX3_has) := goodIn_app (goodIn_of _ (by decide +kernel)) ggX10_markIndex_X3_has
theorem dX10_markIndex_0 : decode cX10_markIndex 0 = .ok (.iload_n 1, 1) := by decide +kernel
theorem dX10_markIndex_1 : decode cX10_markIndex 1 = .ok (.iconst 2, 1) := by decide +kernel
theorem dX10_markIndex_2 : decode cX10_markIndex 2 = .ok (.if_icmp .ne 21, 3) := by decide +kernel
theorem dX10_markIndex_5 : decode cX10_markIndex 5 = .ok (.iload_n 3, 1) := by decide +kernel
theorem dX10_markIndex_6 : decode cX10_markIndex 6 = .ok (.ifCond .eq 8, 3) := by decide +kernel
theorem dX10_markIndex_9 : decode cX10_markIndex 9 = .ok (.iload_n 3, 1) := by decide +kernel
theorem dX10_markIndex_10 : decode cX10_markIndex 10 = .ok (.iconst 1, 1) := by decide +kernel
theorem dX10_markIndex_11 : decode cX10_markIndex 11 = .ok (.if_icmp .ne 10, 3) := by decide +kernel
theorem dX10_markIndex_14 : decode cX10_markIndex 14 = .ok (.bipush 40, 2) := by decide +kernel
theorem dX10_markIndex_16 : decode cX10_markIndex 16 = .ok (.iload_n 3, 1) := by decide +kernel
theorem dX10_markIndex_17 : decode cX10_markIndex 17 = .ok (.iadd, 1) := by decide +kernel
theorem dX10_markIndex_18 : decode cX10_markIndex 18 = .ok (.goto 4, 3) := by decide +kernel
theorem dX10_markIndex_21 : decode cX10_markIndex 21 = .ok (.iconst (-1), 1) := by decide +kernel
theorem dX10_markIndex_22 : decode cX10_markIndex 22 = .ok (.ireturn, 1) := by decide +kernel
theorem dX10_markIndex_23 : decode cX10_markIndex 23 = .ok (.aload_n 0, 1) := by decide +kernel
theorem dX10_markIndex_24 : decode cX10_markIndex 24 = .ok (.getfield 45, 3) := by decide +kernel
theorem dX10_markIndex_27 : decode cX10_markIndex 27 = .ok (.getfield 110, 3) := by decide +kernel
theorem dX10_markIndex_30 : decode cX10_markIndex 30 = .ok (.iload_n 2, 1) := by decide +kernel
theorem dX10_markIndex_31 : decode cX10_markIndex 31 = .ok (.invokevirtual 125, 3) := by decide +kernel
theorem dX10_markIndex_34 : decode cX10_markIndex 34 = .ok (.ifCond .ne 5, 3) := by decide +kernel
theorem dX10_markIndex_37 : decode cX10_markIndex 37 = .ok (.iconst (-1), 1) := by decide +kernel
theorem dX10_markIndex_38 : decode cX10_markIndex 38 = .ok (.ireturn, 1) := by decide +kernel
set_option maxRecDepth 100000 in
theorem mw_wsX10_usesOfFact_10 : (.code yX1_settle cX1_settle 5 none : Cond) ∈ wsX10_usesOfFact := List.mem_of_getElem? (i := 10) rfl
set_option maxRecDepth 100000 in
theorem mw_wsX10_usesOfFact_33 : (.initialized RJ7 : Cond) ∈ wsX10_usesOfFact := List.mem_of_getElem? (i := 33) (by decide +kernel)
set_option maxRecDepth 100000 in
theorem mw_wsX10_usesOfFact_32 : (.static yJ7_fill_d0a16 : Cond) ∈ wsX10_usesOfFact := List.mem_of_getElem? (i := 32) (by decide +kernel)
set_option maxRecDepth 100000 in
theorem mw_wsX10_usesOfFact_31 : (.methodLink RX1 95 yJ7_fill_d0a16 : Cond) ∈ wsX10_usesOfFact := List.mem_of_getElem? (i := 31) (by decide +kernel)
set_option maxRecDepth 100000 in
theorem mw_wsX10_usesOfFact_30 : (.fieldLink RX1 25 "NothingJudge$Facts" "tested" "[I" : Cond) ∈ wsX10_usesOfFact := List.mem_of_getElem? (i := 30) (by decide +kernel)
set_option maxRecDepth 100000 in
theorem mw_wsX10_usesOfFact_29 : (.fieldLink RX1 22 "NothingJudge$Facts" "used" "[I" : Cond) ∈ wsX10_usesOfFact := List.mem_of_getElem? (i := 29) (by decide +kernel)
set_option maxRecDepth 100000 in
theorem mw_wsX10_usesOfFact_28 : (.fieldLink RX1 19 "NothingJudge$Facts" "marks" "[I" : Cond) ∈ wsX10_usesOfFact := List.mem_of_getElem? (i := 28) (by decide +kernel)
set_option maxRecDepth 100000 in
theorem mw_wsX10_usesOfFact_27 : (.fieldLink RX1 92 "NothingJudge$Facts" "reached" "I" : Cond) ∈ wsX10_usesOfFact := List.mem_of_getElem? (i := 27) (by decide +kernel)
set_option maxRecDepth 100000 in
theorem mw_wsX10_usesOfFact_26 : (.fieldLink RX1 43 "NothingJudge$Program" "code" "LNothingJudge$Code;" : Cond) ∈ wsX10_usesOfFact := List.mem_of_getElem? (i := 26) (by decide +kernel)
set_option maxRecDepth 100000 in
theorem mw_wsX10_usesOfFact_25 : (.fieldLink RX1 42 "NothingJudge$Facts" "program" "LNothingJudge$Program;" : Cond) ∈ wsX10_usesOfFact := List.mem_of_getElem? (i := 25) (by decide +kernel)
set_option maxRecDepth 100000 in
theorem mw_wsX10_usesOfFact_24 : (.fieldLink RX1 36 "NothingJudge$Scene" "program" "LNothingJudge$Program;" : Cond) ∈ wsX10_usesOfFact := List.mem_of_getElem? (i := 24) (by decide +kernel)
set_option maxRecDepth 100000 in
theorem mw_wsX10_usesOfFact_23 : (.fieldLink RX1 32 "NothingJudge$Facts" "scene" "LNothingJudge$Scene;" : Cond) ∈ wsX10_usesOfFact := List.mem_of_getElem? (i := 23) (by decide +kernel)
set_option maxRecDepth 100000 in
theorem mw_wsX10_usesOfFact_22 : (.code yX1_clear cX1_clear 1 none : Cond) ∈ wsX10_usesOfFact := List.mem_of_getElem? (i := 22) rfl
set_option maxRecDepth 100000 in
theorem mw_wsX10_usesOfFact_9 : (.initialized RX1 : Cond) ∈ wsX10_usesOfFact := List.mem_of_getElem? (i := 9) (by decide +kernel)
set_option maxRecDepth 100000 in
theorem mw_wsX10_usesOfFact_21 : (.selects RX1 yX1_clear yX1_clear : Cond) ∈ wsX10_usesOfFact := List.mem_of_getElem? (i := 21) (by decide +kernel)
set_option maxRecDepth 100000 in
theorem mw_wsX10_usesOfFact_20 : (.instanceMethod yX1_clear : Cond) ∈ wsX10_usesOfFact := List.mem_of_getElem? (i := 20) (by decide +kernel)
set_option maxRecDepth 100000 in
theorem mw_wsX10_usesOfFact_19 : (.methodLink RX1 54 yX1_clear : Cond) ∈ wsX10_usesOfFact := List.mem_of_getElem? (i := 19) (by decide +kernel)
set_option maxRecDepth 100000 in
theorem mw_wsX10_usesOfFact_18 : (.fieldLink RX1 78 "NothingJudge$Facts" "version" "I" : Cond) ∈ wsX10_usesOfFact := List.mem_of_getElem? (i := 18) (by decide +kernel)
set_option maxRecDepth 100000 in
theorem mw_wsX10_usesOfFact_17 : (.fieldLink RX1 15 "NothingJudge$Facts" "seenAt" "[I" : Cond) ∈ wsX10_usesOfFact := List.mem_of_getElem? (i := 17) (by decide +kernel)
set_option maxRecDepth 100000 in
theorem mw_wsX10_usesOfFact_16 : (.fieldLink RX1 9 "NothingJudge$Facts" "state" "[J" : Cond) ∈ wsX10_usesOfFact := List.mem_of_getElem? (i := 16) (by decide +kernel)
set_option maxRecDepth 100000 in
theorem mw_wsX10_usesOfFact_15 : (.fieldLink RX1 66 "NothingJudge$Code" "size" "I" : Cond) ∈ wsX10_usesOfFact := List.mem_of_getElem? (i := 15) (by decide +kernel)
set_option maxRecDepth 100000 in
theorem mw_wsX10_usesOfFact_14 : (.fieldLink RX1 49 "NothingJudge$Facts" "code" "LNothingJudge$Code;" : Cond) ∈ wsX10_usesOfFact := List.mem_of_getElem? (i := 14) (by decide +kernel)
set_option maxRecDepth 100000 in
theorem mw_wsX10_usesOfFact_13 : (.fieldLink RX1 60 "NothingJudge$Facts" "changed" "Z" : Cond) ∈ wsX10_usesOfFact := List.mem_of_getElem? (i := 13) (by decide +kernel)
set_option maxRecDepth 100000 in
theorem mw_wsX10_usesOfFact_12 : (.fieldLink RX1 50 "NothingJudge$Facts" "held" "J" : Cond) ∈ wsX10_usesOfFact := List.mem_of_getElem? (i := 12) (by decide +kernel)
set_option maxRecDepth 100000 in
theorem mw_wsX10_usesOfFact_11 : (.fieldLink RX1 28 "NothingJudge$Facts" "stale" "Z" : Cond) ∈ wsX10_usesOfFact := List.mem_of_getElem? (i := 11) (by decide +kernel)
set_option maxRecDepth 100000 in
theorem mc_wsX10_usesOfFact_wsX1_settle_r1 : ∀ w ∈ wsX1_settle_r1, w ∈ wsX10_usesOfFact := (List.forall_mem_cons.mpr ⟨mw_wsX10_usesOfFact_11, (List.forall_mem_cons.mpr ⟨mw_wsX10_usesOfFact_12, (List.forall_mem_cons.mpr ⟨mw_wsX10_usesOfFact_13, (List.forall_mem_cons.mpr ⟨mw_wsX10_usesOfFact_14, (List.forall_mem_cons.mpr ⟨mw_wsX10_usesOfFact_15, (List.forall_mem_cons.mpr ⟨mw_wsX10_usesOfFact_16, (List.forall_mem_cons.mpr ⟨mw_wsX10_usesOfFact_17, (List.forall_mem_cons.mpr ⟨mw_wsX10_usesOfFact_18, (List.forall_mem_cons.mpr ⟨mw_wsX10_usesOfFact_19, (List.forall_mem_cons.mpr ⟨mw_wsX10_usesOfFact_20, (List.forall_mem_cons.mpr ⟨mw_wsX10_usesOfFact_21, (List.forall_mem_cons.mpr ⟨mw_wsX10_usesOfFact_9, (List.forall_mem_cons.mpr ⟨mw_wsX10_usesOfFact_22, (List.forall_mem_cons.mpr ⟨mw_wsX10_usesOfFact_23, (List.forall_mem_cons.mpr ⟨mw_wsX10_usesOfFact_24, (List.forall_mem_cons.mpr ⟨mw_wsX10_usesOfFact_25, (List.forall_mem_cons.mpr ⟨mw_wsX10_usesOfFact_26, (List.forall_mem_cons.mpr ⟨mw_wsX10_usesOfFact_27, (List.forall_mem_cons.mpr ⟨mw_wsX10_usesOfFact_28, (List.forall_mem_cons.mpr ⟨mw_wsX10_usesOfFact_29, (List.forall_mem_cons.mpr ⟨mw_wsX10_usesOfFact_30, (List.forall_mem_cons.mpr ⟨mw_wsX10_usesOfFact_31, (List.forall_mem_cons.mpr ⟨mw_wsX10_usesOfFact_32, (List.forall_mem_cons.mpr ⟨mw_wsX10_usesOfFact_33, (fun _ h => absurd h List.not_mem_nil)⟩)⟩)⟩)⟩)⟩)⟩)⟩)⟩)⟩)⟩)⟩)⟩)⟩)⟩)⟩)⟩)⟩)⟩)⟩)⟩)⟩)⟩)⟩)⟩)
set_option maxRecDepth 100000 in
theorem mw_wsX10_usesOfFact_57 : (.fieldLink RX7 9 "NothingJudge$Scene" "start" "I" : Cond) ∈ wsX10_usesOfFact := List.mem_of_getElem? (i := 57) (by decide +kernel)
set_option maxRecDepth 100000 in
theorem mw_wsX10_usesOfFact_56 : (.fieldLink RX7 29 "NothingJudge$Program" "arity" "[I" : Cond) ∈ wsX10_usesOfFact := List.mem_of_getElem? (i := 56) (by decide +kernel)
set_option maxRecDepth 100000 in
theorem mw_wsX10_usesOfFact_55 : (.fieldLink RX7 19 "NothingJudge$Scene" "program" "LNothingJudge$Program;" : Cond) ∈ wsX10_usesOfFact := List.mem_of_getElem? (i := 55) (by decide +kernel)
set_option maxRecDepth 100000 in
theorem mw_wsX10_usesOfFact_54 : (.code yX7_outers cX7_outers 1 (some .int) : Cond) ∈ wsX10_usesOfFact := List.mem_of_getElem? (i := 54) rfl
set_option maxRecDepth 100000 in
theorem mw_wsX10_usesOfFact_53 : (.initialized RX7 : Cond) ∈ wsX10_usesOfFact := List.mem_of_getElem? (i := 53) (by decide +kernel)
set_option maxRecDepth 100000 in
theorem mw_wsX10_usesOfFact_52 : (.selects RX7 yX7_outers yX7_outers : Cond) ∈ wsX10_usesOfFact := List.mem_of_getElem? (i := 52) (by decide +kernel)
set_option maxRecDepth 100000 in
theorem mw_wsX10_usesOfFact_51 : (.instanceMethod yX7_outers : Cond) ∈ wsX10_usesOfFact := List.mem_of_getElem? (i := 51) (by decide +kernel)
set_option maxRecDepth 100000 in
theorem mw_wsX10_usesOfFact_50 : (.methodLink RX1 111 yX7_outers : Cond) ∈ wsX10_usesOfFact := List.mem_of_getElem? (i := 50) (by decide +kernel)
set_option maxRecDepth 100000 in
theorem mw_wsX10_usesOfFact_49 : (.fieldLink RX3 50 "NothingJudge$Program" "told" "I" : Cond) ∈ wsX10_usesOfFact := List.mem_of_getElem? (i := 49) (by decide +kernel)
set_option maxRecDepth 100000 in
theorem mw_wsX10_usesOfFact_48 : (.code yX3_has cX3_has 2 (some .boolean) : Cond) ∈ wsX10_usesOfFact := List.mem_of_getElem? (i := 48) rfl
set_option maxRecDepth 100000 in
theorem mw_wsX10_usesOfFact_47 : (.initialized RX3 : Cond) ∈ wsX10_usesOfFact := List.mem_of_getElem? (i := 47) (by decide +kernel)
set_option maxRecDepth 100000 in
theorem mw_wsX10_usesOfFact_46 : (.selects RX3 yX3_has yX3_has : Cond) ∈ wsX10_usesOfFact := List.mem_of_getElem? (i := 46) (by decide +kernel)
set_option maxRecDepth 100000 in
theorem mw_wsX10_usesOfFact_45 : (.instanceMethod yX3_has : Cond) ∈ wsX10_usesOfFact := List.mem_of_getElem? (i := 45) (by decide +kernel)
set_option maxRecDepth 100000 in
theorem mw_wsX10_usesOfFact_44 : (.methodLink RX1 107 yX3_has : Cond) ∈ wsX10_usesOfFact := List.mem_of_getElem? (i := 44) (by decide +kernel)
set_option maxRecDepth 100000 in
theorem mw_wsX10_usesOfFact_43 : (.fieldLink RX1 115 "NothingJudge$Scene" "told" "[I" : Cond) ∈ wsX10_usesOfFact := List.mem_of_getElem? (i := 43) (by decide +kernel)
set_option maxRecDepth 100000 in
theorem mw_wsX10_usesOfFact_42 : (.fieldLink RX1 104 "NothingJudge$Scene" "start" "I" : Cond) ∈ wsX10_usesOfFact := List.mem_of_getElem? (i := 42) (by decide +kernel)
set_option maxRecDepth 100000 in
theorem mw_wsX10_usesOfFact_41 : (.code yX1_reachEntry cX1_reachEntry 3 none : Cond) ∈ wsX10_usesOfFact := List.mem_of_getElem? (i := 41) rfl
set_option maxRecDepth 100000 in
theorem mw_wsX10_usesOfFact_40 : (.selects RX1 yX1_reachEntry yX1_reachEntry : Cond) ∈ wsX10_usesOfFact := List.mem_of_getElem? (i := 40) (by decide +kernel)
set_option maxRecDepth 100000 in
theorem mw_wsX10_usesOfFact_39 : (.instanceMethod yX1_reachEntry : Cond) ∈ wsX10_usesOfFact := List.mem_of_getElem? (i := 39) (by decide +kernel)
set_option maxRecDepth 100000 in
theorem mw_wsX10_usesOfFact_38 : (.methodLink RX1 57 yX1_reachEntry : Cond) ∈ wsX10_usesOfFact := List.mem_of_getElem? (i := 38) (by decide +kernel)
set_option maxRecDepth 100000 in
theorem mw_wsX10_usesOfFact_37 : (.code yJ7_fill_53178 cJ7_fill_53178 4 none : Cond) ∈ wsX10_usesOfFact := List.mem_of_getElem? (i := 37) rfl
set_option maxRecDepth 100000 in
theorem mw_wsX10_usesOfFact_36 : (.static yJ7_fill_53178 : Cond) ∈ wsX10_usesOfFact := List.mem_of_getElem? (i := 36) (by decide +kernel)
set_option maxRecDepth 100000 in
theorem mw_wsX10_usesOfFact_35 : (.methodLink RX1 101 yJ7_fill_53178 : Cond) ∈ wsX10_usesOfFact := List.mem_of_getElem? (i := 35) (by decide +kernel)
set_option maxRecDepth 100000 in
theorem mw_wsX10_usesOfFact_34 : (.code yJ7_fill_d0a16 cJ7_fill_d0a16 5 none : Cond) ∈ wsX10_usesOfFact := List.mem_of_getElem? (i := 34) rfl
set_option maxRecDepth 100000 in
theorem mc_wsX10_usesOfFact_wsX1_settle_r2 : ∀ w ∈ wsX1_settle_r2, w ∈ wsX10_usesOfFact := (List.forall_mem_cons.mpr ⟨mw_wsX10_usesOfFact_34, (List.forall_mem_cons.mpr ⟨mw_wsX10_usesOfFact_35, (List.forall_mem_cons.mpr ⟨mw_wsX10_usesOfFact_36, (List.forall_mem_cons.mpr ⟨mw_wsX10_usesOfFact_37, (List.forall_mem_cons.mpr ⟨mw_wsX10_usesOfFact_38, (List.forall_mem_cons.mpr ⟨mw_wsX10_usesOfFact_39, (List.forall_mem_cons.mpr ⟨mw_wsX10_usesOfFact_40, (List.forall_mem_cons.mpr ⟨mw_wsX10_usesOfFact_41, (List.forall_mem_cons.mpr ⟨mw_wsX10_usesOfFact_42, (List.forall_mem_cons.mpr ⟨mw_wsX10_usesOfFact_43, (List.forall_mem_cons.mpr ⟨mw_wsX10_usesOfFact_44, (List.forall_mem_cons.mpr ⟨mw_wsX10_usesOfFact_45, (List.forall_mem_cons.mpr ⟨mw_wsX10_usesOfFact_46, (List.forall_mem_cons.mpr ⟨mw_wsX10_usesOfFact_47, (List.forall_mem_cons.mpr ⟨mw_wsX10_usesOfFact_48, (List.forall_mem_cons.mpr ⟨mw_wsX10_usesOfFact_49, (List.forall_mem_cons.mpr ⟨mw_wsX10_usesOfFact_50, (List.forall_mem_cons.mpr ⟨mw_wsX10_usesOfFact_51, (List.forall_mem_cons.mpr ⟨mw_wsX10_usesOfFact_52, (List.forall_mem_cons.mpr ⟨mw_wsX10_usesOfFact_53, (List.forall_mem_cons.mpr ⟨mw_wsX10_usesOfFact_54, (List.forall_mem_cons.mpr ⟨mw_wsX10_usesOfFact_55, (List.forall_mem_cons.mpr ⟨mw_wsX10_usesOfFact_56, (List.forall_mem_cons.mpr ⟨mw_wsX10_usesOfFact_57, (fun _ h => absurd h List.not_mem_nil)⟩)⟩)⟩)⟩)⟩)⟩)⟩)⟩)⟩)⟩)⟩)⟩)⟩)⟩)⟩)⟩)⟩)⟩)⟩)⟩)⟩)⟩)⟩)⟩)
set_option maxRecDepth 100000 in
theorem mw_wsX10_usesOfFact_81 : (.fieldLink RX1 135 "NothingJudge$Program" "opening" "[I" : Cond) ∈ wsX10_usesOfFact := List.mem_of_getElem? (i := 81) (by decide +kernel)
set_option maxRecDepth 100000 in
theorem mw_wsX10_usesOfFact_80 : (.fieldLink RX1 124 "NothingJudge$Program" "arity" "[I" : Cond) ∈ wsX10_usesOfFact := List.mem_of_getElem? (i := 80) (by decide +kernel)
set_option maxRecDepth 100000 in
theorem mw_wsX10_usesOfFact_79 : (.constantLong RX1 122 (67108863) : Cond) ∈ wsX10_usesOfFact := List.mem_of_getElem? (i := 79) (by decide +kernel)
set_option maxRecDepth 100000 in
theorem mw_wsX10_usesOfFact_78 : (.code yX1_openRoutines cX1_openRoutines 6 none : Cond) ∈ wsX10_usesOfFact := List.mem_of_getElem? (i := 78) rfl
set_option maxRecDepth 100000 in
theorem mw_wsX10_usesOfFact_77 : (.selects RX1 yX1_openRoutines yX1_openRoutines : Cond) ∈ wsX10_usesOfFact := List.mem_of_getElem? (i := 77) (by decide +kernel)
set_option maxRecDepth 100000 in
theorem mw_wsX10_usesOfFact_76 : (.instanceMethod yX1_openRoutines : Cond) ∈ wsX10_usesOfFact := List.mem_of_getElem? (i := 76) (by decide +kernel)
set_option maxRecDepth 100000 in
theorem mw_wsX10_usesOfFact_75 : (.methodLink RX1 63 yX1_openRoutines : Cond) ∈ wsX10_usesOfFact := List.mem_of_getElem? (i := 75) (by decide +kernel)
set_option maxRecDepth 100000 in
theorem mw_wsX10_usesOfFact_74 : (.code yX5_put cX5_put 3 none : Cond) ∈ wsX10_usesOfFact := List.mem_of_getElem? (i := 74) rfl
set_option maxRecDepth 100000 in
theorem mw_wsX10_usesOfFact_73 : (.static yX5_put : Cond) ∈ wsX10_usesOfFact := List.mem_of_getElem? (i := 73) (by decide +kernel)
set_option maxRecDepth 100000 in
theorem mw_wsX10_usesOfFact_72 : (.methodLink RX1 81 yX5_put : Cond) ∈ wsX10_usesOfFact := List.mem_of_getElem? (i := 72) (by decide +kernel)
set_option maxRecDepth 100000 in
theorem mw_wsX10_usesOfFact_71 : (.code yX1_raise cX1_raise 5 none : Cond) ∈ wsX10_usesOfFact := List.mem_of_getElem? (i := 71) rfl
set_option maxRecDepth 100000 in
theorem mw_wsX10_usesOfFact_70 : (.selects RX1 yX1_raise yX1_raise : Cond) ∈ wsX10_usesOfFact := List.mem_of_getElem? (i := 70) (by decide +kernel)
set_option maxRecDepth 100000 in
theorem mw_wsX10_usesOfFact_69 : (.instanceMethod yX1_raise : Cond) ∈ wsX10_usesOfFact := List.mem_of_getElem? (i := 69) (by decide +kernel)
set_option maxRecDepth 100000 in
theorem mw_wsX10_usesOfFact_68 : (.methodLink RX1 118 yX1_raise : Cond) ∈ wsX10_usesOfFact := List.mem_of_getElem? (i := 68) (by decide +kernel)
set_option maxRecDepth 100000 in
theorem mw_wsX10_usesOfFact_67 : (.methodLink RX1 72 yX5_at : Cond) ∈ wsX10_usesOfFact := List.mem_of_getElem? (i := 67) (by decide +kernel)
set_option maxRecDepth 100000 in
theorem mw_wsX10_usesOfFact_66 : (.methodLink RX7 40 yX3_has : Cond) ∈ wsX10_usesOfFact := List.mem_of_getElem? (i := 66) (by decide +kernel)
set_option maxRecDepth 100000 in
theorem mw_wsX10_usesOfFact_65 : (.code yX5_at cX5_at 2 (some .int) : Cond) ∈ wsX10_usesOfFact := List.mem_of_getElem? (i := 65) rfl
set_option maxRecDepth 100000 in
theorem mw_wsX10_usesOfFact_64 : (.initialized RX5 : Cond) ∈ wsX10_usesOfFact := List.mem_of_getElem? (i := 64) (by decide +kernel)
set_option maxRecDepth 100000 in
theorem mw_wsX10_usesOfFact_63 : (.static yX5_at : Cond) ∈ wsX10_usesOfFact := List.mem_of_getElem? (i := 63) (by decide +kernel)
set_option maxRecDepth 100000 in
theorem mw_wsX10_usesOfFact_62 : (.methodLink RX7 34 yX5_at : Cond) ∈ wsX10_usesOfFact := List.mem_of_getElem? (i := 62) (by decide +kernel)
set_option maxRecDepth 100000 in
theorem mw_wsX10_usesOfFact_61 : (.code Lib.Math.min.name Lib.Math.min.code 2 (some .int) : Cond) ∈ wsX10_usesOfFact := List.mem_of_getElem? (i := 61) rfl
set_option maxRecDepth 100000 in
theorem mw_wsX10_usesOfFact_60 : (.initialized "java/lang/Math" : Cond) ∈ wsX10_usesOfFact := List.mem_of_getElem? (i := 60) (by decide +kernel)
set_option maxRecDepth 100000 in
theorem mw_wsX10_usesOfFact_59 : (.static Lib.Math.min.name : Cond) ∈ wsX10_usesOfFact := List.mem_of_getElem? (i := 59) (by decide +kernel)
set_option maxRecDepth 100000 in
theorem mw_wsX10_usesOfFact_58 : (.methodLink RX7 44 Lib.Math.min.name : Cond) ∈ wsX10_usesOfFact := List.mem_of_getElem? (i := 58) (by decide +kernel)
set_option maxRecDepth 100000 in
theorem mc_wsX10_usesOfFact_wsX1_settle_r3 : ∀ w ∈ wsX1_settle_r3, w ∈ wsX10_usesOfFact := (List.forall_mem_cons.mpr ⟨mw_wsX10_usesOfFact_58, (List.forall_mem_cons.mpr ⟨mw_wsX10_usesOfFact_59, (List.forall_mem_cons.mpr ⟨mw_wsX10_usesOfFact_60, (List.forall_mem_cons.mpr ⟨mw_wsX10_usesOfFact_61, (List.forall_mem_cons.mpr ⟨mw_wsX10_usesOfFact_62, (List.forall_mem_cons.mpr ⟨mw_wsX10_usesOfFact_63, (List.forall_mem_cons.mpr ⟨mw_wsX10_usesOfFact_64, (List.forall_mem_cons.mpr ⟨mw_wsX10_usesOfFact_65, (List.forall_mem_cons.mpr ⟨mw_wsX10_usesOfFact_66, (List.forall_mem_cons.mpr ⟨mw_wsX10_usesOfFact_67, (List.forall_mem_cons.mpr ⟨mw_wsX10_usesOfFact_68, (List.forall_mem_cons.mpr ⟨mw_wsX10_usesOfFact_69, (List.forall_mem_cons.mpr ⟨mw_wsX10_usesOfFact_70, (List.forall_mem_cons.mpr ⟨mw_wsX10_usesOfFact_71, (List.forall_mem_cons.mpr ⟨mw_wsX10_usesOfFact_72, (List.forall_mem_cons.mpr ⟨mw_wsX10_usesOfFact_73, (List.forall_mem_cons.mpr ⟨mw_wsX10_usesOfFact_74, (List.forall_mem_cons.mpr ⟨mw_wsX10_usesOfFact_75, (List.forall_mem_cons.mpr ⟨mw_wsX10_usesOfFact_76, (List.forall_mem_cons.mpr ⟨mw_wsX10_usesOfFact_77, (List.forall_mem_cons.mpr ⟨mw_wsX10_usesOfFact_78, (List.forall_mem_cons.mpr ⟨mw_wsX10_usesOfFact_79, (List.forall_mem_cons.mpr ⟨mw_wsX10_usesOfFact_80, (List.forall_mem_cons.mpr ⟨mw_wsX10_usesOfFact_81, (fun _ h => absurd h List.not_mem_nil)⟩)⟩)⟩)⟩)⟩)⟩)⟩)⟩)⟩)⟩)⟩)⟩)⟩)⟩)⟩)⟩)⟩)⟩)⟩)⟩)⟩)⟩)⟩)⟩)
set_option maxRecDepth 100000 in
theorem mw_wsX10_usesOfFact_105 : (.code yX0_get cX0_get 4 (some .int) : Cond) ∈ wsX10_usesOfFact := List.mem_of_getElem? (i := 105) rfl
set_option maxRecDepth 100000 in
theorem mw_wsX10_usesOfFact_104 : (.initialized RX0 : Cond) ∈ wsX10_usesOfFact := List.mem_of_getElem? (i := 104) (by decide +kernel)
set_option maxRecDepth 100000 in
theorem mw_wsX10_usesOfFact_103 : (.selects RX0 yX0_get yX0_get : Cond) ∈ wsX10_usesOfFact := List.mem_of_getElem? (i := 103) (by decide +kernel)
set_option maxRecDepth 100000 in
theorem mw_wsX10_usesOfFact_102 : (.instanceMethod yX0_get : Cond) ∈ wsX10_usesOfFact := List.mem_of_getElem? (i := 102) (by decide +kernel)
set_option maxRecDepth 100000 in
theorem mw_wsX10_usesOfFact_101 : (.methodLink RX1 141 yX0_get : Cond) ∈ wsX10_usesOfFact := List.mem_of_getElem? (i := 101) (by decide +kernel)
set_option maxRecDepth 100000 in
theorem mw_wsX10_usesOfFact_100 : (.fieldLink RX1 151 "NothingJudge$Facts" "now" "J" : Cond) ∈ wsX10_usesOfFact := List.mem_of_getElem? (i := 100) (by decide +kernel)
set_option maxRecDepth 100000 in
theorem mw_wsX10_usesOfFact_99 : (.code yX1_advance cX1_advance 6 none : Cond) ∈ wsX10_usesOfFact := List.mem_of_getElem? (i := 99) rfl
set_option maxRecDepth 100000 in
theorem mw_wsX10_usesOfFact_98 : (.selects RX1 yX1_advance yX1_advance : Cond) ∈ wsX10_usesOfFact := List.mem_of_getElem? (i := 98) (by decide +kernel)
set_option maxRecDepth 100000 in
theorem mw_wsX10_usesOfFact_97 : (.instanceMethod yX1_advance : Cond) ∈ wsX10_usesOfFact := List.mem_of_getElem? (i := 97) (by decide +kernel)
set_option maxRecDepth 100000 in
theorem mw_wsX10_usesOfFact_96 : (.methodLink RX1 85 yX1_advance : Cond) ∈ wsX10_usesOfFact := List.mem_of_getElem? (i := 96) (by decide +kernel)
set_option maxRecDepth 100000 in
theorem mw_wsX10_usesOfFact_95 : (.code yX1_join cX1_join 4 none : Cond) ∈ wsX10_usesOfFact := List.mem_of_getElem? (i := 95) rfl
set_option maxRecDepth 100000 in
theorem mw_wsX10_usesOfFact_94 : (.selects RX1 yX1_join yX1_join : Cond) ∈ wsX10_usesOfFact := List.mem_of_getElem? (i := 94) (by decide +kernel)
set_option maxRecDepth 100000 in
theorem mw_wsX10_usesOfFact_93 : (.instanceMethod yX1_join : Cond) ∈ wsX10_usesOfFact := List.mem_of_getElem? (i := 93) (by decide +kernel)
set_option maxRecDepth 100000 in
theorem mw_wsX10_usesOfFact_92 : (.methodLink RX1 138 yX1_join : Cond) ∈ wsX10_usesOfFact := List.mem_of_getElem? (i := 92) (by decide +kernel)
set_option maxRecDepth 100000 in
theorem mw_wsX10_usesOfFact_91 : (.constantLong RX1 179 (-1) : Cond) ∈ wsX10_usesOfFact := List.mem_of_getElem? (i := 91) (by decide +kernel)
set_option maxRecDepth 100000 in
theorem mw_wsX10_usesOfFact_90 : (.code yX1_with cX1_with 10 (some .long) : Cond) ∈ wsX10_usesOfFact := List.mem_of_getElem? (i := 90) rfl
set_option maxRecDepth 100000 in
theorem mw_wsX10_usesOfFact_89 : (.static yX1_with : Cond) ∈ wsX10_usesOfFact := List.mem_of_getElem? (i := 89) (by decide +kernel)
set_option maxRecDepth 100000 in
theorem mw_wsX10_usesOfFact_88 : (.methodLink RX1 131 yX1_with : Cond) ∈ wsX10_usesOfFact := List.mem_of_getElem? (i := 88) (by decide +kernel)
set_option maxRecDepth 100000 in
theorem mw_wsX10_usesOfFact_87 : (.methodLink RX3 68 yX5_at : Cond) ∈ wsX10_usesOfFact := List.mem_of_getElem? (i := 87) (by decide +kernel)
set_option maxRecDepth 100000 in
theorem mw_wsX10_usesOfFact_86 : (.fieldLink RX3 25 "NothingJudge$Program" "parameters" "[I" : Cond) ∈ wsX10_usesOfFact := List.mem_of_getElem? (i := 86) (by decide +kernel)
set_option maxRecDepth 100000 in
theorem mw_wsX10_usesOfFact_85 : (.code yX3_parameter cX3_parameter 3 (some .int) : Cond) ∈ wsX10_usesOfFact := List.mem_of_getElem? (i := 85) rfl
set_option maxRecDepth 100000 in
theorem mw_wsX10_usesOfFact_84 : (.selects RX3 yX3_parameter yX3_parameter : Cond) ∈ wsX10_usesOfFact := List.mem_of_getElem? (i := 84) (by decide +kernel)
set_option maxRecDepth 100000 in
theorem mw_wsX10_usesOfFact_83 : (.instanceMethod yX3_parameter : Cond) ∈ wsX10_usesOfFact := List.mem_of_getElem? (i := 83) (by decide +kernel)
set_option maxRecDepth 100000 in
theorem mw_wsX10_usesOfFact_82 : (.methodLink RX1 127 yX3_parameter : Cond) ∈ wsX10_usesOfFact := List.mem_of_getElem? (i := 82) (by decide +kernel)
set_option maxRecDepth 100000 in
theorem mc_wsX10_usesOfFact_wsX1_settle_r4 : ∀ w ∈ wsX1_settle_r4, w ∈ wsX10_usesOfFact := (List.forall_mem_cons.mpr ⟨mw_wsX10_usesOfFact_82, (List.forall_mem_cons.mpr ⟨mw_wsX10_usesOfFact_83, (List.forall_mem_cons.mpr ⟨mw_wsX10_usesOfFact_84, (List.forall_mem_cons.mpr ⟨mw_wsX10_usesOfFact_85, (List.forall_mem_cons.mpr ⟨mw_wsX10_usesOfFact_86, (List.forall_mem_cons.mpr ⟨mw_wsX10_usesOfFact_87, (List.forall_mem_cons.mpr ⟨mw_wsX10_usesOfFact_88, (List.forall_mem_cons.mpr ⟨mw_wsX10_usesOfFact_89, (List.forall_mem_cons.mpr ⟨mw_wsX10_usesOfFact_90, (List.forall_mem_cons.mpr ⟨mw_wsX10_usesOfFact_91, (List.forall_mem_cons.mpr ⟨mw_wsX10_usesOfFact_92, (List.forall_mem_cons.mpr ⟨mw_wsX10_usesOfFact_93, (List.forall_mem_cons.mpr ⟨mw_wsX10_usesOfFact_94, (List.forall_mem_cons.mpr ⟨mw_wsX10_usesOfFact_95, (List.forall_mem_cons.mpr ⟨mw_wsX10_usesOfFact_96, (List.forall_mem_cons.mpr ⟨mw_wsX10_usesOfFact_97, (List.forall_mem_cons.mpr ⟨mw_wsX10_usesOfFact_98, (List.forall_mem_cons.mpr ⟨mw_wsX10_usesOfFact_99, (List.forall_mem_cons.mpr ⟨mw_wsX10_usesOfFact_100, (List.forall_mem_cons.mpr ⟨mw_wsX10_usesOfFact_101, (List.forall_mem_cons.mpr ⟨mw_wsX10_usesOfFact_102, (List.forall_mem_cons.mpr ⟨mw_wsX10_usesOfFact_103, (List.forall_mem_cons.mpr ⟨mw_wsX10_usesOfFact_104, (List.forall_mem_cons.mpr ⟨mw_wsX10_usesOfFact_105, (fun _ h => absurd h List.not_mem_nil)⟩)⟩)⟩)⟩)⟩)⟩)⟩)⟩)⟩)⟩)⟩)⟩)⟩)⟩)⟩)⟩)⟩)⟩)⟩)⟩)⟩)⟩)⟩)⟩)
set_option maxRecDepth 100000 in
theorem mw_wsX10_usesOfFact_129 : (.code yX1_workCall cX1_workCall 6 (some .int) : Cond) ∈ wsX10_usesOfFact := List.mem_of_getElem? (i := 129) rfl
set_option maxRecDepth 100000 in
theorem mw_wsX10_usesOfFact_128 : (.selects RX1 yX1_workCall yX1_workCall : Cond) ∈ wsX10_usesOfFact := List.mem_of_getElem? (i := 128) (by decide +kernel)
set_option maxRecDepth 100000 in
theorem mw_wsX10_usesOfFact_127 : (.instanceMethod yX1_workCall : Cond) ∈ wsX10_usesOfFact := List.mem_of_getElem? (i := 127) (by decide +kernel)
set_option maxRecDepth 100000 in
theorem mw_wsX10_usesOfFact_126 : (.methodLink RX1 168 yX1_workCall : Cond) ∈ wsX10_usesOfFact := List.mem_of_getElem? (i := 126) (by decide +kernel)
set_option maxRecDepth 100000 in
theorem mw_wsX10_usesOfFact_125 : (.code yX1_noteUse cX1_noteUse 3 none : Cond) ∈ wsX10_usesOfFact := List.mem_of_getElem? (i := 125) rfl
set_option maxRecDepth 100000 in
theorem mw_wsX10_usesOfFact_124 : (.selects RX1 yX1_noteUse yX1_noteUse : Cond) ∈ wsX10_usesOfFact := List.mem_of_getElem? (i := 124) (by decide +kernel)
set_option maxRecDepth 100000 in
theorem mw_wsX10_usesOfFact_123 : (.instanceMethod yX1_noteUse : Cond) ∈ wsX10_usesOfFact := List.mem_of_getElem? (i := 123) (by decide +kernel)
set_option maxRecDepth 100000 in
theorem mw_wsX10_usesOfFact_122 : (.methodLink RX1 165 yX1_noteUse : Cond) ∈ wsX10_usesOfFact := List.mem_of_getElem? (i := 122) (by decide +kernel)
set_option maxRecDepth 100000 in
theorem mw_wsX10_usesOfFact_121 : (.code yX1_work cX1_work 6 (some .int) : Cond) ∈ wsX10_usesOfFact := List.mem_of_getElem? (i := 121) rfl
set_option maxRecDepth 100000 in
theorem mw_wsX10_usesOfFact_120 : (.selects RX1 yX1_work yX1_work : Cond) ∈ wsX10_usesOfFact := List.mem_of_getElem? (i := 120) (by decide +kernel)
set_option maxRecDepth 100000 in
theorem mw_wsX10_usesOfFact_119 : (.instanceMethod yX1_work : Cond) ∈ wsX10_usesOfFact := List.mem_of_getElem? (i := 119) (by decide +kernel)
set_option maxRecDepth 100000 in
theorem mw_wsX10_usesOfFact_118 : (.methodLink RX1 147 yX1_work : Cond) ∈ wsX10_usesOfFact := List.mem_of_getElem? (i := 118) (by decide +kernel)
set_option maxRecDepth 100000 in
theorem mw_wsX10_usesOfFact_117 : (.code yX1_factOf cX1_factOf 5 (some .int) : Cond) ∈ wsX10_usesOfFact := List.mem_of_getElem? (i := 117) rfl
set_option maxRecDepth 100000 in
theorem mw_wsX10_usesOfFact_116 : (.static yX1_factOf : Cond) ∈ wsX10_usesOfFact := List.mem_of_getElem? (i := 116) (by decide +kernel)
set_option maxRecDepth 100000 in
theorem mw_wsX10_usesOfFact_115 : (.methodLink RX1 161 yX1_factOf : Cond) ∈ wsX10_usesOfFact := List.mem_of_getElem? (i := 115) (by decide +kernel)
set_option maxRecDepth 100000 in
theorem mw_wsX10_usesOfFact_114 : (.code yX1_narrow cX1_narrow 4 (some .long) : Cond) ∈ wsX10_usesOfFact := List.mem_of_getElem? (i := 114) rfl
set_option maxRecDepth 100000 in
theorem mw_wsX10_usesOfFact_113 : (.static yX1_narrow : Cond) ∈ wsX10_usesOfFact := List.mem_of_getElem? (i := 113) (by decide +kernel)
set_option maxRecDepth 100000 in
theorem mw_wsX10_usesOfFact_112 : (.methodLink RX1 158 yX1_narrow : Cond) ∈ wsX10_usesOfFact := List.mem_of_getElem? (i := 112) (by decide +kernel)
set_option maxRecDepth 100000 in
theorem mw_wsX10_usesOfFact_111 : (.code yX1_fork cX1_fork 12 none : Cond) ∈ wsX10_usesOfFact := List.mem_of_getElem? (i := 111) rfl
set_option maxRecDepth 100000 in
theorem mw_wsX10_usesOfFact_110 : (.selects RX1 yX1_fork yX1_fork : Cond) ∈ wsX10_usesOfFact := List.mem_of_getElem? (i := 110) (by decide +kernel)
set_option maxRecDepth 100000 in
theorem mw_wsX10_usesOfFact_109 : (.instanceMethod yX1_fork : Cond) ∈ wsX10_usesOfFact := List.mem_of_getElem? (i := 109) (by decide +kernel)
set_option maxRecDepth 100000 in
theorem mw_wsX10_usesOfFact_108 : (.methodLink RX1 144 yX1_fork : Cond) ∈ wsX10_usesOfFact := List.mem_of_getElem? (i := 108) (by decide +kernel)
set_option maxRecDepth 100000 in
theorem mw_wsX10_usesOfFact_107 : (.fieldLink RX0 11 "NothingJudge$Code" "cells" "[I" : Cond) ∈ wsX10_usesOfFact := List.mem_of_getElem? (i := 107) (by decide +kernel)
set_option maxRecDepth 100000 in
theorem mw_wsX10_usesOfFact_106 : (.fieldLink RX0 15 "NothingJudge$Code" "size" "I" : Cond) ∈ wsX10_usesOfFact := List.mem_of_getElem? (i := 106) (by decide +kernel)
set_option maxRecDepth 100000 in
theorem mc_wsX10_usesOfFact_wsX1_settle_r5 : ∀ w ∈ wsX1_settle_r5, w ∈ wsX10_usesOfFact := (List.forall_mem_cons.mpr ⟨mw_wsX10_usesOfFact_106, (List.forall_mem_cons.mpr ⟨mw_wsX10_usesOfFact_107, (List.forall_mem_cons.mpr ⟨mw_wsX10_usesOfFact_108, (List.forall_mem_cons.mpr ⟨mw_wsX10_usesOfFact_109, (List.forall_mem_cons.mpr ⟨mw_wsX10_usesOfFact_110, (List.forall_mem_cons.mpr ⟨mw_wsX10_usesOfFact_111, (List.forall_mem_cons.mpr ⟨mw_wsX10_usesOfFact_112, (List.forall_mem_cons.mpr ⟨mw_wsX10_usesOfFact_113, (List.forall_mem_cons.mpr ⟨mw_wsX10_usesOfFact_114, (List.forall_mem_cons.mpr ⟨mw_wsX10_usesOfFact_115, (List.forall_mem_cons.mpr ⟨mw_wsX10_usesOfFact_116, (List.forall_mem_cons.mpr ⟨mw_wsX10_usesOfFact_117, (List.forall_mem_cons.mpr ⟨mw_wsX10_usesOfFact_118, (List.forall_mem_cons.mpr ⟨mw_wsX10_usesOfFact_119, (List.forall_mem_cons.mpr ⟨mw_wsX10_usesOfFact_120, (List.forall_mem_cons.mpr ⟨mw_wsX10_usesOfFact_121, (List.forall_mem_cons.mpr ⟨mw_wsX10_usesOfFact_122, (List.forall_mem_cons.mpr ⟨mw_wsX10_usesOfFact_123, (List.forall_mem_cons.mpr ⟨mw_wsX10_usesOfFact_124, (List.forall_mem_cons.mpr ⟨mw_wsX10_usesOfFact_125, (List.forall_mem_cons.mpr ⟨mw_wsX10_usesOfFact_126, (List.forall_mem_cons.mpr ⟨mw_wsX10_usesOfFact_127, (List.forall_mem_cons.mpr ⟨mw_wsX10_usesOfFact_128, (List.forall_mem_cons.mpr ⟨mw_wsX10_usesOfFact_129, (fun _ h => absurd h List.not_mem_nil)⟩)⟩)⟩)⟩)⟩)⟩)⟩)⟩)⟩)⟩)⟩)⟩)⟩)⟩)⟩)⟩)⟩)⟩)⟩)⟩)⟩)⟩)⟩)⟩)
set_option maxRecDepth 100000 in
theorem mw_wsX10_usesOfFact_142 : (.code yX1_finish cX1_finish 5 none : Cond) ∈ wsX10_usesOfFact := List.mem_of_getElem? (i := 142) rfl
set_option maxRecDepth 100000 in
theorem mw_wsX10_usesOfFact_141 : (.selects RX1 yX1_finish yX1_finish : Cond) ∈ wsX10_usesOfFact := List.mem_of_getElem? (i := 141) (by decide +kernel)
set_option maxRecDepth 100000 in
theorem mw_wsX10_usesOfFact_140 : (.instanceMethod yX1_finish : Cond) ∈ wsX10_usesOfFact := List.mem_of_getElem? (i := 140) (by decide +kernel)
set_option maxRecDepth 100000 in
theorem mw_wsX10_usesOfFact_139 : (.methodLink RX1 154 yX1_finish : Cond) ∈ wsX10_usesOfFact := List.mem_of_getElem? (i := 139) (by decide +kernel)
set_option maxRecDepth 100000 in
theorem mw_wsX10_usesOfFact_138 : (.code yX0_argument cX0_argument 3 (some .int) : Cond) ∈ wsX10_usesOfFact := List.mem_of_getElem? (i := 138) rfl
set_option maxRecDepth 100000 in
theorem mw_wsX10_usesOfFact_137 : (.selects RX0 yX0_argument yX0_argument : Cond) ∈ wsX10_usesOfFact := List.mem_of_getElem? (i := 137) (by decide +kernel)
set_option maxRecDepth 100000 in
theorem mw_wsX10_usesOfFact_136 : (.instanceMethod yX0_argument : Cond) ∈ wsX10_usesOfFact := List.mem_of_getElem? (i := 136) (by decide +kernel)
set_option maxRecDepth 100000 in
theorem mw_wsX10_usesOfFact_135 : (.methodLink RX1 176 yX0_argument : Cond) ∈ wsX10_usesOfFact := List.mem_of_getElem? (i := 135) (by decide +kernel)
set_option maxRecDepth 100000 in
theorem mw_wsX10_usesOfFact_134 : (.methodLink RX0 23 yX0_get : Cond) ∈ wsX10_usesOfFact := List.mem_of_getElem? (i := 134) (by decide +kernel)
set_option maxRecDepth 100000 in
theorem mw_wsX10_usesOfFact_133 : (.code yX0_arguments cX0_arguments 2 (some .int) : Cond) ∈ wsX10_usesOfFact := List.mem_of_getElem? (i := 133) rfl
set_option maxRecDepth 100000 in
theorem mw_wsX10_usesOfFact_132 : (.selects RX0 yX0_arguments yX0_arguments : Cond) ∈ wsX10_usesOfFact := List.mem_of_getElem? (i := 132) (by decide +kernel)
set_option maxRecDepth 100000 in
theorem mw_wsX10_usesOfFact_131 : (.instanceMethod yX0_arguments : Cond) ∈ wsX10_usesOfFact := List.mem_of_getElem? (i := 131) (by decide +kernel)
set_option maxRecDepth 100000 in
theorem mw_wsX10_usesOfFact_130 : (.methodLink RX1 172 yX0_arguments : Cond) ∈ wsX10_usesOfFact := List.mem_of_getElem? (i := 130) (by decide +kernel)
set_option maxRecDepth 100000 in
theorem mc_wsX10_usesOfFact_wsX1_settle_r6 : ∀ w ∈ wsX1_settle_r6, w ∈ wsX10_usesOfFact := (List.forall_mem_cons.mpr ⟨mw_wsX10_usesOfFact_130, (List.forall_mem_cons.mpr ⟨mw_wsX10_usesOfFact_131, (List.forall_mem_cons.mpr ⟨mw_wsX10_usesOfFact_132, (List.forall_mem_cons.mpr ⟨mw_wsX10_usesOfFact_133, (List.forall_mem_cons.mpr ⟨mw_wsX10_usesOfFact_134, (List.forall_mem_cons.mpr ⟨mw_wsX10_usesOfFact_135, (List.forall_mem_cons.mpr ⟨mw_wsX10_usesOfFact_136, (List.forall_mem_cons.mpr ⟨mw_wsX10_usesOfFact_137, (List.forall_mem_cons.mpr ⟨mw_wsX10_usesOfFact_138, (List.forall_mem_cons.mpr ⟨mw_wsX10_usesOfFact_139, (List.forall_mem_cons.mpr ⟨mw_wsX10_usesOfFact_140, (List.forall_mem_cons.mpr ⟨mw_wsX10_usesOfFact_141, (List.forall_mem_cons.mpr ⟨mw_wsX10_usesOfFact_142, (fun _ h => absurd h List.not_mem_nil)⟩)⟩)⟩)⟩)⟩)⟩)⟩)⟩)⟩)⟩)⟩)⟩)⟩)
set_option maxRecDepth 20000 in
theorem ggX10_usesOfFact_X1_settle : GoodIn wsX10_usesOfFact wsX1_settle := goodIn_sub (List.forall_mem_cons.mpr ⟨mw_wsX10_usesOfFact_10, (wK_app (wK_app (wK_app (wK_app (wK_app mc_wsX10_usesOfFact_wsX1_settle_r1 (wK_app mc_wsX10_usesOfFact_wsX1_settle_r2 (wK_app mc_wsX10_usesOfFact_wsX1_settle_r3 (wK_app mc_wsX10_usesOfFact_wsX1_settle_r4 (wK_app mc_wsX10_usesOfFact_wsX1_settle_r5 mc_wsX10_usesOfFact_wsX1_settle_r6))))) (fun _ h => List.mem_cons_of_mem _ (List.mem_append_left _ (List.mem_append_right _ h)))) (fun _ h => List.mem_cons_of_mem _ (List.mem_append_right _ h))) (fun _ h => List.mem_cons_of_mem _ (List.mem_append_left _ (List.mem_append_left _ (List.mem_append_left _ (List.mem_append_right _ h)))))) (fun _ h => List.mem_cons_of_mem _ (List.mem_append_left _ (List.mem_append_left _ (List.mem_append_right _ h)))))⟩) (by decide +kernel)
set_option maxRecDepth 20000 in
theorem gX10_usesOfFact_X1_settle : GoodIn wsX10_usesOfFact (wsV RX10 146 RX1 yX1_settle wsX1_settle) := goodIn_app (goodIn_of _ (by decide +kernel)) ggX10_usesOfFact_X1_settle
theorem dX10_usesOfFact_0 : decode cX10_usesOfFact 0 = .ok (.aload_n 0, 1) := by decide +kernel
theorem dX10_usesOfFact_1 : decode cX10_usesOfFact 1 = .ok (.getfield 54, 3) := by decide +kernel
theorem dX10_usesOfFact_4 : decode cX10_usesOfFact 4 = .ok (.lconst 0, 1) := by decide +kernel
theorem dX10_usesOfFact_5 : decode cX10_usesOfFact 5 = .ok (.invokevirtual 146, 3) := by decide +kernel
theorem dX10_usesOfFact_8 : decode cX10_usesOfFact 8 = .ok (.iconst 0, 1) := by decide +kernel
theorem dX10_usesOfFact_9 : decode cX10_usesOfFact 9 = .ok (.istore_n 2, 1) := by decide +kernel
theorem dX10_usesOfFact_10 : decode cX10_usesOfFact 10 = .ok (.iconst 0, 1) := by decide +kernel
theorem dX10_usesOfFact_11 : decode cX10_usesOfFact 11 = .ok (.istore_n 3, 1) := by decide +kernel
theorem dX10_usesOfFact_12 : decode cX10_usesOfFact 12 = .ok (.iload_n 3, 1) := by decide +kernel
theorem dX10_usesOfFact_13 : decode cX10_usesOfFact 13 = .ok (.aload_n 0, 1) := by decide +kernel
theorem dX10_usesOfFact_14 : decode cX10_usesOfFact 14 = .ok (.getfield 45, 3) := by decide +kernel
theorem dX10_usesOfFact_17 : decode cX10_usesOfFact 17 = .ok (.getfield 110, 3) := by decide +kernel
theorem dX10_usesOfFact_20 : decode cX10_usesOfFact 20 = .ok (.getfield 157, 3) := by decide +kernel
theorem dX10_usesOfFact_23 : decode cX10_usesOfFact 23 = .ok (.if_icmp .ge 27, 3) := by decide +kernel
theorem dX10_usesOfFact_50 : decode cX10_usesOfFact 50 = .ok (.iload_n 2, 1) := by decide +kernel
theorem dX10_usesOfFact_51 : decode cX10_usesOfFact 51 = .ok (.ireturn, 1) := by decide +kernel
theorem dX11_init_0 : decode cX11_init 0 = .ok (.aload_n 0, 1) := by decide +kernel
theorem dX11_init_1 : decode cX11_init 1 = .ok (.invokespecial 1, 3) := by decide +kernel
theorem dX11_init_4 : decode cX11_init 4 = .ok (.aload_n 0, 1) := by decide +kernel
theorem dX11_init_5 : decode cX11_init 5 = .ok (.sipush 1200, 3) := by decide +kernel
theorem dX11_init_8 : decode cX11_init 8 = .ok (.newarray .int, 2) := by decide +kernel
theorem dX11_init_10 : decode cX11_init 10 = .ok (.putfield 7, 3) := by decide +kernel
theorem dX11_init_13 : decode cX11_init 13 = .ok (.aload_n 0, 1) := by decide +kernel
theorem dX11_init_14 : decode cX11_init 14 = .ok (.iconst (-1), 1) := by decide +kernel
theorem dX11_init_15 : decode cX11_init 15 = .ok (.putfield 13, 3) := by decide +kernel
theorem dX11_init_18 : decode cX11_init 18 = .ok (.aload_n 0, 1) := by decide +kernel
theorem dX11_init_19 : decode cX11_init 19 = .ok (.sipush 2600, 3) := by decide +kernel
theorem dX11_init_22 : decode cX11_init 22 = .ok (.newarray .int, 2) := by decide +kernel
theorem dX11_init_24 : decode cX11_init 24 = .ok (.putfield 17, 3) := by decide +kernel
theorem dX11_init_27 : decode cX11_init 27 = .ok (.aload_n 0, 1) := by decide +kernel
theorem dX11_init_28 : decode cX11_init 28 = .ok (.sipush 2600, 3) := by decide +kernel
theorem dX11_init_31 : decode cX11_init 31 = .ok (.newarray .int, 2) := by decide +kernel
theorem dX11_init_33 : decode cX11_init 33 = .ok (.putfield 20, 3) := by decide +kernel
theorem dX11_init_36 : decode cX11_init 36 = .ok (.aload_n 0, 1) := by decide +kernel
theorem dX11_init_37 : decode cX11_init 37 = .ok (.sipush 2600, 3) := by decide +kernel
theorem dX11_init_40 : decode cX11_init 40 = .ok (.newarray .int, 2) := by decide +kernel
theorem dX11_init_42 : decode cX11_init 42 = .ok (.putfield 23, 3) := by decide +kernel
theorem dX11_init_45 : decode cX11_init 45 = .ok (.aload_n 0, 1) := by decide +kernel
theorem dX11_init_46 : decode cX11_init 46 = .ok (.sipush 2600, 3) := by decide +kernel
theorem dX11_init_49 : decode cX11_init 49 = .ok (.newarray .int, 2) := by decide +kernel
theorem dX11_init_51 : decode cX11_init 51 = .ok (.putfield 26, 3) := by decide +kernel
theorem dX11_init_54 : decode cX11_init 54 = .ok (.aload_n 0, 1) := by decide +kernel
theorem dX11_init_55 : decode cX11_init 55 = .ok (.sipush 2600, 3) := by decide +kernel
theorem dX11_init_58 : decode cX11_init 58 = .ok (.newarray .int, 2) := by decide +kernel
theorem dX11_init_60 : decode cX11_init 60 = .ok (.putfield 29, 3) := by decide +kernel
theorem dX11_init_63 : decode cX11_init 63 = .ok (.aload_n 0, 1) := by decide +kernel
theorem dX11_init_64 : decode cX11_init 64 = .ok (.bipush 16, 2) := by decide +kernel
theorem dX11_init_66 : decode cX11_init 66 = .ok (.newarray .int, 2) := by decide +kernel
theorem dX11_init_68 : decode cX11_init 68 = .ok (.putfield 32, 3) := by decide +kernel
theorem dX11_init_71 : decode cX11_init 71 = .ok (.aload_n 0, 1) := by decide +kernel
theorem dX11_init_72 : decode cX11_init 72 = .ok (.bipush 16, 2) := by decide +kernel
theorem dX11_init_74 : decode cX11_init 74 = .ok (.newarray .int, 2) := by decide +kernel
theorem dX11_init_76 : decode cX11_init 76 = .ok (.putfield 35, 3) := by decide +kernel
theorem dX11_init_79 : decode cX11_init 79 = .ok (.aload_n 0, 1) := by decide +kernel
theorem dX11_init_80 : decode cX11_init 80 = .ok (.bipush 64, 2) := by decide +kernel
theorem dX11_init_82 : decode cX11_init 82 = .ok (.newarray .int, 2) := by decide +kernel
theorem dX11_init_84 : decode cX11_init 84 = .ok (.putfield 38, 3) := by decide +kernel
theorem dX11_init_87 : decode cX11_init 87 = .ok (.aload_n 0, 1) := by decide +kernel
theorem dX11_init_88 : decode cX11_init 88 = .ok (.iconst 2, 1) := by decide +kernel
theorem dX11_init_89 : decode cX11_init 89 = .ok (.newarray .int, 2) := by decide +kernel
theorem dX11_init_91 : decode cX11_init 91 = .ok (.putfield 41, 3) := by decide +kernel
theorem dX11_init_94 : decode cX11_init 94 = .ok (.aload_n 0, 1) := by decide +kernel
theorem dX11_init_95 : decode cX11_init 95 = .ok (.bipush 82, 2) := by decide +kernel
theorem dX11_init_97 : decode cX11_init 97 = .ok (.newarray .int, 2) := by decide +kernel
theorem dX11_init_99 : decode cX11_init 99 = .ok (.putfield 44, 3) := by decide +kernel
theorem dX11_init_102 : decode cX11_init 102 = .ok (.aload_n 0, 1) := by decide +kernel
theorem dX11_init_103 : decode cX11_init 103 = .ok (.bipush 82, 2) := by decide +kernel
theorem dX11_init_105 : decode cX11_init 105 = .ok (.newarray .int, 2) := by decide +kernel
theorem dX11_init_107 : decode cX11_init 107 = .ok (.putfield 47, 3) := by decide +kernel
theorem dX11_init_110 : decode cX11_init 110 = .ok (.aload_n 0, 1) := by decide +kernel
theorem dX11_init_111 : decode cX11_init 111 = .ok (.bipush 82, 2) := by decide +kernel
theorem dX11_init_113 : decode cX11_init 113 = .ok (.newarray .int, 2) := by decide +kernel
theorem dX11_init_115 : decode cX11_init 115 = .ok (.putfield 50, 3) := by decide +kernel
theorem dX11_init_118 : decode cX11_init 118 = .ok (.aload_n 0, 1) := by decide +kernel
theorem dX11_init_119 : decode cX11_init 119 = .ok (.iconst 2, 1) := by decide +kernel
theorem dX11_init_120 : decode cX11_init 120 = .ok (.newarray .int, 2) := by decide +kernel
theorem dX11_init_122 : decode cX11_init 122 = .ok (.putfield 53, 3) := by decide +kernel
theorem dX11_init_125 : decode cX11_init 125 = .ok (.aload_n 0, 1) := by decide +kernel
theorem dX11_init_126 : decode cX11_init 126 = .ok (.bipush 50, 2) := by decide +kernel
theorem dX11_init_128 : decode cX11_init 128 = .ok (.newarray .int, 2) := by decide +kernel
theorem dX11_init_130 : decode cX11_init 130 = .ok (.putfield 56, 3) := by decide +kernel
theorem dX11_init_133 : decode cX11_init 133 = .ok (.aload_n 0, 1) := by decide +kernel
theorem dX11_init_134 : decode cX11_init 134 = .ok (.bipush 50, 2) := by decide +kernel
theorem dX11_init_136 : decode cX11_init 136 = .ok (.newarray .int, 2) := by decide +kernel
theorem dX11_init_138 : decode cX11_init 138 = .ok (.putfield 59, 3) := by decide +kernel
theorem dX11_init_141 : decode cX11_init 141 = .ok (.aload_n 0, 1) := by decide +kernel
theorem dX11_init_142 : decode cX11_init 142 = .ok (.iconst 2, 1) := by decide +kernel
theorem dX11_init_143 : decode cX11_init 143 = .ok (.newarray .int, 2) := by decide +kernel
theorem dX11_init_145 : decode cX11_init 145 = .ok (.putfield 62, 3) := by decide +kernel
theorem dX11_init_148 : decode cX11_init 148 = .ok (.aload_n 0, 1) := by decide +kernel
theorem dX11_init_149 : decode cX11_init 149 = .ok (.sipush 400, 3) := by decide +kernel
theorem dX11_init_152 : decode cX11_init 152 = .ok (.newarray .int, 2) := by decide +kernel
theorem dX11_init_154 : decode cX11_init 154 = .ok (.putfield 65, 3) := by decide +kernel
theorem dX11_init_157 : decode cX11_init 157 = .ok (.aload_n 0, 1) := by decide +kernel
theorem dX11_init_158 : decode cX11_init 158 = .ok (.sipush 400, 3) := by decide +kernel
theorem dX11_init_161 : decode cX11_init 161 = .ok (.newarray .int, 2) := by decide +kernel
theorem dX11_init_163 : decode cX11_init 163 = .ok (.putfield 68, 3) := by decide +kernel
theorem dX11_init_166 : decode cX11_init 166 = .ok (.aload_n 0, 1) := by decide +kernel
theorem dX11_init_167 : decode cX11_init 167 = .ok (.sipush 400, 3) := by decide +kernel
theorem dX11_init_170 : decode cX11_init 170 = .ok (.newarray .int, 2) := by decide +kernel
theorem dX11_init_172 : decode cX11_init 172 = .ok (.putfield 71, 3) := by decide +kernel
theorem dX11_init_175 : decode cX11_init 175 = .ok (.aload_n 0, 1) := by decide +kernel
theorem dX11_init_176 : decode cX11_init 176 = .ok (.bipush 8, 2) := by decide +kernel
theorem dX11_init_178 : decode cX11_init 178 = .ok (.newarray .int, 2) := by decide +kernel
theorem dX11_init_180 : decode cX11_init 180 = .ok (.putfield 74, 3) := by decide +kernel
theorem dX11_init_183 : decode cX11_init 183 = .ok (.aload_n 0, 1) := by decide +kernel
theorem dX11_init_184 : decode cX11_init 184 = .ok (.bipush 8, 2) := by decide +kernel
theorem dX11_init_186 : decode cX11_init 186 = .ok (.newarray .int, 2) := by decide +kernel
theorem dX11_init_188 : decode cX11_init 188 = .ok (.putfield 77, 3) := by decide +kernel
theorem dX11_init_191 : decode cX11_init 191 = .ok (.aload_n 0, 1) := by decide +kernel
theorem dX11_init_192 : decode cX11_init 192 = .ok (.bipush 8, 2) := by decide +kernel
theorem dX11_init_194 : decode cX11_init 194 = .ok (.newarray .int, 2) := by decide +kernel
theorem dX11_init_196 : decode cX11_init 196 = .ok (.putfield 80, 3) := by decide +kernel
theorem dX11_init_199 : decode cX11_init 199 = .ok (.aload_n 0, 1) := by decide +kernel
theorem dX11_init_200 : decode cX11_init 200 = .ok (.iconst (-1), 1) := by decide +kernel
theorem dX11_init_201 : decode cX11_init 201 = .ok (.putfield 83, 3) := by decide +kernel
theorem dX11_init_204 : decode cX11_init 204 = .ok (.aload_n 0, 1) := by decide +kernel
theorem dX11_init_205 : decode cX11_init 205 = .ok (.iconst 4, 1) := by decide +kernel
theorem dX11_init_206 : decode cX11_init 206 = .ok (.newarray .int, 2) := by decide +kernel
theorem dX11_init_208 : decode cX11_init 208 = .ok (.putfield 86, 3) := by decide +kernel
theorem dX11_init_211 : decode cX11_init 211 = .ok (.aload_n 0, 1) := by decide +kernel
theorem dX11_init_212 : decode cX11_init 212 = .ok (.sipush 1300, 3) := by decide +kernel
theorem dX11_init_215 : decode cX11_init 215 = .ok (.newarray .long, 2) := by decide +kernel
theorem dX11_init_217 : decode cX11_init 217 = .ok (.putfield 89, 3) := by decide +kernel
theorem dX11_init_220 : decode cX11_init 220 = .ok (.aload_n 0, 1) := by decide +kernel
theorem dX11_init_221 : decode cX11_init 221 = .ok (.bipush 42, 2) := by decide +kernel
theorem dX11_init_223 : decode cX11_init 223 = .ok (.newarray .int, 2) := by decide +kernel
theorem dX11_init_225 : decode cX11_init 225 = .ok (.putfield 93, 3) := by decide +kernel
theorem dX11_init_228 : decode cX11_init 228 = .ok (.aload_n 0, 1) := by decide +kernel
theorem dX11_init_229 : decode cX11_init 229 = .ok (.bipush 42, 2) := by decide +kernel
theorem dX11_init_231 : decode cX11_init 231 = .ok (.newarray .boolean, 2) := by decide +kernel
theorem dX11_init_233 : decode cX11_init 233 = .ok (.putfield 96, 3) := by decide +kernel
theorem dX11_init_236 : decode cX11_init 236 = .ok (.aload_n 0, 1) := by decide +kernel
theorem dX11_init_237 : decode cX11_init 237 = .ok (.bipush 25, 2) := by decide +kernel
theorem dX11_init_239 : decode cX11_init 239 = .ok (.newarray .int, 2) := by decide +kernel
theorem dX11_init_241 : decode cX11_init 241 = .ok (.putfield 100, 3) := by decide +kernel
theorem dX11_init_244 : decode cX11_init 244 = .ok (.aload_n 0, 1) := by decide +kernel
theorem dX11_init_245 : decode cX11_init 245 = .ok (.sipush 602, 3) := by decide +kernel
theorem dX11_init_248 : decode cX11_init 248 = .ok (.newarray .int, 2) := by decide +kernel
theorem dX11_init_250 : decode cX11_init 250 = .ok (.putfield 103, 3) := by decide +kernel
theorem dX11_init_253 : decode cX11_init 253 = .ok (.aload_n 0, 1) := by decide +kernel
theorem dX11_init_254 : decode cX11_init 254 = .ok (.sipush 364, 3) := by decide +kernel
theorem dX11_init_257 : decode cX11_init 257 = .ok (.newarray .int, 2) := by decide +kernel
theorem dX11_init_259 : decode cX11_init 259 = .ok (.putfield 106, 3) := by decide +kernel
theorem dX11_init_262 : decode cX11_init 262 = .ok (.aload_n 0, 1) := by decide +kernel
theorem dX11_init_263 : decode cX11_init 263 = .ok (.bipush 14, 2) := by decide +kernel
theorem dX11_init_265 : decode cX11_init 265 = .ok (.newarray .int, 2) := by decide +kernel
theorem dX11_init_267 : decode cX11_init 267 = .ok (.putfield 109, 3) := by decide +kernel
theorem dX11_init_270 : decode cX11_init 270 = .ok (.aload_n 0, 1) := by decide +kernel
theorem dX11_init_271 : decode cX11_init 271 = .ok (.iconst 4, 1) := by decide +kernel
theorem dX11_init_272 : decode cX11_init 272 = .ok (.newarray .int, 2) := by decide +kernel
theorem dX11_init_274 : decode cX11_init 274 = .ok (.putfield 112, 3) := by decide +kernel
theorem dX11_init_277 : decode cX11_init 277 = .ok (.aload_n 0, 1) := by decide +kernel
theorem dX11_init_278 : decode cX11_init 278 = .ok (.bipush 10, 2) := by decide +kernel
theorem dX11_init_280 : decode cX11_init 280 = .ok (.newarray .int, 2) := by decide +kernel
theorem dX11_init_282 : decode cX11_init 282 = .ok (.putfield 115, 3) := by decide +kernel
theorem dX11_init_285 : decode cX11_init 285 = .ok (.aload_n 0, 1) := by decide +kernel
theorem dX11_init_286 : decode cX11_init 286 = .ok (.bipush 10, 2) := by decide +kernel
theorem dX11_init_288 : decode cX11_init 288 = .ok (.newarray .int, 2) := by decide +kernel
theorem dX11_init_290 : decode cX11_init 290 = .ok (.putfield 118, 3) := by decide +kernel
theorem dX11_init_293 : decode cX11_init 293 = .ok (.iconst 0, 1) := by decide +kernel
theorem dX11_init_294 : decode cX11_init 294 = .ok (.istore_n 1, 1) := by decide +kernel
theorem dX11_init_295 : decode cX11_init 295 = .ok (.iload_n 1, 1) := by decide +kernel
theorem dX11_init_296 : decode cX11_init 296 = .ok (.bipush 16, 2) := by decide +kernel
theorem dX11_init_298 : decode cX11_init 298 = .ok (.if_icmp .ge 16, 3) := by decide +kernel
theorem dX11_init_301 : decode cX11_init 301 = .ok (.aload_n 0, 1) := by decide +kernel
theorem dX11_init_302 : decode cX11_init 302 = .ok (.getfield 32, 3) := by decide +kernel
theorem dX11_init_305 : decode cX11_init 305 = .ok (.iload_n 1, 1) := by decide +kernel
theorem dX11_init_306 : decode cX11_init 306 = .ok (.iconst (-1), 1) := by decide +kernel
theorem dX11_init_307 : decode cX11_init 307 = .ok (.iastore, 1) := by decide +kernel
theorem dX11_init_308 : decode cX11_init 308 = .ok (.iinc 1 1, 3) := by decide +kernel
theorem dX11_init_311 : decode cX11_init 311 = .ok (.goto (-16), 3) := by decide +kernel
theorem dX11_init_314 : decode cX11_init 314 = .ok (.aload_n 0, 1) := by decide +kernel
theorem dX11_init_315 : decode cX11_init 315 = .ok (.getfield 112, 3) := by decide +kernel
theorem dX11_init_318 : decode cX11_init 318 = .ok (.iconst 0, 1) := by decide +kernel
theorem dX11_init_319 : decode cX11_init 319 = .ok (.iconst 3, 1) := by decide +kernel
theorem dX11_init_320 : decode cX11_init 320 = .ok (.iastore, 1) := by decide +kernel
theorem dX11_init_321 : decode cX11_init 321 = .ok (.aload_n 0, 1) := by decide +kernel
theorem dX11_init_322 : decode cX11_init 322 = .ok (.getfield 112, 3) := by decide +kernel
theorem dX11_init_325 : decode cX11_init 325 = .ok (.iconst 1, 1) := by decide +kernel
theorem dX11_init_326 : decode cX11_init 326 = .ok (.iconst 2, 1) := by decide +kernel
theorem dX11_init_327 : decode cX11_init 327 = .ok (.iastore, 1) := by decide +kernel
theorem dX11_init_328 : decode cX11_init 328 = .ok (.aload_n 0, 1) := by decide +kernel
theorem dX11_init_329 : decode cX11_init 329 = .ok (.getfield 112, 3) := by decide +kernel
theorem dX11_init_332 : decode cX11_init 332 = .ok (.iconst 2, 1) := by decide +kernel
theorem dX11_init_333 : decode cX11_init 333 = .ok (.iconst 5, 1) := by decide +kernel
theorem dX11_init_334 : decode cX11_init 334 = .ok (.iastore, 1) := by decide +kernel
theorem dX11_init_335 : decode cX11_init 335 = .ok (.aload_n 0, 1) := by decide +kernel
theorem dX11_init_336 : decode cX11_init 336 = .ok (.getfield 112, 3) := by decide +kernel
theorem dX11_init_339 : decode cX11_init 339 = .ok (.iconst 3, 1) := by decide +kernel
theorem dX11_init_340 : decode cX11_init 340 = .ok (.iconst 4, 1) := by decide +kernel
theorem dX11_init_341 : decode cX11_init 341 = .ok (.iastore, 1) := by decide +kernel
theorem dX11_init_342 : decode cX11_init 342 = .ok (.return_, 1) := by decide +kernel
theorem dX11_feed_0 : decode cX11_feed 0 = .ok (.aload_n 0, 1) := by decide +kernel
theorem dX11_feed_1 : decode cX11_feed 1 = .ok (.iconst 0, 1) := by decide +kernel
theorem dX11_feed_2 : decode cX11_feed 2 = .ok (.putfield 121, 3) := by decide +kernel
theorem dX11_feed_5 : decode cX11_feed 5 = .ok (.aload_n 0, 1) := by decide +kernel
theorem dX11_feed_6 : decode cX11_feed 6 = .ok (.getfield 124, 3) := by decide +kernel
theorem dX11_feed_9 : decode cX11_feed 9 = .ok (.sipush 1180, 3) := by decide +kernel
theorem dX11_feed_12 : decode cX11_feed 12 = .ok (.if_icmp .le 5, 3) := by decide +kernel
theorem dX11_feed_17 : decode cX11_feed 17 = .ok (.iconst 0, 1) := by decide +kernel
theorem dX11_feed_18 : decode cX11_feed 18 = .ok (.istore 6, 2) := by decide +kernel
theorem dX11_feed_20 : decode cX11_feed 20 = .ok (.iload 6, 2) := by decide +kernel
theorem dX11_feed_22 : decode cX11_feed 22 = .ok (.bipush 20, 2) := by decide +kernel
theorem dX11_feed_24 : decode cX11_feed 24 = .ok (.if_icmp .ge 86, 3) := by decide +kernel
theorem dX11_feed_27 : decode cX11_feed 27 = .ok (.iload 6, 2) := by decide +kernel
theorem dX11_feed_29 : decode cX11_feed 29 = .ok (.iconst 4, 1) := by decide +kernel
theorem dX11_feed_30 : decode cX11_feed 30 = .ok (.if_icmp .ge 7, 3) := by decide +kernel
theorem dX11_feed_33 : decode cX11_feed 33 = .ok (.iload_n 1, 1) := by decide +kernel
theorem dX11_feed_34 : decode cX11_feed 34 = .ok (.goto 39, 3) := by decide +kernel
theorem dX11_feed_37 : decode cX11_feed 37 = .ok (.iload 6, 2) := by decide +kernel
theorem dX11_feed_39 : decode cX11_feed 39 = .ok (.bipush 8, 2) := by decide +kernel
theorem dX11_feed_41 : decode cX11_feed 41 = .ok (.if_icmp .ge 7, 3) := by decide +kernel
theorem dX11_feed_44 : decode cX11_feed 44 = .ok (.iload_n 2, 1) := by decide +kernel
theorem dX11_feed_45 : decode cX11_feed 45 = .ok (.goto 28, 3) := by decide +kernel
theorem dX11_feed_48 : decode cX11_feed 48 = .ok (.iload 6, 2) := by decide +kernel
theorem dX11_feed_50 : decode cX11_feed 50 = .ok (.bipush 12, 2) := by decide +kernel
theorem dX11_feed_52 : decode cX11_feed 52 = .ok (.if_icmp .ge 7, 3) := by decide +kernel
theorem dX11_feed_55 : decode cX11_feed 55 = .ok (.iload_n 3, 1) := by decide +kernel
theorem dX11_feed_56 : decode cX11_feed 56 = .ok (.goto 17, 3) := by decide +kernel
theorem dX11_feed_59 : decode cX11_feed 59 = .ok (.iload 6, 2) := by decide +kernel
theorem dX11_feed_61 : decode cX11_feed 61 = .ok (.bipush 16, 2) := by decide +kernel
theorem dX11_feed_63 : decode cX11_feed 63 = .ok (.if_icmp .ge 8, 3) := by decide +kernel
theorem dX11_feed_66 : decode cX11_feed 66 = .ok (.iload 4, 2) := by decide +kernel
theorem dX11_feed_68 : decode cX11_feed 68 = .ok (.goto 5, 3) := by decide +kernel
theorem dX11_feed_71 : decode cX11_feed 71 = .ok (.iload 5, 2) := by decide +kernel
theorem dX11_feed_73 : decode cX11_feed 73 = .ok (.istore 7, 2) := by decide +kernel
theorem dX11_feed_75 : decode cX11_feed 75 = .ok (.aload_n 0, 1) := by decide +kernel
theorem dX11_feed_76 : decode cX11_feed 76 = .ok (.getfield 7, 3) := by decide +kernel
theorem dX11_feed_79 : decode cX11_feed 79 = .ok (.aload_n 0, 1) := by decide +kernel
theorem dX11_feed_80 : decode cX11_feed 80 = .ok (.getfield 124, 3) := by decide +kernel
theorem dX11_feed_83 : decode cX11_feed 83 = .ok (.iload 6, 2) := by decide +kernel
theorem dX11_feed_85 : decode cX11_feed 85 = .ok (.iadd, 1) := by decide +kernel
theorem dX11_feed_86 : decode cX11_feed 86 = .ok (.iload 7, 2) := by decide +kernel
theorem dX11_feed_88 : decode cX11_feed 88 = .ok (.bipush 24, 2) := by decide +kernel
theorem dX11_feed_90 : decode cX11_feed 90 = .ok (.bipush 8, 2) := by decide +kernel
theorem dX11_feed_92 : decode cX11_feed 92 = .ok (.iload 6, 2) := by decide +kernel
theorem dX11_feed_94 : decode cX11_feed 94 = .ok (.iconst 4, 1) := by decide +kernel
theorem dX11_feed_95 : decode cX11_feed 95 = .ok (.irem, 1) := by decide +kernel
theorem dX11_feed_96 : decode cX11_feed 96 = .ok (.imul, 1) := by decide +kernel
theorem dX11_feed_97 : decode cX11_feed 97 = .ok (.isub, 1) := by decide +kernel
theorem dX11_feed_98 : decode cX11_feed 98 = .ok (.ishr, 1) := by decide +kernel
theorem dX11_feed_99 : decode cX11_feed 99 = .ok (.sipush 255, 3) := by decide +kernel
theorem dX11_feed_102 : decode cX11_feed 102 = .ok (.iand, 1) := by decide +kernel
theorem dX11_feed_103 : decode cX11_feed 103 = .ok (.iastore, 1) := by decide +kernel
theorem dX11_feed_104 : decode cX11_feed 104 = .ok (.iinc 6 1, 3) := by decide +kernel
theorem dX11_feed_107 : decode cX11_feed 107 = .ok (.goto (-87), 3) := by decide +kernel
theorem dX11_feed_110 : decode cX11_feed 110 = .ok (.aload_n 0, 1) := by decide +kernel
theorem dX11_feed_111 : decode cX11_feed 111 = .ok (.dup, 1) := by decide +kernel
theorem dX11_feed_112 : decode cX11_feed 112 = .ok (.getfield 124, 3) := by decide +kernel
theorem dX11_feed_115 : decode cX11_feed 115 = .ok (.bipush 20, 2) := by decide +kernel
theorem dX11_feed_117 : decode cX11_feed 117 = .ok (.iadd, 1) := by decide +kernel
theorem dX11_feed_118 : decode cX11_feed 118 = .ok (.putfield 124, 3) := by decide +kernel
theorem dX11_feed_121 : decode cX11_feed 121 = .ok (.aload_n 0, 1) := by decide +kernel
theorem dX11_feed_122 : decode cX11_feed 122 = .ok (.getfield 124, 3) := by decide +kernel
theorem dX11_feed_125 : decode cX11_feed 125 = .ok (.ireturn, 1) := by decide +kernel
theorem dX11_here_0 : decode cX11_here 0 = .ok (.aload_n 0, 1) := by decide +kernel
theorem dX11_here_1 : decode cX11_here 1 = .ok (.getfield 127, 3) := by decide +kernel
theorem dX11_here_4 : decode cX11_here 4 = .ok (.aload_n 0, 1) := by decide +kernel
theorem dX11_here_5 : decode cX11_here 5 = .ok (.getfield 130, 3) := by decide +kernel
theorem dX11_here_8 : decode cX11_here 8 = .ok (.if_icmp .ge 15, 3) := by decide +kernel
theorem dX11_here_23 : decode cX11_here 23 = .ok (.iconst (-1), 1) := by decide +kernel
theorem dX11_here_24 : decode cX11_here 24 = .ok (.ireturn, 1) := by decide +kernel
set_option maxRecDepth 100000 in
theorem mw_wsX11_next_9 : (.code yX11_here cX11_here 1 (some .int) : Cond) ∈ wsX11_next := List.mem_of_getElem? (i := 9) rfl
set_option maxRecDepth 100000 in
theorem mw_wsX11_next_11 : (.fieldLink RX11 7 "NothingJudgeModel" "tape" "[I" : Cond) ∈ wsX11_next := List.mem_of_getElem? (i := 11) (by decide +kernel)
set_option maxRecDepth 100000 in
theorem mw_wsX11_next_10 : (.fieldLink RX11 130 "NothingJudgeModel" "size" "I" : Cond) ∈ wsX11_next := List.mem_of_getElem? (i := 10) (by decide +kernel)
set_option maxRecDepth 100000 in
theorem mw_wsX11_next_1 : (.fieldLink RX11 127 "NothingJudgeModel" "at" "I" : Cond) ∈ wsX11_next := List.mem_of_getElem? (i := 1) (by decide +kernel)
set_option maxRecDepth 20000 in
theorem ggX11_next_X11_here : GoodIn wsX11_next wsX11_here := goodIn_sub (List.forall_mem_cons.mpr ⟨mw_wsX11_next_9, (wK_app (List.forall_mem_cons.mpr ⟨mw_wsX11_next_1, (List.forall_mem_cons.mpr ⟨mw_wsX11_next_10, (List.forall_mem_cons.mpr ⟨mw_wsX11_next_11, (fun _ h => absurd h List.not_mem_nil)⟩)⟩)⟩) (fun _ h => List.mem_cons_of_mem _ (List.mem_append_right _ h)))⟩) (by decide +kernel)
set_option maxRecDepth 20000 in
theorem gX11_next_X11_here : GoodIn wsX11_next (wsV RX11 133 RX11 yX11_here wsX11_here) := goodIn_app (goodIn_of _ (by decide +kernel)) ggX11_next_X11_here
theorem dX11_next_0 : decode cX11_next 0 = .ok (.aload_n 0, 1) := by decide +kernel
theorem dX11_next_1 : decode cX11_next 1 = .ok (.invokevirtual 133, 3) := by decide +kernel
theorem dX11_next_4 : decode cX11_next 4 = .ok (.bipush 10, 2) := by decide +kernel
theorem dX11_next_6 : decode cX11_next 6 = .ok (.if_icmp .eq 12, 3) := by decide +kernel
theorem dX11_next_9 : decode cX11_next 9 = .ok (.aload_n 0, 1) := by decide +kernel
theorem dX11_next_10 : decode cX11_next 10 = .ok (.invokevirtual 133, 3) := by decide +kernel
theorem dX11_next_13 : decode cX11_next 13 = .ok (.bipush 32, 2) := by decide +kernel
theorem dX11_next_15 : decode cX11_next 15 = .ok (.if_icmp .ne 16, 3) := by decide +kernel
theorem dX11_next_31 : decode cX11_next 31 = .ok (.aload_n 0, 1) := by decide +kernel
theorem dX11_next_32 : decode cX11_next 32 = .ok (.aload_n 0, 1) := by decide +kernel
theorem dX11_next_33 : decode cX11_next 33 = .ok (.getfield 127, 3) := by decide +kernel
theorem dX11_next_36 : decode cX11_next 36 = .ok (.putfield 137, 3) := by decide +kernel
theorem dX11_next_39 : decode cX11_next 39 = .ok (.aload_n 0, 1) := by decide +kernel
theorem dX11_next_40 : decode cX11_next 40 = .ok (.invokevirtual 133, 3) := by decide +kernel
theorem dX11_next_43 : decode cX11_next 43 = .ok (.istore_n 1, 1) := by decide +kernel
theorem dX11_next_44 : decode cX11_next 44 = .ok (.iload_n 1, 1) := by decide +kernel
theorem dX11_next_45 : decode cX11_next 45 = .ok (.iconst (-1), 1) := by decide +kernel
theorem dX11_next_46 : decode cX11_next 46 = .ok (.if_icmp .ne 11, 3) := by decide +kernel
theorem dX11_next_49 : decode cX11_next 49 = .ok (.aload_n 0, 1) := by decide +kernel
theorem dX11_next_50 : decode cX11_next 50 = .ok (.iconst 4, 1) := by decide +kernel
theorem dX11_next_51 : decode cX11_next 51 = .ok (.putfield 140, 3) := by decide +kernel
theorem dX11_next_54 : decode cX11_next 54 = .ok (.goto 215, 3) := by decide +kernel
theorem dX11_next_269 : decode cX11_next 269 = .ok (.return_, 1) := by decide +kernel
set_option maxRecDepth 100000 in
theorem mw_wsX11_parses_20 : (.code yX11_next cX11_next 3 none : Cond) ∈ wsX11_parses := List.mem_of_getElem? (i := 20) rfl
set_option maxRecDepth 100000 in
theorem mw_wsX11_parses_41 : (.fieldLink RJ0 9 "java/lang/String" "value" "[B" : Cond) ∈ wsX11_parses := List.mem_of_getElem? (i := 41) (by decide +kernel)
set_option maxRecDepth 100000 in
theorem mw_wsX11_parses_40 : (.code yJ0_length_8abf5 cJ0_length_8abf5 1 (some .int) : Cond) ∈ wsX11_parses := List.mem_of_getElem? (i := 40) rfl
set_option maxRecDepth 100000 in
theorem mw_wsX11_parses_39 : (.initialized RJ0 : Cond) ∈ wsX11_parses := List.mem_of_getElem? (i := 39) (by decide +kernel)
set_option maxRecDepth 100000 in
theorem mw_wsX11_parses_38 : (.selects RJ0 yJ0_length_8abf5 yJ0_length_8abf5 : Cond) ∈ wsX11_parses := List.mem_of_getElem? (i := 38) (by decide +kernel)
set_option maxRecDepth 100000 in
theorem mw_wsX11_parses_37 : (.instanceMethod yJ0_length_8abf5 : Cond) ∈ wsX11_parses := List.mem_of_getElem? (i := 37) (by decide +kernel)
set_option maxRecDepth 100000 in
theorem mw_wsX11_parses_36 : (.methodLink RX11 155 yJ0_length_8abf5 : Cond) ∈ wsX11_parses := List.mem_of_getElem? (i := 36) (by decide +kernel)
set_option maxRecDepth 100000 in
theorem mw_wsX11_parses_35 : (.code yX11_wordOf cX11_wordOf 4 (some .int) : Cond) ∈ wsX11_parses := List.mem_of_getElem? (i := 35) rfl
set_option maxRecDepth 100000 in
theorem mw_wsX11_parses_34 : (.selects RX11 yX11_wordOf yX11_wordOf : Cond) ∈ wsX11_parses := List.mem_of_getElem? (i := 34) (by decide +kernel)
set_option maxRecDepth 100000 in
theorem mw_wsX11_parses_33 : (.instanceMethod yX11_wordOf : Cond) ∈ wsX11_parses := List.mem_of_getElem? (i := 33) (by decide +kernel)
set_option maxRecDepth 100000 in
theorem mw_wsX11_parses_32 : (.methodLink RX11 147 yX11_wordOf : Cond) ∈ wsX11_parses := List.mem_of_getElem? (i := 32) (by decide +kernel)
set_option maxRecDepth 100000 in
theorem mw_wsX11_parses_31 : (.code yX11_isSmall cX11_isSmall 1 (some .boolean) : Cond) ∈ wsX11_parses := List.mem_of_getElem? (i := 31) rfl
set_option maxRecDepth 100000 in
theorem mw_wsX11_parses_30 : (.static yX11_isSmall : Cond) ∈ wsX11_parses := List.mem_of_getElem? (i := 30) (by decide +kernel)
set_option maxRecDepth 100000 in
theorem mw_wsX11_parses_29 : (.methodLink RX11 143 yX11_isSmall : Cond) ∈ wsX11_parses := List.mem_of_getElem? (i := 29) (by decide +kernel)
set_option maxRecDepth 100000 in
theorem mw_wsX11_parses_28 : (.fieldLink RX11 7 "NothingJudgeModel" "tape" "[I" : Cond) ∈ wsX11_parses := List.mem_of_getElem? (i := 28) (by decide +kernel)
set_option maxRecDepth 100000 in
theorem mw_wsX11_parses_27 : (.fieldLink RX11 130 "NothingJudgeModel" "size" "I" : Cond) ∈ wsX11_parses := List.mem_of_getElem? (i := 27) (by decide +kernel)
set_option maxRecDepth 100000 in
theorem mw_wsX11_parses_26 : (.code yX11_here cX11_here 1 (some .int) : Cond) ∈ wsX11_parses := List.mem_of_getElem? (i := 26) rfl
set_option maxRecDepth 100000 in
theorem mw_wsX11_parses_19 : (.initialized RX11 : Cond) ∈ wsX11_parses := List.mem_of_getElem? (i := 19) (by decide +kernel)
set_option maxRecDepth 100000 in
theorem mw_wsX11_parses_25 : (.selects RX11 yX11_here yX11_here : Cond) ∈ wsX11_parses := List.mem_of_getElem? (i := 25) (by decide +kernel)
set_option maxRecDepth 100000 in
theorem mw_wsX11_parses_24 : (.instanceMethod yX11_here : Cond) ∈ wsX11_parses := List.mem_of_getElem? (i := 24) (by decide +kernel)
set_option maxRecDepth 100000 in
theorem mw_wsX11_parses_23 : (.methodLink RX11 133 yX11_here : Cond) ∈ wsX11_parses := List.mem_of_getElem? (i := 23) (by decide +kernel)
set_option maxRecDepth 100000 in
theorem mw_wsX11_parses_22 : (.fieldLink RX11 150 "NothingJudgeModel" "value" "I" : Cond) ∈ wsX11_parses := List.mem_of_getElem? (i := 22) (by decide +kernel)
set_option maxRecDepth 100000 in
theorem mw_wsX11_parses_11 : (.fieldLink RX11 140 "NothingJudgeModel" "sort" "I" : Cond) ∈ wsX11_parses := List.mem_of_getElem? (i := 11) (by decide +kernel)
set_option maxRecDepth 100000 in
theorem mw_wsX11_parses_21 : (.fieldLink RX11 137 "NothingJudgeModel" "place" "I" : Cond) ∈ wsX11_parses := List.mem_of_getElem? (i := 21) (by decide +kernel)
set_option maxRecDepth 100000 in
theorem mw_wsX11_parses_1 : (.fieldLink RX11 127 "NothingJudgeModel" "at" "I" : Cond) ∈ wsX11_parses := List.mem_of_getElem? (i := 1) (by decide +kernel)
set_option maxRecDepth 100000 in
theorem mc_wsX11_parses_wsX11_next_r1 : ∀ w ∈ wsX11_next_r1, w ∈ wsX11_parses := (List.forall_mem_cons.mpr ⟨mw_wsX11_parses_1, (List.forall_mem_cons.mpr ⟨mw_wsX11_parses_21, (List.forall_mem_cons.mpr ⟨mw_wsX11_parses_11, (List.forall_mem_cons.mpr ⟨mw_wsX11_parses_22, (List.forall_mem_cons.mpr ⟨mw_wsX11_parses_23, (List.forall_mem_cons.mpr ⟨mw_wsX11_parses_24, (List.forall_mem_cons.mpr ⟨mw_wsX11_parses_25, (List.forall_mem_cons.mpr ⟨mw_wsX11_parses_19, (List.forall_mem_cons.mpr ⟨mw_wsX11_parses_26, (List.forall_mem_cons.mpr ⟨mw_wsX11_parses_27, (List.forall_mem_cons.mpr ⟨mw_wsX11_parses_28, (List.forall_mem_cons.mpr ⟨mw_wsX11_parses_29, (List.forall_mem_cons.mpr ⟨mw_wsX11_parses_30, (List.forall_mem_cons.mpr ⟨mw_wsX11_parses_31, (List.forall_mem_cons.mpr ⟨mw_wsX11_parses_32, (List.forall_mem_cons.mpr ⟨mw_wsX11_parses_33, (List.forall_mem_cons.mpr ⟨mw_wsX11_parses_34, (List.forall_mem_cons.mpr ⟨mw_wsX11_parses_35, (List.forall_mem_cons.mpr ⟨mw_wsX11_parses_36, (List.forall_mem_cons.mpr ⟨mw_wsX11_parses_37, (List.forall_mem_cons.mpr ⟨mw_wsX11_parses_38, (List.forall_mem_cons.mpr ⟨mw_wsX11_parses_39, (List.forall_mem_cons.mpr ⟨mw_wsX11_parses_40, (List.forall_mem_cons.mpr ⟨mw_wsX11_parses_41, (fun _ h => absurd h List.not_mem_nil)⟩)⟩)⟩)⟩)⟩)⟩)⟩)⟩)⟩)⟩)⟩)⟩)⟩)⟩)⟩)⟩)⟩)⟩)⟩)⟩)⟩)⟩)⟩)⟩)
set_option maxRecDepth 100000 in
theorem mw_wsX11_parses_65 : (.static yJ3_checkIndex_8e157 : Cond) ∈ wsX11_parses := List.mem_of_getElem? (i := 65) (by decide +kernel)
set_option maxRecDepth 100000 in
theorem mw_wsX11_parses_64 : (.methodLink RJ0 1059 yJ3_checkIndex_8e157 : Cond) ∈ wsX11_parses := List.mem_of_getElem? (i := 64) (by decide +kernel)
set_option maxRecDepth 100000 in
theorem mw_wsX11_parses_63 : (.fieldLink RJ0 1053 "jdk/internal/util/Preconditions" "SIOOBE_FORMATTER" "Ljava/util/function/BiFunction;" : Cond) ∈ wsX11_parses := List.mem_of_getElem? (i := 63) (by decide +kernel)
set_option maxRecDepth 100000 in
theorem mw_wsX11_parses_62 : (.code yJ0_checkIndex_df160 cJ0_checkIndex_df160 2 none : Cond) ∈ wsX11_parses := List.mem_of_getElem? (i := 62) rfl
set_option maxRecDepth 100000 in
theorem mw_wsX11_parses_61 : (.static yJ0_checkIndex_df160 : Cond) ∈ wsX11_parses := List.mem_of_getElem? (i := 61) (by decide +kernel)
set_option maxRecDepth 100000 in
theorem mw_wsX11_parses_60 : (.methodLink RJ1 9 yJ0_checkIndex_df160 : Cond) ∈ wsX11_parses := List.mem_of_getElem? (i := 60) (by decide +kernel)
set_option maxRecDepth 100000 in
theorem mw_wsX11_parses_59 : (.code yJ1_charAt_3b067 cJ1_charAt_3b067 2 (some .char) : Cond) ∈ wsX11_parses := List.mem_of_getElem? (i := 59) rfl
set_option maxRecDepth 100000 in
theorem mw_wsX11_parses_58 : (.initialized RJ1 : Cond) ∈ wsX11_parses := List.mem_of_getElem? (i := 58) (by decide +kernel)
set_option maxRecDepth 100000 in
theorem mw_wsX11_parses_57 : (.static yJ1_charAt_3b067 : Cond) ∈ wsX11_parses := List.mem_of_getElem? (i := 57) (by decide +kernel)
set_option maxRecDepth 100000 in
theorem mw_wsX11_parses_56 : (.methodLink RJ0 495 yJ1_charAt_3b067 : Cond) ∈ wsX11_parses := List.mem_of_getElem? (i := 56) (by decide +kernel)
set_option maxRecDepth 100000 in
theorem mw_wsX11_parses_55 : (.code yJ0_isLatin1_aae02 cJ0_isLatin1_aae02 1 (some .boolean) : Cond) ∈ wsX11_parses := List.mem_of_getElem? (i := 55) rfl
set_option maxRecDepth 100000 in
theorem mw_wsX11_parses_54 : (.selects RJ0 yJ0_isLatin1_aae02 yJ0_isLatin1_aae02 : Cond) ∈ wsX11_parses := List.mem_of_getElem? (i := 54) (by decide +kernel)
set_option maxRecDepth 100000 in
theorem mw_wsX11_parses_53 : (.instanceMethod yJ0_isLatin1_aae02 : Cond) ∈ wsX11_parses := List.mem_of_getElem? (i := 53) (by decide +kernel)
set_option maxRecDepth 100000 in
theorem mw_wsX11_parses_52 : (.methodLink RJ0 492 yJ0_isLatin1_aae02 : Cond) ∈ wsX11_parses := List.mem_of_getElem? (i := 52) (by decide +kernel)
set_option maxRecDepth 100000 in
theorem mw_wsX11_parses_51 : (.code yJ0_charAt_5068e cJ0_charAt_5068e 2 (some .char) : Cond) ∈ wsX11_parses := List.mem_of_getElem? (i := 51) rfl
set_option maxRecDepth 100000 in
theorem mw_wsX11_parses_50 : (.selects RJ0 yJ0_charAt_5068e yJ0_charAt_5068e : Cond) ∈ wsX11_parses := List.mem_of_getElem? (i := 50) (by decide +kernel)
set_option maxRecDepth 100000 in
theorem mw_wsX11_parses_49 : (.instanceMethod yJ0_charAt_5068e : Cond) ∈ wsX11_parses := List.mem_of_getElem? (i := 49) (by decide +kernel)
set_option maxRecDepth 100000 in
theorem mw_wsX11_parses_48 : (.methodLink RX11 160 yJ0_charAt_5068e : Cond) ∈ wsX11_parses := List.mem_of_getElem? (i := 48) (by decide +kernel)
set_option maxRecDepth 100000 in
theorem mw_wsX11_parses_47 : (.fieldLink RJ0 15 "java/lang/String" "coder" "B" : Cond) ∈ wsX11_parses := List.mem_of_getElem? (i := 47) (by decide +kernel)
set_option maxRecDepth 100000 in
theorem mw_wsX11_parses_46 : (.fieldLink RJ0 38 "java/lang/String" "COMPACT_STRINGS" "Z" : Cond) ∈ wsX11_parses := List.mem_of_getElem? (i := 46) (by decide +kernel)
set_option maxRecDepth 100000 in
theorem mw_wsX11_parses_45 : (.code yJ0_coder_7d493 cJ0_coder_7d493 1 (some .byte) : Cond) ∈ wsX11_parses := List.mem_of_getElem? (i := 45) rfl
set_option maxRecDepth 100000 in
theorem mw_wsX11_parses_44 : (.selects RJ0 yJ0_coder_7d493 yJ0_coder_7d493 : Cond) ∈ wsX11_parses := List.mem_of_getElem? (i := 44) (by decide +kernel)
set_option maxRecDepth 100000 in
theorem mw_wsX11_parses_43 : (.instanceMethod yJ0_coder_7d493 : Cond) ∈ wsX11_parses := List.mem_of_getElem? (i := 43) (by decide +kernel)
set_option maxRecDepth 100000 in
theorem mw_wsX11_parses_42 : (.methodLink RJ0 335 yJ0_coder_7d493 : Cond) ∈ wsX11_parses := List.mem_of_getElem? (i := 42) (by decide +kernel)
set_option maxRecDepth 100000 in
theorem mc_wsX11_parses_wsX11_next_r2 : ∀ w ∈ wsX11_next_r2, w ∈ wsX11_parses := (List.forall_mem_cons.mpr ⟨mw_wsX11_parses_42, (List.forall_mem_cons.mpr ⟨mw_wsX11_parses_43, (List.forall_mem_cons.mpr ⟨mw_wsX11_parses_44, (List.forall_mem_cons.mpr ⟨mw_wsX11_parses_45, (List.forall_mem_cons.mpr ⟨mw_wsX11_parses_46, (List.forall_mem_cons.mpr ⟨mw_wsX11_parses_47, (List.forall_mem_cons.mpr ⟨mw_wsX11_parses_48, (List.forall_mem_cons.mpr ⟨mw_wsX11_parses_49, (List.forall_mem_cons.mpr ⟨mw_wsX11_parses_50, (List.forall_mem_cons.mpr ⟨mw_wsX11_parses_51, (List.forall_mem_cons.mpr ⟨mw_wsX11_parses_52, (List.forall_mem_cons.mpr ⟨mw_wsX11_parses_53, (List.forall_mem_cons.mpr ⟨mw_wsX11_parses_54, (List.forall_mem_cons.mpr ⟨mw_wsX11_parses_55, (List.forall_mem_cons.mpr ⟨mw_wsX11_parses_56, (List.forall_mem_cons.mpr ⟨mw_wsX11_parses_57, (List.forall_mem_cons.mpr ⟨mw_wsX11_parses_58, (List.forall_mem_cons.mpr ⟨mw_wsX11_parses_59, (List.forall_mem_cons.mpr ⟨mw_wsX11_parses_60, (List.forall_mem_cons.mpr ⟨mw_wsX11_parses_61, (List.forall_mem_cons.mpr ⟨mw_wsX11_parses_62, (List.forall_mem_cons.mpr ⟨mw_wsX11_parses_63, (List.forall_mem_cons.mpr ⟨mw_wsX11_parses_64, (List.forall_mem_cons.mpr ⟨mw_wsX11_parses_65, (fun _ h => absurd h List.not_mem_nil)⟩)⟩)⟩)⟩)⟩)⟩)⟩)⟩)⟩)⟩)⟩)⟩)⟩)⟩)⟩)⟩)⟩)⟩)⟩)⟩)⟩)⟩)⟩)⟩)
set_option maxRecDepth 100000 in
theorem mw_wsX11_parses_84 : (.fieldLink RJ2 63 "java/lang/StringUTF16" "LO_BYTE_SHIFT" "I" : Cond) ∈ wsX11_parses := List.mem_of_getElem? (i := 84) (by decide +kernel)
set_option maxRecDepth 100000 in
theorem mw_wsX11_parses_83 : (.fieldLink RJ2 59 "java/lang/StringUTF16" "HI_BYTE_SHIFT" "I" : Cond) ∈ wsX11_parses := List.mem_of_getElem? (i := 83) (by decide +kernel)
set_option maxRecDepth 100000 in
theorem mw_wsX11_parses_82 : (.fieldLink RJ2 44 "java/lang/StringUTF16" "$assertionsDisabled" "Z" : Cond) ∈ wsX11_parses := List.mem_of_getElem? (i := 82) (by decide +kernel)
set_option maxRecDepth 100000 in
theorem mw_wsX11_parses_81 : (.code yJ2_getChar_3b067 cJ2_getChar_3b067 2 (some .char) : Cond) ∈ wsX11_parses := List.mem_of_getElem? (i := 81) rfl
set_option maxRecDepth 100000 in
theorem mw_wsX11_parses_80 : (.static yJ2_getChar_3b067 : Cond) ∈ wsX11_parses := List.mem_of_getElem? (i := 80) (by decide +kernel)
set_option maxRecDepth 100000 in
theorem mw_wsX11_parses_79 : (.methodLink RJ2 71 yJ2_getChar_3b067 : Cond) ∈ wsX11_parses := List.mem_of_getElem? (i := 79) (by decide +kernel)
set_option maxRecDepth 100000 in
theorem mw_wsX11_parses_78 : (.methodLink RJ2 414 yJ0_checkIndex_df160 : Cond) ∈ wsX11_parses := List.mem_of_getElem? (i := 78) (by decide +kernel)
set_option maxRecDepth 100000 in
theorem mw_wsX11_parses_77 : (.code yJ2_length_9d52b cJ2_length_9d52b 1 (some .int) : Cond) ∈ wsX11_parses := List.mem_of_getElem? (i := 77) rfl
set_option maxRecDepth 100000 in
theorem mw_wsX11_parses_76 : (.static yJ2_length_9d52b : Cond) ∈ wsX11_parses := List.mem_of_getElem? (i := 76) (by decide +kernel)
set_option maxRecDepth 100000 in
theorem mw_wsX11_parses_75 : (.methodLink RJ2 48 yJ2_length_9d52b : Cond) ∈ wsX11_parses := List.mem_of_getElem? (i := 75) (by decide +kernel)
set_option maxRecDepth 100000 in
theorem mw_wsX11_parses_74 : (.code yJ2_checkIndex_2214a cJ2_checkIndex_2214a 2 none : Cond) ∈ wsX11_parses := List.mem_of_getElem? (i := 74) rfl
set_option maxRecDepth 100000 in
theorem mw_wsX11_parses_73 : (.static yJ2_checkIndex_2214a : Cond) ∈ wsX11_parses := List.mem_of_getElem? (i := 73) (by decide +kernel)
set_option maxRecDepth 100000 in
theorem mw_wsX11_parses_72 : (.methodLink RJ2 67 yJ2_checkIndex_2214a : Cond) ∈ wsX11_parses := List.mem_of_getElem? (i := 72) (by decide +kernel)
set_option maxRecDepth 100000 in
theorem mw_wsX11_parses_71 : (.code yJ2_charAt_3b067 cJ2_charAt_3b067 2 (some .char) : Cond) ∈ wsX11_parses := List.mem_of_getElem? (i := 71) rfl
set_option maxRecDepth 100000 in
theorem mw_wsX11_parses_70 : (.initialized RJ2 : Cond) ∈ wsX11_parses := List.mem_of_getElem? (i := 70) (by decide +kernel)
set_option maxRecDepth 100000 in
theorem mw_wsX11_parses_69 : (.static yJ2_charAt_3b067 : Cond) ∈ wsX11_parses := List.mem_of_getElem? (i := 69) (by decide +kernel)
set_option maxRecDepth 100000 in
theorem mw_wsX11_parses_68 : (.methodLink RJ0 498 yJ2_charAt_3b067 : Cond) ∈ wsX11_parses := List.mem_of_getElem? (i := 68) (by decide +kernel)
set_option maxRecDepth 100000 in
theorem mw_wsX11_parses_67 : (.code yJ3_checkIndex_8e157 cJ3_checkIndex_8e157 3 (some .int) : Cond) ∈ wsX11_parses := List.mem_of_getElem? (i := 67) rfl
set_option maxRecDepth 100000 in
theorem mw_wsX11_parses_66 : (.initialized RJ3 : Cond) ∈ wsX11_parses := List.mem_of_getElem? (i := 66) (by decide +kernel)
set_option maxRecDepth 100000 in
theorem mc_wsX11_parses_wsX11_next_r3 : ∀ w ∈ wsX11_next_r3, w ∈ wsX11_parses := (List.forall_mem_cons.mpr ⟨mw_wsX11_parses_66, (List.forall_mem_cons.mpr ⟨mw_wsX11_parses_67, (List.forall_mem_cons.mpr ⟨mw_wsX11_parses_68, (List.forall_mem_cons.mpr ⟨mw_wsX11_parses_69, (List.forall_mem_cons.mpr ⟨mw_wsX11_parses_70, (List.forall_mem_cons.mpr ⟨mw_wsX11_parses_71, (List.forall_mem_cons.mpr ⟨mw_wsX11_parses_72, (List.forall_mem_cons.mpr ⟨mw_wsX11_parses_73, (List.forall_mem_cons.mpr ⟨mw_wsX11_parses_74, (List.forall_mem_cons.mpr ⟨mw_wsX11_parses_75, (List.forall_mem_cons.mpr ⟨mw_wsX11_parses_76, (List.forall_mem_cons.mpr ⟨mw_wsX11_parses_77, (List.forall_mem_cons.mpr ⟨mw_wsX11_parses_78, (List.forall_mem_cons.mpr ⟨mw_wsX11_parses_79, (List.forall_mem_cons.mpr ⟨mw_wsX11_parses_80, (List.forall_mem_cons.mpr ⟨mw_wsX11_parses_81, (List.forall_mem_cons.mpr ⟨mw_wsX11_parses_82, (List.forall_mem_cons.mpr ⟨mw_wsX11_parses_83, (List.forall_mem_cons.mpr ⟨mw_wsX11_parses_84, (fun _ h => absurd h List.not_mem_nil)⟩)⟩)⟩)⟩)⟩)⟩)⟩)⟩)⟩)⟩)⟩)⟩)⟩)⟩)⟩)⟩)⟩)⟩)⟩)
set_option maxRecDepth 20000 in
theorem ggX11_parses_X11_next : GoodIn wsX11_parses wsX11_next := goodIn_sub (List.forall_mem_cons.mpr ⟨mw_wsX11_parses_20, (wK_app (wK_app mc_wsX11_parses_wsX11_next_r1 (wK_app mc_wsX11_parses_wsX11_next_r2 mc_wsX11_parses_wsX11_next_r3)) (fun _ h => List.mem_cons_of_mem _ (List.mem_append_right _ h)))⟩) (by decide +kernel)
set_option maxRecDepth 20000 in
theorem gX11_parses_X11_next : GoodIn wsX11_parses (wsV RX11 173 RX11 yX11_next wsX11_next) := goodIn_app (goodIn_of _ (by decide +kernel)) ggX11_parses_X11_next
theorem dX11_parses_0 : decode cX11_parses 0 = .ok (.aload_n 0, 1) := by decide +kernel
theorem dX11_parses_1 : decode cX11_parses 1 = .ok (.iconst 0, 1) := by decide +kernel
theorem dX11_parses_2 : decode cX11_parses 2 = .ok (.putfield 127, 3) := by decide +kernel
theorem dX11_parses_5 : decode cX11_parses 5 = .ok (.aload_n 0, 1) := by decide +kernel
theorem dX11_parses_6 : decode cX11_parses 6 = .ok (.iconst 0, 1) := by decide +kernel
theorem dX11_parses_7 : decode cX11_parses 7 = .ok (.putfield 164, 3) := by decide +kernel
theorem dX11_parses_10 : decode cX11_parses 10 = .ok (.aload_n 0, 1) := by decide +kernel
theorem dX11_parses_11 : decode cX11_parses 11 = .ok (.iconst (-1), 1) := by decide +kernel
theorem dX11_parses_12 : decode cX11_parses 12 = .ok (.putfield 167, 3) := by decide +kernel
theorem dX11_parses_15 : decode cX11_parses 15 = .ok (.aload_n 0, 1) := by decide +kernel
theorem dX11_parses_16 : decode cX11_parses 16 = .ok (.iconst 0, 1) := by decide +kernel
theorem dX11_parses_17 : decode cX11_parses 17 = .ok (.putfield 183, 3) := by decide +kernel
theorem dX11_parses_20 : decode cX11_parses 20 = .ok (.aload_n 0, 1) := by decide +kernel
theorem dX11_parses_21 : decode cX11_parses 21 = .ok (.iconst 0, 1) := by decide +kernel
theorem dX11_parses_22 : decode cX11_parses 22 = .ok (.putfield 186, 3) := by decide +kernel
theorem dX11_parses_25 : decode cX11_parses 25 = .ok (.aload_n 0, 1) := by decide +kernel
theorem dX11_parses_26 : decode cX11_parses 26 = .ok (.iconst 0, 1) := by decide +kernel
theorem dX11_parses_27 : decode cX11_parses 27 = .ok (.putfield 189, 3) := by decide +kernel
theorem dX11_parses_30 : decode cX11_parses 30 = .ok (.aload_n 0, 1) := by decide +kernel
theorem dX11_parses_31 : decode cX11_parses 31 = .ok (.getfield 53, 3) := by decide +kernel
theorem dX11_parses_34 : decode cX11_parses 34 = .ok (.iconst 1, 1) := by decide +kernel
theorem dX11_parses_35 : decode cX11_parses 35 = .ok (.iconst 0, 1) := by decide +kernel
theorem dX11_parses_36 : decode cX11_parses 36 = .ok (.iastore, 1) := by decide +kernel
theorem dX11_parses_37 : decode cX11_parses 37 = .ok (.aload_n 0, 1) := by decide +kernel
theorem dX11_parses_38 : decode cX11_parses 38 = .ok (.getfield 62, 3) := by decide +kernel
theorem dX11_parses_41 : decode cX11_parses 41 = .ok (.iconst 1, 1) := by decide +kernel
theorem dX11_parses_42 : decode cX11_parses 42 = .ok (.iconst 0, 1) := by decide +kernel
theorem dX11_parses_43 : decode cX11_parses 43 = .ok (.iastore, 1) := by decide +kernel
theorem dX11_parses_44 : decode cX11_parses 44 = .ok (.aload_n 0, 1) := by decide +kernel
theorem dX11_parses_45 : decode cX11_parses 45 = .ok (.getfield 41, 3) := by decide +kernel
theorem dX11_parses_48 : decode cX11_parses 48 = .ok (.iconst 1, 1) := by decide +kernel
theorem dX11_parses_49 : decode cX11_parses 49 = .ok (.iconst (-1), 1) := by decide +kernel
theorem dX11_parses_50 : decode cX11_parses 50 = .ok (.iastore, 1) := by decide +kernel
theorem dX11_parses_51 : decode cX11_parses 51 = .ok (.bipush 8, 2) := by decide +kernel
theorem dX11_parses_53 : decode cX11_parses 53 = .ok (.istore_n 1, 1) := by decide +kernel
theorem dX11_parses_54 : decode cX11_parses 54 = .ok (.iload_n 1, 1) := by decide +kernel
theorem dX11_parses_55 : decode cX11_parses 55 = .ok (.bipush 16, 2) := by decide +kernel
theorem dX11_parses_57 : decode cX11_parses 57 = .ok (.if_icmp .ge 16, 3) := by decide +kernel
theorem dX11_parses_60 : decode cX11_parses 60 = .ok (.aload_n 0, 1) := by decide +kernel
theorem dX11_parses_61 : decode cX11_parses 61 = .ok (.getfield 32, 3) := by decide +kernel
theorem dX11_parses_64 : decode cX11_parses 64 = .ok (.iload_n 1, 1) := by decide +kernel
theorem dX11_parses_65 : decode cX11_parses 65 = .ok (.iconst (-1), 1) := by decide +kernel
theorem dX11_parses_66 : decode cX11_parses 66 = .ok (.iastore, 1) := by decide +kernel
theorem dX11_parses_67 : decode cX11_parses 67 = .ok (.iinc 1 1, 3) := by decide +kernel
theorem dX11_parses_70 : decode cX11_parses 70 = .ok (.goto (-16), 3) := by decide +kernel
theorem dX11_parses_73 : decode cX11_parses 73 = .ok (.aload_n 0, 1) := by decide +kernel
theorem dX11_parses_74 : decode cX11_parses 74 = .ok (.invokevirtual 173, 3) := by decide +kernel
theorem dX11_parses_77 : decode cX11_parses 77 = .ok (.aload_n 0, 1) := by decide +kernel
theorem dX11_parses_78 : decode cX11_parses 78 = .ok (.getfield 164, 3) := by decide +kernel
theorem dX11_parses_81 : decode cX11_parses 81 = .ok (.ifCond .ne 55, 3) := by decide +kernel
theorem dX11_parses_84 : decode cX11_parses 84 = .ok (.aload_n 0, 1) := by decide +kernel
theorem dX11_parses_85 : decode cX11_parses 85 = .ok (.getfield 140, 3) := by decide +kernel
theorem dX11_parses_88 : decode cX11_parses 88 = .ok (.iconst 4, 1) := by decide +kernel
theorem dX11_parses_89 : decode cX11_parses 89 = .ok (.if_icmp .ne 10, 3) := by decide +kernel
theorem dX11_parses_92 : decode cX11_parses 92 = .ok (.aload_n 0, 1) := by decide +kernel
theorem dX11_parses_93 : decode cX11_parses 93 = .ok (.getfield 189, 3) := by decide +kernel
theorem dX11_parses_96 : decode cX11_parses 96 = .ok (.ifCond .le 40, 3) := by decide +kernel
theorem dX11_parses_136 : decode cX11_parses 136 = .ok (.iconst 0, 1) := by decide +kernel
theorem dX11_parses_137 : decode cX11_parses 137 = .ok (.istore_n 1, 1) := by decide +kernel
theorem dX11_parses_138 : decode cX11_parses 138 = .ok (.iload_n 1, 1) := by decide +kernel
theorem dX11_parses_139 : decode cX11_parses 139 = .ok (.aload_n 0, 1) := by decide +kernel
theorem dX11_parses_140 : decode cX11_parses 140 = .ok (.getfield 186, 3) := by decide +kernel
theorem dX11_parses_143 : decode cX11_parses 143 = .ok (.if_icmp .ge 62, 3) := by decide +kernel
theorem dX11_parses_205 : decode cX11_parses 205 = .ok (.return_, 1) := by decide +kernel
set_option maxRecDepth 100000 in
theorem mw_wsX11_text_12 : (.code yX11_parses cX11_parses 3 none : Cond) ∈ wsX11_text := List.mem_of_getElem? (i := 12) rfl
set_option maxRecDepth 100000 in
theorem mw_wsX11_text_33 : (.instanceMethod yX11_here : Cond) ∈ wsX11_text := List.mem_of_getElem? (i := 33) (by decide +kernel)
set_option maxRecDepth 100000 in
theorem mw_wsX11_text_32 : (.methodLink RX11 133 yX11_here : Cond) ∈ wsX11_text := List.mem_of_getElem? (i := 32) (by decide +kernel)
set_option maxRecDepth 100000 in
theorem mw_wsX11_text_31 : (.fieldLink RX11 150 "NothingJudgeModel" "value" "I" : Cond) ∈ wsX11_text := List.mem_of_getElem? (i := 31) (by decide +kernel)
set_option maxRecDepth 100000 in
theorem mw_wsX11_text_30 : (.fieldLink RX11 137 "NothingJudgeModel" "place" "I" : Cond) ∈ wsX11_text := List.mem_of_getElem? (i := 30) (by decide +kernel)
set_option maxRecDepth 100000 in
theorem mw_wsX11_text_29 : (.code yX11_next cX11_next 3 none : Cond) ∈ wsX11_text := List.mem_of_getElem? (i := 29) rfl
set_option maxRecDepth 100000 in
theorem mw_wsX11_text_11 : (.initialized RX11 : Cond) ∈ wsX11_text := List.mem_of_getElem? (i := 11) (by decide +kernel)
set_option maxRecDepth 100000 in
theorem mw_wsX11_text_28 : (.selects RX11 yX11_next yX11_next : Cond) ∈ wsX11_text := List.mem_of_getElem? (i := 28) (by decide +kernel)
set_option maxRecDepth 100000 in
theorem mw_wsX11_text_27 : (.instanceMethod yX11_next : Cond) ∈ wsX11_text := List.mem_of_getElem? (i := 27) (by decide +kernel)
set_option maxRecDepth 100000 in
theorem mw_wsX11_text_26 : (.methodLink RX11 173 yX11_next : Cond) ∈ wsX11_text := List.mem_of_getElem? (i := 26) (by decide +kernel)
set_option maxRecDepth 100000 in
theorem mw_wsX11_text_25 : (.fieldLink RX11 65 "NothingJudgeModel" "callPlace" "[I" : Cond) ∈ wsX11_text := List.mem_of_getElem? (i := 25) (by decide +kernel)
set_option maxRecDepth 100000 in
theorem mw_wsX11_text_24 : (.fieldLink RX11 71 "NothingJudgeModel" "callArgs" "[I" : Cond) ∈ wsX11_text := List.mem_of_getElem? (i := 24) (by decide +kernel)
set_option maxRecDepth 100000 in
theorem mw_wsX11_text_23 : (.fieldLink RX11 35 "NothingJudgeModel" "params" "[I" : Cond) ∈ wsX11_text := List.mem_of_getElem? (i := 23) (by decide +kernel)
set_option maxRecDepth 100000 in
theorem mw_wsX11_text_22 : (.fieldLink RX11 68 "NothingJudgeModel" "callLetter" "[I" : Cond) ∈ wsX11_text := List.mem_of_getElem? (i := 22) (by decide +kernel)
set_option maxRecDepth 100000 in
theorem mw_wsX11_text_21 : (.fieldLink RX11 140 "NothingJudgeModel" "sort" "I" : Cond) ∈ wsX11_text := List.mem_of_getElem? (i := 21) (by decide +kernel)
set_option maxRecDepth 100000 in
theorem mw_wsX11_text_20 : (.fieldLink RX11 32 "NothingJudgeModel" "routineFrom" "[I" : Cond) ∈ wsX11_text := List.mem_of_getElem? (i := 20) (by decide +kernel)
set_option maxRecDepth 100000 in
theorem mw_wsX11_text_19 : (.fieldLink RX11 41 "NothingJudgeModel" "firstRoutine" "[I" : Cond) ∈ wsX11_text := List.mem_of_getElem? (i := 19) (by decide +kernel)
set_option maxRecDepth 100000 in
theorem mw_wsX11_text_18 : (.fieldLink RX11 62 "NothingJudgeModel" "testMany" "[I" : Cond) ∈ wsX11_text := List.mem_of_getElem? (i := 18) (by decide +kernel)
set_option maxRecDepth 100000 in
theorem mw_wsX11_text_17 : (.fieldLink RX11 53 "NothingJudgeModel" "useMany" "[I" : Cond) ∈ wsX11_text := List.mem_of_getElem? (i := 17) (by decide +kernel)
set_option maxRecDepth 100000 in
theorem mw_wsX11_text_16 : (.fieldLink RX11 189 "NothingJudgeModel" "blocks" "I" : Cond) ∈ wsX11_text := List.mem_of_getElem? (i := 16) (by decide +kernel)
set_option maxRecDepth 100000 in
theorem mw_wsX11_text_15 : (.fieldLink RX11 186 "NothingJudgeModel" "calls" "I" : Cond) ∈ wsX11_text := List.mem_of_getElem? (i := 15) (by decide +kernel)
set_option maxRecDepth 100000 in
theorem mw_wsX11_text_14 : (.fieldLink RX11 183 "NothingJudgeModel" "acts" "I" : Cond) ∈ wsX11_text := List.mem_of_getElem? (i := 14) (by decide +kernel)
set_option maxRecDepth 100000 in
theorem mw_wsX11_text_6 : (.fieldLink RX11 167 "NothingJudgeModel" "faultPlace" "I" : Cond) ∈ wsX11_text := List.mem_of_getElem? (i := 6) (by decide +kernel)
set_option maxRecDepth 100000 in
theorem mw_wsX11_text_4 : (.fieldLink RX11 164 "NothingJudgeModel" "fault" "I" : Cond) ∈ wsX11_text := List.mem_of_getElem? (i := 4) (by decide +kernel)
set_option maxRecDepth 100000 in
theorem mw_wsX11_text_13 : (.fieldLink RX11 127 "NothingJudgeModel" "at" "I" : Cond) ∈ wsX11_text := List.mem_of_getElem? (i := 13) (by decide +kernel)
set_option maxRecDepth 100000 in
theorem mc_wsX11_text_wsX11_parses_r1 : ∀ w ∈ wsX11_parses_r1, w ∈ wsX11_text := (List.forall_mem_cons.mpr ⟨mw_wsX11_text_13, (List.forall_mem_cons.mpr ⟨mw_wsX11_text_4, (List.forall_mem_cons.mpr ⟨mw_wsX11_text_6, (List.forall_mem_cons.mpr ⟨mw_wsX11_text_14, (List.forall_mem_cons.mpr ⟨mw_wsX11_text_15, (List.forall_mem_cons.mpr ⟨mw_wsX11_text_16, (List.forall_mem_cons.mpr ⟨mw_wsX11_text_17, (List.forall_mem_cons.mpr ⟨mw_wsX11_text_18, (List.forall_mem_cons.mpr ⟨mw_wsX11_text_19, (List.forall_mem_cons.mpr ⟨mw_wsX11_text_20, (List.forall_mem_cons.mpr ⟨mw_wsX11_text_21, (List.forall_mem_cons.mpr ⟨mw_wsX11_text_22, (List.forall_mem_cons.mpr ⟨mw_wsX11_text_23, (List.forall_mem_cons.mpr ⟨mw_wsX11_text_24, (List.forall_mem_cons.mpr ⟨mw_wsX11_text_25, (List.forall_mem_cons.mpr ⟨mw_wsX11_text_26, (List.forall_mem_cons.mpr ⟨mw_wsX11_text_27, (List.forall_mem_cons.mpr ⟨mw_wsX11_text_28, (List.forall_mem_cons.mpr ⟨mw_wsX11_text_11, (List.forall_mem_cons.mpr ⟨mw_wsX11_text_29, (List.forall_mem_cons.mpr ⟨mw_wsX11_text_30, (List.forall_mem_cons.mpr ⟨mw_wsX11_text_31, (List.forall_mem_cons.mpr ⟨mw_wsX11_text_32, (List.forall_mem_cons.mpr ⟨mw_wsX11_text_33, (fun _ h => absurd h List.not_mem_nil)⟩)⟩)⟩)⟩)⟩)⟩)⟩)⟩)⟩)⟩)⟩)⟩)⟩)⟩)⟩)⟩)⟩)⟩)⟩)⟩)⟩)⟩)⟩)⟩)
set_option maxRecDepth 100000 in
theorem mw_wsX11_text_56 : (.methodLink RX11 160 yJ0_charAt_5068e : Cond) ∈ wsX11_text := List.mem_of_getElem? (i := 56) (by decide +kernel)
set_option maxRecDepth 100000 in
theorem mw_wsX11_text_55 : (.fieldLink RJ0 15 "java/lang/String" "coder" "B" : Cond) ∈ wsX11_text := List.mem_of_getElem? (i := 55) (by decide +kernel)
set_option maxRecDepth 100000 in
theorem mw_wsX11_text_54 : (.fieldLink RJ0 38 "java/lang/String" "COMPACT_STRINGS" "Z" : Cond) ∈ wsX11_text := List.mem_of_getElem? (i := 54) (by decide +kernel)
set_option maxRecDepth 100000 in
theorem mw_wsX11_text_53 : (.code yJ0_coder_7d493 cJ0_coder_7d493 1 (some .byte) : Cond) ∈ wsX11_text := List.mem_of_getElem? (i := 53) rfl
set_option maxRecDepth 100000 in
theorem mw_wsX11_text_52 : (.selects RJ0 yJ0_coder_7d493 yJ0_coder_7d493 : Cond) ∈ wsX11_text := List.mem_of_getElem? (i := 52) (by decide +kernel)
set_option maxRecDepth 100000 in
theorem mw_wsX11_text_51 : (.instanceMethod yJ0_coder_7d493 : Cond) ∈ wsX11_text := List.mem_of_getElem? (i := 51) (by decide +kernel)
set_option maxRecDepth 100000 in
theorem mw_wsX11_text_50 : (.methodLink RJ0 335 yJ0_coder_7d493 : Cond) ∈ wsX11_text := List.mem_of_getElem? (i := 50) (by decide +kernel)
set_option maxRecDepth 100000 in
theorem mw_wsX11_text_49 : (.fieldLink RJ0 9 "java/lang/String" "value" "[B" : Cond) ∈ wsX11_text := List.mem_of_getElem? (i := 49) (by decide +kernel)
set_option maxRecDepth 100000 in
theorem mw_wsX11_text_48 : (.code yJ0_length_8abf5 cJ0_length_8abf5 1 (some .int) : Cond) ∈ wsX11_text := List.mem_of_getElem? (i := 48) rfl
set_option maxRecDepth 100000 in
theorem mw_wsX11_text_47 : (.initialized RJ0 : Cond) ∈ wsX11_text := List.mem_of_getElem? (i := 47) (by decide +kernel)
set_option maxRecDepth 100000 in
theorem mw_wsX11_text_46 : (.selects RJ0 yJ0_length_8abf5 yJ0_length_8abf5 : Cond) ∈ wsX11_text := List.mem_of_getElem? (i := 46) (by decide +kernel)
set_option maxRecDepth 100000 in
theorem mw_wsX11_text_45 : (.instanceMethod yJ0_length_8abf5 : Cond) ∈ wsX11_text := List.mem_of_getElem? (i := 45) (by decide +kernel)
set_option maxRecDepth 100000 in
theorem mw_wsX11_text_44 : (.methodLink RX11 155 yJ0_length_8abf5 : Cond) ∈ wsX11_text := List.mem_of_getElem? (i := 44) (by decide +kernel)
set_option maxRecDepth 100000 in
theorem mw_wsX11_text_43 : (.code yX11_wordOf cX11_wordOf 4 (some .int) : Cond) ∈ wsX11_text := List.mem_of_getElem? (i := 43) rfl
set_option maxRecDepth 100000 in
theorem mw_wsX11_text_42 : (.selects RX11 yX11_wordOf yX11_wordOf : Cond) ∈ wsX11_text := List.mem_of_getElem? (i := 42) (by decide +kernel)
set_option maxRecDepth 100000 in
theorem mw_wsX11_text_41 : (.instanceMethod yX11_wordOf : Cond) ∈ wsX11_text := List.mem_of_getElem? (i := 41) (by decide +kernel)
set_option maxRecDepth 100000 in
theorem mw_wsX11_text_40 : (.methodLink RX11 147 yX11_wordOf : Cond) ∈ wsX11_text := List.mem_of_getElem? (i := 40) (by decide +kernel)
set_option maxRecDepth 100000 in
theorem mw_wsX11_text_39 : (.code yX11_isSmall cX11_isSmall 1 (some .boolean) : Cond) ∈ wsX11_text := List.mem_of_getElem? (i := 39) rfl
set_option maxRecDepth 100000 in
theorem mw_wsX11_text_38 : (.static yX11_isSmall : Cond) ∈ wsX11_text := List.mem_of_getElem? (i := 38) (by decide +kernel)
set_option maxRecDepth 100000 in
theorem mw_wsX11_text_37 : (.methodLink RX11 143 yX11_isSmall : Cond) ∈ wsX11_text := List.mem_of_getElem? (i := 37) (by decide +kernel)
set_option maxRecDepth 100000 in
theorem mw_wsX11_text_36 : (.fieldLink RX11 7 "NothingJudgeModel" "tape" "[I" : Cond) ∈ wsX11_text := List.mem_of_getElem? (i := 36) (by decide +kernel)
set_option maxRecDepth 100000 in
theorem mw_wsX11_text_3 : (.fieldLink RX11 130 "NothingJudgeModel" "size" "I" : Cond) ∈ wsX11_text := List.mem_of_getElem? (i := 3) (by decide +kernel)
set_option maxRecDepth 100000 in
theorem mw_wsX11_text_35 : (.code yX11_here cX11_here 1 (some .int) : Cond) ∈ wsX11_text := List.mem_of_getElem? (i := 35) rfl
set_option maxRecDepth 100000 in
theorem mw_wsX11_text_34 : (.selects RX11 yX11_here yX11_here : Cond) ∈ wsX11_text := List.mem_of_getElem? (i := 34) (by decide +kernel)
set_option maxRecDepth 100000 in
theorem mc_wsX11_text_wsX11_parses_r2 : ∀ w ∈ wsX11_parses_r2, w ∈ wsX11_text := (List.forall_mem_cons.mpr ⟨mw_wsX11_text_34, (List.forall_mem_cons.mpr ⟨mw_wsX11_text_35, (List.forall_mem_cons.mpr ⟨mw_wsX11_text_3, (List.forall_mem_cons.mpr ⟨mw_wsX11_text_36, (List.forall_mem_cons.mpr ⟨mw_wsX11_text_37, (List.forall_mem_cons.mpr ⟨mw_wsX11_text_38, (List.forall_mem_cons.mpr ⟨mw_wsX11_text_39, (List.forall_mem_cons.mpr ⟨mw_wsX11_text_40, (List.forall_mem_cons.mpr ⟨mw_wsX11_text_41, (List.forall_mem_cons.mpr ⟨mw_wsX11_text_42, (List.forall_mem_cons.mpr ⟨mw_wsX11_text_43, (List.forall_mem_cons.mpr ⟨mw_wsX11_text_44, (List.forall_mem_cons.mpr ⟨mw_wsX11_text_45, (List.forall_mem_cons.mpr ⟨mw_wsX11_text_46, (List.forall_mem_cons.mpr ⟨mw_wsX11_text_47, (List.forall_mem_cons.mpr ⟨mw_wsX11_text_48, (List.forall_mem_cons.mpr ⟨mw_wsX11_text_49, (List.forall_mem_cons.mpr ⟨mw_wsX11_text_50, (List.forall_mem_cons.mpr ⟨mw_wsX11_text_51, (List.forall_mem_cons.mpr ⟨mw_wsX11_text_52, (List.forall_mem_cons.mpr ⟨mw_wsX11_text_53, (List.forall_mem_cons.mpr ⟨mw_wsX11_text_54, (List.forall_mem_cons.mpr ⟨mw_wsX11_text_55, (List.forall_mem_cons.mpr ⟨mw_wsX11_text_56, (fun _ h => absurd h List.not_mem_nil)⟩)⟩)⟩)⟩)⟩)⟩)⟩)⟩)⟩)⟩)⟩)⟩)⟩)⟩)⟩)⟩)⟩)⟩)⟩)⟩)⟩)⟩)⟩)⟩)
set_option maxRecDepth 100000 in
theorem mw_wsX11_text_80 : (.methodLink RJ2 67 yJ2_checkIndex_2214a : Cond) ∈ wsX11_text := List.mem_of_getElem? (i := 80) (by decide +kernel)
set_option maxRecDepth 100000 in
theorem mw_wsX11_text_79 : (.code yJ2_charAt_3b067 cJ2_charAt_3b067 2 (some .char) : Cond) ∈ wsX11_text := List.mem_of_getElem? (i := 79) rfl
set_option maxRecDepth 100000 in
theorem mw_wsX11_text_78 : (.initialized RJ2 : Cond) ∈ wsX11_text := List.mem_of_getElem? (i := 78) (by decide +kernel)
set_option maxRecDepth 100000 in
theorem mw_wsX11_text_77 : (.static yJ2_charAt_3b067 : Cond) ∈ wsX11_text := List.mem_of_getElem? (i := 77) (by decide +kernel)
set_option maxRecDepth 100000 in
theorem mw_wsX11_text_76 : (.methodLink RJ0 498 yJ2_charAt_3b067 : Cond) ∈ wsX11_text := List.mem_of_getElem? (i := 76) (by decide +kernel)
set_option maxRecDepth 100000 in
theorem mw_wsX11_text_75 : (.code yJ3_checkIndex_8e157 cJ3_checkIndex_8e157 3 (some .int) : Cond) ∈ wsX11_text := List.mem_of_getElem? (i := 75) rfl
set_option maxRecDepth 100000 in
theorem mw_wsX11_text_74 : (.initialized RJ3 : Cond) ∈ wsX11_text := List.mem_of_getElem? (i := 74) (by decide +kernel)
set_option maxRecDepth 100000 in
theorem mw_wsX11_text_73 : (.static yJ3_checkIndex_8e157 : Cond) ∈ wsX11_text := List.mem_of_getElem? (i := 73) (by decide +kernel)
set_option maxRecDepth 100000 in
theorem mw_wsX11_text_72 : (.methodLink RJ0 1059 yJ3_checkIndex_8e157 : Cond) ∈ wsX11_text := List.mem_of_getElem? (i := 72) (by decide +kernel)
set_option maxRecDepth 100000 in
theorem mw_wsX11_text_71 : (.fieldLink RJ0 1053 "jdk/internal/util/Preconditions" "SIOOBE_FORMATTER" "Ljava/util/function/BiFunction;" : Cond) ∈ wsX11_text := List.mem_of_getElem? (i := 71) (by decide +kernel)
set_option maxRecDepth 100000 in
theorem mw_wsX11_text_70 : (.code yJ0_checkIndex_df160 cJ0_checkIndex_df160 2 none : Cond) ∈ wsX11_text := List.mem_of_getElem? (i := 70) rfl
set_option maxRecDepth 100000 in
theorem mw_wsX11_text_69 : (.static yJ0_checkIndex_df160 : Cond) ∈ wsX11_text := List.mem_of_getElem? (i := 69) (by decide +kernel)
set_option maxRecDepth 100000 in
theorem mw_wsX11_text_68 : (.methodLink RJ1 9 yJ0_checkIndex_df160 : Cond) ∈ wsX11_text := List.mem_of_getElem? (i := 68) (by decide +kernel)
set_option maxRecDepth 100000 in
theorem mw_wsX11_text_67 : (.code yJ1_charAt_3b067 cJ1_charAt_3b067 2 (some .char) : Cond) ∈ wsX11_text := List.mem_of_getElem? (i := 67) rfl
set_option maxRecDepth 100000 in
theorem mw_wsX11_text_66 : (.initialized RJ1 : Cond) ∈ wsX11_text := List.mem_of_getElem? (i := 66) (by decide +kernel)
set_option maxRecDepth 100000 in
theorem mw_wsX11_text_65 : (.static yJ1_charAt_3b067 : Cond) ∈ wsX11_text := List.mem_of_getElem? (i := 65) (by decide +kernel)
set_option maxRecDepth 100000 in
theorem mw_wsX11_text_64 : (.methodLink RJ0 495 yJ1_charAt_3b067 : Cond) ∈ wsX11_text := List.mem_of_getElem? (i := 64) (by decide +kernel)
set_option maxRecDepth 100000 in
theorem mw_wsX11_text_63 : (.code yJ0_isLatin1_aae02 cJ0_isLatin1_aae02 1 (some .boolean) : Cond) ∈ wsX11_text := List.mem_of_getElem? (i := 63) rfl
set_option maxRecDepth 100000 in
theorem mw_wsX11_text_62 : (.selects RJ0 yJ0_isLatin1_aae02 yJ0_isLatin1_aae02 : Cond) ∈ wsX11_text := List.mem_of_getElem? (i := 62) (by decide +kernel)
set_option maxRecDepth 100000 in
theorem mw_wsX11_text_61 : (.instanceMethod yJ0_isLatin1_aae02 : Cond) ∈ wsX11_text := List.mem_of_getElem? (i := 61) (by decide +kernel)
set_option maxRecDepth 100000 in
theorem mw_wsX11_text_60 : (.methodLink RJ0 492 yJ0_isLatin1_aae02 : Cond) ∈ wsX11_text := List.mem_of_getElem? (i := 60) (by decide +kernel)
set_option maxRecDepth 100000 in
theorem mw_wsX11_text_59 : (.code yJ0_charAt_5068e cJ0_charAt_5068e 2 (some .char) : Cond) ∈ wsX11_text := List.mem_of_getElem? (i := 59) rfl
set_option maxRecDepth 100000 in
theorem mw_wsX11_text_58 : (.selects RJ0 yJ0_charAt_5068e yJ0_charAt_5068e : Cond) ∈ wsX11_text := List.mem_of_getElem? (i := 58) (by decide +kernel)
set_option maxRecDepth 100000 in
theorem mw_wsX11_text_57 : (.instanceMethod yJ0_charAt_5068e : Cond) ∈ wsX11_text := List.mem_of_getElem? (i := 57) (by decide +kernel)
set_option maxRecDepth 100000 in
theorem mc_wsX11_text_wsX11_parses_r3 : ∀ w ∈ wsX11_parses_r3, w ∈ wsX11_text := (List.forall_mem_cons.mpr ⟨mw_wsX11_text_57, (List.forall_mem_cons.mpr ⟨mw_wsX11_text_58, (List.forall_mem_cons.mpr ⟨mw_wsX11_text_59, (List.forall_mem_cons.mpr ⟨mw_wsX11_text_60, (List.forall_mem_cons.mpr ⟨mw_wsX11_text_61, (List.forall_mem_cons.mpr ⟨mw_wsX11_text_62, (List.forall_mem_cons.mpr ⟨mw_wsX11_text_63, (List.forall_mem_cons.mpr ⟨mw_wsX11_text_64, (List.forall_mem_cons.mpr ⟨mw_wsX11_text_65, (List.forall_mem_cons.mpr ⟨mw_wsX11_text_66, (List.forall_mem_cons.mpr ⟨mw_wsX11_text_67, (List.forall_mem_cons.mpr ⟨mw_wsX11_text_68, (List.forall_mem_cons.mpr ⟨mw_wsX11_text_69, (List.forall_mem_cons.mpr ⟨mw_wsX11_text_70, (List.forall_mem_cons.mpr ⟨mw_wsX11_text_71, (List.forall_mem_cons.mpr ⟨mw_wsX11_text_72, (List.forall_mem_cons.mpr ⟨mw_wsX11_text_73, (List.forall_mem_cons.mpr ⟨mw_wsX11_text_74, (List.forall_mem_cons.mpr ⟨mw_wsX11_text_75, (List.forall_mem_cons.mpr ⟨mw_wsX11_text_76, (List.forall_mem_cons.mpr ⟨mw_wsX11_text_77, (List.forall_mem_cons.mpr ⟨mw_wsX11_text_78, (List.forall_mem_cons.mpr ⟨mw_wsX11_text_79, (List.forall_mem_cons.mpr ⟨mw_wsX11_text_80, (fun _ h => absurd h List.not_mem_nil)⟩)⟩)⟩)⟩)⟩)⟩)⟩)⟩)⟩)⟩)⟩)⟩)⟩)⟩)⟩)⟩)⟩)⟩)⟩)⟩)⟩)⟩)⟩)⟩)
set_option maxRecDepth 100000 in
theorem mw_wsX11_text_104 : (.instanceMethod yX11_wrong : Cond) ∈ wsX11_text := List.mem_of_getElem? (i := 104) (by decide +kernel)
set_option maxRecDepth 100000 in
theorem mw_wsX11_text_103 : (.methodLink RX11 179 yX11_wrong : Cond) ∈ wsX11_text := List.mem_of_getElem? (i := 103) (by decide +kernel)
set_option maxRecDepth 100000 in
theorem mw_wsX11_text_102 : (.code yX11_taken cX11_taken 3 (some .int) : Cond) ∈ wsX11_text := List.mem_of_getElem? (i := 102) rfl
set_option maxRecDepth 100000 in
theorem mw_wsX11_text_101 : (.selects RX11 yX11_taken yX11_taken : Cond) ∈ wsX11_text := List.mem_of_getElem? (i := 101) (by decide +kernel)
set_option maxRecDepth 100000 in
theorem mw_wsX11_text_100 : (.instanceMethod yX11_taken : Cond) ∈ wsX11_text := List.mem_of_getElem? (i := 100) (by decide +kernel)
set_option maxRecDepth 100000 in
theorem mw_wsX11_text_99 : (.methodLink RX11 205 yX11_taken : Cond) ∈ wsX11_text := List.mem_of_getElem? (i := 99) (by decide +kernel)
set_option maxRecDepth 100000 in
theorem mw_wsX11_text_98 : (.fieldLink RX11 38 "NothingJudgeModel" "paramNames" "[I" : Cond) ∈ wsX11_text := List.mem_of_getElem? (i := 98) (by decide +kernel)
set_option maxRecDepth 100000 in
theorem mw_wsX11_text_97 : (.fieldLink RX11 209 "NothingJudgeModel" "routine" "I" : Cond) ∈ wsX11_text := List.mem_of_getElem? (i := 97) (by decide +kernel)
set_option maxRecDepth 100000 in
theorem mw_wsX11_text_96 : (.code yX11_head cX11_head 7 none : Cond) ∈ wsX11_text := List.mem_of_getElem? (i := 96) rfl
set_option maxRecDepth 100000 in
theorem mw_wsX11_text_95 : (.selects RX11 yX11_head yX11_head : Cond) ∈ wsX11_text := List.mem_of_getElem? (i := 95) (by decide +kernel)
set_option maxRecDepth 100000 in
theorem mw_wsX11_text_94 : (.instanceMethod yX11_head : Cond) ∈ wsX11_text := List.mem_of_getElem? (i := 94) (by decide +kernel)
set_option maxRecDepth 100000 in
theorem mw_wsX11_text_93 : (.methodLink RX11 192 yX11_head : Cond) ∈ wsX11_text := List.mem_of_getElem? (i := 93) (by decide +kernel)
set_option maxRecDepth 100000 in
theorem mw_wsX11_text_92 : (.fieldLink RJ2 63 "java/lang/StringUTF16" "LO_BYTE_SHIFT" "I" : Cond) ∈ wsX11_text := List.mem_of_getElem? (i := 92) (by decide +kernel)
set_option maxRecDepth 100000 in
theorem mw_wsX11_text_91 : (.fieldLink RJ2 59 "java/lang/StringUTF16" "HI_BYTE_SHIFT" "I" : Cond) ∈ wsX11_text := List.mem_of_getElem? (i := 91) (by decide +kernel)
set_option maxRecDepth 100000 in
theorem mw_wsX11_text_90 : (.fieldLink RJ2 44 "java/lang/StringUTF16" "$assertionsDisabled" "Z" : Cond) ∈ wsX11_text := List.mem_of_getElem? (i := 90) (by decide +kernel)
set_option maxRecDepth 100000 in
theorem mw_wsX11_text_89 : (.code yJ2_getChar_3b067 cJ2_getChar_3b067 2 (some .char) : Cond) ∈ wsX11_text := List.mem_of_getElem? (i := 89) rfl
set_option maxRecDepth 100000 in
theorem mw_wsX11_text_88 : (.static yJ2_getChar_3b067 : Cond) ∈ wsX11_text := List.mem_of_getElem? (i := 88) (by decide +kernel)
set_option maxRecDepth 100000 in
theorem mw_wsX11_text_87 : (.methodLink RJ2 71 yJ2_getChar_3b067 : Cond) ∈ wsX11_text := List.mem_of_getElem? (i := 87) (by decide +kernel)
set_option maxRecDepth 100000 in
theorem mw_wsX11_text_86 : (.methodLink RJ2 414 yJ0_checkIndex_df160 : Cond) ∈ wsX11_text := List.mem_of_getElem? (i := 86) (by decide +kernel)
set_option maxRecDepth 100000 in
theorem mw_wsX11_text_85 : (.code yJ2_length_9d52b cJ2_length_9d52b 1 (some .int) : Cond) ∈ wsX11_text := List.mem_of_getElem? (i := 85) rfl
set_option maxRecDepth 100000 in
theorem mw_wsX11_text_84 : (.static yJ2_length_9d52b : Cond) ∈ wsX11_text := List.mem_of_getElem? (i := 84) (by decide +kernel)
set_option maxRecDepth 100000 in
theorem mw_wsX11_text_83 : (.methodLink RJ2 48 yJ2_length_9d52b : Cond) ∈ wsX11_text := List.mem_of_getElem? (i := 83) (by decide +kernel)
set_option maxRecDepth 100000 in
theorem mw_wsX11_text_82 : (.code yJ2_checkIndex_2214a cJ2_checkIndex_2214a 2 none : Cond) ∈ wsX11_text := List.mem_of_getElem? (i := 82) rfl
set_option maxRecDepth 100000 in
theorem mw_wsX11_text_81 : (.static yJ2_checkIndex_2214a : Cond) ∈ wsX11_text := List.mem_of_getElem? (i := 81) (by decide +kernel)
set_option maxRecDepth 100000 in
theorem mc_wsX11_text_wsX11_parses_r4 : ∀ w ∈ wsX11_parses_r4, w ∈ wsX11_text := (List.forall_mem_cons.mpr ⟨mw_wsX11_text_81, (List.forall_mem_cons.mpr ⟨mw_wsX11_text_82, (List.forall_mem_cons.mpr ⟨mw_wsX11_text_83, (List.forall_mem_cons.mpr ⟨mw_wsX11_text_84, (List.forall_mem_cons.mpr ⟨mw_wsX11_text_85, (List.forall_mem_cons.mpr ⟨mw_wsX11_text_86, (List.forall_mem_cons.mpr ⟨mw_wsX11_text_87, (List.forall_mem_cons.mpr ⟨mw_wsX11_text_88, (List.forall_mem_cons.mpr ⟨mw_wsX11_text_89, (List.forall_mem_cons.mpr ⟨mw_wsX11_text_90, (List.forall_mem_cons.mpr ⟨mw_wsX11_text_91, (List.forall_mem_cons.mpr ⟨mw_wsX11_text_92, (List.forall_mem_cons.mpr ⟨mw_wsX11_text_93, (List.forall_mem_cons.mpr ⟨mw_wsX11_text_94, (List.forall_mem_cons.mpr ⟨mw_wsX11_text_95, (List.forall_mem_cons.mpr ⟨mw_wsX11_text_96, (List.forall_mem_cons.mpr ⟨mw_wsX11_text_97, (List.forall_mem_cons.mpr ⟨mw_wsX11_text_98, (List.forall_mem_cons.mpr ⟨mw_wsX11_text_99, (List.forall_mem_cons.mpr ⟨mw_wsX11_text_100, (List.forall_mem_cons.mpr ⟨mw_wsX11_text_101, (List.forall_mem_cons.mpr ⟨mw_wsX11_text_102, (List.forall_mem_cons.mpr ⟨mw_wsX11_text_103, (List.forall_mem_cons.mpr ⟨mw_wsX11_text_104, (fun _ h => absurd h List.not_mem_nil)⟩)⟩)⟩)⟩)⟩)⟩)⟩)⟩)⟩)⟩)⟩)⟩)⟩)⟩)⟩)⟩)⟩)⟩)⟩)⟩)⟩)⟩)⟩)⟩)
set_option maxRecDepth 100000 in
theorem mw_wsX11_text_128 : (.selects RX11 yX11_closes yX11_closes : Cond) ∈ wsX11_text := List.mem_of_getElem? (i := 128) (by decide +kernel)
set_option maxRecDepth 100000 in
theorem mw_wsX11_text_127 : (.instanceMethod yX11_closes : Cond) ∈ wsX11_text := List.mem_of_getElem? (i := 127) (by decide +kernel)
set_option maxRecDepth 100000 in
theorem mw_wsX11_text_126 : (.methodLink RX11 195 yX11_closes : Cond) ∈ wsX11_text := List.mem_of_getElem? (i := 126) (by decide +kernel)
set_option maxRecDepth 100000 in
theorem mw_wsX11_text_125 : (.fieldLink RX11 80 "NothingJudgeModel" "blockTest" "[I" : Cond) ∈ wsX11_text := List.mem_of_getElem? (i := 125) (by decide +kernel)
set_option maxRecDepth 100000 in
theorem mw_wsX11_text_124 : (.fieldLink RX11 77 "NothingJudgeModel" "blockWaits" "[I" : Cond) ∈ wsX11_text := List.mem_of_getElem? (i := 124) (by decide +kernel)
set_option maxRecDepth 100000 in
theorem mw_wsX11_text_123 : (.fieldLink RX11 74 "NothingJudgeModel" "blockKind" "[I" : Cond) ∈ wsX11_text := List.mem_of_getElem? (i := 123) (by decide +kernel)
set_option maxRecDepth 100000 in
theorem mw_wsX11_text_122 : (.code yX11_opens cX11_opens 4 none : Cond) ∈ wsX11_text := List.mem_of_getElem? (i := 122) rfl
set_option maxRecDepth 100000 in
theorem mw_wsX11_text_121 : (.selects RX11 yX11_opens yX11_opens : Cond) ∈ wsX11_text := List.mem_of_getElem? (i := 121) (by decide +kernel)
set_option maxRecDepth 100000 in
theorem mw_wsX11_text_120 : (.instanceMethod yX11_opens : Cond) ∈ wsX11_text := List.mem_of_getElem? (i := 120) (by decide +kernel)
set_option maxRecDepth 100000 in
theorem mw_wsX11_text_119 : (.methodLink RX11 212 yX11_opens : Cond) ∈ wsX11_text := List.mem_of_getElem? (i := 119) (by decide +kernel)
set_option maxRecDepth 100000 in
theorem mw_wsX11_text_118 : (.code yX11_isSign cX11_isSign 2 (some .boolean) : Cond) ∈ wsX11_text := List.mem_of_getElem? (i := 118) rfl
set_option maxRecDepth 100000 in
theorem mw_wsX11_text_117 : (.selects RX11 yX11_isSign yX11_isSign : Cond) ∈ wsX11_text := List.mem_of_getElem? (i := 117) (by decide +kernel)
set_option maxRecDepth 100000 in
theorem mw_wsX11_text_116 : (.instanceMethod yX11_isSign : Cond) ∈ wsX11_text := List.mem_of_getElem? (i := 116) (by decide +kernel)
set_option maxRecDepth 100000 in
theorem mw_wsX11_text_115 : (.methodLink RX11 170 yX11_isSign : Cond) ∈ wsX11_text := List.mem_of_getElem? (i := 115) (by decide +kernel)
set_option maxRecDepth 100000 in
theorem mw_wsX11_text_114 : (.code yX11_takesSign cX11_takesSign 2 (some .boolean) : Cond) ∈ wsX11_text := List.mem_of_getElem? (i := 114) rfl
set_option maxRecDepth 100000 in
theorem mw_wsX11_text_113 : (.selects RX11 yX11_takesSign yX11_takesSign : Cond) ∈ wsX11_text := List.mem_of_getElem? (i := 113) (by decide +kernel)
set_option maxRecDepth 100000 in
theorem mw_wsX11_text_112 : (.instanceMethod yX11_takesSign : Cond) ∈ wsX11_text := List.mem_of_getElem? (i := 112) (by decide +kernel)
set_option maxRecDepth 100000 in
theorem mw_wsX11_text_111 : (.methodLink RX11 176 yX11_takesSign : Cond) ∈ wsX11_text := List.mem_of_getElem? (i := 111) (by decide +kernel)
set_option maxRecDepth 100000 in
theorem mw_wsX11_text_110 : (.code yX11_wants cX11_wants 2 none : Cond) ∈ wsX11_text := List.mem_of_getElem? (i := 110) rfl
set_option maxRecDepth 100000 in
theorem mw_wsX11_text_109 : (.selects RX11 yX11_wants yX11_wants : Cond) ∈ wsX11_text := List.mem_of_getElem? (i := 109) (by decide +kernel)
set_option maxRecDepth 100000 in
theorem mw_wsX11_text_108 : (.instanceMethod yX11_wants : Cond) ∈ wsX11_text := List.mem_of_getElem? (i := 108) (by decide +kernel)
set_option maxRecDepth 100000 in
theorem mw_wsX11_text_107 : (.methodLink RX11 201 yX11_wants : Cond) ∈ wsX11_text := List.mem_of_getElem? (i := 107) (by decide +kernel)
set_option maxRecDepth 100000 in
theorem mw_wsX11_text_106 : (.code yX11_wrong cX11_wrong 3 none : Cond) ∈ wsX11_text := List.mem_of_getElem? (i := 106) rfl
set_option maxRecDepth 100000 in
theorem mw_wsX11_text_105 : (.selects RX11 yX11_wrong yX11_wrong : Cond) ∈ wsX11_text := List.mem_of_getElem? (i := 105) (by decide +kernel)
set_option maxRecDepth 100000 in
theorem mc_wsX11_text_wsX11_parses_r5 : ∀ w ∈ wsX11_parses_r5, w ∈ wsX11_text := (List.forall_mem_cons.mpr ⟨mw_wsX11_text_105, (List.forall_mem_cons.mpr ⟨mw_wsX11_text_106, (List.forall_mem_cons.mpr ⟨mw_wsX11_text_107, (List.forall_mem_cons.mpr ⟨mw_wsX11_text_108, (List.forall_mem_cons.mpr ⟨mw_wsX11_text_109, (List.forall_mem_cons.mpr ⟨mw_wsX11_text_110, (List.forall_mem_cons.mpr ⟨mw_wsX11_text_111, (List.forall_mem_cons.mpr ⟨mw_wsX11_text_112, (List.forall_mem_cons.mpr ⟨mw_wsX11_text_113, (List.forall_mem_cons.mpr ⟨mw_wsX11_text_114, (List.forall_mem_cons.mpr ⟨mw_wsX11_text_115, (List.forall_mem_cons.mpr ⟨mw_wsX11_text_116, (List.forall_mem_cons.mpr ⟨mw_wsX11_text_117, (List.forall_mem_cons.mpr ⟨mw_wsX11_text_118, (List.forall_mem_cons.mpr ⟨mw_wsX11_text_119, (List.forall_mem_cons.mpr ⟨mw_wsX11_text_120, (List.forall_mem_cons.mpr ⟨mw_wsX11_text_121, (List.forall_mem_cons.mpr ⟨mw_wsX11_text_122, (List.forall_mem_cons.mpr ⟨mw_wsX11_text_123, (List.forall_mem_cons.mpr ⟨mw_wsX11_text_124, (List.forall_mem_cons.mpr ⟨mw_wsX11_text_125, (List.forall_mem_cons.mpr ⟨mw_wsX11_text_126, (List.forall_mem_cons.mpr ⟨mw_wsX11_text_127, (List.forall_mem_cons.mpr ⟨mw_wsX11_text_128, (fun _ h => absurd h List.not_mem_nil)⟩)⟩)⟩)⟩)⟩)⟩)⟩)⟩)⟩)⟩)⟩)⟩)⟩)⟩)⟩)⟩)⟩)⟩)⟩)⟩)⟩)⟩)⟩)⟩)
set_option maxRecDepth 100000 in
theorem mw_wsX11_text_152 : (.fieldLink RX11 50 "NothingJudgeModel" "useName" "[I" : Cond) ∈ wsX11_text := List.mem_of_getElem? (i := 152) (by decide +kernel)
set_option maxRecDepth 100000 in
theorem mw_wsX11_text_151 : (.fieldLink RX11 47 "NothingJudgeModel" "usePlace" "[I" : Cond) ∈ wsX11_text := List.mem_of_getElem? (i := 151) (by decide +kernel)
set_option maxRecDepth 100000 in
theorem mw_wsX11_text_150 : (.fieldLink RX11 44 "NothingJudgeModel" "useRoutine" "[I" : Cond) ∈ wsX11_text := List.mem_of_getElem? (i := 150) (by decide +kernel)
set_option maxRecDepth 100000 in
theorem mw_wsX11_text_149 : (.code yX11_newUse cX11_newUse 4 (some .int) : Cond) ∈ wsX11_text := List.mem_of_getElem? (i := 149) rfl
set_option maxRecDepth 100000 in
theorem mw_wsX11_text_148 : (.selects RX11 yX11_newUse yX11_newUse : Cond) ∈ wsX11_text := List.mem_of_getElem? (i := 148) (by decide +kernel)
set_option maxRecDepth 100000 in
theorem mw_wsX11_text_147 : (.instanceMethod yX11_newUse : Cond) ∈ wsX11_text := List.mem_of_getElem? (i := 147) (by decide +kernel)
set_option maxRecDepth 100000 in
theorem mw_wsX11_text_146 : (.methodLink RX11 223 yX11_newUse : Cond) ∈ wsX11_text := List.mem_of_getElem? (i := 146) (by decide +kernel)
set_option maxRecDepth 100000 in
theorem mw_wsX11_text_145 : (.code yX11_statement cX11_statement 5 none : Cond) ∈ wsX11_text := List.mem_of_getElem? (i := 145) rfl
set_option maxRecDepth 100000 in
theorem mw_wsX11_text_144 : (.selects RX11 yX11_statement yX11_statement : Cond) ∈ wsX11_text := List.mem_of_getElem? (i := 144) (by decide +kernel)
set_option maxRecDepth 100000 in
theorem mw_wsX11_text_143 : (.instanceMethod yX11_statement : Cond) ∈ wsX11_text := List.mem_of_getElem? (i := 143) (by decide +kernel)
set_option maxRecDepth 100000 in
theorem mw_wsX11_text_142 : (.methodLink RX11 198 yX11_statement : Cond) ∈ wsX11_text := List.mem_of_getElem? (i := 142) (by decide +kernel)
set_option maxRecDepth 100000 in
theorem mw_wsX11_text_141 : (.code yX11_isWord cX11_isWord 2 (some .boolean) : Cond) ∈ wsX11_text := List.mem_of_getElem? (i := 141) rfl
set_option maxRecDepth 100000 in
theorem mw_wsX11_text_140 : (.selects RX11 yX11_isWord yX11_isWord : Cond) ∈ wsX11_text := List.mem_of_getElem? (i := 140) (by decide +kernel)
set_option maxRecDepth 100000 in
theorem mw_wsX11_text_139 : (.instanceMethod yX11_isWord : Cond) ∈ wsX11_text := List.mem_of_getElem? (i := 139) (by decide +kernel)
set_option maxRecDepth 100000 in
theorem mw_wsX11_text_138 : (.methodLink RX11 220 yX11_isWord : Cond) ∈ wsX11_text := List.mem_of_getElem? (i := 138) (by decide +kernel)
set_option maxRecDepth 100000 in
theorem mw_wsX11_text_137 : (.fieldLink RX11 23 "NothingJudgeModel" "two" "[I" : Cond) ∈ wsX11_text := List.mem_of_getElem? (i := 137) (by decide +kernel)
set_option maxRecDepth 100000 in
theorem mw_wsX11_text_136 : (.fieldLink RX11 17 "NothingJudgeModel" "act" "[I" : Cond) ∈ wsX11_text := List.mem_of_getElem? (i := 136) (by decide +kernel)
set_option maxRecDepth 100000 in
theorem mw_wsX11_text_135 : (.code yX11_emit cX11_emit 6 (some .int) : Cond) ∈ wsX11_text := List.mem_of_getElem? (i := 135) rfl
set_option maxRecDepth 100000 in
theorem mw_wsX11_text_134 : (.selects RX11 yX11_emit yX11_emit : Cond) ∈ wsX11_text := List.mem_of_getElem? (i := 134) (by decide +kernel)
set_option maxRecDepth 100000 in
theorem mw_wsX11_text_133 : (.instanceMethod yX11_emit : Cond) ∈ wsX11_text := List.mem_of_getElem? (i := 133) (by decide +kernel)
set_option maxRecDepth 100000 in
theorem mw_wsX11_text_132 : (.methodLink RX11 216 yX11_emit : Cond) ∈ wsX11_text := List.mem_of_getElem? (i := 132) (by decide +kernel)
set_option maxRecDepth 100000 in
theorem mw_wsX11_text_131 : (.fieldLink RX11 20 "NothingJudgeModel" "one" "[I" : Cond) ∈ wsX11_text := List.mem_of_getElem? (i := 131) (by decide +kernel)
set_option maxRecDepth 100000 in
theorem mw_wsX11_text_130 : (.fieldLink RX11 26 "NothingJudgeModel" "three" "[I" : Cond) ∈ wsX11_text := List.mem_of_getElem? (i := 130) (by decide +kernel)
set_option maxRecDepth 100000 in
theorem mw_wsX11_text_129 : (.code yX11_closes cX11_closes 4 none : Cond) ∈ wsX11_text := List.mem_of_getElem? (i := 129) rfl
set_option maxRecDepth 100000 in
theorem mc_wsX11_text_wsX11_parses_r6 : ∀ w ∈ wsX11_parses_r6, w ∈ wsX11_text := (List.forall_mem_cons.mpr ⟨mw_wsX11_text_129, (List.forall_mem_cons.mpr ⟨mw_wsX11_text_130, (List.forall_mem_cons.mpr ⟨mw_wsX11_text_131, (List.forall_mem_cons.mpr ⟨mw_wsX11_text_132, (List.forall_mem_cons.mpr ⟨mw_wsX11_text_133, (List.forall_mem_cons.mpr ⟨mw_wsX11_text_134, (List.forall_mem_cons.mpr ⟨mw_wsX11_text_135, (List.forall_mem_cons.mpr ⟨mw_wsX11_text_136, (List.forall_mem_cons.mpr ⟨mw_wsX11_text_137, (List.forall_mem_cons.mpr ⟨mw_wsX11_text_138, (List.forall_mem_cons.mpr ⟨mw_wsX11_text_139, (List.forall_mem_cons.mpr ⟨mw_wsX11_text_140, (List.forall_mem_cons.mpr ⟨mw_wsX11_text_141, (List.forall_mem_cons.mpr ⟨mw_wsX11_text_142, (List.forall_mem_cons.mpr ⟨mw_wsX11_text_143, (List.forall_mem_cons.mpr ⟨mw_wsX11_text_144, (List.forall_mem_cons.mpr ⟨mw_wsX11_text_145, (List.forall_mem_cons.mpr ⟨mw_wsX11_text_146, (List.forall_mem_cons.mpr ⟨mw_wsX11_text_147, (List.forall_mem_cons.mpr ⟨mw_wsX11_text_148, (List.forall_mem_cons.mpr ⟨mw_wsX11_text_149, (List.forall_mem_cons.mpr ⟨mw_wsX11_text_150, (List.forall_mem_cons.mpr ⟨mw_wsX11_text_151, (List.forall_mem_cons.mpr ⟨mw_wsX11_text_152, (fun _ h => absurd h List.not_mem_nil)⟩)⟩)⟩)⟩)⟩)⟩)⟩)⟩)⟩)⟩)⟩)⟩)⟩)⟩)⟩)⟩)⟩)⟩)⟩)⟩)⟩)⟩)⟩)⟩)
set_option maxRecDepth 100000 in
theorem mw_wsX11_text_171 : (.fieldLink RX11 59 "NothingJudgeModel" "testPlace" "[I" : Cond) ∈ wsX11_text := List.mem_of_getElem? (i := 171) (by decide +kernel)
set_option maxRecDepth 100000 in
theorem mw_wsX11_text_170 : (.fieldLink RX11 56 "NothingJudgeModel" "testRoutine" "[I" : Cond) ∈ wsX11_text := List.mem_of_getElem? (i := 170) (by decide +kernel)
set_option maxRecDepth 100000 in
theorem mw_wsX11_text_169 : (.code yX11_newTest cX11_newTest 6 (some .int) : Cond) ∈ wsX11_text := List.mem_of_getElem? (i := 169) rfl
set_option maxRecDepth 100000 in
theorem mw_wsX11_text_168 : (.selects RX11 yX11_newTest yX11_newTest : Cond) ∈ wsX11_text := List.mem_of_getElem? (i := 168) (by decide +kernel)
set_option maxRecDepth 100000 in
theorem mw_wsX11_text_167 : (.instanceMethod yX11_newTest : Cond) ∈ wsX11_text := List.mem_of_getElem? (i := 167) (by decide +kernel)
set_option maxRecDepth 100000 in
theorem mw_wsX11_text_166 : (.methodLink RX11 236 yX11_newTest : Cond) ∈ wsX11_text := List.mem_of_getElem? (i := 166) (by decide +kernel)
set_option maxRecDepth 100000 in
theorem mw_wsX11_text_165 : (.fieldLink RX11 29 "NothingJudgeModel" "argsOf" "[I" : Cond) ∈ wsX11_text := List.mem_of_getElem? (i := 165) (by decide +kernel)
set_option maxRecDepth 100000 in
theorem mw_wsX11_text_164 : (.code yX11_call cX11_call 6 none : Cond) ∈ wsX11_text := List.mem_of_getElem? (i := 164) rfl
set_option maxRecDepth 100000 in
theorem mw_wsX11_text_163 : (.selects RX11 yX11_call yX11_call : Cond) ∈ wsX11_text := List.mem_of_getElem? (i := 163) (by decide +kernel)
set_option maxRecDepth 100000 in
theorem mw_wsX11_text_162 : (.instanceMethod yX11_call : Cond) ∈ wsX11_text := List.mem_of_getElem? (i := 162) (by decide +kernel)
set_option maxRecDepth 100000 in
theorem mw_wsX11_text_161 : (.methodLink RX11 233 yX11_call : Cond) ∈ wsX11_text := List.mem_of_getElem? (i := 161) (by decide +kernel)
set_option maxRecDepth 100000 in
theorem mw_wsX11_text_160 : (.code yX11_worth cX11_worth 4 none : Cond) ∈ wsX11_text := List.mem_of_getElem? (i := 160) rfl
set_option maxRecDepth 100000 in
theorem mw_wsX11_text_159 : (.selects RX11 yX11_worth yX11_worth : Cond) ∈ wsX11_text := List.mem_of_getElem? (i := 159) (by decide +kernel)
set_option maxRecDepth 100000 in
theorem mw_wsX11_text_158 : (.instanceMethod yX11_worth : Cond) ∈ wsX11_text := List.mem_of_getElem? (i := 158) (by decide +kernel)
set_option maxRecDepth 100000 in
theorem mw_wsX11_text_157 : (.methodLink RX11 230 yX11_worth : Cond) ∈ wsX11_text := List.mem_of_getElem? (i := 157) (by decide +kernel)
set_option maxRecDepth 100000 in
theorem mw_wsX11_text_156 : (.code yX11_field cX11_field 1 (some .int) : Cond) ∈ wsX11_text := List.mem_of_getElem? (i := 156) rfl
set_option maxRecDepth 100000 in
theorem mw_wsX11_text_155 : (.selects RX11 yX11_field yX11_field : Cond) ∈ wsX11_text := List.mem_of_getElem? (i := 155) (by decide +kernel)
set_option maxRecDepth 100000 in
theorem mw_wsX11_text_154 : (.instanceMethod yX11_field : Cond) ∈ wsX11_text := List.mem_of_getElem? (i := 154) (by decide +kernel)
set_option maxRecDepth 100000 in
theorem mw_wsX11_text_153 : (.methodLink RX11 227 yX11_field : Cond) ∈ wsX11_text := List.mem_of_getElem? (i := 153) (by decide +kernel)
set_option maxRecDepth 100000 in
theorem mc_wsX11_text_wsX11_parses_r7 : ∀ w ∈ wsX11_parses_r7, w ∈ wsX11_text := (List.forall_mem_cons.mpr ⟨mw_wsX11_text_153, (List.forall_mem_cons.mpr ⟨mw_wsX11_text_154, (List.forall_mem_cons.mpr ⟨mw_wsX11_text_155, (List.forall_mem_cons.mpr ⟨mw_wsX11_text_156, (List.forall_mem_cons.mpr ⟨mw_wsX11_text_157, (List.forall_mem_cons.mpr ⟨mw_wsX11_text_158, (List.forall_mem_cons.mpr ⟨mw_wsX11_text_159, (List.forall_mem_cons.mpr ⟨mw_wsX11_text_160, (List.forall_mem_cons.mpr ⟨mw_wsX11_text_161, (List.forall_mem_cons.mpr ⟨mw_wsX11_text_162, (List.forall_mem_cons.mpr ⟨mw_wsX11_text_163, (List.forall_mem_cons.mpr ⟨mw_wsX11_text_164, (List.forall_mem_cons.mpr ⟨mw_wsX11_text_165, (List.forall_mem_cons.mpr ⟨mw_wsX11_text_166, (List.forall_mem_cons.mpr ⟨mw_wsX11_text_167, (List.forall_mem_cons.mpr ⟨mw_wsX11_text_168, (List.forall_mem_cons.mpr ⟨mw_wsX11_text_169, (List.forall_mem_cons.mpr ⟨mw_wsX11_text_170, (List.forall_mem_cons.mpr ⟨mw_wsX11_text_171, (fun _ h => absurd h List.not_mem_nil)⟩)⟩)⟩)⟩)⟩)⟩)⟩)⟩)⟩)⟩)⟩)⟩)⟩)⟩)⟩)⟩)⟩)⟩)⟩)
set_option maxRecDepth 20000 in
theorem ggX11_text_X11_parses : GoodIn wsX11_text wsX11_parses := goodIn_sub (List.forall_mem_cons.mpr ⟨mw_wsX11_text_12, (wK_app (wK_app mc_wsX11_text_wsX11_parses_r1 (wK_app mc_wsX11_text_wsX11_parses_r2 (wK_app mc_wsX11_text_wsX11_parses_r3 (wK_app mc_wsX11_text_wsX11_parses_r4 (wK_app mc_wsX11_text_wsX11_parses_r5 (wK_app mc_wsX11_text_wsX11_parses_r6 mc_wsX11_text_wsX11_parses_r7)))))) (fun _ h => List.mem_cons_of_mem _ (List.mem_append_right _ h)))⟩) (by decide +kernel)
set_option maxRecDepth 20000 in
theorem gX11_text_X11_parses : GoodIn wsX11_text (wsV RX11 239 RX11 yX11_parses wsX11_parses) := goodIn_app (goodIn_of _ (by decide +kernel)) ggX11_text_X11_parses
set_option maxRecDepth 100000 in
theorem mw_wsX11_text_175 : (.code yX11_comes cX11_comes 2 none : Cond) ∈ wsX11_text := List.mem_of_getElem? (i := 175) rfl
set_option maxRecDepth 100000 in
theorem mw_wsX11_text_181 : (.fieldLink RX11 83 "NothingJudgeModel" "entry" "I" : Cond) ∈ wsX11_text := List.mem_of_getElem? (i := 181) (by decide +kernel)
set_option maxRecDepth 100000 in
theorem mw_wsX11_text_180 : (.code yX11_enters cX11_enters 3 none : Cond) ∈ wsX11_text := List.mem_of_getElem? (i := 180) rfl
set_option maxRecDepth 100000 in
theorem mw_wsX11_text_179 : (.selects RX11 yX11_enters yX11_enters : Cond) ∈ wsX11_text := List.mem_of_getElem? (i := 179) (by decide +kernel)
set_option maxRecDepth 100000 in
theorem mw_wsX11_text_178 : (.instanceMethod yX11_enters : Cond) ∈ wsX11_text := List.mem_of_getElem? (i := 178) (by decide +kernel)
set_option maxRecDepth 100000 in
theorem mw_wsX11_text_177 : (.methodLink RX11 254 yX11_enters : Cond) ∈ wsX11_text := List.mem_of_getElem? (i := 177) (by decide +kernel)
set_option maxRecDepth 100000 in
theorem mw_wsX11_text_176 : (.fieldLink RX11 251 "NothingJudgeModel" "actMany" "I" : Cond) ∈ wsX11_text := List.mem_of_getElem? (i := 176) (by decide +kernel)
set_option maxRecDepth 100000 in
theorem mc_wsX11_text_wsX11_comes_r1 : ∀ w ∈ wsX11_comes_r1, w ∈ wsX11_text := (List.forall_mem_cons.mpr ⟨mw_wsX11_text_14, (List.forall_mem_cons.mpr ⟨mw_wsX11_text_176, (List.forall_mem_cons.mpr ⟨mw_wsX11_text_136, (List.forall_mem_cons.mpr ⟨mw_wsX11_text_131, (List.forall_mem_cons.mpr ⟨mw_wsX11_text_137, (List.forall_mem_cons.mpr ⟨mw_wsX11_text_130, (List.forall_mem_cons.mpr ⟨mw_wsX11_text_165, (List.forall_mem_cons.mpr ⟨mw_wsX11_text_20, (List.forall_mem_cons.mpr ⟨mw_wsX11_text_23, (List.forall_mem_cons.mpr ⟨mw_wsX11_text_98, (List.forall_mem_cons.mpr ⟨mw_wsX11_text_19, (List.forall_mem_cons.mpr ⟨mw_wsX11_text_150, (List.forall_mem_cons.mpr ⟨mw_wsX11_text_151, (List.forall_mem_cons.mpr ⟨mw_wsX11_text_152, (List.forall_mem_cons.mpr ⟨mw_wsX11_text_17, (List.forall_mem_cons.mpr ⟨mw_wsX11_text_170, (List.forall_mem_cons.mpr ⟨mw_wsX11_text_171, (List.forall_mem_cons.mpr ⟨mw_wsX11_text_18, (List.forall_mem_cons.mpr ⟨mw_wsX11_text_177, (List.forall_mem_cons.mpr ⟨mw_wsX11_text_178, (List.forall_mem_cons.mpr ⟨mw_wsX11_text_179, (List.forall_mem_cons.mpr ⟨mw_wsX11_text_11, (List.forall_mem_cons.mpr ⟨mw_wsX11_text_180, (List.forall_mem_cons.mpr ⟨mw_wsX11_text_181, (fun _ h => absurd h List.not_mem_nil)⟩)⟩)⟩)⟩)⟩)⟩)⟩)⟩)⟩)⟩)⟩)⟩)⟩)⟩)⟩)⟩)⟩)⟩)⟩)⟩)⟩)⟩)⟩)⟩)
set_option maxRecDepth 100000 in
theorem mw_wsX11_text_182 : (.fieldLink RX11 86 "NothingJudgeModel" "outers" "[I" : Cond) ∈ wsX11_text := List.mem_of_getElem? (i := 182) (by decide +kernel)
set_option maxRecDepth 100000 in
theorem mc_wsX11_text_wsX11_comes_r2 : ∀ w ∈ wsX11_comes_r2, w ∈ wsX11_text := (List.forall_mem_cons.mpr ⟨mw_wsX11_text_182, (fun _ h => absurd h List.not_mem_nil)⟩)
set_option maxRecDepth 20000 in
theorem ggX11_text_X11_comes : GoodIn wsX11_text wsX11_comes := goodIn_sub (List.forall_mem_cons.mpr ⟨mw_wsX11_text_175, (wK_app (wK_app mc_wsX11_text_wsX11_comes_r1 mc_wsX11_text_wsX11_comes_r2) (fun _ h => List.mem_cons_of_mem _ (List.mem_append_right _ h)))⟩) (by decide +kernel)
set_option maxRecDepth 20000 in
theorem gX11_text_X11_comes : GoodIn wsX11_text (wsV RX11 245 RX11 yX11_comes wsX11_comes) := goodIn_app (goodIn_of _ (by decide +kernel)) ggX11_text_X11_comes
set_option maxRecDepth 100000 in
theorem mw_wsX11_text_186 : (.code yX11_routinesMany cX11_routinesMany 3 (some .int) : Cond) ∈ wsX11_text := List.mem_of_getElem? (i := 186) rfl
set_option maxRecDepth 20000 in
theorem ggX11_text_X11_routinesMany : GoodIn wsX11_text wsX11_routinesMany := goodIn_sub (List.forall_mem_cons.mpr ⟨mw_wsX11_text_186, (wK_app (List.forall_mem_cons.mpr ⟨mw_wsX11_text_20, (fun _ h => absurd h List.not_mem_nil)⟩) (fun _ h => List.mem_cons_of_mem _ (List.mem_append_right _ h)))⟩) (by decide +kernel)
set_option maxRecDepth 20000 in
theorem gX11_text_X11_routinesMany : GoodIn wsX11_text (wsV RX11 248 RX11 yX11_routinesMany wsX11_routinesMany) := goodIn_app (goodIn_of _ (by decide +kernel)) ggX11_text_X11_routinesMany
theorem dX11_text_0 : decode cX11_text 0 = .ok (.aload_n 0, 1) := by decide +kernel
theorem dX11_text_1 : decode cX11_text 1 = .ok (.iconst 0, 1) := by decide +kernel
theorem dX11_text_2 : decode cX11_text 2 = .ok (.putfield 121, 3) := by decide +kernel
theorem dX11_text_5 : decode cX11_text 5 = .ok (.iload_n 1, 1) := by decide +kernel
theorem dX11_text_6 : decode cX11_text 6 = .ok (.ifCond .lt 11, 3) := by decide +kernel
theorem dX11_text_9 : decode cX11_text 9 = .ok (.iload_n 1, 1) := by decide +kernel
theorem dX11_text_10 : decode cX11_text 10 = .ok (.aload_n 0, 1) := by decide +kernel
theorem dX11_text_11 : decode cX11_text 11 = .ok (.getfield 124, 3) := by decide +kernel
theorem dX11_text_14 : decode cX11_text 14 = .ok (.if_icmp .le 6, 3) := by decide +kernel
theorem dX11_text_17 : decode cX11_text 17 = .ok (.bipush (-2), 2) := by decide +kernel
theorem dX11_text_19 : decode cX11_text 19 = .ok (.ireturn, 1) := by decide +kernel
theorem dX11_text_20 : decode cX11_text 20 = .ok (.aload_n 0, 1) := by decide +kernel
theorem dX11_text_21 : decode cX11_text 21 = .ok (.iload_n 1, 1) := by decide +kernel
theorem dX11_text_22 : decode cX11_text 22 = .ok (.putfield 130, 3) := by decide +kernel
theorem dX11_text_25 : decode cX11_text 25 = .ok (.aload_n 0, 1) := by decide +kernel
theorem dX11_text_26 : decode cX11_text 26 = .ok (.iconst 0, 1) := by decide +kernel
theorem dX11_text_27 : decode cX11_text 27 = .ok (.putfield 124, 3) := by decide +kernel
theorem dX11_text_30 : decode cX11_text 30 = .ok (.aload_n 0, 1) := by decide +kernel
theorem dX11_text_31 : decode cX11_text 31 = .ok (.invokevirtual 239, 3) := by decide +kernel
theorem dX11_text_34 : decode cX11_text 34 = .ok (.aload_n 0, 1) := by decide +kernel
theorem dX11_text_35 : decode cX11_text 35 = .ok (.aload_n 0, 1) := by decide +kernel
theorem dX11_text_36 : decode cX11_text 36 = .ok (.getfield 164, 3) := by decide +kernel
theorem dX11_text_39 : decode cX11_text 39 = .ok (.putfield 242, 3) := by decide +kernel
theorem dX11_text_42 : decode cX11_text 42 = .ok (.aload_n 0, 1) := by decide +kernel
theorem dX11_text_43 : decode cX11_text 43 = .ok (.aload_n 0, 1) := by decide +kernel
theorem dX11_text_44 : decode cX11_text 44 = .ok (.getfield 167, 3) := by decide +kernel
theorem dX11_text_47 : decode cX11_text 47 = .ok (.putfield 13, 3) := by decide +kernel
theorem dX11_text_50 : decode cX11_text 50 = .ok (.aload_n 0, 1) := by decide +kernel
theorem dX11_text_51 : decode cX11_text 51 = .ok (.getfield 164, 3) := by decide +kernel
theorem dX11_text_54 : decode cX11_text 54 = .ok (.ifCond .eq 5, 3) := by decide +kernel
theorem dX11_text_59 : decode cX11_text 59 = .ok (.aload_n 0, 1) := by decide +kernel
theorem dX11_text_60 : decode cX11_text 60 = .ok (.invokevirtual 245, 3) := by decide +kernel
theorem dX11_text_63 : decode cX11_text 63 = .ok (.aload_n 0, 1) := by decide +kernel
theorem dX11_text_64 : decode cX11_text 64 = .ok (.invokevirtual 248, 3) := by decide +kernel
theorem dX11_text_67 : decode cX11_text 67 = .ok (.ireturn, 1) := by decide +kernel
set_option maxRecDepth 100000 in
theorem mw_wsX11_comes_23 : (.code yX11_enters cX11_enters 3 none : Cond) ∈ wsX11_comes := List.mem_of_getElem? (i := 23) rfl
set_option maxRecDepth 100000 in
theorem mw_wsX11_comes_25 : (.fieldLink RX11 86 "NothingJudgeModel" "outers" "[I" : Cond) ∈ wsX11_comes := List.mem_of_getElem? (i := 25) (by decide +kernel)
set_option maxRecDepth 100000 in
theorem mw_wsX11_comes_24 : (.fieldLink RX11 83 "NothingJudgeModel" "entry" "I" : Cond) ∈ wsX11_comes := List.mem_of_getElem? (i := 24) (by decide +kernel)
set_option maxRecDepth 20000 in
theorem ggX11_comes_X11_enters : GoodIn wsX11_comes wsX11_enters := goodIn_sub (List.forall_mem_cons.mpr ⟨mw_wsX11_comes_23, (wK_app (List.forall_mem_cons.mpr ⟨mw_wsX11_comes_24, (List.forall_mem_cons.mpr ⟨mw_wsX11_comes_25, (fun _ h => absurd h List.not_mem_nil)⟩)⟩) (fun _ h => List.mem_cons_of_mem _ (List.mem_append_right _ h)))⟩) (by decide +kernel)
set_option maxRecDepth 20000 in
theorem gX11_comes_X11_enters : GoodIn wsX11_comes (wsV RX11 254 RX11 yX11_enters wsX11_enters) := goodIn_app (goodIn_of _ (by decide +kernel)) ggX11_comes_X11_enters
theorem dX11_comes_0 : decode cX11_comes 0 = .ok (.aload_n 0, 1) := by decide +kernel
theorem dX11_comes_1 : decode cX11_comes 1 = .ok (.aload_n 0, 1) := by decide +kernel
theorem dX11_comes_2 : decode cX11_comes 2 = .ok (.getfield 183, 3) := by decide +kernel
theorem dX11_comes_5 : decode cX11_comes 5 = .ok (.putfield 251, 3) := by decide +kernel
theorem dX11_comes_8 : decode cX11_comes 8 = .ok (.iconst 0, 1) := by decide +kernel
theorem dX11_comes_9 : decode cX11_comes 9 = .ok (.istore_n 1, 1) := by decide +kernel
theorem dX11_comes_10 : decode cX11_comes 10 = .ok (.iload_n 1, 1) := by decide +kernel
theorem dX11_comes_11 : decode cX11_comes 11 = .ok (.aload_n 0, 1) := by decide +kernel
theorem dX11_comes_12 : decode cX11_comes 12 = .ok (.getfield 183, 3) := by decide +kernel
theorem dX11_comes_15 : decode cX11_comes 15 = .ok (.if_icmp .ge 89, 3) := by decide +kernel
theorem dX11_comes_104 : decode cX11_comes 104 = .ok (.iconst 0, 1) := by decide +kernel
theorem dX11_comes_105 : decode cX11_comes 105 = .ok (.istore_n 1, 1) := by decide +kernel
theorem dX11_comes_106 : decode cX11_comes 106 = .ok (.iload_n 1, 1) := by decide +kernel
theorem dX11_comes_107 : decode cX11_comes 107 = .ok (.bipush 8, 2) := by decide +kernel
theorem dX11_comes_109 : decode cX11_comes 109 = .ok (.if_icmp .ge 39, 3) := by decide +kernel
theorem dX11_comes_112 : decode cX11_comes 112 = .ok (.aload_n 0, 1) := by decide +kernel
theorem dX11_comes_113 : decode cX11_comes 113 = .ok (.getfield 32, 3) := by decide +kernel
theorem dX11_comes_116 : decode cX11_comes 116 = .ok (.iload_n 1, 1) := by decide +kernel
theorem dX11_comes_117 : decode cX11_comes 117 = .ok (.aload_n 0, 1) := by decide +kernel
theorem dX11_comes_118 : decode cX11_comes 118 = .ok (.getfield 32, 3) := by decide +kernel
theorem dX11_comes_121 : decode cX11_comes 121 = .ok (.bipush 8, 2) := by decide +kernel
theorem dX11_comes_123 : decode cX11_comes 123 = .ok (.iload_n 1, 1) := by decide +kernel
theorem dX11_comes_124 : decode cX11_comes 124 = .ok (.iadd, 1) := by decide +kernel
theorem dX11_comes_125 : decode cX11_comes 125 = .ok (.iaload, 1) := by decide +kernel
theorem dX11_comes_126 : decode cX11_comes 126 = .ok (.iastore, 1) := by decide +kernel
theorem dX11_comes_127 : decode cX11_comes 127 = .ok (.aload_n 0, 1) := by decide +kernel
theorem dX11_comes_128 : decode cX11_comes 128 = .ok (.getfield 35, 3) := by decide +kernel
theorem dX11_comes_131 : decode cX11_comes 131 = .ok (.iload_n 1, 1) := by decide +kernel
theorem dX11_comes_132 : decode cX11_comes 132 = .ok (.aload_n 0, 1) := by decide +kernel
theorem dX11_comes_133 : decode cX11_comes 133 = .ok (.getfield 35, 3) := by decide +kernel
theorem dX11_comes_136 : decode cX11_comes 136 = .ok (.bipush 8, 2) := by decide +kernel
theorem dX11_comes_138 : decode cX11_comes 138 = .ok (.iload_n 1, 1) := by decide +kernel
theorem dX11_comes_139 : decode cX11_comes 139 = .ok (.iadd, 1) := by decide +kernel
theorem dX11_comes_140 : decode cX11_comes 140 = .ok (.iaload, 1) := by decide +kernel
theorem dX11_comes_141 : decode cX11_comes 141 = .ok (.iastore, 1) := by decide +kernel
theorem dX11_comes_142 : decode cX11_comes 142 = .ok (.iinc 1 1, 3) := by decide +kernel
theorem dX11_comes_145 : decode cX11_comes 145 = .ok (.goto (-39), 3) := by decide +kernel
theorem dX11_comes_148 : decode cX11_comes 148 = .ok (.iconst 0, 1) := by decide +kernel
theorem dX11_comes_149 : decode cX11_comes 149 = .ok (.istore_n 1, 1) := by decide +kernel
theorem dX11_comes_150 : decode cX11_comes 150 = .ok (.iload_n 1, 1) := by decide +kernel
theorem dX11_comes_151 : decode cX11_comes 151 = .ok (.bipush 32, 2) := by decide +kernel
theorem dX11_comes_153 : decode cX11_comes 153 = .ok (.if_icmp .ge 24, 3) := by decide +kernel
theorem dX11_comes_156 : decode cX11_comes 156 = .ok (.aload_n 0, 1) := by decide +kernel
theorem dX11_comes_157 : decode cX11_comes 157 = .ok (.getfield 38, 3) := by decide +kernel
theorem dX11_comes_160 : decode cX11_comes 160 = .ok (.iload_n 1, 1) := by decide +kernel
theorem dX11_comes_161 : decode cX11_comes 161 = .ok (.aload_n 0, 1) := by decide +kernel
theorem dX11_comes_162 : decode cX11_comes 162 = .ok (.getfield 38, 3) := by decide +kernel
theorem dX11_comes_165 : decode cX11_comes 165 = .ok (.bipush 32, 2) := by decide +kernel
theorem dX11_comes_167 : decode cX11_comes 167 = .ok (.iload_n 1, 1) := by decide +kernel
theorem dX11_comes_168 : decode cX11_comes 168 = .ok (.iadd, 1) := by decide +kernel
theorem dX11_comes_169 : decode cX11_comes 169 = .ok (.iaload, 1) := by decide +kernel
theorem dX11_comes_170 : decode cX11_comes 170 = .ok (.iastore, 1) := by decide +kernel
theorem dX11_comes_171 : decode cX11_comes 171 = .ok (.iinc 1 1, 3) := by decide +kernel
theorem dX11_comes_174 : decode cX11_comes 174 = .ok (.goto (-24), 3) := by decide +kernel
theorem dX11_comes_177 : decode cX11_comes 177 = .ok (.aload_n 0, 1) := by decide +kernel
theorem dX11_comes_178 : decode cX11_comes 178 = .ok (.getfield 41, 3) := by decide +kernel
theorem dX11_comes_181 : decode cX11_comes 181 = .ok (.iconst 0, 1) := by decide +kernel
theorem dX11_comes_182 : decode cX11_comes 182 = .ok (.aload_n 0, 1) := by decide +kernel
theorem dX11_comes_183 : decode cX11_comes 183 = .ok (.getfield 41, 3) := by decide +kernel
theorem dX11_comes_186 : decode cX11_comes 186 = .ok (.iconst 1, 1) := by decide +kernel
theorem dX11_comes_187 : decode cX11_comes 187 = .ok (.iaload, 1) := by decide +kernel
theorem dX11_comes_188 : decode cX11_comes 188 = .ok (.iastore, 1) := by decide +kernel
theorem dX11_comes_189 : decode cX11_comes 189 = .ok (.iconst 0, 1) := by decide +kernel
theorem dX11_comes_190 : decode cX11_comes 190 = .ok (.istore_n 1, 1) := by decide +kernel
theorem dX11_comes_191 : decode cX11_comes 191 = .ok (.iload_n 1, 1) := by decide +kernel
theorem dX11_comes_192 : decode cX11_comes 192 = .ok (.bipush 41, 2) := by decide +kernel
theorem dX11_comes_194 : decode cX11_comes 194 = .ok (.if_icmp .ge 54, 3) := by decide +kernel
theorem dX11_comes_197 : decode cX11_comes 197 = .ok (.aload_n 0, 1) := by decide +kernel
theorem dX11_comes_198 : decode cX11_comes 198 = .ok (.getfield 44, 3) := by decide +kernel
theorem dX11_comes_201 : decode cX11_comes 201 = .ok (.iload_n 1, 1) := by decide +kernel
theorem dX11_comes_202 : decode cX11_comes 202 = .ok (.aload_n 0, 1) := by decide +kernel
theorem dX11_comes_203 : decode cX11_comes 203 = .ok (.getfield 44, 3) := by decide +kernel
theorem dX11_comes_206 : decode cX11_comes 206 = .ok (.bipush 41, 2) := by decide +kernel
theorem dX11_comes_208 : decode cX11_comes 208 = .ok (.iload_n 1, 1) := by decide +kernel
theorem dX11_comes_209 : decode cX11_comes 209 = .ok (.iadd, 1) := by decide +kernel
theorem dX11_comes_210 : decode cX11_comes 210 = .ok (.iaload, 1) := by decide +kernel
theorem dX11_comes_211 : decode cX11_comes 211 = .ok (.iastore, 1) := by decide +kernel
theorem dX11_comes_212 : decode cX11_comes 212 = .ok (.aload_n 0, 1) := by decide +kernel
theorem dX11_comes_213 : decode cX11_comes 213 = .ok (.getfield 47, 3) := by decide +kernel
theorem dX11_comes_216 : decode cX11_comes 216 = .ok (.iload_n 1, 1) := by decide +kernel
theorem dX11_comes_217 : decode cX11_comes 217 = .ok (.aload_n 0, 1) := by decide +kernel
theorem dX11_comes_218 : decode cX11_comes 218 = .ok (.getfield 47, 3) := by decide +kernel
theorem dX11_comes_221 : decode cX11_comes 221 = .ok (.bipush 41, 2) := by decide +kernel
theorem dX11_comes_223 : decode cX11_comes 223 = .ok (.iload_n 1, 1) := by decide +kernel
theorem dX11_comes_224 : decode cX11_comes 224 = .ok (.iadd, 1) := by decide +kernel
theorem dX11_comes_225 : decode cX11_comes 225 = .ok (.iaload, 1) := by decide +kernel
theorem dX11_comes_226 : decode cX11_comes 226 = .ok (.iastore, 1) := by decide +kernel
theorem dX11_comes_227 : decode cX11_comes 227 = .ok (.aload_n 0, 1) := by decide +kernel
theorem dX11_comes_228 : decode cX11_comes 228 = .ok (.getfield 50, 3) := by decide +kernel
theorem dX11_comes_231 : decode cX11_comes 231 = .ok (.iload_n 1, 1) := by decide +kernel
theorem dX11_comes_232 : decode cX11_comes 232 = .ok (.aload_n 0, 1) := by decide +kernel
theorem dX11_comes_233 : decode cX11_comes 233 = .ok (.getfield 50, 3) := by decide +kernel
theorem dX11_comes_236 : decode cX11_comes 236 = .ok (.bipush 41, 2) := by decide +kernel
theorem dX11_comes_238 : decode cX11_comes 238 = .ok (.iload_n 1, 1) := by decide +kernel
theorem dX11_comes_239 : decode cX11_comes 239 = .ok (.iadd, 1) := by decide +kernel
theorem dX11_comes_240 : decode cX11_comes 240 = .ok (.iaload, 1) := by decide +kernel
theorem dX11_comes_241 : decode cX11_comes 241 = .ok (.iastore, 1) := by decide +kernel
theorem dX11_comes_242 : decode cX11_comes 242 = .ok (.iinc 1 1, 3) := by decide +kernel
theorem dX11_comes_245 : decode cX11_comes 245 = .ok (.goto (-54), 3) := by decide +kernel
theorem dX11_comes_248 : decode cX11_comes 248 = .ok (.aload_n 0, 1) := by decide +kernel
theorem dX11_comes_249 : decode cX11_comes 249 = .ok (.getfield 53, 3) := by decide +kernel
theorem dX11_comes_252 : decode cX11_comes 252 = .ok (.iconst 0, 1) := by decide +kernel
theorem dX11_comes_253 : decode cX11_comes 253 = .ok (.aload_n 0, 1) := by decide +kernel
theorem dX11_comes_254 : decode cX11_comes 254 = .ok (.getfield 53, 3) := by decide +kernel
theorem dX11_comes_257 : decode cX11_comes 257 = .ok (.iconst 1, 1) := by decide +kernel
theorem dX11_comes_258 : decode cX11_comes 258 = .ok (.iaload, 1) := by decide +kernel
theorem dX11_comes_259 : decode cX11_comes 259 = .ok (.iastore, 1) := by decide +kernel
theorem dX11_comes_260 : decode cX11_comes 260 = .ok (.iconst 0, 1) := by decide +kernel
theorem dX11_comes_261 : decode cX11_comes 261 = .ok (.istore_n 1, 1) := by decide +kernel
theorem dX11_comes_262 : decode cX11_comes 262 = .ok (.iload_n 1, 1) := by decide +kernel
theorem dX11_comes_263 : decode cX11_comes 263 = .ok (.bipush 25, 2) := by decide +kernel
theorem dX11_comes_265 : decode cX11_comes 265 = .ok (.if_icmp .ge 39, 3) := by decide +kernel
theorem dX11_comes_268 : decode cX11_comes 268 = .ok (.aload_n 0, 1) := by decide +kernel
theorem dX11_comes_269 : decode cX11_comes 269 = .ok (.getfield 56, 3) := by decide +kernel
theorem dX11_comes_272 : decode cX11_comes 272 = .ok (.iload_n 1, 1) := by decide +kernel
theorem dX11_comes_273 : decode cX11_comes 273 = .ok (.aload_n 0, 1) := by decide +kernel
theorem dX11_comes_274 : decode cX11_comes 274 = .ok (.getfield 56, 3) := by decide +kernel
theorem dX11_comes_277 : decode cX11_comes 277 = .ok (.bipush 25, 2) := by decide +kernel
theorem dX11_comes_279 : decode cX11_comes 279 = .ok (.iload_n 1, 1) := by decide +kernel
theorem dX11_comes_280 : decode cX11_comes 280 = .ok (.iadd, 1) := by decide +kernel
theorem dX11_comes_281 : decode cX11_comes 281 = .ok (.iaload, 1) := by decide +kernel
theorem dX11_comes_282 : decode cX11_comes 282 = .ok (.iastore, 1) := by decide +kernel
theorem dX11_comes_283 : decode cX11_comes 283 = .ok (.aload_n 0, 1) := by decide +kernel
theorem dX11_comes_284 : decode cX11_comes 284 = .ok (.getfield 59, 3) := by decide +kernel
theorem dX11_comes_287 : decode cX11_comes 287 = .ok (.iload_n 1, 1) := by decide +kernel
theorem dX11_comes_288 : decode cX11_comes 288 = .ok (.aload_n 0, 1) := by decide +kernel
theorem dX11_comes_289 : decode cX11_comes 289 = .ok (.getfield 59, 3) := by decide +kernel
theorem dX11_comes_292 : decode cX11_comes 292 = .ok (.bipush 25, 2) := by decide +kernel
theorem dX11_comes_294 : decode cX11_comes 294 = .ok (.iload_n 1, 1) := by decide +kernel
theorem dX11_comes_295 : decode cX11_comes 295 = .ok (.iadd, 1) := by decide +kernel
theorem dX11_comes_296 : decode cX11_comes 296 = .ok (.iaload, 1) := by decide +kernel
theorem dX11_comes_297 : decode cX11_comes 297 = .ok (.iastore, 1) := by decide +kernel
theorem dX11_comes_298 : decode cX11_comes 298 = .ok (.iinc 1 1, 3) := by decide +kernel
theorem dX11_comes_301 : decode cX11_comes 301 = .ok (.goto (-39), 3) := by decide +kernel
theorem dX11_comes_304 : decode cX11_comes 304 = .ok (.aload_n 0, 1) := by decide +kernel
theorem dX11_comes_305 : decode cX11_comes 305 = .ok (.getfield 62, 3) := by decide +kernel
theorem dX11_comes_308 : decode cX11_comes 308 = .ok (.iconst 0, 1) := by decide +kernel
theorem dX11_comes_309 : decode cX11_comes 309 = .ok (.aload_n 0, 1) := by decide +kernel
theorem dX11_comes_310 : decode cX11_comes 310 = .ok (.getfield 62, 3) := by decide +kernel
theorem dX11_comes_313 : decode cX11_comes 313 = .ok (.iconst 1, 1) := by decide +kernel
theorem dX11_comes_314 : decode cX11_comes 314 = .ok (.iaload, 1) := by decide +kernel
theorem dX11_comes_315 : decode cX11_comes 315 = .ok (.iastore, 1) := by decide +kernel
theorem dX11_comes_316 : decode cX11_comes 316 = .ok (.aload_n 0, 1) := by decide +kernel
theorem dX11_comes_317 : decode cX11_comes 317 = .ok (.aload_n 0, 1) := by decide +kernel
theorem dX11_comes_318 : decode cX11_comes 318 = .ok (.getfield 41, 3) := by decide +kernel
theorem dX11_comes_321 : decode cX11_comes 321 = .ok (.iconst 0, 1) := by decide +kernel
theorem dX11_comes_322 : decode cX11_comes 322 = .ok (.iaload, 1) := by decide +kernel
theorem dX11_comes_323 : decode cX11_comes 323 = .ok (.invokevirtual 254, 3) := by decide +kernel
theorem dX11_comes_326 : decode cX11_comes 326 = .ok (.return_, 1) := by decide +kernel
theorem dX11_routinesMany_0 : decode cX11_routinesMany 0 = .ok (.iconst 0, 1) := by decide +kernel
theorem dX11_routinesMany_1 : decode cX11_routinesMany 1 = .ok (.istore_n 1, 1) := by decide +kernel
theorem dX11_routinesMany_2 : decode cX11_routinesMany 2 = .ok (.iconst 0, 1) := by decide +kernel
theorem dX11_routinesMany_3 : decode cX11_routinesMany 3 = .ok (.istore_n 2, 1) := by decide +kernel
theorem dX11_routinesMany_4 : decode cX11_routinesMany 4 = .ok (.iload_n 2, 1) := by decide +kernel
theorem dX11_routinesMany_5 : decode cX11_routinesMany 5 = .ok (.bipush 8, 2) := by decide +kernel
theorem dX11_routinesMany_7 : decode cX11_routinesMany 7 = .ok (.if_icmp .ge 27, 3) := by decide +kernel
theorem dX11_routinesMany_10 : decode cX11_routinesMany 10 = .ok (.iload_n 1, 1) := by decide +kernel
theorem dX11_routinesMany_11 : decode cX11_routinesMany 11 = .ok (.aload_n 0, 1) := by decide +kernel
theorem dX11_routinesMany_12 : decode cX11_routinesMany 12 = .ok (.getfield 32, 3) := by decide +kernel
theorem dX11_routinesMany_15 : decode cX11_routinesMany 15 = .ok (.iload_n 2, 1) := by decide +kernel
theorem dX11_routinesMany_16 : decode cX11_routinesMany 16 = .ok (.iaload, 1) := by decide +kernel
theorem dX11_routinesMany_17 : decode cX11_routinesMany 17 = .ok (.iconst (-1), 1) := by decide +kernel
theorem dX11_routinesMany_18 : decode cX11_routinesMany 18 = .ok (.if_icmp .ne 7, 3) := by decide +kernel
theorem dX11_routinesMany_21 : decode cX11_routinesMany 21 = .ok (.iconst 0, 1) := by decide +kernel
theorem dX11_routinesMany_22 : decode cX11_routinesMany 22 = .ok (.goto 4, 3) := by decide +kernel
theorem dX11_routinesMany_26 : decode cX11_routinesMany 26 = .ok (.iadd, 1) := by decide +kernel
theorem dX11_routinesMany_27 : decode cX11_routinesMany 27 = .ok (.istore_n 1, 1) := by decide +kernel
theorem dX11_routinesMany_28 : decode cX11_routinesMany 28 = .ok (.iinc 2 1, 3) := by decide +kernel
theorem dX11_routinesMany_31 : decode cX11_routinesMany 31 = .ok (.goto (-27), 3) := by decide +kernel
theorem dX11_routinesMany_34 : decode cX11_routinesMany 34 = .ok (.iload_n 1, 1) := by decide +kernel
theorem dX11_routinesMany_35 : decode cX11_routinesMany 35 = .ok (.ireturn, 1) := by decide +kernel
theorem dX11_fault_0 : decode cX11_fault 0 = .ok (.aload_n 0, 1) := by decide +kernel
theorem dX11_fault_1 : decode cX11_fault 1 = .ok (.iconst 0, 1) := by decide +kernel
theorem dX11_fault_2 : decode cX11_fault 2 = .ok (.putfield 121, 3) := by decide +kernel
theorem dX11_fault_5 : decode cX11_fault 5 = .ok (.iload_n 1, 1) := by decide +kernel
theorem dX11_fault_6 : decode cX11_fault 6 = .ok (.ifCond .ne 10, 3) := by decide +kernel
theorem dX11_fault_9 : decode cX11_fault 9 = .ok (.aload_n 0, 1) := by decide +kernel
theorem dX11_fault_10 : decode cX11_fault 10 = .ok (.getfield 242, 3) := by decide +kernel
theorem dX11_fault_13 : decode cX11_fault 13 = .ok (.goto 16, 3) := by decide +kernel
theorem dX11_fault_16 : decode cX11_fault 16 = .ok (.iload_n 1, 1) := by decide +kernel
theorem dX11_fault_17 : decode cX11_fault 17 = .ok (.iconst 1, 1) := by decide +kernel
theorem dX11_fault_18 : decode cX11_fault 18 = .ok (.if_icmp .ne 10, 3) := by decide +kernel
theorem dX11_fault_21 : decode cX11_fault 21 = .ok (.aload_n 0, 1) := by decide +kernel
theorem dX11_fault_22 : decode cX11_fault 22 = .ok (.getfield 13, 3) := by decide +kernel
theorem dX11_fault_25 : decode cX11_fault 25 = .ok (.goto 4, 3) := by decide +kernel
theorem dX11_fault_28 : decode cX11_fault 28 = .ok (.iconst (-1), 1) := by decide +kernel
theorem dX11_fault_29 : decode cX11_fault 29 = .ok (.ireturn, 1) := by decide +kernel
theorem dX11_enters_0 : decode cX11_enters 0 = .ok (.aload_n 0, 1) := by decide +kernel
theorem dX11_enters_1 : decode cX11_enters 1 = .ok (.iload_n 1, 1) := by decide +kernel
theorem dX11_enters_2 : decode cX11_enters 2 = .ok (.putfield 83, 3) := by decide +kernel
theorem dX11_enters_5 : decode cX11_enters 5 = .ok (.iconst 0, 1) := by decide +kernel
theorem dX11_enters_6 : decode cX11_enters 6 = .ok (.istore_n 2, 1) := by decide +kernel
theorem dX11_enters_7 : decode cX11_enters 7 = .ok (.iload_n 2, 1) := by decide +kernel
theorem dX11_enters_8 : decode cX11_enters 8 = .ok (.iconst 4, 1) := by decide +kernel
theorem dX11_enters_9 : decode cX11_enters 9 = .ok (.if_icmp .ge 16, 3) := by decide +kernel
theorem dX11_enters_12 : decode cX11_enters 12 = .ok (.aload_n 0, 1) := by decide +kernel
theorem dX11_enters_13 : decode cX11_enters 13 = .ok (.getfield 86, 3) := by decide +kernel
theorem dX11_enters_16 : decode cX11_enters 16 = .ok (.iload_n 2, 1) := by decide +kernel
theorem dX11_enters_17 : decode cX11_enters 17 = .ok (.iconst 3, 1) := by decide +kernel
theorem dX11_enters_18 : decode cX11_enters 18 = .ok (.iastore, 1) := by decide +kernel
theorem dX11_enters_19 : decode cX11_enters 19 = .ok (.iinc 2 1, 3) := by decide +kernel
theorem dX11_enters_22 : decode cX11_enters 22 = .ok (.goto (-15), 3) := by decide +kernel
theorem dX11_enters_25 : decode cX11_enters 25 = .ok (.return_, 1) := by decide +kernel
theorem dX11_entry_0 : decode cX11_entry 0 = .ok (.aload_n 0, 1) := by decide +kernel
theorem dX11_entry_1 : decode cX11_entry 1 = .ok (.iconst 0, 1) := by decide +kernel
theorem dX11_entry_2 : decode cX11_entry 2 = .ok (.putfield 121, 3) := by decide +kernel
theorem dX11_entry_5 : decode cX11_entry 5 = .ok (.iload_n 1, 1) := by decide +kernel
theorem dX11_entry_6 : decode cX11_entry 6 = .ok (.ifCond .lt 19, 3) := by decide +kernel
theorem dX11_entry_9 : decode cX11_entry 9 = .ok (.iload_n 1, 1) := by decide +kernel
theorem dX11_entry_10 : decode cX11_entry 10 = .ok (.bipush 7, 2) := by decide +kernel
theorem dX11_entry_12 : decode cX11_entry 12 = .ok (.if_icmp .gt 13, 3) := by decide +kernel
theorem dX11_entry_15 : decode cX11_entry 15 = .ok (.aload_n 0, 1) := by decide +kernel
theorem dX11_entry_16 : decode cX11_entry 16 = .ok (.getfield 32, 3) := by decide +kernel
theorem dX11_entry_19 : decode cX11_entry 19 = .ok (.iload_n 1, 1) := by decide +kernel
theorem dX11_entry_20 : decode cX11_entry 20 = .ok (.iaload, 1) := by decide +kernel
theorem dX11_entry_21 : decode cX11_entry 21 = .ok (.iconst (-1), 1) := by decide +kernel
theorem dX11_entry_22 : decode cX11_entry 22 = .ok (.if_icmp .ne 5, 3) := by decide +kernel
theorem dX11_entry_25 : decode cX11_entry 25 = .ok (.iconst 0, 1) := by decide +kernel
theorem dX11_entry_26 : decode cX11_entry 26 = .ok (.ireturn, 1) := by decide +kernel
theorem dX11_outer_0 : decode cX11_outer 0 = .ok (.aload_n 0, 1) := by decide +kernel
theorem dX11_outer_1 : decode cX11_outer 1 = .ok (.iconst 0, 1) := by decide +kernel
theorem dX11_outer_2 : decode cX11_outer 2 = .ok (.putfield 121, 3) := by decide +kernel
theorem dX11_outer_5 : decode cX11_outer 5 = .ok (.aload_n 0, 1) := by decide +kernel
theorem dX11_outer_6 : decode cX11_outer 6 = .ok (.getfield 83, 3) := by decide +kernel
theorem dX11_outer_9 : decode cX11_outer 9 = .ok (.iconst (-1), 1) := by decide +kernel
theorem dX11_outer_10 : decode cX11_outer 10 = .ok (.if_icmp .eq 30, 3) := by decide +kernel
theorem dX11_outer_40 : decode cX11_outer 40 = .ok (.iconst 0, 1) := by decide +kernel
theorem dX11_outer_41 : decode cX11_outer 41 = .ok (.ireturn, 1) := by decide +kernel
theorem dX11_reckons_0 : decode cX11_reckons 0 = .ok (.iconst 0, 1) := by decide +kernel
theorem dX11_reckons_1 : decode cX11_reckons 1 = .ok (.istore_n 1, 1) := by decide +kernel
theorem dX11_reckons_2 : decode cX11_reckons 2 = .ok (.iload_n 1, 1) := by decide +kernel
theorem dX11_reckons_3 : decode cX11_reckons 3 = .ok (.aload_n 0, 1) := by decide +kernel
theorem dX11_reckons_4 : decode cX11_reckons 4 = .ok (.getfield 251, 3) := by decide +kernel
theorem dX11_reckons_7 : decode cX11_reckons 7 = .ok (.if_icmp .ge 16, 3) := by decide +kernel
theorem dX11_reckons_23 : decode cX11_reckons 23 = .ok (.iconst 0, 1) := by decide +kernel
theorem dX11_reckons_24 : decode cX11_reckons 24 = .ok (.istore_n 1, 1) := by decide +kernel
theorem dX11_reckons_25 : decode cX11_reckons 25 = .ok (.iload_n 1, 1) := by decide +kernel
theorem dX11_reckons_26 : decode cX11_reckons 26 = .ok (.bipush 42, 2) := by decide +kernel
theorem dX11_reckons_28 : decode cX11_reckons 28 = .ok (.if_icmp .ge 16, 3) := by decide +kernel
theorem dX11_reckons_31 : decode cX11_reckons 31 = .ok (.aload_n 0, 1) := by decide +kernel
theorem dX11_reckons_32 : decode cX11_reckons 32 = .ok (.getfield 93, 3) := by decide +kernel
theorem dX11_reckons_35 : decode cX11_reckons 35 = .ok (.iload_n 1, 1) := by decide +kernel
theorem dX11_reckons_36 : decode cX11_reckons 36 = .ok (.iconst 0, 1) := by decide +kernel
theorem dX11_reckons_37 : decode cX11_reckons 37 = .ok (.iastore, 1) := by decide +kernel
theorem dX11_reckons_38 : decode cX11_reckons 38 = .ok (.iinc 1 1, 3) := by decide +kernel
theorem dX11_reckons_41 : decode cX11_reckons 41 = .ok (.goto (-16), 3) := by decide +kernel
theorem dX11_reckons_44 : decode cX11_reckons 44 = .ok (.iconst 0, 1) := by decide +kernel
theorem dX11_reckons_45 : decode cX11_reckons 45 = .ok (.istore_n 1, 1) := by decide +kernel
theorem dX11_reckons_46 : decode cX11_reckons 46 = .ok (.iload_n 1, 1) := by decide +kernel
theorem dX11_reckons_47 : decode cX11_reckons 47 = .ok (.bipush 25, 2) := by decide +kernel
theorem dX11_reckons_49 : decode cX11_reckons 49 = .ok (.if_icmp .ge 16, 3) := by decide +kernel
theorem dX11_reckons_52 : decode cX11_reckons 52 = .ok (.aload_n 0, 1) := by decide +kernel
theorem dX11_reckons_53 : decode cX11_reckons 53 = .ok (.getfield 100, 3) := by decide +kernel
theorem dX11_reckons_56 : decode cX11_reckons 56 = .ok (.iload_n 1, 1) := by decide +kernel
theorem dX11_reckons_57 : decode cX11_reckons 57 = .ok (.iconst 0, 1) := by decide +kernel
theorem dX11_reckons_58 : decode cX11_reckons 58 = .ok (.iastore, 1) := by decide +kernel
theorem dX11_reckons_59 : decode cX11_reckons 59 = .ok (.iinc 1 1, 3) := by decide +kernel
theorem dX11_reckons_62 : decode cX11_reckons 62 = .ok (.goto (-16), 3) := by decide +kernel
theorem dX11_reckons_65 : decode cX11_reckons 65 = .ok (.aload_n 0, 1) := by decide +kernel
theorem dX11_reckons_66 : decode cX11_reckons 66 = .ok (.aload_n 0, 1) := by decide +kernel
theorem dX11_reckons_67 : decode cX11_reckons 67 = .ok (.getfield 83, 3) := by decide +kernel
theorem dX11_reckons_70 : decode cX11_reckons 70 = .ok (.iconst (-1), 1) := by decide +kernel
theorem dX11_reckons_71 : decode cX11_reckons 71 = .ok (.if_icmp .eq 7, 3) := by decide +kernel
theorem dX11_reckons_78 : decode cX11_reckons 78 = .ok (.iconst 0, 1) := by decide +kernel
theorem dX11_reckons_79 : decode cX11_reckons 79 = .ok (.putfield 261, 3) := by decide +kernel
theorem dX11_reckons_82 : decode cX11_reckons 82 = .ok (.aload_n 0, 1) := by decide +kernel
theorem dX11_reckons_83 : decode cX11_reckons 83 = .ok (.getfield 261, 3) := by decide +kernel
theorem dX11_reckons_86 : decode cX11_reckons 86 = .ok (.ifCond .eq 111, 3) := by decide +kernel
theorem dX11_reckons_197 : decode cX11_reckons 197 = .ok (.return_, 1) := by decide +kernel
theorem dX11_frees_0 : decode cX11_frees 0 = .ok (.iconst 0, 1) := by decide +kernel
theorem dX11_frees_1 : decode cX11_frees 1 = .ok (.istore_n 1, 1) := by decide +kernel
theorem dX11_frees_2 : decode cX11_frees 2 = .ok (.iload_n 1, 1) := by decide +kernel
theorem dX11_frees_3 : decode cX11_frees 3 = .ok (.bipush 42, 2) := by decide +kernel
theorem dX11_frees_5 : decode cX11_frees 5 = .ok (.if_icmp .ge 16, 3) := by decide +kernel
theorem dX11_frees_8 : decode cX11_frees 8 = .ok (.aload_n 0, 1) := by decide +kernel
theorem dX11_frees_9 : decode cX11_frees 9 = .ok (.getfield 96, 3) := by decide +kernel
theorem dX11_frees_12 : decode cX11_frees 12 = .ok (.iload_n 1, 1) := by decide +kernel
theorem dX11_frees_13 : decode cX11_frees 13 = .ok (.iconst 0, 1) := by decide +kernel
theorem dX11_frees_14 : decode cX11_frees 14 = .ok (.bastore, 1) := by decide +kernel
theorem dX11_frees_15 : decode cX11_frees 15 = .ok (.iinc 1 1, 3) := by decide +kernel
theorem dX11_frees_18 : decode cX11_frees 18 = .ok (.goto (-16), 3) := by decide +kernel
theorem dX11_frees_21 : decode cX11_frees 21 = .ok (.return_, 1) := by decide +kernel
set_option maxRecDepth 100000 in
theorem mw_wsX11_mark_9 : (.code yX11_frees cX11_frees 2 none : Cond) ∈ wsX11_mark := List.mem_of_getElem? (i := 9) rfl
set_option maxRecDepth 100000 in
theorem mw_wsX11_mark_10 : (.fieldLink RX11 96 "NothingJudgeModel" "isHeld" "[Z" : Cond) ∈ wsX11_mark := List.mem_of_getElem? (i := 10) (by decide +kernel)
set_option maxRecDepth 20000 in
theorem ggX11_mark_X11_frees : GoodIn wsX11_mark wsX11_frees := goodIn_sub (List.forall_mem_cons.mpr ⟨mw_wsX11_mark_9, (wK_app (List.forall_mem_cons.mpr ⟨mw_wsX11_mark_10, (fun _ h => absurd h List.not_mem_nil)⟩) (fun _ h => List.mem_cons_of_mem _ (List.mem_append_right _ h)))⟩) (by decide +kernel)
set_option maxRecDepth 20000 in
theorem gX11_mark_X11_frees : GoodIn wsX11_mark (wsV RX11 299 RX11 yX11_frees wsX11_frees) := goodIn_app (goodIn_of _ (by decide +kernel)) ggX11_mark_X11_frees
set_option maxRecDepth 100000 in
theorem mw_wsX11_mark_14 : (.code yX11_reckons cX11_reckons 2 none : Cond) ∈ wsX11_mark := List.mem_of_getElem? (i := 14) rfl
set_option maxRecDepth 100000 in
theorem mw_wsX11_mark_34 : (.fieldLink RX11 38 "NothingJudgeModel" "paramNames" "[I" : Cond) ∈ wsX11_mark := List.mem_of_getElem? (i := 34) (by decide +kernel)
set_option maxRecDepth 100000 in
theorem mw_wsX11_mark_33 : (.constantLong RX11 265 (1152921504606846976) : Cond) ∈ wsX11_mark := List.mem_of_getElem? (i := 33) (by decide +kernel)
set_option maxRecDepth 100000 in
theorem mw_wsX11_mark_32 : (.code yX11_begins cX11_begins 6 none : Cond) ∈ wsX11_mark := List.mem_of_getElem? (i := 32) rfl
set_option maxRecDepth 100000 in
theorem mw_wsX11_mark_31 : (.selects RX11 yX11_begins yX11_begins : Cond) ∈ wsX11_mark := List.mem_of_getElem? (i := 31) (by decide +kernel)
set_option maxRecDepth 100000 in
theorem mw_wsX11_mark_30 : (.instanceMethod yX11_begins : Cond) ∈ wsX11_mark := List.mem_of_getElem? (i := 30) (by decide +kernel)
set_option maxRecDepth 100000 in
theorem mw_wsX11_mark_29 : (.methodLink RX11 281 yX11_begins : Cond) ∈ wsX11_mark := List.mem_of_getElem? (i := 29) (by decide +kernel)
set_option maxRecDepth 100000 in
theorem mw_wsX11_mark_28 : (.code yX11_putsThings cX11_putsThings 1 none : Cond) ∈ wsX11_mark := List.mem_of_getElem? (i := 28) rfl
set_option maxRecDepth 100000 in
theorem mw_wsX11_mark_27 : (.selects RX11 yX11_putsThings yX11_putsThings : Cond) ∈ wsX11_mark := List.mem_of_getElem? (i := 27) (by decide +kernel)
set_option maxRecDepth 100000 in
theorem mw_wsX11_mark_26 : (.instanceMethod yX11_putsThings : Cond) ∈ wsX11_mark := List.mem_of_getElem? (i := 26) (by decide +kernel)
set_option maxRecDepth 100000 in
theorem mw_wsX11_mark_25 : (.methodLink RX11 278 yX11_putsThings : Cond) ∈ wsX11_mark := List.mem_of_getElem? (i := 25) (by decide +kernel)
set_option maxRecDepth 100000 in
theorem mw_wsX11_mark_24 : (.code yX11_puts cX11_puts 4 none : Cond) ∈ wsX11_mark := List.mem_of_getElem? (i := 24) rfl
set_option maxRecDepth 100000 in
theorem mw_wsX11_mark_8 : (.initialized RX11 : Cond) ∈ wsX11_mark := List.mem_of_getElem? (i := 8) (by decide +kernel)
set_option maxRecDepth 100000 in
theorem mw_wsX11_mark_23 : (.selects RX11 yX11_puts yX11_puts : Cond) ∈ wsX11_mark := List.mem_of_getElem? (i := 23) (by decide +kernel)
set_option maxRecDepth 100000 in
theorem mw_wsX11_mark_22 : (.instanceMethod yX11_puts : Cond) ∈ wsX11_mark := List.mem_of_getElem? (i := 22) (by decide +kernel)
set_option maxRecDepth 100000 in
theorem mw_wsX11_mark_21 : (.methodLink RX11 275 yX11_puts : Cond) ∈ wsX11_mark := List.mem_of_getElem? (i := 21) (by decide +kernel)
set_option maxRecDepth 100000 in
theorem mw_wsX11_mark_20 : (.fieldLink RX11 86 "NothingJudgeModel" "outers" "[I" : Cond) ∈ wsX11_mark := List.mem_of_getElem? (i := 20) (by decide +kernel)
set_option maxRecDepth 100000 in
theorem mw_wsX11_mark_3 : (.fieldLink RX11 35 "NothingJudgeModel" "params" "[I" : Cond) ∈ wsX11_mark := List.mem_of_getElem? (i := 3) (by decide +kernel)
set_option maxRecDepth 100000 in
theorem mw_wsX11_mark_19 : (.fieldLink RX11 261 "NothingJudgeModel" "isMore" "Z" : Cond) ∈ wsX11_mark := List.mem_of_getElem? (i := 19) (by decide +kernel)
set_option maxRecDepth 100000 in
theorem mw_wsX11_mark_18 : (.fieldLink RX11 83 "NothingJudgeModel" "entry" "I" : Cond) ∈ wsX11_mark := List.mem_of_getElem? (i := 18) (by decide +kernel)
set_option maxRecDepth 100000 in
theorem mw_wsX11_mark_17 : (.fieldLink RX11 100 "NothingJudgeModel" "tested" "[I" : Cond) ∈ wsX11_mark := List.mem_of_getElem? (i := 17) (by decide +kernel)
set_option maxRecDepth 100000 in
theorem mw_wsX11_mark_4 : (.fieldLink RX11 93 "NothingJudgeModel" "marks" "[I" : Cond) ∈ wsX11_mark := List.mem_of_getElem? (i := 4) (by decide +kernel)
set_option maxRecDepth 100000 in
theorem mw_wsX11_mark_16 : (.fieldLink RX11 89 "NothingJudgeModel" "ahead" "[J" : Cond) ∈ wsX11_mark := List.mem_of_getElem? (i := 16) (by decide +kernel)
set_option maxRecDepth 100000 in
theorem mw_wsX11_mark_15 : (.fieldLink RX11 251 "NothingJudgeModel" "actMany" "I" : Cond) ∈ wsX11_mark := List.mem_of_getElem? (i := 15) (by decide +kernel)
set_option maxRecDepth 100000 in
theorem mc_wsX11_mark_wsX11_reckons_r1 : ∀ w ∈ wsX11_reckons_r1, w ∈ wsX11_mark := (List.forall_mem_cons.mpr ⟨mw_wsX11_mark_15, (List.forall_mem_cons.mpr ⟨mw_wsX11_mark_16, (List.forall_mem_cons.mpr ⟨mw_wsX11_mark_4, (List.forall_mem_cons.mpr ⟨mw_wsX11_mark_17, (List.forall_mem_cons.mpr ⟨mw_wsX11_mark_18, (List.forall_mem_cons.mpr ⟨mw_wsX11_mark_19, (List.forall_mem_cons.mpr ⟨mw_wsX11_mark_3, (List.forall_mem_cons.mpr ⟨mw_wsX11_mark_20, (List.forall_mem_cons.mpr ⟨mw_wsX11_mark_21, (List.forall_mem_cons.mpr ⟨mw_wsX11_mark_22, (List.forall_mem_cons.mpr ⟨mw_wsX11_mark_23, (List.forall_mem_cons.mpr ⟨mw_wsX11_mark_8, (List.forall_mem_cons.mpr ⟨mw_wsX11_mark_24, (List.forall_mem_cons.mpr ⟨mw_wsX11_mark_10, (List.forall_mem_cons.mpr ⟨mw_wsX11_mark_25, (List.forall_mem_cons.mpr ⟨mw_wsX11_mark_26, (List.forall_mem_cons.mpr ⟨mw_wsX11_mark_27, (List.forall_mem_cons.mpr ⟨mw_wsX11_mark_28, (List.forall_mem_cons.mpr ⟨mw_wsX11_mark_29, (List.forall_mem_cons.mpr ⟨mw_wsX11_mark_30, (List.forall_mem_cons.mpr ⟨mw_wsX11_mark_31, (List.forall_mem_cons.mpr ⟨mw_wsX11_mark_32, (List.forall_mem_cons.mpr ⟨mw_wsX11_mark_33, (List.forall_mem_cons.mpr ⟨mw_wsX11_mark_34, (fun _ h => absurd h List.not_mem_nil)⟩)⟩)⟩)⟩)⟩)⟩)⟩)⟩)⟩)⟩)⟩)⟩)⟩)⟩)⟩)⟩)⟩)⟩)⟩)⟩)⟩)⟩)⟩)⟩)
set_option maxRecDepth 100000 in
theorem mw_wsX11_mark_57 : (.code yX11_calls cX11_calls 6 none : Cond) ∈ wsX11_mark := List.mem_of_getElem? (i := 57) rfl
set_option maxRecDepth 100000 in
theorem mw_wsX11_mark_56 : (.selects RX11 yX11_calls yX11_calls : Cond) ∈ wsX11_mark := List.mem_of_getElem? (i := 56) (by decide +kernel)
set_option maxRecDepth 100000 in
theorem mw_wsX11_mark_55 : (.instanceMethod yX11_calls : Cond) ∈ wsX11_mark := List.mem_of_getElem? (i := 55) (by decide +kernel)
set_option maxRecDepth 100000 in
theorem mw_wsX11_mark_54 : (.methodLink RX11 291 yX11_calls : Cond) ∈ wsX11_mark := List.mem_of_getElem? (i := 54) (by decide +kernel)
set_option maxRecDepth 100000 in
theorem mw_wsX11_mark_53 : (.code yX11_factOf cX11_factOf 3 (some .int) : Cond) ∈ wsX11_mark := List.mem_of_getElem? (i := 53) rfl
set_option maxRecDepth 100000 in
theorem mw_wsX11_mark_52 : (.static yX11_factOf : Cond) ∈ wsX11_mark := List.mem_of_getElem? (i := 52) (by decide +kernel)
set_option maxRecDepth 100000 in
theorem mw_wsX11_mark_51 : (.methodLink RX11 287 yX11_factOf : Cond) ∈ wsX11_mark := List.mem_of_getElem? (i := 51) (by decide +kernel)
set_option maxRecDepth 100000 in
theorem mw_wsX11_mark_50 : (.fieldLink RX11 23 "NothingJudgeModel" "two" "[I" : Cond) ∈ wsX11_mark := List.mem_of_getElem? (i := 50) (by decide +kernel)
set_option maxRecDepth 100000 in
theorem mw_wsX11_mark_49 : (.fieldLink RX11 20 "NothingJudgeModel" "one" "[I" : Cond) ∈ wsX11_mark := List.mem_of_getElem? (i := 49) (by decide +kernel)
set_option maxRecDepth 100000 in
theorem mw_wsX11_mark_48 : (.fieldLink RX11 17 "NothingJudgeModel" "act" "[I" : Cond) ∈ wsX11_mark := List.mem_of_getElem? (i := 48) (by decide +kernel)
set_option maxRecDepth 100000 in
theorem mw_wsX11_mark_47 : (.code yX11_goes cX11_goes 4 none : Cond) ∈ wsX11_mark := List.mem_of_getElem? (i := 47) rfl
set_option maxRecDepth 100000 in
theorem mw_wsX11_mark_46 : (.selects RX11 yX11_goes yX11_goes : Cond) ∈ wsX11_mark := List.mem_of_getElem? (i := 46) (by decide +kernel)
set_option maxRecDepth 100000 in
theorem mw_wsX11_mark_45 : (.instanceMethod yX11_goes : Cond) ∈ wsX11_mark := List.mem_of_getElem? (i := 45) (by decide +kernel)
set_option maxRecDepth 100000 in
theorem mw_wsX11_mark_44 : (.methodLink RX11 284 yX11_goes : Cond) ∈ wsX11_mark := List.mem_of_getElem? (i := 44) (by decide +kernel)
set_option maxRecDepth 100000 in
theorem mw_wsX11_mark_43 : (.code yX11_flows cX11_flows 6 none : Cond) ∈ wsX11_mark := List.mem_of_getElem? (i := 43) rfl
set_option maxRecDepth 100000 in
theorem mw_wsX11_mark_42 : (.selects RX11 yX11_flows yX11_flows : Cond) ∈ wsX11_mark := List.mem_of_getElem? (i := 42) (by decide +kernel)
set_option maxRecDepth 100000 in
theorem mw_wsX11_mark_41 : (.instanceMethod yX11_flows : Cond) ∈ wsX11_mark := List.mem_of_getElem? (i := 41) (by decide +kernel)
set_option maxRecDepth 100000 in
theorem mw_wsX11_mark_40 : (.methodLink RX11 271 yX11_flows : Cond) ∈ wsX11_mark := List.mem_of_getElem? (i := 40) (by decide +kernel)
set_option maxRecDepth 100000 in
theorem mw_wsX11_mark_39 : (.constantLong RX11 259 (-1) : Cond) ∈ wsX11_mark := List.mem_of_getElem? (i := 39) (by decide +kernel)
set_option maxRecDepth 100000 in
theorem mw_wsX11_mark_38 : (.constantLong RX11 257 (3) : Cond) ∈ wsX11_mark := List.mem_of_getElem? (i := 38) (by decide +kernel)
set_option maxRecDepth 100000 in
theorem mw_wsX11_mark_37 : (.code yX11_with cX11_with 4 (some .long) : Cond) ∈ wsX11_mark := List.mem_of_getElem? (i := 37) rfl
set_option maxRecDepth 100000 in
theorem mw_wsX11_mark_36 : (.static yX11_with : Cond) ∈ wsX11_mark := List.mem_of_getElem? (i := 36) (by decide +kernel)
set_option maxRecDepth 100000 in
theorem mw_wsX11_mark_35 : (.methodLink RX11 267 yX11_with : Cond) ∈ wsX11_mark := List.mem_of_getElem? (i := 35) (by decide +kernel)
set_option maxRecDepth 100000 in
theorem mw_wsX11_mark_2 : (.fieldLink RX11 32 "NothingJudgeModel" "routineFrom" "[I" : Cond) ∈ wsX11_mark := List.mem_of_getElem? (i := 2) (by decide +kernel)
set_option maxRecDepth 100000 in
theorem mc_wsX11_mark_wsX11_reckons_r2 : ∀ w ∈ wsX11_reckons_r2, w ∈ wsX11_mark := (List.forall_mem_cons.mpr ⟨mw_wsX11_mark_2, (List.forall_mem_cons.mpr ⟨mw_wsX11_mark_35, (List.forall_mem_cons.mpr ⟨mw_wsX11_mark_36, (List.forall_mem_cons.mpr ⟨mw_wsX11_mark_37, (List.forall_mem_cons.mpr ⟨mw_wsX11_mark_38, (List.forall_mem_cons.mpr ⟨mw_wsX11_mark_39, (List.forall_mem_cons.mpr ⟨mw_wsX11_mark_40, (List.forall_mem_cons.mpr ⟨mw_wsX11_mark_41, (List.forall_mem_cons.mpr ⟨mw_wsX11_mark_42, (List.forall_mem_cons.mpr ⟨mw_wsX11_mark_43, (List.forall_mem_cons.mpr ⟨mw_wsX11_mark_44, (List.forall_mem_cons.mpr ⟨mw_wsX11_mark_45, (List.forall_mem_cons.mpr ⟨mw_wsX11_mark_46, (List.forall_mem_cons.mpr ⟨mw_wsX11_mark_47, (List.forall_mem_cons.mpr ⟨mw_wsX11_mark_48, (List.forall_mem_cons.mpr ⟨mw_wsX11_mark_49, (List.forall_mem_cons.mpr ⟨mw_wsX11_mark_50, (List.forall_mem_cons.mpr ⟨mw_wsX11_mark_51, (List.forall_mem_cons.mpr ⟨mw_wsX11_mark_52, (List.forall_mem_cons.mpr ⟨mw_wsX11_mark_53, (List.forall_mem_cons.mpr ⟨mw_wsX11_mark_54, (List.forall_mem_cons.mpr ⟨mw_wsX11_mark_55, (List.forall_mem_cons.mpr ⟨mw_wsX11_mark_56, (List.forall_mem_cons.mpr ⟨mw_wsX11_mark_57, (fun _ h => absurd h List.not_mem_nil)⟩)⟩)⟩)⟩)⟩)⟩)⟩)⟩)⟩)⟩)⟩)⟩)⟩)⟩)⟩)⟩)⟩)⟩)⟩)⟩)⟩)⟩)⟩)⟩)
set_option maxRecDepth 100000 in
theorem mw_wsX11_mark_67 : (.fieldLink RX11 26 "NothingJudgeModel" "three" "[I" : Cond) ∈ wsX11_mark := List.mem_of_getElem? (i := 67) (by decide +kernel)
set_option maxRecDepth 100000 in
theorem mw_wsX11_mark_66 : (.code yX11_tests cX11_tests 7 none : Cond) ∈ wsX11_mark := List.mem_of_getElem? (i := 66) rfl
set_option maxRecDepth 100000 in
theorem mw_wsX11_mark_65 : (.selects RX11 yX11_tests yX11_tests : Cond) ∈ wsX11_mark := List.mem_of_getElem? (i := 65) (by decide +kernel)
set_option maxRecDepth 100000 in
theorem mw_wsX11_mark_64 : (.instanceMethod yX11_tests : Cond) ∈ wsX11_mark := List.mem_of_getElem? (i := 64) (by decide +kernel)
set_option maxRecDepth 100000 in
theorem mw_wsX11_mark_63 : (.methodLink RX11 296 yX11_tests : Cond) ∈ wsX11_mark := List.mem_of_getElem? (i := 63) (by decide +kernel)
set_option maxRecDepth 100000 in
theorem mw_wsX11_mark_62 : (.code yX11_routineAt cX11_routineAt 4 (some .int) : Cond) ∈ wsX11_mark := List.mem_of_getElem? (i := 62) rfl
set_option maxRecDepth 100000 in
theorem mw_wsX11_mark_61 : (.selects RX11 yX11_routineAt yX11_routineAt : Cond) ∈ wsX11_mark := List.mem_of_getElem? (i := 61) (by decide +kernel)
set_option maxRecDepth 100000 in
theorem mw_wsX11_mark_60 : (.instanceMethod yX11_routineAt : Cond) ∈ wsX11_mark := List.mem_of_getElem? (i := 60) (by decide +kernel)
set_option maxRecDepth 100000 in
theorem mw_wsX11_mark_59 : (.methodLink RX11 293 yX11_routineAt : Cond) ∈ wsX11_mark := List.mem_of_getElem? (i := 59) (by decide +kernel)
set_option maxRecDepth 100000 in
theorem mw_wsX11_mark_58 : (.fieldLink RX11 29 "NothingJudgeModel" "argsOf" "[I" : Cond) ∈ wsX11_mark := List.mem_of_getElem? (i := 58) (by decide +kernel)
set_option maxRecDepth 100000 in
theorem mc_wsX11_mark_wsX11_reckons_r3 : ∀ w ∈ wsX11_reckons_r3, w ∈ wsX11_mark := (List.forall_mem_cons.mpr ⟨mw_wsX11_mark_58, (List.forall_mem_cons.mpr ⟨mw_wsX11_mark_59, (List.forall_mem_cons.mpr ⟨mw_wsX11_mark_60, (List.forall_mem_cons.mpr ⟨mw_wsX11_mark_61, (List.forall_mem_cons.mpr ⟨mw_wsX11_mark_62, (List.forall_mem_cons.mpr ⟨mw_wsX11_mark_63, (List.forall_mem_cons.mpr ⟨mw_wsX11_mark_64, (List.forall_mem_cons.mpr ⟨mw_wsX11_mark_65, (List.forall_mem_cons.mpr ⟨mw_wsX11_mark_66, (List.forall_mem_cons.mpr ⟨mw_wsX11_mark_67, (fun _ h => absurd h List.not_mem_nil)⟩)⟩)⟩)⟩)⟩)⟩)⟩)⟩)⟩)⟩)
set_option maxRecDepth 20000 in
theorem ggX11_mark_X11_reckons : GoodIn wsX11_mark wsX11_reckons := goodIn_sub (List.forall_mem_cons.mpr ⟨mw_wsX11_mark_14, (wK_app (wK_app mc_wsX11_mark_wsX11_reckons_r1 (wK_app mc_wsX11_mark_wsX11_reckons_r2 mc_wsX11_mark_wsX11_reckons_r3)) (fun _ h => List.mem_cons_of_mem _ (List.mem_append_right _ h)))⟩) (by decide +kernel)
set_option maxRecDepth 20000 in
theorem gX11_mark_X11_reckons : GoodIn wsX11_mark (wsV RX11 302 RX11 yX11_reckons wsX11_reckons) := goodIn_app (goodIn_of _ (by decide +kernel)) ggX11_mark_X11_reckons
theorem dX11_mark_0 : decode cX11_mark 0 = .ok (.aload_n 0, 1) := by decide +kernel
theorem dX11_mark_1 : decode cX11_mark 1 = .ok (.iconst 0, 1) := by decide +kernel
theorem dX11_mark_2 : decode cX11_mark 2 = .ok (.putfield 121, 3) := by decide +kernel
theorem dX11_mark_5 : decode cX11_mark 5 = .ok (.iload_n 2, 1) := by decide +kernel
theorem dX11_mark_6 : decode cX11_mark 6 = .ok (.ifCond .lt 23, 3) := by decide +kernel
theorem dX11_mark_9 : decode cX11_mark 9 = .ok (.iload_n 2, 1) := by decide +kernel
theorem dX11_mark_10 : decode cX11_mark 10 = .ok (.bipush 8, 2) := by decide +kernel
theorem dX11_mark_12 : decode cX11_mark 12 = .ok (.if_icmp .ge 17, 3) := by decide +kernel
theorem dX11_mark_15 : decode cX11_mark 15 = .ok (.aload_n 0, 1) := by decide +kernel
theorem dX11_mark_16 : decode cX11_mark 16 = .ok (.getfield 32, 3) := by decide +kernel
theorem dX11_mark_19 : decode cX11_mark 19 = .ok (.iload_n 2, 1) := by decide +kernel
theorem dX11_mark_20 : decode cX11_mark 20 = .ok (.iaload, 1) := by decide +kernel
theorem dX11_mark_21 : decode cX11_mark 21 = .ok (.iconst (-1), 1) := by decide +kernel
theorem dX11_mark_22 : decode cX11_mark 22 = .ok (.if_icmp .eq 7, 3) := by decide +kernel
theorem dX11_mark_29 : decode cX11_mark 29 = .ok (.iconst 0, 1) := by decide +kernel
theorem dX11_mark_30 : decode cX11_mark 30 = .ok (.istore 4, 2) := by decide +kernel
theorem dX11_mark_32 : decode cX11_mark 32 = .ok (.iload_n 1, 1) := by decide +kernel
theorem dX11_mark_33 : decode cX11_mark 33 = .ok (.ifCond .lt 50, 3) := by decide +kernel
theorem dX11_mark_36 : decode cX11_mark 36 = .ok (.iload_n 1, 1) := by decide +kernel
theorem dX11_mark_37 : decode cX11_mark 37 = .ok (.iconst 2, 1) := by decide +kernel
theorem dX11_mark_38 : decode cX11_mark 38 = .ok (.if_icmp .gt 45, 3) := by decide +kernel
theorem dX11_mark_41 : decode cX11_mark 41 = .ok (.iload_n 1, 1) := by decide +kernel
theorem dX11_mark_42 : decode cX11_mark 42 = .ok (.iconst 2, 1) := by decide +kernel
theorem dX11_mark_43 : decode cX11_mark 43 = .ok (.if_icmp .ge 8, 3) := by decide +kernel
theorem dX11_mark_46 : decode cX11_mark 46 = .ok (.iload 4, 2) := by decide +kernel
theorem dX11_mark_48 : decode cX11_mark 48 = .ok (.ifCond .eq 35, 3) := by decide +kernel
theorem dX11_mark_51 : decode cX11_mark 51 = .ok (.iload_n 1, 1) := by decide +kernel
theorem dX11_mark_52 : decode cX11_mark 52 = .ok (.ifCond .ne 17, 3) := by decide +kernel
theorem dX11_mark_69 : decode cX11_mark 69 = .ok (.iload_n 1, 1) := by decide +kernel
theorem dX11_mark_70 : decode cX11_mark 70 = .ok (.iconst 2, 1) := by decide +kernel
theorem dX11_mark_71 : decode cX11_mark 71 = .ok (.if_icmp .ne 14, 3) := by decide +kernel
theorem dX11_mark_74 : decode cX11_mark 74 = .ok (.iload_n 3, 1) := by decide +kernel
theorem dX11_mark_75 : decode cX11_mark 75 = .ok (.ifCond .lt 8, 3) := by decide +kernel
theorem dX11_mark_78 : decode cX11_mark 78 = .ok (.iload_n 3, 1) := by decide +kernel
theorem dX11_mark_79 : decode cX11_mark 79 = .ok (.iconst 1, 1) := by decide +kernel
theorem dX11_mark_80 : decode cX11_mark 80 = .ok (.if_icmp .le 5, 3) := by decide +kernel
theorem dX11_mark_83 : decode cX11_mark 83 = .ok (.iconst (-1), 1) := by decide +kernel
theorem dX11_mark_84 : decode cX11_mark 84 = .ok (.ireturn, 1) := by decide +kernel
theorem dX11_mark_85 : decode cX11_mark 85 = .ok (.aload_n 0, 1) := by decide +kernel
theorem dX11_mark_86 : decode cX11_mark 86 = .ok (.invokevirtual 299, 3) := by decide +kernel
theorem dX11_mark_89 : decode cX11_mark 89 = .ok (.aload_n 0, 1) := by decide +kernel
theorem dX11_mark_90 : decode cX11_mark 90 = .ok (.invokevirtual 302, 3) := by decide +kernel
theorem dX11_mark_93 : decode cX11_mark 93 = .ok (.aload_n 0, 1) := by decide +kernel
theorem dX11_mark_94 : decode cX11_mark 94 = .ok (.getfield 93, 3) := by decide +kernel
theorem dX11_mark_97 : decode cX11_mark 97 = .ok (.iload_n 1, 1) := by decide +kernel
theorem dX11_mark_98 : decode cX11_mark 98 = .ok (.ifCond .ne 11, 3) := by decide +kernel
theorem dX11_mark_109 : decode cX11_mark 109 = .ok (.iload_n 1, 1) := by decide +kernel
theorem dX11_mark_110 : decode cX11_mark 110 = .ok (.iconst 1, 1) := by decide +kernel
theorem dX11_mark_111 : decode cX11_mark 111 = .ok (.if_icmp .ne 10, 3) := by decide +kernel
theorem dX11_mark_121 : decode cX11_mark 121 = .ok (.bipush 40, 2) := by decide +kernel
theorem dX11_mark_123 : decode cX11_mark 123 = .ok (.iload_n 3, 1) := by decide +kernel
theorem dX11_mark_124 : decode cX11_mark 124 = .ok (.iadd, 1) := by decide +kernel
theorem dX11_mark_125 : decode cX11_mark 125 = .ok (.iaload, 1) := by decide +kernel
theorem dX11_mark_126 : decode cX11_mark 126 = .ok (.ireturn, 1) := by decide +kernel
theorem dX11_use_0 : decode cX11_use 0 = .ok (.aload_n 0, 1) := by decide +kernel
theorem dX11_use_1 : decode cX11_use 1 = .ok (.iconst 0, 1) := by decide +kernel
theorem dX11_use_2 : decode cX11_use 2 = .ok (.putfield 121, 3) := by decide +kernel
theorem dX11_use_5 : decode cX11_use 5 = .ok (.iload_n 1, 1) := by decide +kernel
theorem dX11_use_6 : decode cX11_use 6 = .ok (.ifCond .lt 13, 3) := by decide +kernel
theorem dX11_use_9 : decode cX11_use 9 = .ok (.iload_n 1, 1) := by decide +kernel
theorem dX11_use_10 : decode cX11_use 10 = .ok (.aload_n 0, 1) := by decide +kernel
theorem dX11_use_11 : decode cX11_use 11 = .ok (.getfield 53, 3) := by decide +kernel
theorem dX11_use_14 : decode cX11_use 14 = .ok (.iconst 0, 1) := by decide +kernel
theorem dX11_use_15 : decode cX11_use 15 = .ok (.iaload, 1) := by decide +kernel
theorem dX11_use_16 : decode cX11_use 16 = .ok (.if_icmp .lt 5, 3) := by decide +kernel
theorem dX11_use_19 : decode cX11_use 19 = .ok (.iconst (-1), 1) := by decide +kernel
theorem dX11_use_20 : decode cX11_use 20 = .ok (.ireturn, 1) := by decide +kernel
theorem dX11_test_0 : decode cX11_test 0 = .ok (.aload_n 0, 1) := by decide +kernel
theorem dX11_test_1 : decode cX11_test 1 = .ok (.iconst 0, 1) := by decide +kernel
theorem dX11_test_2 : decode cX11_test 2 = .ok (.putfield 121, 3) := by decide +kernel
theorem dX11_test_5 : decode cX11_test 5 = .ok (.iload_n 1, 1) := by decide +kernel
theorem dX11_test_6 : decode cX11_test 6 = .ok (.ifCond .lt 13, 3) := by decide +kernel
theorem dX11_test_9 : decode cX11_test 9 = .ok (.iload_n 1, 1) := by decide +kernel
theorem dX11_test_10 : decode cX11_test 10 = .ok (.aload_n 0, 1) := by decide +kernel
theorem dX11_test_11 : decode cX11_test 11 = .ok (.getfield 62, 3) := by decide +kernel
theorem dX11_test_14 : decode cX11_test 14 = .ok (.iconst 0, 1) := by decide +kernel
theorem dX11_test_15 : decode cX11_test 15 = .ok (.iaload, 1) := by decide +kernel
theorem dX11_test_16 : decode cX11_test 16 = .ok (.if_icmp .lt 5, 3) := by decide +kernel
theorem dX11_test_19 : decode cX11_test 19 = .ok (.iconst (-1), 1) := by decide +kernel
theorem dX11_test_20 : decode cX11_test 20 = .ok (.ireturn, 1) := by decide +kernel
theorem dX11_canRun_0 : decode cX11_canRun 0 = .ok (.aload_n 0, 1) := by decide +kernel
theorem dX11_canRun_1 : decode cX11_canRun 1 = .ok (.getfield 83, 3) := by decide +kernel
theorem dX11_canRun_4 : decode cX11_canRun 4 = .ok (.iconst (-1), 1) := by decide +kernel
theorem dX11_canRun_5 : decode cX11_canRun 5 = .ok (.if_icmp .eq 33, 3) := by decide +kernel
theorem dX11_canRun_38 : decode cX11_canRun 38 = .ok (.iconst 0, 1) := by decide +kernel
theorem dX11_canRun_39 : decode cX11_canRun 39 = .ok (.ireturn, 1) := by decide +kernel
set_option maxRecDepth 100000 in
theorem mw_wsX11_run_16 : (.code yX11_canRun cX11_canRun 4 (some .boolean) : Cond) ∈ wsX11_run := List.mem_of_getElem? (i := 16) rfl
set_option maxRecDepth 100000 in
theorem mw_wsX11_run_19 : (.fieldLink RX11 86 "NothingJudgeModel" "outers" "[I" : Cond) ∈ wsX11_run := List.mem_of_getElem? (i := 19) (by decide +kernel)
set_option maxRecDepth 100000 in
theorem mw_wsX11_run_18 : (.fieldLink RX11 35 "NothingJudgeModel" "params" "[I" : Cond) ∈ wsX11_run := List.mem_of_getElem? (i := 18) (by decide +kernel)
set_option maxRecDepth 100000 in
theorem mw_wsX11_run_17 : (.fieldLink RX11 83 "NothingJudgeModel" "entry" "I" : Cond) ∈ wsX11_run := List.mem_of_getElem? (i := 17) (by decide +kernel)
set_option maxRecDepth 20000 in
theorem ggX11_run_X11_canRun : GoodIn wsX11_run wsX11_canRun := goodIn_sub (List.forall_mem_cons.mpr ⟨mw_wsX11_run_16, (wK_app (List.forall_mem_cons.mpr ⟨mw_wsX11_run_17, (List.forall_mem_cons.mpr ⟨mw_wsX11_run_18, (List.forall_mem_cons.mpr ⟨mw_wsX11_run_19, (fun _ h => absurd h List.not_mem_nil)⟩)⟩)⟩) (fun _ h => List.mem_cons_of_mem _ (List.mem_append_right _ h)))⟩) (by decide +kernel)
set_option maxRecDepth 20000 in
theorem gX11_run_X11_canRun : GoodIn wsX11_run (wsV RX11 356 RX11 yX11_canRun wsX11_canRun) := goodIn_app (goodIn_of _ (by decide +kernel)) ggX11_run_X11_canRun
theorem dX11_run_0 : decode cX11_run 0 = .ok (.aload_n 0, 1) := by decide +kernel
theorem dX11_run_1 : decode cX11_run 1 = .ok (.iconst 0, 1) := by decide +kernel
theorem dX11_run_2 : decode cX11_run 2 = .ok (.putfield 121, 3) := by decide +kernel
theorem dX11_run_5 : decode cX11_run 5 = .ok (.aload_n 0, 1) := by decide +kernel
theorem dX11_run_6 : decode cX11_run 6 = .ok (.iload_n 1, 1) := by decide +kernel
theorem dX11_run_7 : decode cX11_run 7 = .ok (.iload_n 2, 1) := by decide +kernel
theorem dX11_run_8 : decode cX11_run 8 = .ok (.invokevirtual 356, 3) := by decide +kernel
theorem dX11_run_11 : decode cX11_run 11 = .ok (.ifCond .ne 5, 3) := by decide +kernel
theorem dX11_run_14 : decode cX11_run 14 = .ok (.iconst (-1), 1) := by decide +kernel
theorem dX11_run_15 : decode cX11_run 15 = .ok (.ireturn, 1) := by decide +kernel
theorem dX11_ran_0 : decode cX11_ran 0 = .ok (.aload_n 0, 1) := by decide +kernel
theorem dX11_ran_1 : decode cX11_ran 1 = .ok (.iconst 0, 1) := by decide +kernel
theorem dX11_ran_2 : decode cX11_ran 2 = .ok (.putfield 121, 3) := by decide +kernel
theorem dX11_ran_5 : decode cX11_ran 5 = .ok (.aload_n 0, 1) := by decide +kernel
theorem dX11_ran_6 : decode cX11_ran 6 = .ok (.getfield 363, 3) := by decide +kernel
theorem dX11_ran_9 : decode cX11_ran 9 = .ok (.ifCond .ne 5, 3) := by decide +kernel
theorem dX11_ran_12 : decode cX11_ran 12 = .ok (.iconst (-1), 1) := by decide +kernel
theorem dX11_ran_13 : decode cX11_ran 13 = .ok (.ireturn, 1) := by decide +kernel
theorem dX11_tries_0 : decode cX11_tries 0 = .ok (.aload_n 0, 1) := by decide +kernel
theorem dX11_tries_1 : decode cX11_tries 1 = .ok (.iconst 0, 1) := by decide +kernel
theorem dX11_tries_2 : decode cX11_tries 2 = .ok (.putfield 121, 3) := by decide +kernel
theorem dX11_tries_5 : decode cX11_tries 5 = .ok (.iload_n 1, 1) := by decide +kernel
theorem dX11_tries_6 : decode cX11_tries 6 = .ok (.ifCond .lt 13, 3) := by decide +kernel
theorem dX11_tries_9 : decode cX11_tries 9 = .ok (.iload_n 1, 1) := by decide +kernel
theorem dX11_tries_10 : decode cX11_tries 10 = .ok (.aload_n 0, 1) := by decide +kernel
theorem dX11_tries_11 : decode cX11_tries 11 = .ok (.getfield 53, 3) := by decide +kernel
theorem dX11_tries_14 : decode cX11_tries 14 = .ok (.iconst 0, 1) := by decide +kernel
theorem dX11_tries_15 : decode cX11_tries 15 = .ok (.iaload, 1) := by decide +kernel
theorem dX11_tries_16 : decode cX11_tries 16 = .ok (.if_icmp .lt 5, 3) := by decide +kernel
theorem dX11_tries_19 : decode cX11_tries 19 = .ok (.iconst (-1), 1) := by decide +kernel
theorem dX11_tries_20 : decode cX11_tries 20 = .ok (.ireturn, 1) := by decide +kernel
theorem dX11_price_0 : decode cX11_price 0 = .ok (.aload_n 0, 1) := by decide +kernel
theorem dX11_price_1 : decode cX11_price 1 = .ok (.iconst 0, 1) := by decide +kernel
theorem dX11_price_2 : decode cX11_price 2 = .ok (.putfield 121, 3) := by decide +kernel
theorem dX11_price_5 : decode cX11_price 5 = .ok (.iload_n 1, 1) := by decide +kernel
theorem dX11_price_6 : decode cX11_price 6 = .ok (.ifCond .lt 19, 3) := by decide +kernel
theorem dX11_price_9 : decode cX11_price 9 = .ok (.iload_n 1, 1) := by decide +kernel
theorem dX11_price_10 : decode cX11_price 10 = .ok (.iconst 3, 1) := by decide +kernel
theorem dX11_price_11 : decode cX11_price 11 = .ok (.if_icmp .gt 14, 3) := by decide +kernel
theorem dX11_price_14 : decode cX11_price 14 = .ok (.iload_n 2, 1) := by decide +kernel
theorem dX11_price_15 : decode cX11_price 15 = .ok (.iconst 1, 1) := by decide +kernel
theorem dX11_price_16 : decode cX11_price 16 = .ok (.if_icmp .lt 9, 3) := by decide +kernel
theorem dX11_price_19 : decode cX11_price 19 = .ok (.iload_n 2, 1) := by decide +kernel
theorem dX11_price_20 : decode cX11_price 20 = .ok (.bipush 99, 2) := by decide +kernel
theorem dX11_price_22 : decode cX11_price 22 = .ok (.if_icmp .le 5, 3) := by decide +kernel
theorem dX11_price_25 : decode cX11_price 25 = .ok (.iconst 0, 1) := by decide +kernel
theorem dX11_price_26 : decode cX11_price 26 = .ok (.ireturn, 1) := by decide +kernel
theorem dX11_price_27 : decode cX11_price 27 = .ok (.aload_n 0, 1) := by decide +kernel
theorem dX11_price_28 : decode cX11_price 28 = .ok (.getfield 112, 3) := by decide +kernel
theorem dX11_price_31 : decode cX11_price 31 = .ok (.iload_n 1, 1) := by decide +kernel
theorem dX11_price_32 : decode cX11_price 32 = .ok (.iload_n 2, 1) := by decide +kernel
theorem dX11_price_33 : decode cX11_price 33 = .ok (.iastore, 1) := by decide +kernel
theorem dX11_price_34 : decode cX11_price 34 = .ok (.iconst 1, 1) := by decide +kernel
theorem dX11_price_35 : decode cX11_price 35 = .ok (.ireturn, 1) := by decide +kernel
theorem dX11_mend_0 : decode cX11_mend 0 = .ok (.aload_n 0, 1) := by decide +kernel
theorem dX11_mend_1 : decode cX11_mend 1 = .ok (.iconst 0, 1) := by decide +kernel
theorem dX11_mend_2 : decode cX11_mend 2 = .ok (.putfield 121, 3) := by decide +kernel
theorem dX11_mend_5 : decode cX11_mend 5 = .ok (.aload_n 0, 1) := by decide +kernel
theorem dX11_mend_6 : decode cX11_mend 6 = .ok (.getfield 83, 3) := by decide +kernel
theorem dX11_mend_9 : decode cX11_mend 9 = .ok (.iconst (-1), 1) := by decide +kernel
theorem dX11_mend_10 : decode cX11_mend 10 = .ok (.if_icmp .ne 5, 3) := by decide +kernel
theorem dX11_mend_13 : decode cX11_mend 13 = .ok (.iconst (-1), 1) := by decide +kernel
theorem dX11_mend_14 : decode cX11_mend 14 = .ok (.ireturn, 1) := by decide +kernel
theorem dX11_mended_0 : decode cX11_mended 0 = .ok (.aload_n 0, 1) := by decide +kernel
theorem dX11_mended_1 : decode cX11_mended 1 = .ok (.iconst 0, 1) := by decide +kernel
theorem dX11_mended_2 : decode cX11_mended 2 = .ok (.putfield 121, 3) := by decide +kernel
theorem dX11_mended_5 : decode cX11_mended 5 = .ok (.aload_n 0, 1) := by decide +kernel
theorem dX11_mended_6 : decode cX11_mended 6 = .ok (.getfield 393, 3) := by decide +kernel
theorem dX11_mended_9 : decode cX11_mended 9 = .ok (.ifCond .eq 17, 3) := by decide +kernel
theorem dX11_mended_26 : decode cX11_mended 26 = .ok (.iconst (-1), 1) := by decide +kernel
theorem dX11_mended_27 : decode cX11_mended 27 = .ok (.ireturn, 1) := by decide +kernel
set_option maxRecDepth 100000 in
theorem mw_wsX11_count_9 : (.code yX11_frees cX11_frees 2 none : Cond) ∈ wsX11_count := List.mem_of_getElem? (i := 9) rfl
set_option maxRecDepth 100000 in
theorem mw_wsX11_count_10 : (.fieldLink RX11 96 "NothingJudgeModel" "isHeld" "[Z" : Cond) ∈ wsX11_count := List.mem_of_getElem? (i := 10) (by decide +kernel)
set_option maxRecDepth 20000 in
theorem ggX11_count_X11_frees : GoodIn wsX11_count wsX11_frees := goodIn_sub (List.forall_mem_cons.mpr ⟨mw_wsX11_count_9, (wK_app (List.forall_mem_cons.mpr ⟨mw_wsX11_count_10, (fun _ h => absurd h List.not_mem_nil)⟩) (fun _ h => List.mem_cons_of_mem _ (List.mem_append_right _ h)))⟩) (by decide +kernel)
set_option maxRecDepth 20000 in
theorem gX11_count_X11_frees : GoodIn wsX11_count (wsV RX11 299 RX11 yX11_frees wsX11_frees) := goodIn_app (goodIn_of _ (by decide +kernel)) ggX11_count_X11_frees
set_option maxRecDepth 100000 in
theorem mw_wsX11_count_14 : (.code yX11_reckons cX11_reckons 2 none : Cond) ∈ wsX11_count := List.mem_of_getElem? (i := 14) rfl
set_option maxRecDepth 100000 in
theorem mw_wsX11_count_35 : (.fieldLink RX11 38 "NothingJudgeModel" "paramNames" "[I" : Cond) ∈ wsX11_count := List.mem_of_getElem? (i := 35) (by decide +kernel)
set_option maxRecDepth 100000 in
theorem mw_wsX11_count_34 : (.constantLong RX11 265 (1152921504606846976) : Cond) ∈ wsX11_count := List.mem_of_getElem? (i := 34) (by decide +kernel)
set_option maxRecDepth 100000 in
theorem mw_wsX11_count_33 : (.code yX11_begins cX11_begins 6 none : Cond) ∈ wsX11_count := List.mem_of_getElem? (i := 33) rfl
set_option maxRecDepth 100000 in
theorem mw_wsX11_count_32 : (.selects RX11 yX11_begins yX11_begins : Cond) ∈ wsX11_count := List.mem_of_getElem? (i := 32) (by decide +kernel)
set_option maxRecDepth 100000 in
theorem mw_wsX11_count_31 : (.instanceMethod yX11_begins : Cond) ∈ wsX11_count := List.mem_of_getElem? (i := 31) (by decide +kernel)
set_option maxRecDepth 100000 in
theorem mw_wsX11_count_30 : (.methodLink RX11 281 yX11_begins : Cond) ∈ wsX11_count := List.mem_of_getElem? (i := 30) (by decide +kernel)
set_option maxRecDepth 100000 in
theorem mw_wsX11_count_29 : (.code yX11_putsThings cX11_putsThings 1 none : Cond) ∈ wsX11_count := List.mem_of_getElem? (i := 29) rfl
set_option maxRecDepth 100000 in
theorem mw_wsX11_count_28 : (.selects RX11 yX11_putsThings yX11_putsThings : Cond) ∈ wsX11_count := List.mem_of_getElem? (i := 28) (by decide +kernel)
set_option maxRecDepth 100000 in
theorem mw_wsX11_count_27 : (.instanceMethod yX11_putsThings : Cond) ∈ wsX11_count := List.mem_of_getElem? (i := 27) (by decide +kernel)
set_option maxRecDepth 100000 in
theorem mw_wsX11_count_26 : (.methodLink RX11 278 yX11_putsThings : Cond) ∈ wsX11_count := List.mem_of_getElem? (i := 26) (by decide +kernel)
set_option maxRecDepth 100000 in
theorem mw_wsX11_count_25 : (.code yX11_puts cX11_puts 4 none : Cond) ∈ wsX11_count := List.mem_of_getElem? (i := 25) rfl
set_option maxRecDepth 100000 in
theorem mw_wsX11_count_8 : (.initialized RX11 : Cond) ∈ wsX11_count := List.mem_of_getElem? (i := 8) (by decide +kernel)
set_option maxRecDepth 100000 in
theorem mw_wsX11_count_24 : (.selects RX11 yX11_puts yX11_puts : Cond) ∈ wsX11_count := List.mem_of_getElem? (i := 24) (by decide +kernel)
set_option maxRecDepth 100000 in
theorem mw_wsX11_count_23 : (.instanceMethod yX11_puts : Cond) ∈ wsX11_count := List.mem_of_getElem? (i := 23) (by decide +kernel)
set_option maxRecDepth 100000 in
theorem mw_wsX11_count_22 : (.methodLink RX11 275 yX11_puts : Cond) ∈ wsX11_count := List.mem_of_getElem? (i := 22) (by decide +kernel)
set_option maxRecDepth 100000 in
theorem mw_wsX11_count_21 : (.fieldLink RX11 86 "NothingJudgeModel" "outers" "[I" : Cond) ∈ wsX11_count := List.mem_of_getElem? (i := 21) (by decide +kernel)
set_option maxRecDepth 100000 in
theorem mw_wsX11_count_20 : (.fieldLink RX11 35 "NothingJudgeModel" "params" "[I" : Cond) ∈ wsX11_count := List.mem_of_getElem? (i := 20) (by decide +kernel)
set_option maxRecDepth 100000 in
theorem mw_wsX11_count_19 : (.fieldLink RX11 261 "NothingJudgeModel" "isMore" "Z" : Cond) ∈ wsX11_count := List.mem_of_getElem? (i := 19) (by decide +kernel)
set_option maxRecDepth 100000 in
theorem mw_wsX11_count_4 : (.fieldLink RX11 83 "NothingJudgeModel" "entry" "I" : Cond) ∈ wsX11_count := List.mem_of_getElem? (i := 4) (by decide +kernel)
set_option maxRecDepth 100000 in
theorem mw_wsX11_count_18 : (.fieldLink RX11 100 "NothingJudgeModel" "tested" "[I" : Cond) ∈ wsX11_count := List.mem_of_getElem? (i := 18) (by decide +kernel)
set_option maxRecDepth 100000 in
theorem mw_wsX11_count_17 : (.fieldLink RX11 93 "NothingJudgeModel" "marks" "[I" : Cond) ∈ wsX11_count := List.mem_of_getElem? (i := 17) (by decide +kernel)
set_option maxRecDepth 100000 in
theorem mw_wsX11_count_16 : (.fieldLink RX11 89 "NothingJudgeModel" "ahead" "[J" : Cond) ∈ wsX11_count := List.mem_of_getElem? (i := 16) (by decide +kernel)
set_option maxRecDepth 100000 in
theorem mw_wsX11_count_15 : (.fieldLink RX11 251 "NothingJudgeModel" "actMany" "I" : Cond) ∈ wsX11_count := List.mem_of_getElem? (i := 15) (by decide +kernel)
set_option maxRecDepth 100000 in
theorem mc_wsX11_count_wsX11_reckons_r1 : ∀ w ∈ wsX11_reckons_r1, w ∈ wsX11_count := (List.forall_mem_cons.mpr ⟨mw_wsX11_count_15, (List.forall_mem_cons.mpr ⟨mw_wsX11_count_16, (List.forall_mem_cons.mpr ⟨mw_wsX11_count_17, (List.forall_mem_cons.mpr ⟨mw_wsX11_count_18, (List.forall_mem_cons.mpr ⟨mw_wsX11_count_4, (List.forall_mem_cons.mpr ⟨mw_wsX11_count_19, (List.forall_mem_cons.mpr ⟨mw_wsX11_count_20, (List.forall_mem_cons.mpr ⟨mw_wsX11_count_21, (List.forall_mem_cons.mpr ⟨mw_wsX11_count_22, (List.forall_mem_cons.mpr ⟨mw_wsX11_count_23, (List.forall_mem_cons.mpr ⟨mw_wsX11_count_24, (List.forall_mem_cons.mpr ⟨mw_wsX11_count_8, (List.forall_mem_cons.mpr ⟨mw_wsX11_count_25, (List.forall_mem_cons.mpr ⟨mw_wsX11_count_10, (List.forall_mem_cons.mpr ⟨mw_wsX11_count_26, (List.forall_mem_cons.mpr ⟨mw_wsX11_count_27, (List.forall_mem_cons.mpr ⟨mw_wsX11_count_28, (List.forall_mem_cons.mpr ⟨mw_wsX11_count_29, (List.forall_mem_cons.mpr ⟨mw_wsX11_count_30, (List.forall_mem_cons.mpr ⟨mw_wsX11_count_31, (List.forall_mem_cons.mpr ⟨mw_wsX11_count_32, (List.forall_mem_cons.mpr ⟨mw_wsX11_count_33, (List.forall_mem_cons.mpr ⟨mw_wsX11_count_34, (List.forall_mem_cons.mpr ⟨mw_wsX11_count_35, (fun _ h => absurd h List.not_mem_nil)⟩)⟩)⟩)⟩)⟩)⟩)⟩)⟩)⟩)⟩)⟩)⟩)⟩)⟩)⟩)⟩)⟩)⟩)⟩)⟩)⟩)⟩)⟩)⟩)
set_option maxRecDepth 100000 in
theorem mw_wsX11_count_59 : (.code yX11_calls cX11_calls 6 none : Cond) ∈ wsX11_count := List.mem_of_getElem? (i := 59) rfl
set_option maxRecDepth 100000 in
theorem mw_wsX11_count_58 : (.selects RX11 yX11_calls yX11_calls : Cond) ∈ wsX11_count := List.mem_of_getElem? (i := 58) (by decide +kernel)
set_option maxRecDepth 100000 in
theorem mw_wsX11_count_57 : (.instanceMethod yX11_calls : Cond) ∈ wsX11_count := List.mem_of_getElem? (i := 57) (by decide +kernel)
set_option maxRecDepth 100000 in
theorem mw_wsX11_count_56 : (.methodLink RX11 291 yX11_calls : Cond) ∈ wsX11_count := List.mem_of_getElem? (i := 56) (by decide +kernel)
set_option maxRecDepth 100000 in
theorem mw_wsX11_count_55 : (.code yX11_factOf cX11_factOf 3 (some .int) : Cond) ∈ wsX11_count := List.mem_of_getElem? (i := 55) rfl
set_option maxRecDepth 100000 in
theorem mw_wsX11_count_54 : (.static yX11_factOf : Cond) ∈ wsX11_count := List.mem_of_getElem? (i := 54) (by decide +kernel)
set_option maxRecDepth 100000 in
theorem mw_wsX11_count_53 : (.methodLink RX11 287 yX11_factOf : Cond) ∈ wsX11_count := List.mem_of_getElem? (i := 53) (by decide +kernel)
set_option maxRecDepth 100000 in
theorem mw_wsX11_count_52 : (.fieldLink RX11 23 "NothingJudgeModel" "two" "[I" : Cond) ∈ wsX11_count := List.mem_of_getElem? (i := 52) (by decide +kernel)
set_option maxRecDepth 100000 in
theorem mw_wsX11_count_51 : (.fieldLink RX11 20 "NothingJudgeModel" "one" "[I" : Cond) ∈ wsX11_count := List.mem_of_getElem? (i := 51) (by decide +kernel)
set_option maxRecDepth 100000 in
theorem mw_wsX11_count_50 : (.fieldLink RX11 17 "NothingJudgeModel" "act" "[I" : Cond) ∈ wsX11_count := List.mem_of_getElem? (i := 50) (by decide +kernel)
set_option maxRecDepth 100000 in
theorem mw_wsX11_count_49 : (.code yX11_goes cX11_goes 4 none : Cond) ∈ wsX11_count := List.mem_of_getElem? (i := 49) rfl
set_option maxRecDepth 100000 in
theorem mw_wsX11_count_48 : (.selects RX11 yX11_goes yX11_goes : Cond) ∈ wsX11_count := List.mem_of_getElem? (i := 48) (by decide +kernel)
set_option maxRecDepth 100000 in
theorem mw_wsX11_count_47 : (.instanceMethod yX11_goes : Cond) ∈ wsX11_count := List.mem_of_getElem? (i := 47) (by decide +kernel)
set_option maxRecDepth 100000 in
theorem mw_wsX11_count_46 : (.methodLink RX11 284 yX11_goes : Cond) ∈ wsX11_count := List.mem_of_getElem? (i := 46) (by decide +kernel)
set_option maxRecDepth 100000 in
theorem mw_wsX11_count_45 : (.code yX11_flows cX11_flows 6 none : Cond) ∈ wsX11_count := List.mem_of_getElem? (i := 45) rfl
set_option maxRecDepth 100000 in
theorem mw_wsX11_count_44 : (.selects RX11 yX11_flows yX11_flows : Cond) ∈ wsX11_count := List.mem_of_getElem? (i := 44) (by decide +kernel)
set_option maxRecDepth 100000 in
theorem mw_wsX11_count_43 : (.instanceMethod yX11_flows : Cond) ∈ wsX11_count := List.mem_of_getElem? (i := 43) (by decide +kernel)
set_option maxRecDepth 100000 in
theorem mw_wsX11_count_42 : (.methodLink RX11 271 yX11_flows : Cond) ∈ wsX11_count := List.mem_of_getElem? (i := 42) (by decide +kernel)
set_option maxRecDepth 100000 in
theorem mw_wsX11_count_41 : (.constantLong RX11 259 (-1) : Cond) ∈ wsX11_count := List.mem_of_getElem? (i := 41) (by decide +kernel)
set_option maxRecDepth 100000 in
theorem mw_wsX11_count_40 : (.constantLong RX11 257 (3) : Cond) ∈ wsX11_count := List.mem_of_getElem? (i := 40) (by decide +kernel)
set_option maxRecDepth 100000 in
theorem mw_wsX11_count_39 : (.code yX11_with cX11_with 4 (some .long) : Cond) ∈ wsX11_count := List.mem_of_getElem? (i := 39) rfl
set_option maxRecDepth 100000 in
theorem mw_wsX11_count_38 : (.static yX11_with : Cond) ∈ wsX11_count := List.mem_of_getElem? (i := 38) (by decide +kernel)
set_option maxRecDepth 100000 in
theorem mw_wsX11_count_37 : (.methodLink RX11 267 yX11_with : Cond) ∈ wsX11_count := List.mem_of_getElem? (i := 37) (by decide +kernel)
set_option maxRecDepth 100000 in
theorem mw_wsX11_count_36 : (.fieldLink RX11 32 "NothingJudgeModel" "routineFrom" "[I" : Cond) ∈ wsX11_count := List.mem_of_getElem? (i := 36) (by decide +kernel)
set_option maxRecDepth 100000 in
theorem mc_wsX11_count_wsX11_reckons_r2 : ∀ w ∈ wsX11_reckons_r2, w ∈ wsX11_count := (List.forall_mem_cons.mpr ⟨mw_wsX11_count_36, (List.forall_mem_cons.mpr ⟨mw_wsX11_count_37, (List.forall_mem_cons.mpr ⟨mw_wsX11_count_38, (List.forall_mem_cons.mpr ⟨mw_wsX11_count_39, (List.forall_mem_cons.mpr ⟨mw_wsX11_count_40, (List.forall_mem_cons.mpr ⟨mw_wsX11_count_41, (List.forall_mem_cons.mpr ⟨mw_wsX11_count_42, (List.forall_mem_cons.mpr ⟨mw_wsX11_count_43, (List.forall_mem_cons.mpr ⟨mw_wsX11_count_44, (List.forall_mem_cons.mpr ⟨mw_wsX11_count_45, (List.forall_mem_cons.mpr ⟨mw_wsX11_count_46, (List.forall_mem_cons.mpr ⟨mw_wsX11_count_47, (List.forall_mem_cons.mpr ⟨mw_wsX11_count_48, (List.forall_mem_cons.mpr ⟨mw_wsX11_count_49, (List.forall_mem_cons.mpr ⟨mw_wsX11_count_50, (List.forall_mem_cons.mpr ⟨mw_wsX11_count_51, (List.forall_mem_cons.mpr ⟨mw_wsX11_count_52, (List.forall_mem_cons.mpr ⟨mw_wsX11_count_53, (List.forall_mem_cons.mpr ⟨mw_wsX11_count_54, (List.forall_mem_cons.mpr ⟨mw_wsX11_count_55, (List.forall_mem_cons.mpr ⟨mw_wsX11_count_56, (List.forall_mem_cons.mpr ⟨mw_wsX11_count_57, (List.forall_mem_cons.mpr ⟨mw_wsX11_count_58, (List.forall_mem_cons.mpr ⟨mw_wsX11_count_59, (fun _ h => absurd h List.not_mem_nil)⟩)⟩)⟩)⟩)⟩)⟩)⟩)⟩)⟩)⟩)⟩)⟩)⟩)⟩)⟩)⟩)⟩)⟩)⟩)⟩)⟩)⟩)⟩)⟩)
set_option maxRecDepth 100000 in
theorem mw_wsX11_count_69 : (.fieldLink RX11 26 "NothingJudgeModel" "three" "[I" : Cond) ∈ wsX11_count := List.mem_of_getElem? (i := 69) (by decide +kernel)
set_option maxRecDepth 100000 in
theorem mw_wsX11_count_68 : (.code yX11_tests cX11_tests 7 none : Cond) ∈ wsX11_count := List.mem_of_getElem? (i := 68) rfl
set_option maxRecDepth 100000 in
theorem mw_wsX11_count_67 : (.selects RX11 yX11_tests yX11_tests : Cond) ∈ wsX11_count := List.mem_of_getElem? (i := 67) (by decide +kernel)
set_option maxRecDepth 100000 in
theorem mw_wsX11_count_66 : (.instanceMethod yX11_tests : Cond) ∈ wsX11_count := List.mem_of_getElem? (i := 66) (by decide +kernel)
set_option maxRecDepth 100000 in
theorem mw_wsX11_count_65 : (.methodLink RX11 296 yX11_tests : Cond) ∈ wsX11_count := List.mem_of_getElem? (i := 65) (by decide +kernel)
set_option maxRecDepth 100000 in
theorem mw_wsX11_count_64 : (.code yX11_routineAt cX11_routineAt 4 (some .int) : Cond) ∈ wsX11_count := List.mem_of_getElem? (i := 64) rfl
set_option maxRecDepth 100000 in
theorem mw_wsX11_count_63 : (.selects RX11 yX11_routineAt yX11_routineAt : Cond) ∈ wsX11_count := List.mem_of_getElem? (i := 63) (by decide +kernel)
set_option maxRecDepth 100000 in
theorem mw_wsX11_count_62 : (.instanceMethod yX11_routineAt : Cond) ∈ wsX11_count := List.mem_of_getElem? (i := 62) (by decide +kernel)
set_option maxRecDepth 100000 in
theorem mw_wsX11_count_61 : (.methodLink RX11 293 yX11_routineAt : Cond) ∈ wsX11_count := List.mem_of_getElem? (i := 61) (by decide +kernel)
set_option maxRecDepth 100000 in
theorem mw_wsX11_count_60 : (.fieldLink RX11 29 "NothingJudgeModel" "argsOf" "[I" : Cond) ∈ wsX11_count := List.mem_of_getElem? (i := 60) (by decide +kernel)
set_option maxRecDepth 100000 in
theorem mc_wsX11_count_wsX11_reckons_r3 : ∀ w ∈ wsX11_reckons_r3, w ∈ wsX11_count := (List.forall_mem_cons.mpr ⟨mw_wsX11_count_60, (List.forall_mem_cons.mpr ⟨mw_wsX11_count_61, (List.forall_mem_cons.mpr ⟨mw_wsX11_count_62, (List.forall_mem_cons.mpr ⟨mw_wsX11_count_63, (List.forall_mem_cons.mpr ⟨mw_wsX11_count_64, (List.forall_mem_cons.mpr ⟨mw_wsX11_count_65, (List.forall_mem_cons.mpr ⟨mw_wsX11_count_66, (List.forall_mem_cons.mpr ⟨mw_wsX11_count_67, (List.forall_mem_cons.mpr ⟨mw_wsX11_count_68, (List.forall_mem_cons.mpr ⟨mw_wsX11_count_69, (fun _ h => absurd h List.not_mem_nil)⟩)⟩)⟩)⟩)⟩)⟩)⟩)⟩)⟩)⟩)
set_option maxRecDepth 20000 in
theorem ggX11_count_X11_reckons : GoodIn wsX11_count wsX11_reckons := goodIn_sub (List.forall_mem_cons.mpr ⟨mw_wsX11_count_14, (wK_app (wK_app mc_wsX11_count_wsX11_reckons_r1 (wK_app mc_wsX11_count_wsX11_reckons_r2 mc_wsX11_count_wsX11_reckons_r3)) (fun _ h => List.mem_cons_of_mem _ (List.mem_append_right _ h)))⟩) (by decide +kernel)
set_option maxRecDepth 20000 in
theorem gX11_count_X11_reckons : GoodIn wsX11_count (wsV RX11 302 RX11 yX11_reckons wsX11_reckons) := goodIn_app (goodIn_of _ (by decide +kernel)) ggX11_count_X11_reckons
set_option maxRecDepth 100000 in
theorem mw_wsX11_count_77 : (.code yX11_routinesMany cX11_routinesMany 3 (some .int) : Cond) ∈ wsX11_count := List.mem_of_getElem? (i := 77) rfl
set_option maxRecDepth 20000 in
theorem ggX11_count_X11_routinesMany : GoodIn wsX11_count wsX11_routinesMany := goodIn_sub (List.forall_mem_cons.mpr ⟨mw_wsX11_count_77, (wK_app (List.forall_mem_cons.mpr ⟨mw_wsX11_count_36, (fun _ h => absurd h List.not_mem_nil)⟩) (fun _ h => List.mem_cons_of_mem _ (List.mem_append_right _ h)))⟩) (by decide +kernel)
set_option maxRecDepth 20000 in
theorem gX11_count_X11_routinesMany : GoodIn wsX11_count (wsV RX11 248 RX11 yX11_routinesMany wsX11_routinesMany) := goodIn_app (goodIn_of _ (by decide +kernel)) ggX11_count_X11_routinesMany
theorem dX11_count_0 : decode cX11_count 0 = .ok (.aload_n 0, 1) := by decide +kernel
theorem dX11_count_1 : decode cX11_count 1 = .ok (.iconst 0, 1) := by decide +kernel
theorem dX11_count_2 : decode cX11_count 2 = .ok (.putfield 121, 3) := by decide +kernel
theorem dX11_count_5 : decode cX11_count 5 = .ok (.iconst 0, 1) := by decide +kernel
theorem dX11_count_6 : decode cX11_count 6 = .ok (.istore_n 2, 1) := by decide +kernel
theorem dX11_count_7 : decode cX11_count 7 = .ok (.iconst 0, 1) := by decide +kernel
theorem dX11_count_8 : decode cX11_count 8 = .ok (.istore_n 3, 1) := by decide +kernel
theorem dX11_count_9 : decode cX11_count 9 = .ok (.iload_n 1, 1) := by decide +kernel
theorem dX11_count_10 : decode cX11_count 10 = .ok (.iconst 4, 1) := by decide +kernel
theorem dX11_count_11 : decode cX11_count 11 = .ok (.if_icmp .eq 8, 3) := by decide +kernel
theorem dX11_count_14 : decode cX11_count 14 = .ok (.iload_n 1, 1) := by decide +kernel
theorem dX11_count_15 : decode cX11_count 15 = .ok (.iconst 5, 1) := by decide +kernel
theorem dX11_count_16 : decode cX11_count 16 = .ok (.if_icmp .ne 67, 3) := by decide +kernel
theorem dX11_count_19 : decode cX11_count 19 = .ok (.aload_n 0, 1) := by decide +kernel
theorem dX11_count_20 : decode cX11_count 20 = .ok (.invokevirtual 299, 3) := by decide +kernel
theorem dX11_count_23 : decode cX11_count 23 = .ok (.aload_n 0, 1) := by decide +kernel
theorem dX11_count_24 : decode cX11_count 24 = .ok (.invokevirtual 302, 3) := by decide +kernel
theorem dX11_count_27 : decode cX11_count 27 = .ok (.iconst 0, 1) := by decide +kernel
theorem dX11_count_28 : decode cX11_count 28 = .ok (.istore 4, 2) := by decide +kernel
theorem dX11_count_30 : decode cX11_count 30 = .ok (.iload 4, 2) := by decide +kernel
theorem dX11_count_32 : decode cX11_count 32 = .ok (.aload_n 0, 1) := by decide +kernel
theorem dX11_count_33 : decode cX11_count 33 = .ok (.getfield 53, 3) := by decide +kernel
theorem dX11_count_36 : decode cX11_count 36 = .ok (.iconst 0, 1) := by decide +kernel
theorem dX11_count_37 : decode cX11_count 37 = .ok (.iaload, 1) := by decide +kernel
theorem dX11_count_38 : decode cX11_count 38 = .ok (.if_icmp .ge 45, 3) := by decide +kernel
theorem dX11_count_83 : decode cX11_count 83 = .ok (.iload_n 1, 1) := by decide +kernel
theorem dX11_count_84 : decode cX11_count 84 = .ok (.tableswitch 68 0 5 #[40, 45, 52, 59, 64, 66], 40) := by decide +kernel
theorem dX11_count_124 : decode cX11_count 124 = .ok (.aload_n 0, 1) := by decide +kernel
theorem dX11_count_125 : decode cX11_count 125 = .ok (.invokevirtual 248, 3) := by decide +kernel
theorem dX11_count_128 : decode cX11_count 128 = .ok (.ireturn, 1) := by decide +kernel
theorem dX11_count_129 : decode cX11_count 129 = .ok (.aload_n 0, 1) := by decide +kernel
theorem dX11_count_130 : decode cX11_count 130 = .ok (.getfield 53, 3) := by decide +kernel
theorem dX11_count_133 : decode cX11_count 133 = .ok (.iconst 0, 1) := by decide +kernel
theorem dX11_count_134 : decode cX11_count 134 = .ok (.iaload, 1) := by decide +kernel
theorem dX11_count_135 : decode cX11_count 135 = .ok (.ireturn, 1) := by decide +kernel
theorem dX11_count_136 : decode cX11_count 136 = .ok (.aload_n 0, 1) := by decide +kernel
theorem dX11_count_137 : decode cX11_count 137 = .ok (.getfield 62, 3) := by decide +kernel
theorem dX11_count_140 : decode cX11_count 140 = .ok (.iconst 0, 1) := by decide +kernel
theorem dX11_count_141 : decode cX11_count 141 = .ok (.iaload, 1) := by decide +kernel
theorem dX11_count_142 : decode cX11_count 142 = .ok (.ireturn, 1) := by decide +kernel
theorem dX11_count_143 : decode cX11_count 143 = .ok (.aload_n 0, 1) := by decide +kernel
theorem dX11_count_144 : decode cX11_count 144 = .ok (.getfield 83, 3) := by decide +kernel
theorem dX11_count_147 : decode cX11_count 147 = .ok (.ireturn, 1) := by decide +kernel
theorem dX11_count_148 : decode cX11_count 148 = .ok (.iload_n 2, 1) := by decide +kernel
theorem dX11_count_149 : decode cX11_count 149 = .ok (.ireturn, 1) := by decide +kernel
theorem dX11_count_150 : decode cX11_count 150 = .ok (.iload_n 3, 1) := by decide +kernel
theorem dX11_count_151 : decode cX11_count 151 = .ok (.ireturn, 1) := by decide +kernel
theorem dX11_count_152 : decode cX11_count 152 = .ok (.iconst (-1), 1) := by decide +kernel
theorem dX11_count_153 : decode cX11_count 153 = .ok (.ireturn, 1) := by decide +kernel
theorem dJ7_fill_d0a16_0 : decode cJ7_fill_d0a16 0 = .ok (.iconst 0, 1) := by decide +kernel
theorem dJ7_fill_d0a16_1 : decode cJ7_fill_d0a16 1 = .ok (.istore_n 3, 1) := by decide +kernel
theorem dJ7_fill_d0a16_2 : decode cJ7_fill_d0a16 2 = .ok (.aload_n 0, 1) := by decide +kernel
theorem dJ7_fill_d0a16_3 : decode cJ7_fill_d0a16 3 = .ok (.arraylength, 1) := by decide +kernel
theorem dJ7_fill_d0a16_4 : decode cJ7_fill_d0a16 4 = .ok (.istore 4, 2) := by decide +kernel
theorem dJ7_fill_d0a16_6 : decode cJ7_fill_d0a16 6 = .ok (.iload_n 3, 1) := by decide +kernel
theorem dJ7_fill_d0a16_7 : decode cJ7_fill_d0a16 7 = .ok (.iload 4, 2) := by decide +kernel
theorem dJ7_fill_d0a16_9 : decode cJ7_fill_d0a16 9 = .ok (.if_icmp .ge 13, 3) := by decide +kernel
theorem dJ7_fill_d0a16_12 : decode cJ7_fill_d0a16 12 = .ok (.aload_n 0, 1) := by decide +kernel
theorem dJ7_fill_d0a16_13 : decode cJ7_fill_d0a16 13 = .ok (.iload_n 3, 1) := by decide +kernel
theorem dJ7_fill_d0a16_14 : decode cJ7_fill_d0a16 14 = .ok (.lload_n 1, 1) := by decide +kernel
theorem dJ7_fill_d0a16_15 : decode cJ7_fill_d0a16 15 = .ok (.lastore, 1) := by decide +kernel
theorem dJ7_fill_d0a16_16 : decode cJ7_fill_d0a16 16 = .ok (.iinc 3 1, 3) := by decide +kernel
theorem dJ7_fill_d0a16_19 : decode cJ7_fill_d0a16 19 = .ok (.goto (-13), 3) := by decide +kernel
theorem dJ7_fill_d0a16_22 : decode cJ7_fill_d0a16 22 = .ok (.return_, 1) := by decide +kernel
theorem dJ7_fill_53178_0 : decode cJ7_fill_53178 0 = .ok (.iconst 0, 1) := by decide +kernel
theorem dJ7_fill_53178_1 : decode cJ7_fill_53178 1 = .ok (.istore_n 2, 1) := by decide +kernel
theorem dJ7_fill_53178_2 : decode cJ7_fill_53178 2 = .ok (.aload_n 0, 1) := by decide +kernel
theorem dJ7_fill_53178_3 : decode cJ7_fill_53178 3 = .ok (.arraylength, 1) := by decide +kernel
theorem dJ7_fill_53178_4 : decode cJ7_fill_53178 4 = .ok (.istore_n 3, 1) := by decide +kernel
theorem dJ7_fill_53178_5 : decode cJ7_fill_53178 5 = .ok (.iload_n 2, 1) := by decide +kernel
theorem dJ7_fill_53178_6 : decode cJ7_fill_53178 6 = .ok (.iload_n 3, 1) := by decide +kernel
theorem dJ7_fill_53178_7 : decode cJ7_fill_53178 7 = .ok (.if_icmp .ge 13, 3) := by decide +kernel
theorem dJ7_fill_53178_10 : decode cJ7_fill_53178 10 = .ok (.aload_n 0, 1) := by decide +kernel
theorem dJ7_fill_53178_11 : decode cJ7_fill_53178 11 = .ok (.iload_n 2, 1) := by decide +kernel
theorem dJ7_fill_53178_12 : decode cJ7_fill_53178 12 = .ok (.iload_n 1, 1) := by decide +kernel
theorem dJ7_fill_53178_13 : decode cJ7_fill_53178 13 = .ok (.iastore, 1) := by decide +kernel
theorem dJ7_fill_53178_14 : decode cJ7_fill_53178 14 = .ok (.iinc 2 1, 3) := by decide +kernel
theorem dJ7_fill_53178_17 : decode cJ7_fill_53178 17 = .ok (.goto (-12), 3) := by decide +kernel
theorem dJ7_fill_53178_20 : decode cJ7_fill_53178 20 = .ok (.return_, 1) := by decide +kernel
theorem dL_law_0 : decode cL_law 0 = .ok (.new 7, 3) := by decide +kernel
theorem dL_law_3 : decode cL_law 3 = .ok (.dup, 1) := by decide +kernel
theorem dL_law_4 : decode cL_law 4 = .ok (.invokespecial 9, 3) := by decide +kernel
theorem dL_law_7 : decode cL_law 7 = .ok (.astore_n 1, 1) := by decide +kernel
theorem dL_law_8 : decode cL_law 8 = .ok (.new 10, 3) := by decide +kernel
theorem dL_law_11 : decode cL_law 11 = .ok (.dup, 1) := by decide +kernel
theorem dL_law_12 : decode cL_law 12 = .ok (.invokespecial 12, 3) := by decide +kernel
theorem dL_law_15 : decode cL_law 15 = .ok (.astore_n 2, 1) := by decide +kernel
theorem dL_law_16 : decode cL_law 16 = .ok (.iconst 0, 1) := by decide +kernel
theorem dL_law_17 : decode cL_law 17 = .ok (.istore_n 3, 1) := by decide +kernel
theorem dL_law_18 : decode cL_law 18 = .ok (.iload_n 3, 1) := by decide +kernel
theorem dL_law_19 : decode cL_law 19 = .ok (.aload_n 0, 1) := by decide +kernel
theorem dL_law_20 : decode cL_law 20 = .ok (.arraylength, 1) := by decide +kernel
theorem dL_law_21 : decode cL_law 21 = .ok (.bipush 6, 2) := by decide +kernel
theorem dL_law_23 : decode cL_law 23 = .ok (.isub, 1) := by decide +kernel
theorem dL_law_24 : decode cL_law 24 = .ok (.if_icmp .gt 535, 3) := by decide +kernel
theorem dL_law_27 : decode cL_law 27 = .ok (.aload_n 0, 1) := by decide +kernel
theorem dL_law_28 : decode cL_law 28 = .ok (.iload_n 3, 1) := by decide +kernel
theorem dL_law_29 : decode cL_law 29 = .ok (.iaload, 1) := by decide +kernel
theorem dL_law_30 : decode cL_law 30 = .ok (.bipush 15, 2) := by decide +kernel
theorem dL_law_32 : decode cL_law 32 = .ok (.iand, 1) := by decide +kernel
theorem dL_law_33 : decode cL_law 33 = .ok (.tableswitch 520 0 14 #[75, 138, 161, 184, 207, 240, 283, 316, 349, 382, 405, 428, 461, 474, 497], 75) := by decide +kernel
theorem dL_law_108 : decode cL_law 108 = .ok (.aload_n 1, 1) := by decide +kernel
theorem dL_law_109 : decode cL_law 109 = .ok (.aload_n 0, 1) := by decide +kernel
theorem dL_law_110 : decode cL_law 110 = .ok (.iload_n 3, 1) := by decide +kernel
theorem dL_law_111 : decode cL_law 111 = .ok (.iconst 1, 1) := by decide +kernel
theorem dL_law_112 : decode cL_law 112 = .ok (.iadd, 1) := by decide +kernel
theorem dL_law_113 : decode cL_law 113 = .ok (.iaload, 1) := by decide +kernel
theorem dL_law_114 : decode cL_law 114 = .ok (.aload_n 0, 1) := by decide +kernel
theorem dL_law_115 : decode cL_law 115 = .ok (.iload_n 3, 1) := by decide +kernel
theorem dL_law_116 : decode cL_law 116 = .ok (.iconst 2, 1) := by decide +kernel
theorem dL_law_117 : decode cL_law 117 = .ok (.iadd, 1) := by decide +kernel
theorem dL_law_118 : decode cL_law 118 = .ok (.iaload, 1) := by decide +kernel
theorem dL_law_119 : decode cL_law 119 = .ok (.aload_n 0, 1) := by decide +kernel
theorem dL_law_120 : decode cL_law 120 = .ok (.iload_n 3, 1) := by decide +kernel
theorem dL_law_121 : decode cL_law 121 = .ok (.iconst 3, 1) := by decide +kernel
theorem dL_law_122 : decode cL_law 122 = .ok (.iadd, 1) := by decide +kernel
theorem dL_law_123 : decode cL_law 123 = .ok (.iaload, 1) := by decide +kernel
theorem dL_law_124 : decode cL_law 124 = .ok (.aload_n 0, 1) := by decide +kernel
theorem dL_law_125 : decode cL_law 125 = .ok (.iload_n 3, 1) := by decide +kernel
theorem dL_law_126 : decode cL_law 126 = .ok (.iconst 4, 1) := by decide +kernel
theorem dL_law_127 : decode cL_law 127 = .ok (.iadd, 1) := by decide +kernel
theorem dL_law_128 : decode cL_law 128 = .ok (.iaload, 1) := by decide +kernel
theorem dL_law_129 : decode cL_law 129 = .ok (.aload_n 0, 1) := by decide +kernel
theorem dL_law_130 : decode cL_law 130 = .ok (.iload_n 3, 1) := by decide +kernel
theorem dL_law_131 : decode cL_law 131 = .ok (.iconst 5, 1) := by decide +kernel
theorem dL_law_132 : decode cL_law 132 = .ok (.iadd, 1) := by decide +kernel
theorem dL_law_133 : decode cL_law 133 = .ok (.iaload, 1) := by decide +kernel
theorem dL_law_134 : decode cL_law 134 = .ok (.invokevirtual 13, 3) := by decide +kernel
theorem dL_law_137 : decode cL_law 137 = .ok (.aload_n 2, 1) := by decide +kernel
theorem dL_law_138 : decode cL_law 138 = .ok (.aload_n 0, 1) := by decide +kernel
theorem dL_law_139 : decode cL_law 139 = .ok (.iload_n 3, 1) := by decide +kernel
theorem dL_law_140 : decode cL_law 140 = .ok (.iconst 1, 1) := by decide +kernel
theorem dL_law_141 : decode cL_law 141 = .ok (.iadd, 1) := by decide +kernel
theorem dL_law_142 : decode cL_law 142 = .ok (.iaload, 1) := by decide +kernel
theorem dL_law_143 : decode cL_law 143 = .ok (.aload_n 0, 1) := by decide +kernel
theorem dL_law_144 : decode cL_law 144 = .ok (.iload_n 3, 1) := by decide +kernel
theorem dL_law_145 : decode cL_law 145 = .ok (.iconst 2, 1) := by decide +kernel
theorem dL_law_146 : decode cL_law 146 = .ok (.iadd, 1) := by decide +kernel
theorem dL_law_147 : decode cL_law 147 = .ok (.iaload, 1) := by decide +kernel
theorem dL_law_148 : decode cL_law 148 = .ok (.aload_n 0, 1) := by decide +kernel
theorem dL_law_149 : decode cL_law 149 = .ok (.iload_n 3, 1) := by decide +kernel
theorem dL_law_150 : decode cL_law 150 = .ok (.iconst 3, 1) := by decide +kernel
theorem dL_law_151 : decode cL_law 151 = .ok (.iadd, 1) := by decide +kernel
theorem dL_law_152 : decode cL_law 152 = .ok (.iaload, 1) := by decide +kernel
theorem dL_law_153 : decode cL_law 153 = .ok (.aload_n 0, 1) := by decide +kernel
theorem dL_law_154 : decode cL_law 154 = .ok (.iload_n 3, 1) := by decide +kernel
theorem dL_law_155 : decode cL_law 155 = .ok (.iconst 4, 1) := by decide +kernel
theorem dL_law_156 : decode cL_law 156 = .ok (.iadd, 1) := by decide +kernel
theorem dL_law_157 : decode cL_law 157 = .ok (.iaload, 1) := by decide +kernel
theorem dL_law_158 : decode cL_law 158 = .ok (.aload_n 0, 1) := by decide +kernel
theorem dL_law_159 : decode cL_law 159 = .ok (.iload_n 3, 1) := by decide +kernel
theorem dL_law_160 : decode cL_law 160 = .ok (.iconst 5, 1) := by decide +kernel
theorem dL_law_161 : decode cL_law 161 = .ok (.iadd, 1) := by decide +kernel
theorem dL_law_162 : decode cL_law 162 = .ok (.iaload, 1) := by decide +kernel
theorem dL_law_163 : decode cL_law 163 = .ok (.invokevirtual 17, 3) := by decide +kernel
theorem dL_law_166 : decode cL_law 166 = .ok (.if_icmp .eq 387, 3) := by decide +kernel
theorem dL_law_171 : decode cL_law 171 = .ok (.aload_n 1, 1) := by decide +kernel
theorem dL_law_172 : decode cL_law 172 = .ok (.aload_n 0, 1) := by decide +kernel
theorem dL_law_173 : decode cL_law 173 = .ok (.iload_n 3, 1) := by decide +kernel
theorem dL_law_174 : decode cL_law 174 = .ok (.iconst 1, 1) := by decide +kernel
theorem dL_law_175 : decode cL_law 175 = .ok (.iadd, 1) := by decide +kernel
theorem dL_law_176 : decode cL_law 176 = .ok (.iaload, 1) := by decide +kernel
theorem dL_law_177 : decode cL_law 177 = .ok (.invokevirtual 18, 3) := by decide +kernel
theorem dL_law_180 : decode cL_law 180 = .ok (.aload_n 2, 1) := by decide +kernel
theorem dL_law_181 : decode cL_law 181 = .ok (.aload_n 0, 1) := by decide +kernel
theorem dL_law_182 : decode cL_law 182 = .ok (.iload_n 3, 1) := by decide +kernel
theorem dL_law_183 : decode cL_law 183 = .ok (.iconst 1, 1) := by decide +kernel
theorem dL_law_184 : decode cL_law 184 = .ok (.iadd, 1) := by decide +kernel
theorem dL_law_185 : decode cL_law 185 = .ok (.iaload, 1) := by decide +kernel
theorem dL_law_186 : decode cL_law 186 = .ok (.invokevirtual 22, 3) := by decide +kernel
theorem dL_law_189 : decode cL_law 189 = .ok (.if_icmp .eq 364, 3) := by decide +kernel
theorem dL_law_194 : decode cL_law 194 = .ok (.aload_n 1, 1) := by decide +kernel
theorem dL_law_195 : decode cL_law 195 = .ok (.aload_n 0, 1) := by decide +kernel
theorem dL_law_196 : decode cL_law 196 = .ok (.iload_n 3, 1) := by decide +kernel
theorem dL_law_197 : decode cL_law 197 = .ok (.iconst 1, 1) := by decide +kernel
theorem dL_law_198 : decode cL_law 198 = .ok (.iadd, 1) := by decide +kernel
theorem dL_law_199 : decode cL_law 199 = .ok (.iaload, 1) := by decide +kernel
theorem dL_law_200 : decode cL_law 200 = .ok (.invokevirtual 23, 3) := by decide +kernel
theorem dL_law_203 : decode cL_law 203 = .ok (.aload_n 2, 1) := by decide +kernel
theorem dL_law_204 : decode cL_law 204 = .ok (.aload_n 0, 1) := by decide +kernel
theorem dL_law_205 : decode cL_law 205 = .ok (.iload_n 3, 1) := by decide +kernel
theorem dL_law_206 : decode cL_law 206 = .ok (.iconst 1, 1) := by decide +kernel
theorem dL_law_207 : decode cL_law 207 = .ok (.iadd, 1) := by decide +kernel
theorem dL_law_208 : decode cL_law 208 = .ok (.iaload, 1) := by decide +kernel
theorem dL_law_209 : decode cL_law 209 = .ok (.invokevirtual 26, 3) := by decide +kernel
theorem dL_law_212 : decode cL_law 212 = .ok (.if_icmp .eq 341, 3) := by decide +kernel
theorem dL_law_217 : decode cL_law 217 = .ok (.aload_n 1, 1) := by decide +kernel
theorem dL_law_218 : decode cL_law 218 = .ok (.aload_n 0, 1) := by decide +kernel
theorem dL_law_219 : decode cL_law 219 = .ok (.iload_n 3, 1) := by decide +kernel
theorem dL_law_220 : decode cL_law 220 = .ok (.iconst 1, 1) := by decide +kernel
theorem dL_law_221 : decode cL_law 221 = .ok (.iadd, 1) := by decide +kernel
theorem dL_law_222 : decode cL_law 222 = .ok (.iaload, 1) := by decide +kernel
theorem dL_law_223 : decode cL_law 223 = .ok (.invokevirtual 27, 3) := by decide +kernel
theorem dL_law_226 : decode cL_law 226 = .ok (.aload_n 2, 1) := by decide +kernel
theorem dL_law_227 : decode cL_law 227 = .ok (.aload_n 0, 1) := by decide +kernel
theorem dL_law_228 : decode cL_law 228 = .ok (.iload_n 3, 1) := by decide +kernel
theorem dL_law_229 : decode cL_law 229 = .ok (.iconst 1, 1) := by decide +kernel
theorem dL_law_230 : decode cL_law 230 = .ok (.iadd, 1) := by decide +kernel
theorem dL_law_231 : decode cL_law 231 = .ok (.iaload, 1) := by decide +kernel
theorem dL_law_232 : decode cL_law 232 = .ok (.invokevirtual 31, 3) := by decide +kernel
theorem dL_law_235 : decode cL_law 235 = .ok (.if_icmp .eq 318, 3) := by decide +kernel
theorem dL_law_240 : decode cL_law 240 = .ok (.aload_n 1, 1) := by decide +kernel
theorem dL_law_241 : decode cL_law 241 = .ok (.aload_n 0, 1) := by decide +kernel
theorem dL_law_242 : decode cL_law 242 = .ok (.iload_n 3, 1) := by decide +kernel
theorem dL_law_243 : decode cL_law 243 = .ok (.iconst 1, 1) := by decide +kernel
theorem dL_law_244 : decode cL_law 244 = .ok (.iadd, 1) := by decide +kernel
theorem dL_law_245 : decode cL_law 245 = .ok (.iaload, 1) := by decide +kernel
theorem dL_law_246 : decode cL_law 246 = .ok (.aload_n 0, 1) := by decide +kernel
theorem dL_law_247 : decode cL_law 247 = .ok (.iload_n 3, 1) := by decide +kernel
theorem dL_law_248 : decode cL_law 248 = .ok (.iconst 2, 1) := by decide +kernel
theorem dL_law_249 : decode cL_law 249 = .ok (.iadd, 1) := by decide +kernel
theorem dL_law_250 : decode cL_law 250 = .ok (.iaload, 1) := by decide +kernel
theorem dL_law_251 : decode cL_law 251 = .ok (.invokevirtual 32, 3) := by decide +kernel
theorem dL_law_254 : decode cL_law 254 = .ok (.aload_n 2, 1) := by decide +kernel
theorem dL_law_255 : decode cL_law 255 = .ok (.aload_n 0, 1) := by decide +kernel
theorem dL_law_256 : decode cL_law 256 = .ok (.iload_n 3, 1) := by decide +kernel
theorem dL_law_257 : decode cL_law 257 = .ok (.iconst 1, 1) := by decide +kernel
theorem dL_law_258 : decode cL_law 258 = .ok (.iadd, 1) := by decide +kernel
theorem dL_law_259 : decode cL_law 259 = .ok (.iaload, 1) := by decide +kernel
theorem dL_law_260 : decode cL_law 260 = .ok (.aload_n 0, 1) := by decide +kernel
theorem dL_law_261 : decode cL_law 261 = .ok (.iload_n 3, 1) := by decide +kernel
theorem dL_law_262 : decode cL_law 262 = .ok (.iconst 2, 1) := by decide +kernel
theorem dL_law_263 : decode cL_law 263 = .ok (.iadd, 1) := by decide +kernel
theorem dL_law_264 : decode cL_law 264 = .ok (.iaload, 1) := by decide +kernel
theorem dL_law_265 : decode cL_law 265 = .ok (.invokevirtual 36, 3) := by decide +kernel
theorem dL_law_268 : decode cL_law 268 = .ok (.if_icmp .eq 285, 3) := by decide +kernel
theorem dL_law_273 : decode cL_law 273 = .ok (.aload_n 1, 1) := by decide +kernel
theorem dL_law_274 : decode cL_law 274 = .ok (.aload_n 0, 1) := by decide +kernel
theorem dL_law_275 : decode cL_law 275 = .ok (.iload_n 3, 1) := by decide +kernel
theorem dL_law_276 : decode cL_law 276 = .ok (.iconst 1, 1) := by decide +kernel
theorem dL_law_277 : decode cL_law 277 = .ok (.iadd, 1) := by decide +kernel
theorem dL_law_278 : decode cL_law 278 = .ok (.iaload, 1) := by decide +kernel
theorem dL_law_279 : decode cL_law 279 = .ok (.aload_n 0, 1) := by decide +kernel
theorem dL_law_280 : decode cL_law 280 = .ok (.iload_n 3, 1) := by decide +kernel
theorem dL_law_281 : decode cL_law 281 = .ok (.iconst 2, 1) := by decide +kernel
theorem dL_law_282 : decode cL_law 282 = .ok (.iadd, 1) := by decide +kernel
theorem dL_law_283 : decode cL_law 283 = .ok (.iaload, 1) := by decide +kernel
theorem dL_law_284 : decode cL_law 284 = .ok (.aload_n 0, 1) := by decide +kernel
theorem dL_law_285 : decode cL_law 285 = .ok (.iload_n 3, 1) := by decide +kernel
theorem dL_law_286 : decode cL_law 286 = .ok (.iconst 3, 1) := by decide +kernel
theorem dL_law_287 : decode cL_law 287 = .ok (.iadd, 1) := by decide +kernel
theorem dL_law_288 : decode cL_law 288 = .ok (.iaload, 1) := by decide +kernel
theorem dL_law_289 : decode cL_law 289 = .ok (.invokevirtual 37, 3) := by decide +kernel
theorem dL_law_292 : decode cL_law 292 = .ok (.aload_n 2, 1) := by decide +kernel
theorem dL_law_293 : decode cL_law 293 = .ok (.aload_n 0, 1) := by decide +kernel
theorem dL_law_294 : decode cL_law 294 = .ok (.iload_n 3, 1) := by decide +kernel
theorem dL_law_295 : decode cL_law 295 = .ok (.iconst 1, 1) := by decide +kernel
theorem dL_law_296 : decode cL_law 296 = .ok (.iadd, 1) := by decide +kernel
theorem dL_law_297 : decode cL_law 297 = .ok (.iaload, 1) := by decide +kernel
theorem dL_law_298 : decode cL_law 298 = .ok (.aload_n 0, 1) := by decide +kernel
theorem dL_law_299 : decode cL_law 299 = .ok (.iload_n 3, 1) := by decide +kernel
theorem dL_law_300 : decode cL_law 300 = .ok (.iconst 2, 1) := by decide +kernel
theorem dL_law_301 : decode cL_law 301 = .ok (.iadd, 1) := by decide +kernel
theorem dL_law_302 : decode cL_law 302 = .ok (.iaload, 1) := by decide +kernel
theorem dL_law_303 : decode cL_law 303 = .ok (.aload_n 0, 1) := by decide +kernel
theorem dL_law_304 : decode cL_law 304 = .ok (.iload_n 3, 1) := by decide +kernel
theorem dL_law_305 : decode cL_law 305 = .ok (.iconst 3, 1) := by decide +kernel
theorem dL_law_306 : decode cL_law 306 = .ok (.iadd, 1) := by decide +kernel
theorem dL_law_307 : decode cL_law 307 = .ok (.iaload, 1) := by decide +kernel
theorem dL_law_308 : decode cL_law 308 = .ok (.invokevirtual 41, 3) := by decide +kernel
theorem dL_law_311 : decode cL_law 311 = .ok (.if_icmp .eq 242, 3) := by decide +kernel
theorem dL_law_316 : decode cL_law 316 = .ok (.aload_n 1, 1) := by decide +kernel
theorem dL_law_317 : decode cL_law 317 = .ok (.aload_n 0, 1) := by decide +kernel
theorem dL_law_318 : decode cL_law 318 = .ok (.iload_n 3, 1) := by decide +kernel
theorem dL_law_319 : decode cL_law 319 = .ok (.iconst 1, 1) := by decide +kernel
theorem dL_law_320 : decode cL_law 320 = .ok (.iadd, 1) := by decide +kernel
theorem dL_law_321 : decode cL_law 321 = .ok (.iaload, 1) := by decide +kernel
theorem dL_law_322 : decode cL_law 322 = .ok (.aload_n 0, 1) := by decide +kernel
theorem dL_law_323 : decode cL_law 323 = .ok (.iload_n 3, 1) := by decide +kernel
theorem dL_law_324 : decode cL_law 324 = .ok (.iconst 2, 1) := by decide +kernel
theorem dL_law_325 : decode cL_law 325 = .ok (.iadd, 1) := by decide +kernel
theorem dL_law_326 : decode cL_law 326 = .ok (.iaload, 1) := by decide +kernel
theorem dL_law_327 : decode cL_law 327 = .ok (.invokevirtual 42, 3) := by decide +kernel
theorem dL_law_330 : decode cL_law 330 = .ok (.aload_n 2, 1) := by decide +kernel
theorem dL_law_331 : decode cL_law 331 = .ok (.aload_n 0, 1) := by decide +kernel
theorem dL_law_332 : decode cL_law 332 = .ok (.iload_n 3, 1) := by decide +kernel
theorem dL_law_333 : decode cL_law 333 = .ok (.iconst 1, 1) := by decide +kernel
theorem dL_law_334 : decode cL_law 334 = .ok (.iadd, 1) := by decide +kernel
theorem dL_law_335 : decode cL_law 335 = .ok (.iaload, 1) := by decide +kernel
theorem dL_law_336 : decode cL_law 336 = .ok (.aload_n 0, 1) := by decide +kernel
theorem dL_law_337 : decode cL_law 337 = .ok (.iload_n 3, 1) := by decide +kernel
theorem dL_law_338 : decode cL_law 338 = .ok (.iconst 2, 1) := by decide +kernel
theorem dL_law_339 : decode cL_law 339 = .ok (.iadd, 1) := by decide +kernel
theorem dL_law_340 : decode cL_law 340 = .ok (.iaload, 1) := by decide +kernel
theorem dL_law_341 : decode cL_law 341 = .ok (.invokevirtual 46, 3) := by decide +kernel
theorem dL_law_344 : decode cL_law 344 = .ok (.if_icmp .eq 209, 3) := by decide +kernel
theorem dL_law_349 : decode cL_law 349 = .ok (.aload_n 1, 1) := by decide +kernel
theorem dL_law_350 : decode cL_law 350 = .ok (.aload_n 0, 1) := by decide +kernel
theorem dL_law_351 : decode cL_law 351 = .ok (.iload_n 3, 1) := by decide +kernel
theorem dL_law_352 : decode cL_law 352 = .ok (.iconst 1, 1) := by decide +kernel
theorem dL_law_353 : decode cL_law 353 = .ok (.iadd, 1) := by decide +kernel
theorem dL_law_354 : decode cL_law 354 = .ok (.iaload, 1) := by decide +kernel
theorem dL_law_355 : decode cL_law 355 = .ok (.aload_n 0, 1) := by decide +kernel
theorem dL_law_356 : decode cL_law 356 = .ok (.iload_n 3, 1) := by decide +kernel
theorem dL_law_357 : decode cL_law 357 = .ok (.iconst 2, 1) := by decide +kernel
theorem dL_law_358 : decode cL_law 358 = .ok (.iadd, 1) := by decide +kernel
theorem dL_law_359 : decode cL_law 359 = .ok (.iaload, 1) := by decide +kernel
theorem dL_law_360 : decode cL_law 360 = .ok (.invokevirtual 47, 3) := by decide +kernel
theorem dL_law_363 : decode cL_law 363 = .ok (.aload_n 2, 1) := by decide +kernel
theorem dL_law_364 : decode cL_law 364 = .ok (.aload_n 0, 1) := by decide +kernel
theorem dL_law_365 : decode cL_law 365 = .ok (.iload_n 3, 1) := by decide +kernel
theorem dL_law_366 : decode cL_law 366 = .ok (.iconst 1, 1) := by decide +kernel
theorem dL_law_367 : decode cL_law 367 = .ok (.iadd, 1) := by decide +kernel
theorem dL_law_368 : decode cL_law 368 = .ok (.iaload, 1) := by decide +kernel
theorem dL_law_369 : decode cL_law 369 = .ok (.aload_n 0, 1) := by decide +kernel
theorem dL_law_370 : decode cL_law 370 = .ok (.iload_n 3, 1) := by decide +kernel
theorem dL_law_371 : decode cL_law 371 = .ok (.iconst 2, 1) := by decide +kernel
theorem dL_law_372 : decode cL_law 372 = .ok (.iadd, 1) := by decide +kernel
theorem dL_law_373 : decode cL_law 373 = .ok (.iaload, 1) := by decide +kernel
theorem dL_law_374 : decode cL_law 374 = .ok (.invokevirtual 50, 3) := by decide +kernel
theorem dL_law_377 : decode cL_law 377 = .ok (.if_icmp .eq 176, 3) := by decide +kernel
theorem dL_law_382 : decode cL_law 382 = .ok (.aload_n 1, 1) := by decide +kernel
theorem dL_law_383 : decode cL_law 383 = .ok (.aload_n 0, 1) := by decide +kernel
theorem dL_law_384 : decode cL_law 384 = .ok (.iload_n 3, 1) := by decide +kernel
theorem dL_law_385 : decode cL_law 385 = .ok (.iconst 1, 1) := by decide +kernel
theorem dL_law_386 : decode cL_law 386 = .ok (.iadd, 1) := by decide +kernel
theorem dL_law_387 : decode cL_law 387 = .ok (.iaload, 1) := by decide +kernel
theorem dL_law_388 : decode cL_law 388 = .ok (.aload_n 0, 1) := by decide +kernel
theorem dL_law_389 : decode cL_law 389 = .ok (.iload_n 3, 1) := by decide +kernel
theorem dL_law_390 : decode cL_law 390 = .ok (.iconst 2, 1) := by decide +kernel
theorem dL_law_391 : decode cL_law 391 = .ok (.iadd, 1) := by decide +kernel
theorem dL_law_392 : decode cL_law 392 = .ok (.iaload, 1) := by decide +kernel
theorem dL_law_393 : decode cL_law 393 = .ok (.invokevirtual 51, 3) := by decide +kernel
theorem dL_law_396 : decode cL_law 396 = .ok (.aload_n 2, 1) := by decide +kernel
theorem dL_law_397 : decode cL_law 397 = .ok (.aload_n 0, 1) := by decide +kernel
theorem dL_law_398 : decode cL_law 398 = .ok (.iload_n 3, 1) := by decide +kernel
theorem dL_law_399 : decode cL_law 399 = .ok (.iconst 1, 1) := by decide +kernel
theorem dL_law_400 : decode cL_law 400 = .ok (.iadd, 1) := by decide +kernel
theorem dL_law_401 : decode cL_law 401 = .ok (.iaload, 1) := by decide +kernel
theorem dL_law_402 : decode cL_law 402 = .ok (.aload_n 0, 1) := by decide +kernel
theorem dL_law_403 : decode cL_law 403 = .ok (.iload_n 3, 1) := by decide +kernel
theorem dL_law_404 : decode cL_law 404 = .ok (.iconst 2, 1) := by decide +kernel
theorem dL_law_405 : decode cL_law 405 = .ok (.iadd, 1) := by decide +kernel
theorem dL_law_406 : decode cL_law 406 = .ok (.iaload, 1) := by decide +kernel
theorem dL_law_407 : decode cL_law 407 = .ok (.invokevirtual 54, 3) := by decide +kernel
theorem dL_law_410 : decode cL_law 410 = .ok (.if_icmp .eq 143, 3) := by decide +kernel
theorem dL_law_415 : decode cL_law 415 = .ok (.aload_n 1, 1) := by decide +kernel
theorem dL_law_416 : decode cL_law 416 = .ok (.aload_n 0, 1) := by decide +kernel
theorem dL_law_417 : decode cL_law 417 = .ok (.iload_n 3, 1) := by decide +kernel
theorem dL_law_418 : decode cL_law 418 = .ok (.iconst 1, 1) := by decide +kernel
theorem dL_law_419 : decode cL_law 419 = .ok (.iadd, 1) := by decide +kernel
theorem dL_law_420 : decode cL_law 420 = .ok (.iaload, 1) := by decide +kernel
theorem dL_law_421 : decode cL_law 421 = .ok (.invokevirtual 55, 3) := by decide +kernel
theorem dL_law_424 : decode cL_law 424 = .ok (.aload_n 2, 1) := by decide +kernel
theorem dL_law_425 : decode cL_law 425 = .ok (.aload_n 0, 1) := by decide +kernel
theorem dL_law_426 : decode cL_law 426 = .ok (.iload_n 3, 1) := by decide +kernel
theorem dL_law_427 : decode cL_law 427 = .ok (.iconst 1, 1) := by decide +kernel
theorem dL_law_428 : decode cL_law 428 = .ok (.iadd, 1) := by decide +kernel
theorem dL_law_429 : decode cL_law 429 = .ok (.iaload, 1) := by decide +kernel
theorem dL_law_430 : decode cL_law 430 = .ok (.invokevirtual 58, 3) := by decide +kernel
theorem dL_law_433 : decode cL_law 433 = .ok (.if_icmp .eq 120, 3) := by decide +kernel
theorem dL_law_438 : decode cL_law 438 = .ok (.aload_n 1, 1) := by decide +kernel
theorem dL_law_439 : decode cL_law 439 = .ok (.aload_n 0, 1) := by decide +kernel
theorem dL_law_440 : decode cL_law 440 = .ok (.iload_n 3, 1) := by decide +kernel
theorem dL_law_441 : decode cL_law 441 = .ok (.iconst 1, 1) := by decide +kernel
theorem dL_law_442 : decode cL_law 442 = .ok (.iadd, 1) := by decide +kernel
theorem dL_law_443 : decode cL_law 443 = .ok (.iaload, 1) := by decide +kernel
theorem dL_law_444 : decode cL_law 444 = .ok (.invokevirtual 59, 3) := by decide +kernel
theorem dL_law_447 : decode cL_law 447 = .ok (.aload_n 2, 1) := by decide +kernel
theorem dL_law_448 : decode cL_law 448 = .ok (.aload_n 0, 1) := by decide +kernel
theorem dL_law_449 : decode cL_law 449 = .ok (.iload_n 3, 1) := by decide +kernel
theorem dL_law_450 : decode cL_law 450 = .ok (.iconst 1, 1) := by decide +kernel
theorem dL_law_451 : decode cL_law 451 = .ok (.iadd, 1) := by decide +kernel
theorem dL_law_452 : decode cL_law 452 = .ok (.iaload, 1) := by decide +kernel
theorem dL_law_453 : decode cL_law 453 = .ok (.invokevirtual 62, 3) := by decide +kernel
theorem dL_law_456 : decode cL_law 456 = .ok (.if_icmp .eq 97, 3) := by decide +kernel
theorem dL_law_461 : decode cL_law 461 = .ok (.aload_n 1, 1) := by decide +kernel
theorem dL_law_462 : decode cL_law 462 = .ok (.aload_n 0, 1) := by decide +kernel
theorem dL_law_463 : decode cL_law 463 = .ok (.iload_n 3, 1) := by decide +kernel
theorem dL_law_464 : decode cL_law 464 = .ok (.iconst 1, 1) := by decide +kernel
theorem dL_law_465 : decode cL_law 465 = .ok (.iadd, 1) := by decide +kernel
theorem dL_law_466 : decode cL_law 466 = .ok (.iaload, 1) := by decide +kernel
theorem dL_law_467 : decode cL_law 467 = .ok (.aload_n 0, 1) := by decide +kernel
theorem dL_law_468 : decode cL_law 468 = .ok (.iload_n 3, 1) := by decide +kernel
theorem dL_law_469 : decode cL_law 469 = .ok (.iconst 2, 1) := by decide +kernel
theorem dL_law_470 : decode cL_law 470 = .ok (.iadd, 1) := by decide +kernel
theorem dL_law_471 : decode cL_law 471 = .ok (.iaload, 1) := by decide +kernel
theorem dL_law_472 : decode cL_law 472 = .ok (.invokevirtual 63, 3) := by decide +kernel
theorem dL_law_475 : decode cL_law 475 = .ok (.aload_n 2, 1) := by decide +kernel
theorem dL_law_476 : decode cL_law 476 = .ok (.aload_n 0, 1) := by decide +kernel
theorem dL_law_477 : decode cL_law 477 = .ok (.iload_n 3, 1) := by decide +kernel
theorem dL_law_478 : decode cL_law 478 = .ok (.iconst 1, 1) := by decide +kernel
theorem dL_law_479 : decode cL_law 479 = .ok (.iadd, 1) := by decide +kernel
theorem dL_law_480 : decode cL_law 480 = .ok (.iaload, 1) := by decide +kernel
theorem dL_law_481 : decode cL_law 481 = .ok (.aload_n 0, 1) := by decide +kernel
theorem dL_law_482 : decode cL_law 482 = .ok (.iload_n 3, 1) := by decide +kernel
theorem dL_law_483 : decode cL_law 483 = .ok (.iconst 2, 1) := by decide +kernel
theorem dL_law_484 : decode cL_law 484 = .ok (.iadd, 1) := by decide +kernel
theorem dL_law_485 : decode cL_law 485 = .ok (.iaload, 1) := by decide +kernel
theorem dL_law_486 : decode cL_law 486 = .ok (.invokevirtual 66, 3) := by decide +kernel
theorem dL_law_489 : decode cL_law 489 = .ok (.if_icmp .eq 64, 3) := by decide +kernel
theorem dL_law_494 : decode cL_law 494 = .ok (.aload_n 1, 1) := by decide +kernel
theorem dL_law_495 : decode cL_law 495 = .ok (.invokevirtual 67, 3) := by decide +kernel
theorem dL_law_498 : decode cL_law 498 = .ok (.aload_n 2, 1) := by decide +kernel
theorem dL_law_499 : decode cL_law 499 = .ok (.invokevirtual 71, 3) := by decide +kernel
theorem dL_law_502 : decode cL_law 502 = .ok (.if_icmp .eq 51, 3) := by decide +kernel
theorem dL_law_507 : decode cL_law 507 = .ok (.aload_n 1, 1) := by decide +kernel
theorem dL_law_508 : decode cL_law 508 = .ok (.aload_n 0, 1) := by decide +kernel
theorem dL_law_509 : decode cL_law 509 = .ok (.iload_n 3, 1) := by decide +kernel
theorem dL_law_510 : decode cL_law 510 = .ok (.iconst 1, 1) := by decide +kernel
theorem dL_law_511 : decode cL_law 511 = .ok (.iadd, 1) := by decide +kernel
theorem dL_law_512 : decode cL_law 512 = .ok (.iaload, 1) := by decide +kernel
theorem dL_law_513 : decode cL_law 513 = .ok (.invokevirtual 72, 3) := by decide +kernel
theorem dL_law_516 : decode cL_law 516 = .ok (.aload_n 2, 1) := by decide +kernel
theorem dL_law_517 : decode cL_law 517 = .ok (.aload_n 0, 1) := by decide +kernel
theorem dL_law_518 : decode cL_law 518 = .ok (.iload_n 3, 1) := by decide +kernel
theorem dL_law_519 : decode cL_law 519 = .ok (.iconst 1, 1) := by decide +kernel
theorem dL_law_520 : decode cL_law 520 = .ok (.iadd, 1) := by decide +kernel
theorem dL_law_521 : decode cL_law 521 = .ok (.iaload, 1) := by decide +kernel
theorem dL_law_522 : decode cL_law 522 = .ok (.invokevirtual 75, 3) := by decide +kernel
theorem dL_law_525 : decode cL_law 525 = .ok (.if_icmp .eq 28, 3) := by decide +kernel
theorem dL_law_530 : decode cL_law 530 = .ok (.aload_n 1, 1) := by decide +kernel
theorem dL_law_531 : decode cL_law 531 = .ok (.aload_n 0, 1) := by decide +kernel
theorem dL_law_532 : decode cL_law 532 = .ok (.iload_n 3, 1) := by decide +kernel
theorem dL_law_533 : decode cL_law 533 = .ok (.iconst 1, 1) := by decide +kernel
theorem dL_law_534 : decode cL_law 534 = .ok (.iadd, 1) := by decide +kernel
theorem dL_law_535 : decode cL_law 535 = .ok (.iaload, 1) := by decide +kernel
theorem dL_law_536 : decode cL_law 536 = .ok (.invokevirtual 76, 3) := by decide +kernel
theorem dL_law_539 : decode cL_law 539 = .ok (.aload_n 2, 1) := by decide +kernel
theorem dL_law_540 : decode cL_law 540 = .ok (.aload_n 0, 1) := by decide +kernel
theorem dL_law_541 : decode cL_law 541 = .ok (.iload_n 3, 1) := by decide +kernel
theorem dL_law_542 : decode cL_law 542 = .ok (.iconst 1, 1) := by decide +kernel
theorem dL_law_543 : decode cL_law 543 = .ok (.iadd, 1) := by decide +kernel
theorem dL_law_544 : decode cL_law 544 = .ok (.iaload, 1) := by decide +kernel
theorem dL_law_545 : decode cL_law 545 = .ok (.invokevirtual 79, 3) := by decide +kernel
theorem dL_law_548 : decode cL_law 548 = .ok (.if_icmp .eq 5, 3) := by decide +kernel
theorem dL_law_553 : decode cL_law 553 = .ok (.iinc 3 6, 3) := by decide +kernel
theorem dL_law_556 : decode cL_law 556 = .ok (.goto (-538), 3) := by decide +kernel
theorem dL_law_559 : decode cL_law 559 = .ok (.iconst 1, 1) := by decide +kernel
theorem dL_law_560 : decode cL_law 560 = .ok (.ireturn, 1) := by decide +kernel
abbrev vwCl : List vw_C := [(RX0, TX0, 2), (RX1, TX1, 14), (RX2, TX2, 10), (RX3, TX3, 14), (RX4, TX4, 10), (RX6, TX6, 16), (RX7, TX7, 3), (RX8, TX8, 3), (RX9, TX9, 6), (RX10, TX10, 13), (RX11, TX11, 68)]


