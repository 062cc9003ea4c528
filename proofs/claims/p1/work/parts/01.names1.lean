theorem wK_app {a b c : List Cond} (ha : ∀ w ∈ a, w ∈ c) (hb : ∀ w ∈ b, w ∈ c) : ∀ w ∈ a ++ b, w ∈ c := fun w h => (List.mem_append.mp h).elim (ha w) (hb w)
theorem dX0_init_0 : decode cX0_init 0 = .ok (.aload_n 0, 1) := by decide +kernel
theorem dX0_init_1 : decode cX0_init 1 = .ok (.invokespecial 5, 3) := by decide +kernel
theorem dX0_init_4 : decode cX0_init 4 = .ok (.aload_n 0, 1) := by decide +kernel
theorem dX0_init_5 : decode cX0_init 5 = .ok (.sipush 3648, 3) := by decide +kernel
theorem dX0_init_8 : decode cX0_init 8 = .ok (.newarray .int, 2) := by decide +kernel
theorem dX0_init_10 : decode cX0_init 10 = .ok (.putfield 11, 3) := by decide +kernel
theorem dX0_init_13 : decode cX0_init 13 = .ok (.return_, 1) := by decide +kernel
theorem dX1_init_0 : decode cX1_init 0 = .ok (.aload_n 0, 1) := by decide +kernel
theorem dX1_init_1 : decode cX1_init 1 = .ok (.invokespecial 3, 3) := by decide +kernel
theorem dX1_init_4 : decode cX1_init 4 = .ok (.aload_n 0, 1) := by decide +kernel
theorem dX1_init_5 : decode cX1_init 5 = .ok (.sipush 304, 3) := by decide +kernel
theorem dX1_init_8 : decode cX1_init 8 = .ok (.newarray .long, 2) := by decide +kernel
theorem dX1_init_10 : decode cX1_init 10 = .ok (.putfield 9, 3) := by decide +kernel
theorem dX1_init_13 : decode cX1_init 13 = .ok (.aload_n 0, 1) := by decide +kernel
theorem dX1_init_14 : decode cX1_init 14 = .ok (.sipush 304, 3) := by decide +kernel
theorem dX1_init_17 : decode cX1_init 17 = .ok (.newarray .int, 2) := by decide +kernel
theorem dX1_init_19 : decode cX1_init 19 = .ok (.putfield 15, 3) := by decide +kernel
theorem dX1_init_22 : decode cX1_init 22 = .ok (.aload_n 0, 1) := by decide +kernel
theorem dX1_init_23 : decode cX1_init 23 = .ok (.bipush 42, 2) := by decide +kernel
theorem dX1_init_25 : decode cX1_init 25 = .ok (.newarray .int, 2) := by decide +kernel
theorem dX1_init_27 : decode cX1_init 27 = .ok (.putfield 19, 3) := by decide +kernel
theorem dX1_init_30 : decode cX1_init 30 = .ok (.aload_n 0, 1) := by decide +kernel
theorem dX1_init_31 : decode cX1_init 31 = .ok (.bipush 40, 2) := by decide +kernel
theorem dX1_init_33 : decode cX1_init 33 = .ok (.newarray .int, 2) := by decide +kernel
theorem dX1_init_35 : decode cX1_init 35 = .ok (.putfield 22, 3) := by decide +kernel
theorem dX1_init_38 : decode cX1_init 38 = .ok (.aload_n 0, 1) := by decide +kernel
theorem dX1_init_39 : decode cX1_init 39 = .ok (.bipush 24, 2) := by decide +kernel
theorem dX1_init_41 : decode cX1_init 41 = .ok (.newarray .int, 2) := by decide +kernel
theorem dX1_init_43 : decode cX1_init 43 = .ok (.putfield 25, 3) := by decide +kernel
theorem dX1_init_46 : decode cX1_init 46 = .ok (.aload_n 0, 1) := by decide +kernel
theorem dX1_init_47 : decode cX1_init 47 = .ok (.iconst 1, 1) := by decide +kernel
theorem dX1_init_48 : decode cX1_init 48 = .ok (.putfield 28, 3) := by decide +kernel
theorem dX1_init_51 : decode cX1_init 51 = .ok (.aload_n 0, 1) := by decide +kernel
theorem dX1_init_52 : decode cX1_init 52 = .ok (.aload_n 1, 1) := by decide +kernel
theorem dX1_init_53 : decode cX1_init 53 = .ok (.putfield 32, 3) := by decide +kernel
theorem dX1_init_56 : decode cX1_init 56 = .ok (.aload_n 0, 1) := by decide +kernel
theorem dX1_init_57 : decode cX1_init 57 = .ok (.aload_n 1, 1) := by decide +kernel
theorem dX1_init_58 : decode cX1_init 58 = .ok (.getfield 36, 3) := by decide +kernel
theorem dX1_init_61 : decode cX1_init 61 = .ok (.putfield 42, 3) := by decide +kernel
theorem dX1_init_64 : decode cX1_init 64 = .ok (.aload_n 0, 1) := by decide +kernel
theorem dX1_init_65 : decode cX1_init 65 = .ok (.aload_n 1, 1) := by decide +kernel
theorem dX1_init_66 : decode cX1_init 66 = .ok (.getfield 36, 3) := by decide +kernel
theorem dX1_init_69 : decode cX1_init 69 = .ok (.getfield 43, 3) := by decide +kernel
theorem dX1_init_72 : decode cX1_init 72 = .ok (.putfield 49, 3) := by decide +kernel
theorem dX1_init_75 : decode cX1_init 75 = .ok (.return_, 1) := by decide +kernel
set_option maxRecDepth 100000 in
theorem mw_wsX1_settle_13 : (.code yX1_clear cX1_clear 1 none : Cond) ∈ wsX1_settle := List.mem_of_getElem? (i := 13) rfl
set_option maxRecDepth 100000 in
theorem mw_wsX1_settle_28 : (.code yJ7_fill_53178 cJ7_fill_53178 4 none : Cond) ∈ wsX1_settle := List.mem_of_getElem? (i := 28) rfl
set_option maxRecDepth 100000 in
theorem mw_wsX1_settle_27 : (.static yJ7_fill_53178 : Cond) ∈ wsX1_settle := List.mem_of_getElem? (i := 27) (by decide +kernel)
set_option maxRecDepth 100000 in
theorem mw_wsX1_settle_26 : (.methodLink RX1 101 yJ7_fill_53178 : Cond) ∈ wsX1_settle := List.mem_of_getElem? (i := 26) (by decide +kernel)
set_option maxRecDepth 100000 in
theorem mw_wsX1_settle_25 : (.code yJ7_fill_d0a16 cJ7_fill_d0a16 5 none : Cond) ∈ wsX1_settle := List.mem_of_getElem? (i := 25) rfl
set_option maxRecDepth 100000 in
theorem mw_wsX1_settle_24 : (.initialized RJ7 : Cond) ∈ wsX1_settle := List.mem_of_getElem? (i := 24) (by decide +kernel)
set_option maxRecDepth 100000 in
theorem mw_wsX1_settle_23 : (.static yJ7_fill_d0a16 : Cond) ∈ wsX1_settle := List.mem_of_getElem? (i := 23) (by decide +kernel)
set_option maxRecDepth 100000 in
theorem mw_wsX1_settle_22 : (.methodLink RX1 95 yJ7_fill_d0a16 : Cond) ∈ wsX1_settle := List.mem_of_getElem? (i := 22) (by decide +kernel)
set_option maxRecDepth 100000 in
theorem mw_wsX1_settle_21 : (.fieldLink RX1 25 "NothingJudge$Facts" "tested" "[I" : Cond) ∈ wsX1_settle := List.mem_of_getElem? (i := 21) (by decide +kernel)
set_option maxRecDepth 100000 in
theorem mw_wsX1_settle_20 : (.fieldLink RX1 22 "NothingJudge$Facts" "used" "[I" : Cond) ∈ wsX1_settle := List.mem_of_getElem? (i := 20) (by decide +kernel)
set_option maxRecDepth 100000 in
theorem mw_wsX1_settle_19 : (.fieldLink RX1 19 "NothingJudge$Facts" "marks" "[I" : Cond) ∈ wsX1_settle := List.mem_of_getElem? (i := 19) (by decide +kernel)
set_option maxRecDepth 100000 in
theorem mw_wsX1_settle_7 : (.fieldLink RX1 15 "NothingJudge$Facts" "seenAt" "[I" : Cond) ∈ wsX1_settle := List.mem_of_getElem? (i := 7) (by decide +kernel)
set_option maxRecDepth 100000 in
theorem mw_wsX1_settle_6 : (.fieldLink RX1 9 "NothingJudge$Facts" "state" "[J" : Cond) ∈ wsX1_settle := List.mem_of_getElem? (i := 6) (by decide +kernel)
set_option maxRecDepth 100000 in
theorem mw_wsX1_settle_8 : (.fieldLink RX1 78 "NothingJudge$Facts" "version" "I" : Cond) ∈ wsX1_settle := List.mem_of_getElem? (i := 8) (by decide +kernel)
set_option maxRecDepth 100000 in
theorem mw_wsX1_settle_18 : (.fieldLink RX1 92 "NothingJudge$Facts" "reached" "I" : Cond) ∈ wsX1_settle := List.mem_of_getElem? (i := 18) (by decide +kernel)
set_option maxRecDepth 100000 in
theorem mw_wsX1_settle_4 : (.fieldLink RX1 49 "NothingJudge$Facts" "code" "LNothingJudge$Code;" : Cond) ∈ wsX1_settle := List.mem_of_getElem? (i := 4) (by decide +kernel)
set_option maxRecDepth 100000 in
theorem mw_wsX1_settle_17 : (.fieldLink RX1 43 "NothingJudge$Program" "code" "LNothingJudge$Code;" : Cond) ∈ wsX1_settle := List.mem_of_getElem? (i := 17) (by decide +kernel)
set_option maxRecDepth 100000 in
theorem mw_wsX1_settle_16 : (.fieldLink RX1 42 "NothingJudge$Facts" "program" "LNothingJudge$Program;" : Cond) ∈ wsX1_settle := List.mem_of_getElem? (i := 16) (by decide +kernel)
set_option maxRecDepth 100000 in
theorem mw_wsX1_settle_15 : (.fieldLink RX1 36 "NothingJudge$Scene" "program" "LNothingJudge$Program;" : Cond) ∈ wsX1_settle := List.mem_of_getElem? (i := 15) (by decide +kernel)
set_option maxRecDepth 100000 in
theorem mw_wsX1_settle_14 : (.fieldLink RX1 32 "NothingJudge$Facts" "scene" "LNothingJudge$Scene;" : Cond) ∈ wsX1_settle := List.mem_of_getElem? (i := 14) (by decide +kernel)
set_option maxRecDepth 20000 in
theorem ggX1_settle_X1_clear : GoodIn wsX1_settle wsX1_clear := goodIn_sub (List.forall_mem_cons.mpr ⟨mw_wsX1_settle_13, (wK_app (wK_app (wK_app (List.forall_mem_cons.mpr ⟨mw_wsX1_settle_14, (List.forall_mem_cons.mpr ⟨mw_wsX1_settle_15, (List.forall_mem_cons.mpr ⟨mw_wsX1_settle_16, (List.forall_mem_cons.mpr ⟨mw_wsX1_settle_17, (List.forall_mem_cons.mpr ⟨mw_wsX1_settle_4, (List.forall_mem_cons.mpr ⟨mw_wsX1_settle_18, (List.forall_mem_cons.mpr ⟨mw_wsX1_settle_8, (List.forall_mem_cons.mpr ⟨mw_wsX1_settle_6, (List.forall_mem_cons.mpr ⟨mw_wsX1_settle_7, (List.forall_mem_cons.mpr ⟨mw_wsX1_settle_19, (List.forall_mem_cons.mpr ⟨mw_wsX1_settle_20, (List.forall_mem_cons.mpr ⟨mw_wsX1_settle_21, (List.forall_mem_cons.mpr ⟨mw_wsX1_settle_22, (List.forall_mem_cons.mpr ⟨mw_wsX1_settle_23, (List.forall_mem_cons.mpr ⟨mw_wsX1_settle_24, (List.forall_mem_cons.mpr ⟨mw_wsX1_settle_25, (List.forall_mem_cons.mpr ⟨mw_wsX1_settle_26, (List.forall_mem_cons.mpr ⟨mw_wsX1_settle_27, (List.forall_mem_cons.mpr ⟨mw_wsX1_settle_28, (fun _ h => absurd h List.not_mem_nil)⟩)⟩)⟩)⟩)⟩)⟩)⟩)⟩)⟩)⟩)⟩)⟩)⟩)⟩)⟩)⟩)⟩)⟩)⟩) (fun _ h => List.mem_cons_of_mem _ (List.mem_append_left _ (List.mem_append_left _ (List.mem_append_left _ (List.mem_append_right _ h)))))) (fun _ h => List.mem_cons_of_mem _ (List.mem_append_left _ (List.mem_append_right _ h)))) (fun _ h => List.mem_cons_of_mem _ (List.mem_append_right _ h)))⟩) (by decide +kernel)
set_option maxRecDepth 20000 in
theorem gX1_settle_X1_clear : GoodIn wsX1_settle (wsV RX1 54 RX1 yX1_clear wsX1_clear) := goodIn_app (goodIn_of _ (by decide +kernel)) ggX1_settle_X1_clear
set_option maxRecDepth 100000 in
theorem mw_wsX1_settle_32 : (.code yX1_reachEntry cX1_reachEntry 3 none : Cond) ∈ wsX1_settle := List.mem_of_getElem? (i := 32) rfl
set_option maxRecDepth 100000 in
theorem mw_wsX1_settle_53 : (.methodLink RX7 34 yX5_at : Cond) ∈ wsX1_settle := List.mem_of_getElem? (i := 53) (by decide +kernel)
set_option maxRecDepth 100000 in
theorem mw_wsX1_settle_52 : (.code Lib.Math.min.name Lib.Math.min.code 2 (some .int) : Cond) ∈ wsX1_settle := List.mem_of_getElem? (i := 52) rfl
set_option maxRecDepth 100000 in
theorem mw_wsX1_settle_51 : (.initialized "java/lang/Math" : Cond) ∈ wsX1_settle := List.mem_of_getElem? (i := 51) (by decide +kernel)
set_option maxRecDepth 100000 in
theorem mw_wsX1_settle_50 : (.static Lib.Math.min.name : Cond) ∈ wsX1_settle := List.mem_of_getElem? (i := 50) (by decide +kernel)
set_option maxRecDepth 100000 in
theorem mw_wsX1_settle_49 : (.methodLink RX7 44 Lib.Math.min.name : Cond) ∈ wsX1_settle := List.mem_of_getElem? (i := 49) (by decide +kernel)
set_option maxRecDepth 100000 in
theorem mw_wsX1_settle_48 : (.fieldLink RX7 9 "NothingJudge$Scene" "start" "I" : Cond) ∈ wsX1_settle := List.mem_of_getElem? (i := 48) (by decide +kernel)
set_option maxRecDepth 100000 in
theorem mw_wsX1_settle_47 : (.fieldLink RX7 29 "NothingJudge$Program" "arity" "[I" : Cond) ∈ wsX1_settle := List.mem_of_getElem? (i := 47) (by decide +kernel)
set_option maxRecDepth 100000 in
theorem mw_wsX1_settle_46 : (.fieldLink RX7 19 "NothingJudge$Scene" "program" "LNothingJudge$Program;" : Cond) ∈ wsX1_settle := List.mem_of_getElem? (i := 46) (by decide +kernel)
set_option maxRecDepth 100000 in
theorem mw_wsX1_settle_45 : (.code yX7_outers cX7_outers 1 (some .int) : Cond) ∈ wsX1_settle := List.mem_of_getElem? (i := 45) rfl
set_option maxRecDepth 100000 in
theorem mw_wsX1_settle_44 : (.initialized RX7 : Cond) ∈ wsX1_settle := List.mem_of_getElem? (i := 44) (by decide +kernel)
set_option maxRecDepth 100000 in
theorem mw_wsX1_settle_43 : (.selects RX7 yX7_outers yX7_outers : Cond) ∈ wsX1_settle := List.mem_of_getElem? (i := 43) (by decide +kernel)
set_option maxRecDepth 100000 in
theorem mw_wsX1_settle_42 : (.instanceMethod yX7_outers : Cond) ∈ wsX1_settle := List.mem_of_getElem? (i := 42) (by decide +kernel)
set_option maxRecDepth 100000 in
theorem mw_wsX1_settle_41 : (.methodLink RX1 111 yX7_outers : Cond) ∈ wsX1_settle := List.mem_of_getElem? (i := 41) (by decide +kernel)
set_option maxRecDepth 100000 in
theorem mw_wsX1_settle_40 : (.fieldLink RX3 50 "NothingJudge$Program" "told" "I" : Cond) ∈ wsX1_settle := List.mem_of_getElem? (i := 40) (by decide +kernel)
set_option maxRecDepth 100000 in
theorem mw_wsX1_settle_39 : (.code yX3_has cX3_has 2 (some .boolean) : Cond) ∈ wsX1_settle := List.mem_of_getElem? (i := 39) rfl
set_option maxRecDepth 100000 in
theorem mw_wsX1_settle_38 : (.initialized RX3 : Cond) ∈ wsX1_settle := List.mem_of_getElem? (i := 38) (by decide +kernel)
set_option maxRecDepth 100000 in
theorem mw_wsX1_settle_37 : (.selects RX3 yX3_has yX3_has : Cond) ∈ wsX1_settle := List.mem_of_getElem? (i := 37) (by decide +kernel)
set_option maxRecDepth 100000 in
theorem mw_wsX1_settle_36 : (.instanceMethod yX3_has : Cond) ∈ wsX1_settle := List.mem_of_getElem? (i := 36) (by decide +kernel)
set_option maxRecDepth 100000 in
theorem mw_wsX1_settle_35 : (.methodLink RX1 107 yX3_has : Cond) ∈ wsX1_settle := List.mem_of_getElem? (i := 35) (by decide +kernel)
set_option maxRecDepth 100000 in
theorem mw_wsX1_settle_34 : (.fieldLink RX1 115 "NothingJudge$Scene" "told" "[I" : Cond) ∈ wsX1_settle := List.mem_of_getElem? (i := 34) (by decide +kernel)
set_option maxRecDepth 100000 in
theorem mw_wsX1_settle_33 : (.fieldLink RX1 104 "NothingJudge$Scene" "start" "I" : Cond) ∈ wsX1_settle := List.mem_of_getElem? (i := 33) (by decide +kernel)
set_option maxRecDepth 100000 in
theorem mc_wsX1_settle_wsX1_reachEntry_r1 : ∀ w ∈ wsX1_reachEntry_r1, w ∈ wsX1_settle := (List.forall_mem_cons.mpr ⟨mw_wsX1_settle_16, (List.forall_mem_cons.mpr ⟨mw_wsX1_settle_14, (List.forall_mem_cons.mpr ⟨mw_wsX1_settle_33, (List.forall_mem_cons.mpr ⟨mw_wsX1_settle_18, (List.forall_mem_cons.mpr ⟨mw_wsX1_settle_34, (List.forall_mem_cons.mpr ⟨mw_wsX1_settle_35, (List.forall_mem_cons.mpr ⟨mw_wsX1_settle_36, (List.forall_mem_cons.mpr ⟨mw_wsX1_settle_37, (List.forall_mem_cons.mpr ⟨mw_wsX1_settle_38, (List.forall_mem_cons.mpr ⟨mw_wsX1_settle_39, (List.forall_mem_cons.mpr ⟨mw_wsX1_settle_40, (List.forall_mem_cons.mpr ⟨mw_wsX1_settle_41, (List.forall_mem_cons.mpr ⟨mw_wsX1_settle_42, (List.forall_mem_cons.mpr ⟨mw_wsX1_settle_43, (List.forall_mem_cons.mpr ⟨mw_wsX1_settle_44, (List.forall_mem_cons.mpr ⟨mw_wsX1_settle_45, (List.forall_mem_cons.mpr ⟨mw_wsX1_settle_46, (List.forall_mem_cons.mpr ⟨mw_wsX1_settle_47, (List.forall_mem_cons.mpr ⟨mw_wsX1_settle_48, (List.forall_mem_cons.mpr ⟨mw_wsX1_settle_49, (List.forall_mem_cons.mpr ⟨mw_wsX1_settle_50, (List.forall_mem_cons.mpr ⟨mw_wsX1_settle_51, (List.forall_mem_cons.mpr ⟨mw_wsX1_settle_52, (List.forall_mem_cons.mpr ⟨mw_wsX1_settle_53, (fun _ h => absurd h List.not_mem_nil)⟩)⟩)⟩)⟩)⟩)⟩)⟩)⟩)⟩)⟩)⟩)⟩)⟩)⟩)⟩)⟩)⟩)⟩)⟩)⟩)⟩)⟩)⟩)⟩)
set_option maxRecDepth 100000 in
theorem mw_wsX1_settle_65 : (.code yX5_put cX5_put 3 none : Cond) ∈ wsX1_settle := List.mem_of_getElem? (i := 65) rfl
set_option maxRecDepth 100000 in
theorem mw_wsX1_settle_64 : (.static yX5_put : Cond) ∈ wsX1_settle := List.mem_of_getElem? (i := 64) (by decide +kernel)
set_option maxRecDepth 100000 in
theorem mw_wsX1_settle_63 : (.methodLink RX1 81 yX5_put : Cond) ∈ wsX1_settle := List.mem_of_getElem? (i := 63) (by decide +kernel)
set_option maxRecDepth 100000 in
theorem mw_wsX1_settle_3 : (.fieldLink RX1 60 "NothingJudge$Facts" "changed" "Z" : Cond) ∈ wsX1_settle := List.mem_of_getElem? (i := 3) (by decide +kernel)
set_option maxRecDepth 100000 in
theorem mw_wsX1_settle_2 : (.fieldLink RX1 50 "NothingJudge$Facts" "held" "J" : Cond) ∈ wsX1_settle := List.mem_of_getElem? (i := 2) (by decide +kernel)
set_option maxRecDepth 100000 in
theorem mw_wsX1_settle_62 : (.code yX1_raise cX1_raise 5 none : Cond) ∈ wsX1_settle := List.mem_of_getElem? (i := 62) rfl
set_option maxRecDepth 100000 in
theorem mw_wsX1_settle_12 : (.initialized RX1 : Cond) ∈ wsX1_settle := List.mem_of_getElem? (i := 12) (by decide +kernel)
set_option maxRecDepth 100000 in
theorem mw_wsX1_settle_61 : (.selects RX1 yX1_raise yX1_raise : Cond) ∈ wsX1_settle := List.mem_of_getElem? (i := 61) (by decide +kernel)
set_option maxRecDepth 100000 in
theorem mw_wsX1_settle_60 : (.instanceMethod yX1_raise : Cond) ∈ wsX1_settle := List.mem_of_getElem? (i := 60) (by decide +kernel)
set_option maxRecDepth 100000 in
theorem mw_wsX1_settle_59 : (.methodLink RX1 118 yX1_raise : Cond) ∈ wsX1_settle := List.mem_of_getElem? (i := 59) (by decide +kernel)
set_option maxRecDepth 100000 in
theorem mw_wsX1_settle_58 : (.methodLink RX1 72 yX5_at : Cond) ∈ wsX1_settle := List.mem_of_getElem? (i := 58) (by decide +kernel)
set_option maxRecDepth 100000 in
theorem mw_wsX1_settle_57 : (.methodLink RX7 40 yX3_has : Cond) ∈ wsX1_settle := List.mem_of_getElem? (i := 57) (by decide +kernel)
set_option maxRecDepth 100000 in
theorem mw_wsX1_settle_56 : (.code yX5_at cX5_at 2 (some .int) : Cond) ∈ wsX1_settle := List.mem_of_getElem? (i := 56) rfl
set_option maxRecDepth 100000 in
theorem mw_wsX1_settle_55 : (.initialized RX5 : Cond) ∈ wsX1_settle := List.mem_of_getElem? (i := 55) (by decide +kernel)
set_option maxRecDepth 100000 in
theorem mw_wsX1_settle_54 : (.static yX5_at : Cond) ∈ wsX1_settle := List.mem_of_getElem? (i := 54) (by decide +kernel)
set_option maxRecDepth 100000 in
theorem mc_wsX1_settle_wsX1_reachEntry_r2 : ∀ w ∈ wsX1_reachEntry_r2, w ∈ wsX1_settle := (List.forall_mem_cons.mpr ⟨mw_wsX1_settle_54, (List.forall_mem_cons.mpr ⟨mw_wsX1_settle_55, (List.forall_mem_cons.mpr ⟨mw_wsX1_settle_56, (List.forall_mem_cons.mpr ⟨mw_wsX1_settle_57, (List.forall_mem_cons.mpr ⟨mw_wsX1_settle_58, (List.forall_mem_cons.mpr ⟨mw_wsX1_settle_59, (List.forall_mem_cons.mpr ⟨mw_wsX1_settle_60, (List.forall_mem_cons.mpr ⟨mw_wsX1_settle_61, (List.forall_mem_cons.mpr ⟨mw_wsX1_settle_12, (List.forall_mem_cons.mpr ⟨mw_wsX1_settle_62, (List.forall_mem_cons.mpr ⟨mw_wsX1_settle_2, (List.forall_mem_cons.mpr ⟨mw_wsX1_settle_19, (List.forall_mem_cons.mpr ⟨mw_wsX1_settle_8, (List.forall_mem_cons.mpr ⟨mw_wsX1_settle_3, (List.forall_mem_cons.mpr ⟨mw_wsX1_settle_63, (List.forall_mem_cons.mpr ⟨mw_wsX1_settle_64, (List.forall_mem_cons.mpr ⟨mw_wsX1_settle_65, (fun _ h => absurd h List.not_mem_nil)⟩)⟩)⟩)⟩)⟩)⟩)⟩)⟩)⟩)⟩)⟩)⟩)⟩)⟩)⟩)⟩)⟩)
set_option maxRecDepth 20000 in
theorem ggX1_settle_X1_reachEntry : GoodIn wsX1_settle wsX1_reachEntry := goodIn_sub (List.forall_mem_cons.mpr ⟨mw_wsX1_settle_32, (wK_app (wK_app (wK_app (wK_app mc_wsX1_settle_wsX1_reachEntry_r1 mc_wsX1_settle_wsX1_reachEntry_r2) (fun _ h => List.mem_cons_of_mem _ (List.mem_append_left _ (List.mem_append_left _ (List.mem_append_left _ (List.mem_append_right _ h)))))) (fun _ h => List.mem_cons_of_mem _ (List.mem_append_left _ (List.mem_append_right _ h)))) (fun _ h => List.mem_cons_of_mem _ (List.mem_append_right _ h)))⟩) (by decide +kernel)
set_option maxRecDepth 20000 in
theorem gX1_settle_X1_reachEntry : GoodIn wsX1_settle (wsV RX1 57 RX1 yX1_reachEntry wsX1_reachEntry) := goodIn_app (goodIn_of _ (by decide +kernel)) ggX1_settle_X1_reachEntry
set_option maxRecDepth 100000 in
theorem mw_wsX1_settle_69 : (.code yX1_openRoutines cX1_openRoutines 6 none : Cond) ∈ wsX1_settle := List.mem_of_getElem? (i := 69) rfl
set_option maxRecDepth 100000 in
theorem mw_wsX1_settle_84 : (.instanceMethod yX1_join : Cond) ∈ wsX1_settle := List.mem_of_getElem? (i := 84) (by decide +kernel)
set_option maxRecDepth 100000 in
theorem mw_wsX1_settle_83 : (.methodLink RX1 138 yX1_join : Cond) ∈ wsX1_settle := List.mem_of_getElem? (i := 83) (by decide +kernel)
set_option maxRecDepth 100000 in
theorem mw_wsX1_settle_82 : (.constantLong RX1 179 (-1) : Cond) ∈ wsX1_settle := List.mem_of_getElem? (i := 82) (by decide +kernel)
set_option maxRecDepth 100000 in
theorem mw_wsX1_settle_81 : (.code yX1_with cX1_with 10 (some .long) : Cond) ∈ wsX1_settle := List.mem_of_getElem? (i := 81) rfl
set_option maxRecDepth 100000 in
theorem mw_wsX1_settle_80 : (.static yX1_with : Cond) ∈ wsX1_settle := List.mem_of_getElem? (i := 80) (by decide +kernel)
set_option maxRecDepth 100000 in
theorem mw_wsX1_settle_79 : (.methodLink RX1 131 yX1_with : Cond) ∈ wsX1_settle := List.mem_of_getElem? (i := 79) (by decide +kernel)
set_option maxRecDepth 100000 in
theorem mw_wsX1_settle_78 : (.methodLink RX3 68 yX5_at : Cond) ∈ wsX1_settle := List.mem_of_getElem? (i := 78) (by decide +kernel)
set_option maxRecDepth 100000 in
theorem mw_wsX1_settle_77 : (.fieldLink RX3 25 "NothingJudge$Program" "parameters" "[I" : Cond) ∈ wsX1_settle := List.mem_of_getElem? (i := 77) (by decide +kernel)
set_option maxRecDepth 100000 in
theorem mw_wsX1_settle_76 : (.code yX3_parameter cX3_parameter 3 (some .int) : Cond) ∈ wsX1_settle := List.mem_of_getElem? (i := 76) rfl
set_option maxRecDepth 100000 in
theorem mw_wsX1_settle_75 : (.selects RX3 yX3_parameter yX3_parameter : Cond) ∈ wsX1_settle := List.mem_of_getElem? (i := 75) (by decide +kernel)
set_option maxRecDepth 100000 in
theorem mw_wsX1_settle_74 : (.instanceMethod yX3_parameter : Cond) ∈ wsX1_settle := List.mem_of_getElem? (i := 74) (by decide +kernel)
set_option maxRecDepth 100000 in
theorem mw_wsX1_settle_73 : (.methodLink RX1 127 yX3_parameter : Cond) ∈ wsX1_settle := List.mem_of_getElem? (i := 73) (by decide +kernel)
set_option maxRecDepth 100000 in
theorem mw_wsX1_settle_72 : (.fieldLink RX1 135 "NothingJudge$Program" "opening" "[I" : Cond) ∈ wsX1_settle := List.mem_of_getElem? (i := 72) (by decide +kernel)
set_option maxRecDepth 100000 in
theorem mw_wsX1_settle_71 : (.fieldLink RX1 124 "NothingJudge$Program" "arity" "[I" : Cond) ∈ wsX1_settle := List.mem_of_getElem? (i := 71) (by decide +kernel)
set_option maxRecDepth 100000 in
theorem mw_wsX1_settle_70 : (.constantLong RX1 122 (67108863) : Cond) ∈ wsX1_settle := List.mem_of_getElem? (i := 70) (by decide +kernel)
set_option maxRecDepth 100000 in
theorem mc_wsX1_settle_wsX1_openRoutines_r1 : ∀ w ∈ wsX1_openRoutines_r1, w ∈ wsX1_settle := (List.forall_mem_cons.mpr ⟨mw_wsX1_settle_18, (List.forall_mem_cons.mpr ⟨mw_wsX1_settle_70, (List.forall_mem_cons.mpr ⟨mw_wsX1_settle_16, (List.forall_mem_cons.mpr ⟨mw_wsX1_settle_71, (List.forall_mem_cons.mpr ⟨mw_wsX1_settle_19, (List.forall_mem_cons.mpr ⟨mw_wsX1_settle_72, (List.forall_mem_cons.mpr ⟨mw_wsX1_settle_58, (List.forall_mem_cons.mpr ⟨mw_wsX1_settle_54, (List.forall_mem_cons.mpr ⟨mw_wsX1_settle_55, (List.forall_mem_cons.mpr ⟨mw_wsX1_settle_56, (List.forall_mem_cons.mpr ⟨mw_wsX1_settle_73, (List.forall_mem_cons.mpr ⟨mw_wsX1_settle_74, (List.forall_mem_cons.mpr ⟨mw_wsX1_settle_75, (List.forall_mem_cons.mpr ⟨mw_wsX1_settle_38, (List.forall_mem_cons.mpr ⟨mw_wsX1_settle_76, (List.forall_mem_cons.mpr ⟨mw_wsX1_settle_77, (List.forall_mem_cons.mpr ⟨mw_wsX1_settle_78, (List.forall_mem_cons.mpr ⟨mw_wsX1_settle_79, (List.forall_mem_cons.mpr ⟨mw_wsX1_settle_80, (List.forall_mem_cons.mpr ⟨mw_wsX1_settle_12, (List.forall_mem_cons.mpr ⟨mw_wsX1_settle_81, (List.forall_mem_cons.mpr ⟨mw_wsX1_settle_82, (List.forall_mem_cons.mpr ⟨mw_wsX1_settle_83, (List.forall_mem_cons.mpr ⟨mw_wsX1_settle_84, (fun _ h => absurd h List.not_mem_nil)⟩)⟩)⟩)⟩)⟩)⟩)⟩)⟩)⟩)⟩)⟩)⟩)⟩)⟩)⟩)⟩)⟩)⟩)⟩)⟩)⟩)⟩)⟩)⟩)
set_option maxRecDepth 100000 in
theorem mw_wsX1_settle_86 : (.code yX1_join cX1_join 4 none : Cond) ∈ wsX1_settle := List.mem_of_getElem? (i := 86) rfl
set_option maxRecDepth 100000 in
theorem mw_wsX1_settle_85 : (.selects RX1 yX1_join yX1_join : Cond) ∈ wsX1_settle := List.mem_of_getElem? (i := 85) (by decide +kernel)
set_option maxRecDepth 100000 in
theorem mc_wsX1_settle_wsX1_openRoutines_r2 : ∀ w ∈ wsX1_openRoutines_r2, w ∈ wsX1_settle := (List.forall_mem_cons.mpr ⟨mw_wsX1_settle_85, (List.forall_mem_cons.mpr ⟨mw_wsX1_settle_86, (List.forall_mem_cons.mpr ⟨mw_wsX1_settle_6, (List.forall_mem_cons.mpr ⟨mw_wsX1_settle_7, (List.forall_mem_cons.mpr ⟨mw_wsX1_settle_3, (List.forall_mem_cons.mpr ⟨mw_wsX1_settle_63, (List.forall_mem_cons.mpr ⟨mw_wsX1_settle_64, (List.forall_mem_cons.mpr ⟨mw_wsX1_settle_65, (fun _ h => absurd h List.not_mem_nil)⟩)⟩)⟩)⟩)⟩)⟩)⟩)⟩)
set_option maxRecDepth 20000 in
theorem ggX1_settle_X1_openRoutines : GoodIn wsX1_settle wsX1_openRoutines := goodIn_sub (List.forall_mem_cons.mpr ⟨mw_wsX1_settle_69, (wK_app (wK_app (wK_app mc_wsX1_settle_wsX1_openRoutines_r1 mc_wsX1_settle_wsX1_openRoutines_r2) (fun _ h => List.mem_cons_of_mem _ (List.mem_append_left _ (List.mem_append_left _ (List.mem_append_left _ (List.mem_append_right _ h)))))) (fun _ h => List.mem_cons_of_mem _ (List.mem_append_right _ h)))⟩) (by decide +kernel)
set_option maxRecDepth 20000 in
theorem gX1_settle_X1_openRoutines : GoodIn wsX1_settle (wsV RX1 63 RX1 yX1_openRoutines wsX1_openRoutines) := goodIn_app (goodIn_of _ (by decide +kernel)) ggX1_settle_X1_openRoutines
theorem dX1_settle_0 : decode cX1_settle 0 = .ok (.aload_n 0, 1) := by decide +kernel
theorem dX1_settle_1 : decode cX1_settle 1 = .ok (.getfield 28, 3) := by decide +kernel
theorem dX1_settle_4 : decode cX1_settle 4 = .ok (.ifCond .ne 13, 3) := by decide +kernel
theorem dX1_settle_17 : decode cX1_settle 17 = .ok (.aload_n 0, 1) := by decide +kernel
theorem dX1_settle_18 : decode cX1_settle 18 = .ok (.invokevirtual 54, 3) := by decide +kernel
theorem dX1_settle_21 : decode cX1_settle 21 = .ok (.aload_n 0, 1) := by decide +kernel
theorem dX1_settle_22 : decode cX1_settle 22 = .ok (.lload_n 1, 1) := by decide +kernel
theorem dX1_settle_23 : decode cX1_settle 23 = .ok (.putfield 50, 3) := by decide +kernel
theorem dX1_settle_26 : decode cX1_settle 26 = .ok (.aload_n 0, 1) := by decide +kernel
theorem dX1_settle_27 : decode cX1_settle 27 = .ok (.invokevirtual 57, 3) := by decide +kernel
theorem dX1_settle_30 : decode cX1_settle 30 = .ok (.aload_n 0, 1) := by decide +kernel
theorem dX1_settle_31 : decode cX1_settle 31 = .ok (.iconst 1, 1) := by decide +kernel
theorem dX1_settle_32 : decode cX1_settle 32 = .ok (.putfield 60, 3) := by decide +kernel
theorem dX1_settle_35 : decode cX1_settle 35 = .ok (.iconst 0, 1) := by decide +kernel
theorem dX1_settle_36 : decode cX1_settle 36 = .ok (.istore_n 3, 1) := by decide +kernel
theorem dX1_settle_37 : decode cX1_settle 37 = .ok (.iload_n 3, 1) := by decide +kernel
theorem dX1_settle_38 : decode cX1_settle 38 = .ok (.sipush 15902, 3) := by decide +kernel
theorem dX1_settle_41 : decode cX1_settle 41 = .ok (.if_icmp .ge 110, 3) := by decide +kernel
theorem dX1_settle_44 : decode cX1_settle 44 = .ok (.aload_n 0, 1) := by decide +kernel
theorem dX1_settle_45 : decode cX1_settle 45 = .ok (.getfield 60, 3) := by decide +kernel
theorem dX1_settle_48 : decode cX1_settle 48 = .ok (.ifCond .eq 103, 3) := by decide +kernel
theorem dX1_settle_51 : decode cX1_settle 51 = .ok (.aload_n 0, 1) := by decide +kernel
theorem dX1_settle_52 : decode cX1_settle 52 = .ok (.iconst 0, 1) := by decide +kernel
theorem dX1_settle_53 : decode cX1_settle 53 = .ok (.putfield 60, 3) := by decide +kernel
theorem dX1_settle_56 : decode cX1_settle 56 = .ok (.aload_n 0, 1) := by decide +kernel
theorem dX1_settle_57 : decode cX1_settle 57 = .ok (.invokevirtual 63, 3) := by decide +kernel
theorem dX1_settle_60 : decode cX1_settle 60 = .ok (.iconst 0, 1) := by decide +kernel
theorem dX1_settle_61 : decode cX1_settle 61 = .ok (.istore 4, 2) := by decide +kernel
theorem dX1_settle_63 : decode cX1_settle 63 = .ok (.iload 4, 2) := by decide +kernel
theorem dX1_settle_65 : decode cX1_settle 65 = .ok (.aload_n 0, 1) := by decide +kernel
theorem dX1_settle_66 : decode cX1_settle 66 = .ok (.getfield 49, 3) := by decide +kernel
theorem dX1_settle_69 : decode cX1_settle 69 = .ok (.getfield 66, 3) := by decide +kernel
theorem dX1_settle_72 : decode cX1_settle 72 = .ok (.if_icmp .ge 73, 3) := by decide +kernel
theorem dX1_settle_145 : decode cX1_settle 145 = .ok (.iinc 3 1, 3) := by decide +kernel
theorem dX1_settle_148 : decode cX1_settle 148 = .ok (.goto (-111), 3) := by decide +kernel
theorem dX1_settle_151 : decode cX1_settle 151 = .ok (.aload_n 0, 1) := by decide +kernel
theorem dX1_settle_152 : decode cX1_settle 152 = .ok (.iconst 0, 1) := by decide +kernel
theorem dX1_settle_153 : decode cX1_settle 153 = .ok (.putfield 28, 3) := by decide +kernel
theorem dX1_settle_156 : decode cX1_settle 156 = .ok (.return_, 1) := by decide +kernel
set_option maxRecDepth 100000 in
theorem mw_wsX1_clear_16 : (.code yJ7_fill_d0a16 cJ7_fill_d0a16 5 none : Cond) ∈ wsX1_clear := List.mem_of_getElem? (i := 16) rfl
set_option maxRecDepth 20000 in
theorem ggX1_clear_J7_fill_d0a16 : GoodIn wsX1_clear wsJ7_fill_d0a16 := goodIn_sub (List.forall_mem_cons.mpr ⟨mw_wsX1_clear_16, (fun _ h => absurd h List.not_mem_nil)⟩) (by decide +kernel)
set_option maxRecDepth 20000 in
theorem gX1_clear_J7_fill_d0a16 : GoodIn wsX1_clear (va_wsS RX1 95 yJ7_fill_d0a16 wsJ7_fill_d0a16) := goodIn_app (goodIn_of _ (by decide +kernel)) ggX1_clear_J7_fill_d0a16
set_option maxRecDepth 100000 in
theorem mw_wsX1_clear_19 : (.code yJ7_fill_53178 cJ7_fill_53178 4 none : Cond) ∈ wsX1_clear := List.mem_of_getElem? (i := 19) rfl
set_option maxRecDepth 20000 in
theorem ggX1_clear_J7_fill_53178 : GoodIn wsX1_clear wsJ7_fill_53178 := goodIn_sub (List.forall_mem_cons.mpr ⟨mw_wsX1_clear_19, (fun _ h => absurd h List.not_mem_nil)⟩) (by decide +kernel)
set_option maxRecDepth 20000 in
theorem gX1_clear_J7_fill_53178 : GoodIn wsX1_clear (va_wsS RX1 101 yJ7_fill_53178 wsJ7_fill_53178) := goodIn_app (goodIn_of _ (by decide +kernel)) ggX1_clear_J7_fill_53178
theorem dX1_clear_0 : decode cX1_clear 0 = .ok (.aload_n 0, 1) := by decide +kernel
theorem dX1_clear_1 : decode cX1_clear 1 = .ok (.aload_n 0, 1) := by decide +kernel
theorem dX1_clear_2 : decode cX1_clear 2 = .ok (.getfield 32, 3) := by decide +kernel
theorem dX1_clear_5 : decode cX1_clear 5 = .ok (.getfield 36, 3) := by decide +kernel
theorem dX1_clear_8 : decode cX1_clear 8 = .ok (.putfield 42, 3) := by decide +kernel
theorem dX1_clear_11 : decode cX1_clear 11 = .ok (.aload_n 0, 1) := by decide +kernel
theorem dX1_clear_12 : decode cX1_clear 12 = .ok (.aload_n 0, 1) := by decide +kernel
theorem dX1_clear_13 : decode cX1_clear 13 = .ok (.getfield 42, 3) := by decide +kernel
theorem dX1_clear_16 : decode cX1_clear 16 = .ok (.getfield 43, 3) := by decide +kernel
theorem dX1_clear_19 : decode cX1_clear 19 = .ok (.putfield 49, 3) := by decide +kernel
theorem dX1_clear_22 : decode cX1_clear 22 = .ok (.aload_n 0, 1) := by decide +kernel
theorem dX1_clear_23 : decode cX1_clear 23 = .ok (.iconst 0, 1) := by decide +kernel
theorem dX1_clear_24 : decode cX1_clear 24 = .ok (.putfield 92, 3) := by decide +kernel
theorem dX1_clear_27 : decode cX1_clear 27 = .ok (.aload_n 0, 1) := by decide +kernel
theorem dX1_clear_28 : decode cX1_clear 28 = .ok (.iconst 1, 1) := by decide +kernel
theorem dX1_clear_29 : decode cX1_clear 29 = .ok (.putfield 78, 3) := by decide +kernel
theorem dX1_clear_32 : decode cX1_clear 32 = .ok (.aload_n 0, 1) := by decide +kernel
theorem dX1_clear_33 : decode cX1_clear 33 = .ok (.getfield 9, 3) := by decide +kernel
theorem dX1_clear_36 : decode cX1_clear 36 = .ok (.lconst 0, 1) := by decide +kernel
theorem dX1_clear_37 : decode cX1_clear 37 = .ok (.invokestatic 95, 3) := by decide +kernel
theorem dX1_clear_40 : decode cX1_clear 40 = .ok (.aload_n 0, 1) := by decide +kernel
theorem dX1_clear_41 : decode cX1_clear 41 = .ok (.getfield 15, 3) := by decide +kernel
theorem dX1_clear_44 : decode cX1_clear 44 = .ok (.iconst 0, 1) := by decide +kernel
theorem dX1_clear_45 : decode cX1_clear 45 = .ok (.invokestatic 101, 3) := by decide +kernel
theorem dX1_clear_48 : decode cX1_clear 48 = .ok (.aload_n 0, 1) := by decide +kernel
theorem dX1_clear_49 : decode cX1_clear 49 = .ok (.getfield 19, 3) := by decide +kernel
theorem dX1_clear_52 : decode cX1_clear 52 = .ok (.iconst 0, 1) := by decide +kernel
theorem dX1_clear_53 : decode cX1_clear 53 = .ok (.invokestatic 101, 3) := by decide +kernel
theorem dX1_clear_56 : decode cX1_clear 56 = .ok (.aload_n 0, 1) := by decide +kernel
theorem dX1_clear_57 : decode cX1_clear 57 = .ok (.getfield 22, 3) := by decide +kernel
theorem dX1_clear_60 : decode cX1_clear 60 = .ok (.iconst 0, 1) := by decide +kernel
theorem dX1_clear_61 : decode cX1_clear 61 = .ok (.invokestatic 101, 3) := by decide +kernel
theorem dX1_clear_64 : decode cX1_clear 64 = .ok (.aload_n 0, 1) := by decide +kernel
theorem dX1_clear_65 : decode cX1_clear 65 = .ok (.getfield 25, 3) := by decide +kernel
theorem dX1_clear_68 : decode cX1_clear 68 = .ok (.iconst 0, 1) := by decide +kernel
theorem dX1_clear_69 : decode cX1_clear 69 = .ok (.invokestatic 101, 3) := by decide +kernel
theorem dX1_clear_72 : decode cX1_clear 72 = .ok (.return_, 1) := by decide +kernel
set_option maxRecDepth 100000 in
theorem mw_wsX1_reachEntry_10 : (.code yX3_has cX3_has 2 (some .boolean) : Cond) ∈ wsX1_reachEntry := List.mem_of_getElem? (i := 10) rfl
set_option maxRecDepth 100000 in
theorem mw_wsX1_reachEntry_11 : (.fieldLink RX3 50 "NothingJudge$Program" "told" "I" : Cond) ∈ wsX1_reachEntry := List.mem_of_getElem? (i := 11) (by decide +kernel)
set_option maxRecDepth 20000 in
theorem ggX1_reachEntry_X3_has : GoodIn wsX1_reachEntry wsX3_has := goodIn_sub (List.forall_mem_cons.mpr ⟨mw_wsX1_reachEntry_10, (wK_app (List.forall_mem_cons.mpr ⟨mw_wsX1_reachEntry_11, (fun _ h => absurd h List.not_mem_nil)⟩) (fun _ h => List.mem_cons_of_mem _ (List.mem_append_right _ h)))⟩) (by decide +kernel)
set_option maxRecDepth 20000 in
theorem gX1_reachEntry_X3_has : GoodIn wsX1_reachEntry (wsV RX1 107 RX3 yX3_has wsX3_has) := goodIn_app (goodIn_of _ (by decide +kernel)) ggX1_reachEntry_X3_has
theorem dX1_reachEntry_0 : decode cX1_reachEntry 0 = .ok (.aload_n 0, 1) := by decide +kernel
theorem dX1_reachEntry_1 : decode cX1_reachEntry 1 = .ok (.getfield 42, 3) := by decide +kernel
theorem dX1_reachEntry_4 : decode cX1_reachEntry 4 = .ok (.aload_n 0, 1) := by decide +kernel
theorem dX1_reachEntry_5 : decode cX1_reachEntry 5 = .ok (.getfield 32, 3) := by decide +kernel
theorem dX1_reachEntry_8 : decode cX1_reachEntry 8 = .ok (.getfield 104, 3) := by decide +kernel
theorem dX1_reachEntry_11 : decode cX1_reachEntry 11 = .ok (.invokevirtual 107, 3) := by decide +kernel
theorem dX1_reachEntry_14 : decode cX1_reachEntry 14 = .ok (.ifCond .ne 4, 3) := by decide +kernel
theorem dX1_reachEntry_17 : decode cX1_reachEntry 17 = .ok (.return_, 1) := by decide +kernel
theorem dX1_openRoutines_0 : decode cX1_openRoutines 0 = .ok (.iconst 0, 1) := by decide +kernel
theorem dX1_openRoutines_1 : decode cX1_openRoutines 1 = .ok (.istore_n 1, 1) := by decide +kernel
theorem dX1_openRoutines_2 : decode cX1_openRoutines 2 = .ok (.iload_n 1, 1) := by decide +kernel
theorem dX1_openRoutines_3 : decode cX1_openRoutines 3 = .ok (.bipush 8, 2) := by decide +kernel
theorem dX1_openRoutines_5 : decode cX1_openRoutines 5 = .ok (.if_icmp .ge 97, 3) := by decide +kernel
theorem dX1_openRoutines_8 : decode cX1_openRoutines 8 = .ok (.aload_n 0, 1) := by decide +kernel
theorem dX1_openRoutines_9 : decode cX1_openRoutines 9 = .ok (.getfield 92, 3) := by decide +kernel
theorem dX1_openRoutines_12 : decode cX1_openRoutines 12 = .ok (.iload_n 1, 1) := by decide +kernel
theorem dX1_openRoutines_13 : decode cX1_openRoutines 13 = .ok (.ishr, 1) := by decide +kernel
theorem dX1_openRoutines_14 : decode cX1_openRoutines 14 = .ok (.iconst 1, 1) := by decide +kernel
theorem dX1_openRoutines_15 : decode cX1_openRoutines 15 = .ok (.iand, 1) := by decide +kernel
theorem dX1_openRoutines_16 : decode cX1_openRoutines 16 = .ok (.ifCond .eq 80, 3) := by decide +kernel
theorem dX1_openRoutines_96 : decode cX1_openRoutines 96 = .ok (.iinc 1 1, 3) := by decide +kernel
theorem dX1_openRoutines_99 : decode cX1_openRoutines 99 = .ok (.goto (-97), 3) := by decide +kernel
theorem dX1_openRoutines_102 : decode cX1_openRoutines 102 = .ok (.return_, 1) := by decide +kernel
theorem dX2_init_0 : decode cX2_init 0 = .ok (.aload_n 0, 1) := by decide +kernel
theorem dX2_init_1 : decode cX2_init 1 = .ok (.invokespecial 3, 3) := by decide +kernel
theorem dX2_init_4 : decode cX2_init 4 = .ok (.aload_n 0, 1) := by decide +kernel
theorem dX2_init_5 : decode cX2_init 5 = .ok (.iconst 4, 1) := by decide +kernel
theorem dX2_init_6 : decode cX2_init 6 = .ok (.newarray .int, 2) := by decide +kernel
theorem dX2_init_8 : decode cX2_init 8 = .ok (.dup, 1) := by decide +kernel
theorem dX2_init_9 : decode cX2_init 9 = .ok (.iconst 0, 1) := by decide +kernel
theorem dX2_init_10 : decode cX2_init 10 = .ok (.iconst 3, 1) := by decide +kernel
theorem dX2_init_11 : decode cX2_init 11 = .ok (.iastore, 1) := by decide +kernel
theorem dX2_init_12 : decode cX2_init 12 = .ok (.dup, 1) := by decide +kernel
theorem dX2_init_13 : decode cX2_init 13 = .ok (.iconst 1, 1) := by decide +kernel
theorem dX2_init_14 : decode cX2_init 14 = .ok (.iconst 2, 1) := by decide +kernel
theorem dX2_init_15 : decode cX2_init 15 = .ok (.iastore, 1) := by decide +kernel
theorem dX2_init_16 : decode cX2_init 16 = .ok (.dup, 1) := by decide +kernel
theorem dX2_init_17 : decode cX2_init 17 = .ok (.iconst 2, 1) := by decide +kernel
theorem dX2_init_18 : decode cX2_init 18 = .ok (.iconst 5, 1) := by decide +kernel
theorem dX2_init_19 : decode cX2_init 19 = .ok (.iastore, 1) := by decide +kernel
theorem dX2_init_20 : decode cX2_init 20 = .ok (.dup, 1) := by decide +kernel
theorem dX2_init_21 : decode cX2_init 21 = .ok (.iconst 3, 1) := by decide +kernel
theorem dX2_init_22 : decode cX2_init 22 = .ok (.iconst 4, 1) := by decide +kernel
theorem dX2_init_23 : decode cX2_init 23 = .ok (.iastore, 1) := by decide +kernel
theorem dX2_init_24 : decode cX2_init 24 = .ok (.putfield 9, 3) := by decide +kernel
theorem dX2_init_27 : decode cX2_init 27 = .ok (.aload_n 0, 1) := by decide +kernel
theorem dX2_init_28 : decode cX2_init 28 = .ok (.bipush 10, 2) := by decide +kernel
theorem dX2_init_30 : decode cX2_init 30 = .ok (.newarray .int, 2) := by decide +kernel
theorem dX2_init_32 : decode cX2_init 32 = .ok (.putfield 15, 3) := by decide +kernel
theorem dX2_init_35 : decode cX2_init 35 = .ok (.aload_n 0, 1) := by decide +kernel
theorem dX2_init_36 : decode cX2_init 36 = .ok (.bipush 10, 2) := by decide +kernel
theorem dX2_init_38 : decode cX2_init 38 = .ok (.newarray .int, 2) := by decide +kernel
theorem dX2_init_40 : decode cX2_init 40 = .ok (.putfield 18, 3) := by decide +kernel
theorem dX2_init_43 : decode cX2_init 43 = .ok (.aload_n 0, 1) := by decide +kernel
theorem dX2_init_44 : decode cX2_init 44 = .ok (.iconst 1, 1) := by decide +kernel
theorem dX2_init_45 : decode cX2_init 45 = .ok (.putfield 21, 3) := by decide +kernel
theorem dX2_init_48 : decode cX2_init 48 = .ok (.aload_n 0, 1) := by decide +kernel
theorem dX2_init_49 : decode cX2_init 49 = .ok (.iconst (-1), 1) := by decide +kernel
theorem dX2_init_50 : decode cX2_init 50 = .ok (.putfield 25, 3) := by decide +kernel
theorem dX2_init_53 : decode cX2_init 53 = .ok (.aload_n 0, 1) := by decide +kernel
theorem dX2_init_54 : decode cX2_init 54 = .ok (.aload_n 1, 1) := by decide +kernel
theorem dX2_init_55 : decode cX2_init 55 = .ok (.putfield 29, 3) := by decide +kernel
theorem dX2_init_58 : decode cX2_init 58 = .ok (.return_, 1) := by decide +kernel
set_option maxRecDepth 100000 in
theorem mw_wsX3_init_19 : (.code yX0_init cX0_init 1 none : Cond) ∈ wsX3_init := List.mem_of_getElem? (i := 19) rfl
set_option maxRecDepth 100000 in
theorem mw_wsX3_init_21 : (.fieldLink RX0 11 "NothingJudge$Code" "cells" "[I" : Cond) ∈ wsX3_init := List.mem_of_getElem? (i := 21) (by decide +kernel)
set_option maxRecDepth 100000 in
theorem mw_wsX3_init_8 : (.arrayClass .int : Cond) ∈ wsX3_init := List.mem_of_getElem? (i := 8) (by decide +kernel)
set_option maxRecDepth 100000 in
theorem mw_wsX3_init_3 : (.code objectInit ⟨#[0xb1]⟩ 1 none : Cond) ∈ wsX3_init := List.mem_of_getElem? (i := 3) rfl
set_option maxRecDepth 100000 in
theorem mw_wsX3_init_2 : (.instanceMethod objectInit : Cond) ∈ wsX3_init := List.mem_of_getElem? (i := 2) (by decide +kernel)
set_option maxRecDepth 100000 in
theorem mw_wsX3_init_20 : (.methodLink RX0 5 objectInit : Cond) ∈ wsX3_init := List.mem_of_getElem? (i := 20) (by decide +kernel)
set_option maxRecDepth 20000 in
theorem ggX3_init_X0_init : GoodIn wsX3_init wsX0_init := goodIn_sub (List.forall_mem_cons.mpr ⟨mw_wsX3_init_19, (wK_app (List.forall_mem_cons.mpr ⟨mw_wsX3_init_20, (List.forall_mem_cons.mpr ⟨mw_wsX3_init_2, (List.forall_mem_cons.mpr ⟨mw_wsX3_init_3, (List.forall_mem_cons.mpr ⟨mw_wsX3_init_8, (List.forall_mem_cons.mpr ⟨mw_wsX3_init_21, (fun _ h => absurd h List.not_mem_nil)⟩)⟩)⟩)⟩)⟩) (fun _ h => List.mem_cons_of_mem _ (List.mem_append_left _ (List.mem_append_right _ h))))⟩) (by decide +kernel)
set_option maxRecDepth 20000 in
theorem gX3_init_X0_init_n11 : GoodIn wsX3_init (wsX0_init) := ggX3_init_X0_init
theorem dX3_init_0 : decode cX3_init 0 = .ok (.aload_n 0, 1) := by decide +kernel
theorem dX3_init_1 : decode cX3_init 1 = .ok (.invokespecial 3, 3) := by decide +kernel
theorem dX3_init_4 : decode cX3_init 4 = .ok (.aload_n 0, 1) := by decide +kernel
theorem dX3_init_5 : decode cX3_init 5 = .ok (.new 9, 3) := by decide +kernel
theorem dX3_init_8 : decode cX3_init 8 = .ok (.dup, 1) := by decide +kernel
theorem dX3_init_9 : decode cX3_init 9 = .ok (.invokespecial 11, 3) := by decide +kernel
theorem dX3_init_12 : decode cX3_init 12 = .ok (.putfield 12, 3) := by decide +kernel
theorem dX3_init_15 : decode cX3_init 15 = .ok (.aload_n 0, 1) := by decide +kernel
theorem dX3_init_16 : decode cX3_init 16 = .ok (.bipush 8, 2) := by decide +kernel
theorem dX3_init_18 : decode cX3_init 18 = .ok (.newarray .int, 2) := by decide +kernel
theorem dX3_init_20 : decode cX3_init 20 = .ok (.putfield 18, 3) := by decide +kernel
theorem dX3_init_23 : decode cX3_init 23 = .ok (.aload_n 0, 1) := by decide +kernel
theorem dX3_init_24 : decode cX3_init 24 = .ok (.bipush 8, 2) := by decide +kernel
theorem dX3_init_26 : decode cX3_init 26 = .ok (.newarray .int, 2) := by decide +kernel
theorem dX3_init_28 : decode cX3_init 28 = .ok (.putfield 22, 3) := by decide +kernel
theorem dX3_init_31 : decode cX3_init 31 = .ok (.aload_n 0, 1) := by decide +kernel
theorem dX3_init_32 : decode cX3_init 32 = .ok (.bipush 32, 2) := by decide +kernel
theorem dX3_init_34 : decode cX3_init 34 = .ok (.newarray .int, 2) := by decide +kernel
theorem dX3_init_36 : decode cX3_init 36 = .ok (.putfield 25, 3) := by decide +kernel
theorem dX3_init_39 : decode cX3_init 39 = .ok (.aload_n 0, 1) := by decide +kernel
theorem dX3_init_40 : decode cX3_init 40 = .ok (.bipush 40, 2) := by decide +kernel
theorem dX3_init_42 : decode cX3_init 42 = .ok (.newarray .int, 2) := by decide +kernel
theorem dX3_init_44 : decode cX3_init 44 = .ok (.putfield 28, 3) := by decide +kernel
theorem dX3_init_47 : decode cX3_init 47 = .ok (.aload_n 0, 1) := by decide +kernel
theorem dX3_init_48 : decode cX3_init 48 = .ok (.bipush 40, 2) := by decide +kernel
theorem dX3_init_50 : decode cX3_init 50 = .ok (.newarray .int, 2) := by decide +kernel
theorem dX3_init_52 : decode cX3_init 52 = .ok (.putfield 31, 3) := by decide +kernel
theorem dX3_init_55 : decode cX3_init 55 = .ok (.aload_n 0, 1) := by decide +kernel
theorem dX3_init_56 : decode cX3_init 56 = .ok (.bipush 40, 2) := by decide +kernel
theorem dX3_init_58 : decode cX3_init 58 = .ok (.newarray .int, 2) := by decide +kernel
theorem dX3_init_60 : decode cX3_init 60 = .ok (.putfield 34, 3) := by decide +kernel
theorem dX3_init_63 : decode cX3_init 63 = .ok (.aload_n 0, 1) := by decide +kernel
theorem dX3_init_64 : decode cX3_init 64 = .ok (.bipush 24, 2) := by decide +kernel
theorem dX3_init_66 : decode cX3_init 66 = .ok (.newarray .int, 2) := by decide +kernel
theorem dX3_init_68 : decode cX3_init 68 = .ok (.putfield 37, 3) := by decide +kernel
theorem dX3_init_71 : decode cX3_init 71 = .ok (.aload_n 0, 1) := by decide +kernel
theorem dX3_init_72 : decode cX3_init 72 = .ok (.bipush 24, 2) := by decide +kernel
theorem dX3_init_74 : decode cX3_init 74 = .ok (.newarray .int, 2) := by decide +kernel
theorem dX3_init_76 : decode cX3_init 76 = .ok (.putfield 40, 3) := by decide +kernel
theorem dX3_init_79 : decode cX3_init 79 = .ok (.aload_n 0, 1) := by decide +kernel
theorem dX3_init_80 : decode cX3_init 80 = .ok (.iconst (-1), 1) := by decide +kernel
theorem dX3_init_81 : decode cX3_init 81 = .ok (.putfield 43, 3) := by decide +kernel
theorem dX3_init_84 : decode cX3_init 84 = .ok (.return_, 1) := by decide +kernel
theorem dX3_clear_0 : decode cX3_clear 0 = .ok (.aload_n 0, 1) := by decide +kernel
theorem dX3_clear_1 : decode cX3_clear 1 = .ok (.getfield 12, 3) := by decide +kernel
theorem dX3_clear_4 : decode cX3_clear 4 = .ok (.iconst 0, 1) := by decide +kernel
theorem dX3_clear_5 : decode cX3_clear 5 = .ok (.putfield 47, 3) := by decide +kernel
theorem dX3_clear_8 : decode cX3_clear 8 = .ok (.aload_n 0, 1) := by decide +kernel
theorem dX3_clear_9 : decode cX3_clear 9 = .ok (.iconst 0, 1) := by decide +kernel
theorem dX3_clear_10 : decode cX3_clear 10 = .ok (.putfield 50, 3) := by decide +kernel
theorem dX3_clear_13 : decode cX3_clear 13 = .ok (.aload_n 0, 1) := by decide +kernel
theorem dX3_clear_14 : decode cX3_clear 14 = .ok (.iconst 0, 1) := by decide +kernel
theorem dX3_clear_15 : decode cX3_clear 15 = .ok (.putfield 53, 3) := by decide +kernel
theorem dX3_clear_18 : decode cX3_clear 18 = .ok (.aload_n 0, 1) := by decide +kernel
theorem dX3_clear_19 : decode cX3_clear 19 = .ok (.iconst 0, 1) := by decide +kernel
theorem dX3_clear_20 : decode cX3_clear 20 = .ok (.putfield 56, 3) := by decide +kernel
theorem dX3_clear_23 : decode cX3_clear 23 = .ok (.aload_n 0, 1) := by decide +kernel
theorem dX3_clear_24 : decode cX3_clear 24 = .ok (.iconst 0, 1) := by decide +kernel
theorem dX3_clear_25 : decode cX3_clear 25 = .ok (.putfield 59, 3) := by decide +kernel
theorem dX3_clear_28 : decode cX3_clear 28 = .ok (.aload_n 0, 1) := by decide +kernel
theorem dX3_clear_29 : decode cX3_clear 29 = .ok (.iconst (-1), 1) := by decide +kernel
theorem dX3_clear_30 : decode cX3_clear 30 = .ok (.putfield 43, 3) := by decide +kernel
theorem dX3_clear_33 : decode cX3_clear 33 = .ok (.return_, 1) := by decide +kernel
theorem dX3_has_0 : decode cX3_has 0 = .ok (.iload_n 1, 1) := by decide +kernel
theorem dX3_has_1 : decode cX3_has 1 = .ok (.ifCond .lt 24, 3) := by decide +kernel
theorem dX3_has_4 : decode cX3_has 4 = .ok (.iload_n 1, 1) := by decide +kernel
theorem dX3_has_5 : decode cX3_has 5 = .ok (.bipush 8, 2) := by decide +kernel
theorem dX3_has_7 : decode cX3_has 7 = .ok (.if_icmp .ge 18, 3) := by decide +kernel
theorem dX3_has_10 : decode cX3_has 10 = .ok (.aload_n 0, 1) := by decide +kernel
theorem dX3_has_11 : decode cX3_has 11 = .ok (.getfield 50, 3) := by decide +kernel
theorem dX3_has_14 : decode cX3_has 14 = .ok (.iload_n 1, 1) := by decide +kernel
theorem dX3_has_15 : decode cX3_has 15 = .ok (.ishr, 1) := by decide +kernel
theorem dX3_has_16 : decode cX3_has 16 = .ok (.iconst 1, 1) := by decide +kernel
theorem dX3_has_17 : decode cX3_has 17 = .ok (.iand, 1) := by decide +kernel
theorem dX3_has_18 : decode cX3_has 18 = .ok (.ifCond .eq 7, 3) := by decide +kernel
theorem dX3_has_25 : decode cX3_has 25 = .ok (.iconst 0, 1) := by decide +kernel
theorem dX3_has_26 : decode cX3_has 26 = .ok (.ireturn, 1) := by decide +kernel
theorem dX4_init_0 : decode cX4_init 0 = .ok (.aload_n 0, 1) := by decide +kernel
theorem dX4_init_1 : decode cX4_init 1 = .ok (.invokespecial 3, 3) := by decide +kernel
theorem dX4_init_4 : decode cX4_init 4 = .ok (.aload_n 0, 1) := by decide +kernel
theorem dX4_init_5 : decode cX4_init 5 = .ok (.bipush 6, 2) := by decide +kernel
theorem dX4_init_7 : decode cX4_init 7 = .ok (.newarray .int, 2) := by decide +kernel
theorem dX4_init_9 : decode cX4_init 9 = .ok (.putfield 9, 3) := by decide +kernel
theorem dX4_init_12 : decode cX4_init 12 = .ok (.aload_n 0, 1) := by decide +kernel
theorem dX4_init_13 : decode cX4_init 13 = .ok (.bipush 6, 2) := by decide +kernel
theorem dX4_init_15 : decode cX4_init 15 = .ok (.newarray .int, 2) := by decide +kernel
theorem dX4_init_17 : decode cX4_init 17 = .ok (.putfield 15, 3) := by decide +kernel
theorem dX4_init_20 : decode cX4_init 20 = .ok (.aload_n 0, 1) := by decide +kernel
theorem dX4_init_21 : decode cX4_init 21 = .ok (.iconst (-1), 1) := by decide +kernel
theorem dX4_init_22 : decode cX4_init 22 = .ok (.putfield 18, 3) := by decide +kernel
theorem dX4_init_25 : decode cX4_init 25 = .ok (.aload_n 0, 1) := by decide +kernel
theorem dX4_init_26 : decode cX4_init 26 = .ok (.aload_n 1, 1) := by decide +kernel
theorem dX4_init_27 : decode cX4_init 27 = .ok (.putfield 22, 3) := by decide +kernel
theorem dX4_init_30 : decode cX4_init 30 = .ok (.aload_n 0, 1) := by decide +kernel
theorem dX4_init_31 : decode cX4_init 31 = .ok (.aload_n 2, 1) := by decide +kernel
theorem dX4_init_32 : decode cX4_init 32 = .ok (.putfield 26, 3) := by decide +kernel
theorem dX4_init_35 : decode cX4_init 35 = .ok (.aload_n 0, 1) := by decide +kernel
theorem dX4_init_36 : decode cX4_init 36 = .ok (.aload_n 2, 1) := by decide +kernel
theorem dX4_init_37 : decode cX4_init 37 = .ok (.getfield 30, 3) := by decide +kernel
theorem dX4_init_40 : decode cX4_init 40 = .ok (.putfield 36, 3) := by decide +kernel
theorem dX4_init_43 : decode cX4_init 43 = .ok (.return_, 1) := by decide +kernel
set_option maxRecDepth 100000 in
theorem mw_wsX4_readInto_12 : (.code yX3_clear cX3_clear 1 none : Cond) ∈ wsX4_readInto := List.mem_of_getElem? (i := 12) rfl
set_option maxRecDepth 100000 in
theorem mw_wsX4_readInto_19 : (.fieldLink RX3 43 "NothingJudge$Program" "first" "I" : Cond) ∈ wsX4_readInto := List.mem_of_getElem? (i := 19) (by decide +kernel)
set_option maxRecDepth 100000 in
theorem mw_wsX4_readInto_18 : (.fieldLink RX3 59 "NothingJudge$Program" "tests" "I" : Cond) ∈ wsX4_readInto := List.mem_of_getElem? (i := 18) (by decide +kernel)
set_option maxRecDepth 100000 in
theorem mw_wsX4_readInto_17 : (.fieldLink RX3 56 "NothingJudge$Program" "uses" "I" : Cond) ∈ wsX4_readInto := List.mem_of_getElem? (i := 17) (by decide +kernel)
set_option maxRecDepth 100000 in
theorem mw_wsX4_readInto_16 : (.fieldLink RX3 53 "NothingJudge$Program" "routines" "I" : Cond) ∈ wsX4_readInto := List.mem_of_getElem? (i := 16) (by decide +kernel)
set_option maxRecDepth 100000 in
theorem mw_wsX4_readInto_15 : (.fieldLink RX3 50 "NothingJudge$Program" "told" "I" : Cond) ∈ wsX4_readInto := List.mem_of_getElem? (i := 15) (by decide +kernel)
set_option maxRecDepth 100000 in
theorem mw_wsX4_readInto_14 : (.fieldLink RX3 47 "NothingJudge$Code" "size" "I" : Cond) ∈ wsX4_readInto := List.mem_of_getElem? (i := 14) (by decide +kernel)
set_option maxRecDepth 100000 in
theorem mw_wsX4_readInto_13 : (.fieldLink RX3 12 "NothingJudge$Program" "code" "LNothingJudge$Code;" : Cond) ∈ wsX4_readInto := List.mem_of_getElem? (i := 13) (by decide +kernel)
set_option maxRecDepth 20000 in
theorem ggX4_readInto_X3_clear : GoodIn wsX4_readInto wsX3_clear := goodIn_sub (List.forall_mem_cons.mpr ⟨mw_wsX4_readInto_12, (wK_app (wK_app (List.forall_mem_cons.mpr ⟨mw_wsX4_readInto_13, (List.forall_mem_cons.mpr ⟨mw_wsX4_readInto_14, (List.forall_mem_cons.mpr ⟨mw_wsX4_readInto_15, (List.forall_mem_cons.mpr ⟨mw_wsX4_readInto_16, (List.forall_mem_cons.mpr ⟨mw_wsX4_readInto_17, (List.forall_mem_cons.mpr ⟨mw_wsX4_readInto_18, (List.forall_mem_cons.mpr ⟨mw_wsX4_readInto_19, (fun _ h => absurd h List.not_mem_nil)⟩)⟩)⟩)⟩)⟩)⟩)⟩) (fun _ h => List.mem_cons_of_mem _ (List.mem_append_left _ (List.mem_append_left _ (List.mem_append_right _ h))))) (fun _ h => List.mem_cons_of_mem _ (List.mem_append_left _ (List.mem_append_right _ h))))⟩) (by decide +kernel)
set_option maxRecDepth 20000 in
theorem gX4_readInto_X3_clear : GoodIn wsX4_readInto (wsV RX4 37 RX3 yX3_clear wsX3_clear) := goodIn_app (goodIn_of _ (by decide +kernel)) ggX4_readInto_X3_clear
set_option maxRecDepth 100000 in
theorem mw_wsX4_readInto_24 : (.code yX4_seen cX4_seen 2 (some .boolean) : Cond) ∈ wsX4_readInto := List.mem_of_getElem? (i := 24) rfl
set_option maxRecDepth 100000 in
theorem mw_wsX4_readInto_32 : (.fieldLink RX8 9 "NothingJudge$Tokens" "packed" "[I" : Cond) ∈ wsX4_readInto := List.mem_of_getElem? (i := 32) (by decide +kernel)
set_option maxRecDepth 100000 in
theorem mw_wsX4_readInto_31 : (.fieldLink RX8 15 "NothingJudge$Tokens" "size" "I" : Cond) ∈ wsX4_readInto := List.mem_of_getElem? (i := 31) (by decide +kernel)
set_option maxRecDepth 100000 in
theorem mw_wsX4_readInto_30 : (.code yX8_kindAt cX8_kindAt 2 (some .int) : Cond) ∈ wsX4_readInto := List.mem_of_getElem? (i := 30) rfl
set_option maxRecDepth 100000 in
theorem mw_wsX4_readInto_29 : (.initialized RX8 : Cond) ∈ wsX4_readInto := List.mem_of_getElem? (i := 29) (by decide +kernel)
set_option maxRecDepth 100000 in
theorem mw_wsX4_readInto_28 : (.selects RX8 yX8_kindAt yX8_kindAt : Cond) ∈ wsX4_readInto := List.mem_of_getElem? (i := 28) (by decide +kernel)
set_option maxRecDepth 100000 in
theorem mw_wsX4_readInto_27 : (.instanceMethod yX8_kindAt : Cond) ∈ wsX4_readInto := List.mem_of_getElem? (i := 27) (by decide +kernel)
set_option maxRecDepth 100000 in
theorem mw_wsX4_readInto_26 : (.methodLink RX4 68 yX8_kindAt : Cond) ∈ wsX4_readInto := List.mem_of_getElem? (i := 26) (by decide +kernel)
set_option maxRecDepth 100000 in
theorem mw_wsX4_readInto_4 : (.fieldLink RX4 40 "NothingJudge$Reader" "next" "I" : Cond) ∈ wsX4_readInto := List.mem_of_getElem? (i := 4) (by decide +kernel)
set_option maxRecDepth 100000 in
theorem mw_wsX4_readInto_25 : (.fieldLink RX4 22 "NothingJudge$Reader" "tokens" "LNothingJudge$Tokens;" : Cond) ∈ wsX4_readInto := List.mem_of_getElem? (i := 25) (by decide +kernel)
set_option maxRecDepth 20000 in
theorem ggX4_readInto_X4_seen : GoodIn wsX4_readInto wsX4_seen := goodIn_sub (List.forall_mem_cons.mpr ⟨mw_wsX4_readInto_24, (wK_app (wK_app (List.forall_mem_cons.mpr ⟨mw_wsX4_readInto_25, (List.forall_mem_cons.mpr ⟨mw_wsX4_readInto_4, (List.forall_mem_cons.mpr ⟨mw_wsX4_readInto_26, (List.forall_mem_cons.mpr ⟨mw_wsX4_readInto_27, (List.forall_mem_cons.mpr ⟨mw_wsX4_readInto_28, (List.forall_mem_cons.mpr ⟨mw_wsX4_readInto_29, (List.forall_mem_cons.mpr ⟨mw_wsX4_readInto_30, (List.forall_mem_cons.mpr ⟨mw_wsX4_readInto_31, (List.forall_mem_cons.mpr ⟨mw_wsX4_readInto_32, (fun _ h => absurd h List.not_mem_nil)⟩)⟩)⟩)⟩)⟩)⟩)⟩)⟩)⟩) (fun _ h => List.mem_cons_of_mem _ (List.mem_append_left _ (List.mem_append_left _ (List.mem_append_left _ (List.mem_append_right _ h)))))) (fun _ h => List.mem_cons_of_mem _ (List.mem_append_right _ h)))⟩) (by decide +kernel)
set_option maxRecDepth 20000 in
theorem gX4_readInto_X4_seen : GoodIn wsX4_readInto (wsV RX4 51 RX4 yX4_seen wsX4_seen) := goodIn_app (goodIn_of _ (by decide +kernel)) ggX4_readInto_X4_seen
set_option maxRecDepth 100000 in
theorem mw_wsX4_readInto_189 : (.code yX4_checkCalls cX4_checkCalls 3 none : Cond) ∈ wsX4_readInto := List.mem_of_getElem? (i := 189) rfl
set_option maxRecDepth 100000 in
theorem mw_wsX4_readInto_193 : (.instanceMethod yX0_arguments : Cond) ∈ wsX4_readInto := List.mem_of_getElem? (i := 193) (by decide +kernel)
set_option maxRecDepth 100000 in
theorem mw_wsX4_readInto_192 : (.methodLink RX4 187 yX0_arguments : Cond) ∈ wsX4_readInto := List.mem_of_getElem? (i := 192) (by decide +kernel)
set_option maxRecDepth 100000 in
theorem mw_wsX4_readInto_79 : (.code yX5_at cX5_at 2 (some .int) : Cond) ∈ wsX4_readInto := List.mem_of_getElem? (i := 79) rfl
set_option maxRecDepth 100000 in
theorem mw_wsX4_readInto_67 : (.initialized RX5 : Cond) ∈ wsX4_readInto := List.mem_of_getElem? (i := 67) (by decide +kernel)
set_option maxRecDepth 100000 in
theorem mw_wsX4_readInto_78 : (.static yX5_at : Cond) ∈ wsX4_readInto := List.mem_of_getElem? (i := 78) (by decide +kernel)
set_option maxRecDepth 100000 in
theorem mw_wsX4_readInto_101 : (.methodLink RX4 114 yX5_at : Cond) ∈ wsX4_readInto := List.mem_of_getElem? (i := 101) (by decide +kernel)
set_option maxRecDepth 100000 in
theorem mw_wsX4_readInto_58 : (.code yX3_has cX3_has 2 (some .boolean) : Cond) ∈ wsX4_readInto := List.mem_of_getElem? (i := 58) rfl
set_option maxRecDepth 100000 in
theorem mw_wsX4_readInto_11 : (.initialized RX3 : Cond) ∈ wsX4_readInto := List.mem_of_getElem? (i := 11) (by decide +kernel)
set_option maxRecDepth 100000 in
theorem mw_wsX4_readInto_57 : (.selects RX3 yX3_has yX3_has : Cond) ∈ wsX4_readInto := List.mem_of_getElem? (i := 57) (by decide +kernel)
set_option maxRecDepth 100000 in
theorem mw_wsX4_readInto_56 : (.instanceMethod yX3_has : Cond) ∈ wsX4_readInto := List.mem_of_getElem? (i := 56) (by decide +kernel)
set_option maxRecDepth 100000 in
theorem mw_wsX4_readInto_55 : (.methodLink RX4 88 yX3_has : Cond) ∈ wsX4_readInto := List.mem_of_getElem? (i := 55) (by decide +kernel)
set_option maxRecDepth 100000 in
theorem mw_wsX4_readInto_112 : (.fieldLink RX0 11 "NothingJudge$Code" "cells" "[I" : Cond) ∈ wsX4_readInto := List.mem_of_getElem? (i := 112) (by decide +kernel)
set_option maxRecDepth 100000 in
theorem mw_wsX4_readInto_107 : (.fieldLink RX0 15 "NothingJudge$Code" "size" "I" : Cond) ∈ wsX4_readInto := List.mem_of_getElem? (i := 107) (by decide +kernel)
set_option maxRecDepth 100000 in
theorem mw_wsX4_readInto_166 : (.code yX0_get cX0_get 4 (some .int) : Cond) ∈ wsX4_readInto := List.mem_of_getElem? (i := 166) rfl
set_option maxRecDepth 100000 in
theorem mw_wsX4_readInto_105 : (.initialized RX0 : Cond) ∈ wsX4_readInto := List.mem_of_getElem? (i := 105) (by decide +kernel)
set_option maxRecDepth 100000 in
theorem mw_wsX4_readInto_165 : (.selects RX0 yX0_get yX0_get : Cond) ∈ wsX4_readInto := List.mem_of_getElem? (i := 165) (by decide +kernel)
set_option maxRecDepth 100000 in
theorem mw_wsX4_readInto_164 : (.instanceMethod yX0_get : Cond) ∈ wsX4_readInto := List.mem_of_getElem? (i := 164) (by decide +kernel)
set_option maxRecDepth 100000 in
theorem mw_wsX4_readInto_191 : (.methodLink RX4 181 yX0_get : Cond) ∈ wsX4_readInto := List.mem_of_getElem? (i := 191) (by decide +kernel)
set_option maxRecDepth 100000 in
theorem mw_wsX4_readInto_190 : (.fieldLink RX4 184 "NothingJudge$Program" "arity" "[I" : Cond) ∈ wsX4_readInto := List.mem_of_getElem? (i := 190) (by decide +kernel)
set_option maxRecDepth 100000 in
theorem mw_wsX4_readInto_1 : (.fieldLink RX4 26 "NothingJudge$Reader" "program" "LNothingJudge$Program;" : Cond) ∈ wsX4_readInto := List.mem_of_getElem? (i := 1) (by decide +kernel)
set_option maxRecDepth 100000 in
theorem mw_wsX4_readInto_6 : (.fieldLink RX4 46 "NothingJudge$Reader" "wrong" "I" : Cond) ∈ wsX4_readInto := List.mem_of_getElem? (i := 6) (by decide +kernel)
set_option maxRecDepth 100000 in
theorem mw_wsX4_readInto_100 : (.fieldLink RX4 128 "NothingJudge$Code" "size" "I" : Cond) ∈ wsX4_readInto := List.mem_of_getElem? (i := 100) (by decide +kernel)
set_option maxRecDepth 100000 in
theorem mw_wsX4_readInto_3 : (.fieldLink RX4 36 "NothingJudge$Reader" "code" "LNothingJudge$Code;" : Cond) ∈ wsX4_readInto := List.mem_of_getElem? (i := 3) (by decide +kernel)
set_option maxRecDepth 100000 in
theorem mc_wsX4_readInto_wsX4_checkCalls_r1 : ∀ w ∈ wsX4_checkCalls_r1, w ∈ wsX4_readInto := (List.forall_mem_cons.mpr ⟨mw_wsX4_readInto_3, (List.forall_mem_cons.mpr ⟨mw_wsX4_readInto_100, (List.forall_mem_cons.mpr ⟨mw_wsX4_readInto_6, (List.forall_mem_cons.mpr ⟨mw_wsX4_readInto_1, (List.forall_mem_cons.mpr ⟨mw_wsX4_readInto_190, (List.forall_mem_cons.mpr ⟨mw_wsX4_readInto_191, (List.forall_mem_cons.mpr ⟨mw_wsX4_readInto_164, (List.forall_mem_cons.mpr ⟨mw_wsX4_readInto_165, (List.forall_mem_cons.mpr ⟨mw_wsX4_readInto_105, (List.forall_mem_cons.mpr ⟨mw_wsX4_readInto_166, (List.forall_mem_cons.mpr ⟨mw_wsX4_readInto_107, (List.forall_mem_cons.mpr ⟨mw_wsX4_readInto_112, (List.forall_mem_cons.mpr ⟨mw_wsX4_readInto_55, (List.forall_mem_cons.mpr ⟨mw_wsX4_readInto_56, (List.forall_mem_cons.mpr ⟨mw_wsX4_readInto_57, (List.forall_mem_cons.mpr ⟨mw_wsX4_readInto_11, (List.forall_mem_cons.mpr ⟨mw_wsX4_readInto_58, (List.forall_mem_cons.mpr ⟨mw_wsX4_readInto_15, (List.forall_mem_cons.mpr ⟨mw_wsX4_readInto_101, (List.forall_mem_cons.mpr ⟨mw_wsX4_readInto_78, (List.forall_mem_cons.mpr ⟨mw_wsX4_readInto_67, (List.forall_mem_cons.mpr ⟨mw_wsX4_readInto_79, (List.forall_mem_cons.mpr ⟨mw_wsX4_readInto_192, (List.forall_mem_cons.mpr ⟨mw_wsX4_readInto_193, (fun _ h => absurd h List.not_mem_nil)⟩)⟩)⟩)⟩)⟩)⟩)⟩)⟩)⟩)⟩)⟩)⟩)⟩)⟩)⟩)⟩)⟩)⟩)⟩)⟩)⟩)⟩)⟩)⟩)
set_option maxRecDepth 100000 in
theorem mw_wsX4_readInto_7 : (.fieldLink RX4 18 "NothingJudge$Reader" "wrongPlace" "I" : Cond) ∈ wsX4_readInto := List.mem_of_getElem? (i := 7) (by decide +kernel)
set_option maxRecDepth 100000 in
theorem mw_wsX4_readInto_50 : (.code yX4_refuse cX4_refuse 3 (some .boolean) : Cond) ∈ wsX4_readInto := List.mem_of_getElem? (i := 50) rfl
set_option maxRecDepth 100000 in
theorem mw_wsX4_readInto_23 : (.initialized RX4 : Cond) ∈ wsX4_readInto := List.mem_of_getElem? (i := 23) (by decide +kernel)
set_option maxRecDepth 100000 in
theorem mw_wsX4_readInto_49 : (.selects RX4 yX4_refuse yX4_refuse : Cond) ∈ wsX4_readInto := List.mem_of_getElem? (i := 49) (by decide +kernel)
set_option maxRecDepth 100000 in
theorem mw_wsX4_readInto_48 : (.instanceMethod yX4_refuse : Cond) ∈ wsX4_readInto := List.mem_of_getElem? (i := 48) (by decide +kernel)
set_option maxRecDepth 100000 in
theorem mw_wsX4_readInto_47 : (.methodLink RX4 75 yX4_refuse : Cond) ∈ wsX4_readInto := List.mem_of_getElem? (i := 47) (by decide +kernel)
set_option maxRecDepth 100000 in
theorem mw_wsX4_readInto_163 : (.methodLink RX0 23 yX0_get : Cond) ∈ wsX4_readInto := List.mem_of_getElem? (i := 163) (by decide +kernel)
set_option maxRecDepth 100000 in
theorem mw_wsX4_readInto_195 : (.code yX0_arguments cX0_arguments 2 (some .int) : Cond) ∈ wsX4_readInto := List.mem_of_getElem? (i := 195) rfl
set_option maxRecDepth 100000 in
theorem mw_wsX4_readInto_194 : (.selects RX0 yX0_arguments yX0_arguments : Cond) ∈ wsX4_readInto := List.mem_of_getElem? (i := 194) (by decide +kernel)
set_option maxRecDepth 100000 in
theorem mc_wsX4_readInto_wsX4_checkCalls_r2 : ∀ w ∈ wsX4_checkCalls_r2, w ∈ wsX4_readInto := (List.forall_mem_cons.mpr ⟨mw_wsX4_readInto_194, (List.forall_mem_cons.mpr ⟨mw_wsX4_readInto_195, (List.forall_mem_cons.mpr ⟨mw_wsX4_readInto_163, (List.forall_mem_cons.mpr ⟨mw_wsX4_readInto_47, (List.forall_mem_cons.mpr ⟨mw_wsX4_readInto_48, (List.forall_mem_cons.mpr ⟨mw_wsX4_readInto_49, (List.forall_mem_cons.mpr ⟨mw_wsX4_readInto_23, (List.forall_mem_cons.mpr ⟨mw_wsX4_readInto_50, (List.forall_mem_cons.mpr ⟨mw_wsX4_readInto_7, (fun _ h => absurd h List.not_mem_nil)⟩)⟩)⟩)⟩)⟩)⟩)⟩)⟩)⟩)
set_option maxRecDepth 20000 in
theorem ggX4_readInto_X4_checkCalls : GoodIn wsX4_readInto wsX4_checkCalls := goodIn_sub (List.forall_mem_cons.mpr ⟨mw_wsX4_readInto_189, (wK_app (wK_app (wK_app (wK_app mc_wsX4_readInto_wsX4_checkCalls_r1 mc_wsX4_readInto_wsX4_checkCalls_r2) (fun _ h => List.mem_cons_of_mem _ (List.mem_append_left _ (List.mem_append_left _ (List.mem_append_left _ (List.mem_append_right _ h)))))) (fun _ h => List.mem_cons_of_mem _ (List.mem_append_left _ (List.mem_append_right _ h)))) (fun _ h => List.mem_cons_of_mem _ (List.mem_append_left _ (List.mem_append_left _ (List.mem_append_right _ h)))))⟩) (by decide +kernel)
set_option maxRecDepth 20000 in
theorem gX4_readInto_X4_checkCalls : GoodIn wsX4_readInto (wsV RX4 65 RX4 yX4_checkCalls wsX4_checkCalls) := goodIn_app (goodIn_of _ (by decide +kernel)) ggX4_readInto_X4_checkCalls
theorem dX4_readInto_0 : decode cX4_readInto 0 = .ok (.aload_n 0, 1) := by decide +kernel
theorem dX4_readInto_1 : decode cX4_readInto 1 = .ok (.aload_n 1, 1) := by decide +kernel
theorem dX4_readInto_2 : decode cX4_readInto 2 = .ok (.putfield 26, 3) := by decide +kernel
theorem dX4_readInto_5 : decode cX4_readInto 5 = .ok (.aload_n 0, 1) := by decide +kernel
theorem dX4_readInto_6 : decode cX4_readInto 6 = .ok (.aload_n 1, 1) := by decide +kernel
theorem dX4_readInto_7 : decode cX4_readInto 7 = .ok (.getfield 30, 3) := by decide +kernel
theorem dX4_readInto_10 : decode cX4_readInto 10 = .ok (.putfield 36, 3) := by decide +kernel
theorem dX4_readInto_13 : decode cX4_readInto 13 = .ok (.aload_n 1, 1) := by decide +kernel
theorem dX4_readInto_14 : decode cX4_readInto 14 = .ok (.invokevirtual 37, 3) := by decide +kernel
theorem dX4_readInto_17 : decode cX4_readInto 17 = .ok (.aload_n 0, 1) := by decide +kernel
theorem dX4_readInto_18 : decode cX4_readInto 18 = .ok (.iconst 0, 1) := by decide +kernel
theorem dX4_readInto_19 : decode cX4_readInto 19 = .ok (.putfield 40, 3) := by decide +kernel
theorem dX4_readInto_22 : decode cX4_readInto 22 = .ok (.aload_n 0, 1) := by decide +kernel
theorem dX4_readInto_23 : decode cX4_readInto 23 = .ok (.iconst 0, 1) := by decide +kernel
theorem dX4_readInto_24 : decode cX4_readInto 24 = .ok (.putfield 43, 3) := by decide +kernel
theorem dX4_readInto_27 : decode cX4_readInto 27 = .ok (.aload_n 0, 1) := by decide +kernel
theorem dX4_readInto_28 : decode cX4_readInto 28 = .ok (.iconst 0, 1) := by decide +kernel
theorem dX4_readInto_29 : decode cX4_readInto 29 = .ok (.putfield 46, 3) := by decide +kernel
theorem dX4_readInto_32 : decode cX4_readInto 32 = .ok (.aload_n 0, 1) := by decide +kernel
theorem dX4_readInto_33 : decode cX4_readInto 33 = .ok (.iconst (-1), 1) := by decide +kernel
theorem dX4_readInto_34 : decode cX4_readInto 34 = .ok (.putfield 18, 3) := by decide +kernel
theorem dX4_readInto_37 : decode cX4_readInto 37 = .ok (.iconst 0, 1) := by decide +kernel
theorem dX4_readInto_38 : decode cX4_readInto 38 = .ok (.istore_n 2, 1) := by decide +kernel
theorem dX4_readInto_39 : decode cX4_readInto 39 = .ok (.iload_n 2, 1) := by decide +kernel
theorem dX4_readInto_40 : decode cX4_readInto 40 = .ok (.sipush 1200, 3) := by decide +kernel
theorem dX4_readInto_43 : decode cX4_readInto 43 = .ok (.if_icmp .gt 67, 3) := by decide +kernel
theorem dX4_readInto_46 : decode cX4_readInto 46 = .ok (.aload_n 0, 1) := by decide +kernel
theorem dX4_readInto_47 : decode cX4_readInto 47 = .ok (.getfield 46, 3) := by decide +kernel
theorem dX4_readInto_50 : decode cX4_readInto 50 = .ok (.ifCond .ne 60, 3) := by decide +kernel
theorem dX4_readInto_53 : decode cX4_readInto 53 = .ok (.aload_n 0, 1) := by decide +kernel
theorem dX4_readInto_54 : decode cX4_readInto 54 = .ok (.getfield 43, 3) := by decide +kernel
theorem dX4_readInto_57 : decode cX4_readInto 57 = .ok (.ifCond .gt 11, 3) := by decide +kernel
theorem dX4_readInto_60 : decode cX4_readInto 60 = .ok (.aload_n 0, 1) := by decide +kernel
theorem dX4_readInto_61 : decode cX4_readInto 61 = .ok (.iconst 0, 1) := by decide +kernel
theorem dX4_readInto_62 : decode cX4_readInto 62 = .ok (.invokevirtual 51, 3) := by decide +kernel
theorem dX4_readInto_65 : decode cX4_readInto 65 = .ok (.ifCond .ne 45, 3) := by decide +kernel
theorem dX4_readInto_110 : decode cX4_readInto 110 = .ok (.aload_n 0, 1) := by decide +kernel
theorem dX4_readInto_111 : decode cX4_readInto 111 = .ok (.getfield 46, 3) := by decide +kernel
theorem dX4_readInto_114 : decode cX4_readInto 114 = .ok (.ifCond .ne 7, 3) := by decide +kernel
theorem dX4_readInto_117 : decode cX4_readInto 117 = .ok (.aload_n 0, 1) := by decide +kernel
theorem dX4_readInto_118 : decode cX4_readInto 118 = .ok (.invokevirtual 65, 3) := by decide +kernel
theorem dX4_readInto_121 : decode cX4_readInto 121 = .ok (.return_, 1) := by decide +kernel
set_option maxRecDepth 100000 in
theorem mw_wsX4_seen_7 : (.code yX8_kindAt cX8_kindAt 2 (some .int) : Cond) ∈ wsX4_seen := List.mem_of_getElem? (i := 7) rfl
set_option maxRecDepth 100000 in
theorem mw_wsX4_seen_9 : (.fieldLink RX8 9 "NothingJudge$Tokens" "packed" "[I" : Cond) ∈ wsX4_seen := List.mem_of_getElem? (i := 9) (by decide +kernel)
set_option maxRecDepth 100000 in
theorem mw_wsX4_seen_8 : (.fieldLink RX8 15 "NothingJudge$Tokens" "size" "I" : Cond) ∈ wsX4_seen := List.mem_of_getElem? (i := 8) (by decide +kernel)
set_option maxRecDepth 20000 in
theorem ggX4_seen_X8_kindAt : GoodIn wsX4_seen wsX8_kindAt := goodIn_sub (List.forall_mem_cons.mpr ⟨mw_wsX4_seen_7, (wK_app (List.forall_mem_cons.mpr ⟨mw_wsX4_seen_8, (List.forall_mem_cons.mpr ⟨mw_wsX4_seen_9, (fun _ h => absurd h List.not_mem_nil)⟩)⟩) (fun _ h => List.mem_cons_of_mem _ (List.mem_append_right _ h)))⟩) (by decide +kernel)
set_option maxRecDepth 20000 in
theorem gX4_seen_X8_kindAt : GoodIn wsX4_seen (wsV RX4 68 RX8 yX8_kindAt wsX8_kindAt) := goodIn_app (goodIn_of _ (by decide +kernel)) ggX4_seen_X8_kindAt
theorem dX4_seen_0 : decode cX4_seen 0 = .ok (.aload_n 0, 1) := by decide +kernel
theorem dX4_seen_1 : decode cX4_seen 1 = .ok (.getfield 22, 3) := by decide +kernel
theorem dX4_seen_4 : decode cX4_seen 4 = .ok (.aload_n 0, 1) := by decide +kernel
theorem dX4_seen_5 : decode cX4_seen 5 = .ok (.getfield 40, 3) := by decide +kernel
theorem dX4_seen_8 : decode cX4_seen 8 = .ok (.invokevirtual 68, 3) := by decide +kernel
theorem dX4_seen_11 : decode cX4_seen 11 = .ok (.iload_n 1, 1) := by decide +kernel
theorem dX4_seen_12 : decode cX4_seen 12 = .ok (.if_icmp .ne 7, 3) := by decide +kernel
theorem dX4_seen_15 : decode cX4_seen 15 = .ok (.iconst 1, 1) := by decide +kernel
theorem dX4_seen_16 : decode cX4_seen 16 = .ok (.goto 4, 3) := by decide +kernel
theorem dX4_seen_20 : decode cX4_seen 20 = .ok (.ireturn, 1) := by decide +kernel
theorem dX4_checkCalls_0 : decode cX4_checkCalls 0 = .ok (.iconst 0, 1) := by decide +kernel
theorem dX4_checkCalls_1 : decode cX4_checkCalls 1 = .ok (.istore_n 1, 1) := by decide +kernel
theorem dX4_checkCalls_2 : decode cX4_checkCalls 2 = .ok (.iload_n 1, 1) := by decide +kernel
theorem dX4_checkCalls_3 : decode cX4_checkCalls 3 = .ok (.aload_n 0, 1) := by decide +kernel
theorem dX4_checkCalls_4 : decode cX4_checkCalls 4 = .ok (.getfield 36, 3) := by decide +kernel
theorem dX4_checkCalls_7 : decode cX4_checkCalls 7 = .ok (.getfield 128, 3) := by decide +kernel
theorem dX4_checkCalls_10 : decode cX4_checkCalls 10 = .ok (.if_icmp .ge 89, 3) := by decide +kernel
theorem dX4_checkCalls_99 : decode cX4_checkCalls 99 = .ok (.return_, 1) := by decide +kernel
theorem dX5_at_0 : decode cX5_at 0 = .ok (.iload_n 1, 1) := by decide +kernel
theorem dX5_at_1 : decode cX5_at 1 = .ok (.ifCond .lt 15, 3) := by decide +kernel
theorem dX5_at_4 : decode cX5_at 4 = .ok (.iload_n 1, 1) := by decide +kernel
theorem dX5_at_5 : decode cX5_at 5 = .ok (.aload_n 0, 1) := by decide +kernel
theorem dX5_at_6 : decode cX5_at 6 = .ok (.arraylength, 1) := by decide +kernel
theorem dX5_at_7 : decode cX5_at 7 = .ok (.if_icmp .ge 9, 3) := by decide +kernel
theorem dX5_at_10 : decode cX5_at 10 = .ok (.aload_n 0, 1) := by decide +kernel
theorem dX5_at_11 : decode cX5_at 11 = .ok (.iload_n 1, 1) := by decide +kernel
theorem dX5_at_12 : decode cX5_at 12 = .ok (.iaload, 1) := by decide +kernel
theorem dX5_at_13 : decode cX5_at 13 = .ok (.goto 4, 3) := by decide +kernel
theorem dX5_at_16 : decode cX5_at 16 = .ok (.iconst 0, 1) := by decide +kernel
theorem dX5_at_17 : decode cX5_at 17 = .ok (.ireturn, 1) := by decide +kernel
theorem dX5_put_0 : decode cX5_put 0 = .ok (.iload_n 1, 1) := by decide +kernel
theorem dX5_put_1 : decode cX5_put 1 = .ok (.ifCond .lt 13, 3) := by decide +kernel
theorem dX5_put_4 : decode cX5_put 4 = .ok (.iload_n 1, 1) := by decide +kernel
theorem dX5_put_5 : decode cX5_put 5 = .ok (.aload_n 0, 1) := by decide +kernel
theorem dX5_put_6 : decode cX5_put 6 = .ok (.arraylength, 1) := by decide +kernel
theorem dX5_put_7 : decode cX5_put 7 = .ok (.if_icmp .ge 7, 3) := by decide +kernel
theorem dX5_put_10 : decode cX5_put 10 = .ok (.aload_n 0, 1) := by decide +kernel
theorem dX5_put_11 : decode cX5_put 11 = .ok (.iload_n 1, 1) := by decide +kernel
theorem dX5_put_12 : decode cX5_put 12 = .ok (.iload_n 2, 1) := by decide +kernel
theorem dX5_put_13 : decode cX5_put 13 = .ok (.iastore, 1) := by decide +kernel
theorem dX5_put_14 : decode cX5_put 14 = .ok (.return_, 1) := by decide +kernel
theorem dX6_init_0 : decode cX6_init 0 = .ok (.aload_n 0, 1) := by decide +kernel
theorem dX6_init_1 : decode cX6_init 1 = .ok (.invokespecial 3, 3) := by decide +kernel
theorem dX6_init_4 : decode cX6_init 4 = .ok (.aload_n 0, 1) := by decide +kernel
theorem dX6_init_5 : decode cX6_init 5 = .ok (.sipush 338, 3) := by decide +kernel
theorem dX6_init_8 : decode cX6_init 8 = .ok (.newarray .int, 2) := by decide +kernel
theorem dX6_init_10 : decode cX6_init 10 = .ok (.putfield 11, 3) := by decide +kernel
theorem dX6_init_13 : decode cX6_init 13 = .ok (.aload_n 0, 1) := by decide +kernel
theorem dX6_init_14 : decode cX6_init 14 = .ok (.bipush 12, 2) := by decide +kernel
theorem dX6_init_16 : decode cX6_init 16 = .ok (.newarray .int, 2) := by decide +kernel
theorem dX6_init_18 : decode cX6_init 18 = .ok (.putfield 15, 3) := by decide +kernel
theorem dX6_init_21 : decode cX6_init 21 = .ok (.aload_n 0, 1) := by decide +kernel
theorem dX6_init_22 : decode cX6_init 22 = .ok (.sipush 602, 3) := by decide +kernel
theorem dX6_init_25 : decode cX6_init 25 = .ok (.newarray .int, 2) := by decide +kernel
theorem dX6_init_27 : decode cX6_init 27 = .ok (.putfield 18, 3) := by decide +kernel
theorem dX6_init_30 : decode cX6_init 30 = .ok (.aload_n 0, 1) := by decide +kernel
theorem dX6_init_31 : decode cX6_init 31 = .ok (.aload_n 1, 1) := by decide +kernel
theorem dX6_init_32 : decode cX6_init 32 = .ok (.putfield 21, 3) := by decide +kernel
theorem dX6_init_35 : decode cX6_init 35 = .ok (.aload_n 0, 1) := by decide +kernel
theorem dX6_init_36 : decode cX6_init 36 = .ok (.aload_n 1, 1) := by decide +kernel
theorem dX6_init_37 : decode cX6_init 37 = .ok (.getfield 25, 3) := by decide +kernel
theorem dX6_init_40 : decode cX6_init 40 = .ok (.putfield 31, 3) := by decide +kernel
theorem dX6_init_43 : decode cX6_init 43 = .ok (.aload_n 0, 1) := by decide +kernel
theorem dX6_init_44 : decode cX6_init 44 = .ok (.aload_n 1, 1) := by decide +kernel
theorem dX6_init_45 : decode cX6_init 45 = .ok (.getfield 25, 3) := by decide +kernel
theorem dX6_init_48 : decode cX6_init 48 = .ok (.getfield 32, 3) := by decide +kernel
theorem dX6_init_51 : decode cX6_init 51 = .ok (.putfield 38, 3) := by decide +kernel
theorem dX6_init_54 : decode cX6_init 54 = .ok (.return_, 1) := by decide +kernel
theorem dX7_init_0 : decode cX7_init 0 = .ok (.aload_n 0, 1) := by decide +kernel
theorem dX7_init_1 : decode cX7_init 1 = .ok (.invokespecial 3, 3) := by decide +kernel
theorem dX7_init_4 : decode cX7_init 4 = .ok (.aload_n 0, 1) := by decide +kernel
theorem dX7_init_5 : decode cX7_init 5 = .ok (.iconst (-1), 1) := by decide +kernel
theorem dX7_init_6 : decode cX7_init 6 = .ok (.putfield 9, 3) := by decide +kernel
theorem dX7_init_9 : decode cX7_init 9 = .ok (.aload_n 0, 1) := by decide +kernel
theorem dX7_init_10 : decode cX7_init 10 = .ok (.iconst 4, 1) := by decide +kernel
theorem dX7_init_11 : decode cX7_init 11 = .ok (.newarray .int, 2) := by decide +kernel
theorem dX7_init_13 : decode cX7_init 13 = .ok (.putfield 15, 3) := by decide +kernel
theorem dX7_init_16 : decode cX7_init 16 = .ok (.aload_n 0, 1) := by decide +kernel
theorem dX7_init_17 : decode cX7_init 17 = .ok (.aload_n 1, 1) := by decide +kernel
theorem dX7_init_18 : decode cX7_init 18 = .ok (.putfield 19, 3) := by decide +kernel
theorem dX7_init_21 : decode cX7_init 21 = .ok (.return_, 1) := by decide +kernel
set_option maxRecDepth 100000 in
theorem mw_wsX7_startAt_6 : (.code yJ7_fill_53178 cJ7_fill_53178 4 none : Cond) ∈ wsX7_startAt := List.mem_of_getElem? (i := 6) rfl
set_option maxRecDepth 20000 in
theorem ggX7_startAt_J7_fill_53178 : GoodIn wsX7_startAt wsJ7_fill_53178 := goodIn_sub (List.forall_mem_cons.mpr ⟨mw_wsX7_startAt_6, (fun _ h => absurd h List.not_mem_nil)⟩) (by decide +kernel)
set_option maxRecDepth 20000 in
theorem gX7_startAt_J7_fill_53178 : GoodIn wsX7_startAt (va_wsS RX7 23 yJ7_fill_53178 wsJ7_fill_53178) := goodIn_app (goodIn_of _ (by decide +kernel)) ggX7_startAt_J7_fill_53178
theorem dX7_startAt_0 : decode cX7_startAt 0 = .ok (.aload_n 0, 1) := by decide +kernel
theorem dX7_startAt_1 : decode cX7_startAt 1 = .ok (.iload_n 1, 1) := by decide +kernel
theorem dX7_startAt_2 : decode cX7_startAt 2 = .ok (.putfield 9, 3) := by decide +kernel
theorem dX7_startAt_5 : decode cX7_startAt 5 = .ok (.aload_n 0, 1) := by decide +kernel
theorem dX7_startAt_6 : decode cX7_startAt 6 = .ok (.getfield 15, 3) := by decide +kernel
theorem dX7_startAt_9 : decode cX7_startAt 9 = .ok (.iconst 3, 1) := by decide +kernel
theorem dX7_startAt_10 : decode cX7_startAt 10 = .ok (.invokestatic 23, 3) := by decide +kernel
theorem dX7_startAt_13 : decode cX7_startAt 13 = .ok (.return_, 1) := by decide +kernel
set_option maxRecDepth 100000 in
theorem mw_wsX7_outers_11 : (.code yX5_at cX5_at 2 (some .int) : Cond) ∈ wsX7_outers := List.mem_of_getElem? (i := 11) rfl
set_option maxRecDepth 20000 in
theorem ggX7_outers_X5_at : GoodIn wsX7_outers wsX5_at := goodIn_sub (List.forall_mem_cons.mpr ⟨mw_wsX7_outers_11, (fun _ h => absurd h List.not_mem_nil)⟩) (by decide +kernel)
set_option maxRecDepth 20000 in
theorem gX7_outers_X5_at : GoodIn wsX7_outers (va_wsS RX7 34 yX5_at wsX5_at) := goodIn_app (goodIn_of _ (by decide +kernel)) ggX7_outers_X5_at
set_option maxRecDepth 100000 in
theorem mw_wsX7_outers_16 : (.code yX3_has cX3_has 2 (some .boolean) : Cond) ∈ wsX7_outers := List.mem_of_getElem? (i := 16) rfl
set_option maxRecDepth 100000 in
theorem mw_wsX7_outers_17 : (.fieldLink RX3 50 "NothingJudge$Program" "told" "I" : Cond) ∈ wsX7_outers := List.mem_of_getElem? (i := 17) (by decide +kernel)
set_option maxRecDepth 20000 in
theorem ggX7_outers_X3_has : GoodIn wsX7_outers wsX3_has := goodIn_sub (List.forall_mem_cons.mpr ⟨mw_wsX7_outers_16, (wK_app (List.forall_mem_cons.mpr ⟨mw_wsX7_outers_17, (fun _ h => absurd h List.not_mem_nil)⟩) (fun _ h => List.mem_cons_of_mem _ (List.mem_append_right _ h)))⟩) (by decide +kernel)
set_option maxRecDepth 20000 in
theorem gX7_outers_X3_has : GoodIn wsX7_outers (wsV RX7 40 RX3 yX3_has wsX3_has) := goodIn_app (goodIn_of _ (by decide +kernel)) ggX7_outers_X3_has
theorem dX7_outers_0 : decode cX7_outers 0 = .ok (.aload_n 0, 1) := by decide +kernel
theorem dX7_outers_1 : decode cX7_outers 1 = .ok (.getfield 19, 3) := by decide +kernel
theorem dX7_outers_4 : decode cX7_outers 4 = .ok (.getfield 29, 3) := by decide +kernel
theorem dX7_outers_7 : decode cX7_outers 7 = .ok (.aload_n 0, 1) := by decide +kernel
theorem dX7_outers_8 : decode cX7_outers 8 = .ok (.getfield 9, 3) := by decide +kernel
theorem dX7_outers_11 : decode cX7_outers 11 = .ok (.invokestatic 34, 3) := by decide +kernel
theorem dX7_outers_14 : decode cX7_outers 14 = .ok (.aload_n 0, 1) := by decide +kernel
theorem dX7_outers_15 : decode cX7_outers 15 = .ok (.getfield 19, 3) := by decide +kernel
theorem dX7_outers_18 : decode cX7_outers 18 = .ok (.aload_n 0, 1) := by decide +kernel
theorem dX7_outers_19 : decode cX7_outers 19 = .ok (.getfield 9, 3) := by decide +kernel
theorem dX7_outers_22 : decode cX7_outers 22 = .ok (.invokevirtual 40, 3) := by decide +kernel
theorem dX7_outers_25 : decode cX7_outers 25 = .ok (.ifCond .eq 7, 3) := by decide +kernel
theorem dX7_outers_32 : decode cX7_outers 32 = .ok (.iconst 0, 1) := by decide +kernel
theorem dX7_outers_33 : decode cX7_outers 33 = .ok (.invokestatic 44, 3) := by decide +kernel
theorem dX7_outers_36 : decode cX7_outers 36 = .ok (.ireturn, 1) := by decide +kernel
set_option maxRecDepth 100000 in
theorem mw_wsX7_allows_8 : (.code yX3_has cX3_has 2 (some .boolean) : Cond) ∈ wsX7_allows := List.mem_of_getElem? (i := 8) rfl
set_option maxRecDepth 100000 in
theorem mw_wsX7_allows_9 : (.fieldLink RX3 50 "NothingJudge$Program" "told" "I" : Cond) ∈ wsX7_allows := List.mem_of_getElem? (i := 9) (by decide +kernel)
set_option maxRecDepth 20000 in
theorem ggX7_allows_X3_has : GoodIn wsX7_allows wsX3_has := goodIn_sub (List.forall_mem_cons.mpr ⟨mw_wsX7_allows_8, (wK_app (List.forall_mem_cons.mpr ⟨mw_wsX7_allows_9, (fun _ h => absurd h List.not_mem_nil)⟩) (fun _ h => List.mem_cons_of_mem _ (List.mem_append_right _ h)))⟩) (by decide +kernel)
set_option maxRecDepth 20000 in
theorem gX7_allows_X3_has : GoodIn wsX7_allows (wsV RX7 40 RX3 yX3_has wsX3_has) := goodIn_app (goodIn_of _ (by decide +kernel)) ggX7_allows_X3_has
theorem dX7_allows_0 : decode cX7_allows 0 = .ok (.aload_n 0, 1) := by decide +kernel
theorem dX7_allows_1 : decode cX7_allows 1 = .ok (.getfield 19, 3) := by decide +kernel
theorem dX7_allows_4 : decode cX7_allows 4 = .ok (.aload_n 0, 1) := by decide +kernel
theorem dX7_allows_5 : decode cX7_allows 5 = .ok (.getfield 9, 3) := by decide +kernel
theorem dX7_allows_8 : decode cX7_allows 8 = .ok (.invokevirtual 40, 3) := by decide +kernel
theorem dX7_allows_11 : decode cX7_allows 11 = .ok (.ifCond .eq 17, 3) := by decide +kernel
theorem dX7_allows_28 : decode cX7_allows 28 = .ok (.iconst 0, 1) := by decide +kernel
theorem dX7_allows_29 : decode cX7_allows 29 = .ok (.ireturn, 1) := by decide +kernel
theorem dX8_init_0 : decode cX8_init 0 = .ok (.aload_n 0, 1) := by decide +kernel
theorem dX8_init_1 : decode cX8_init 1 = .ok (.invokespecial 3, 3) := by decide +kernel
theorem dX8_init_4 : decode cX8_init 4 = .ok (.aload_n 0, 1) := by decide +kernel
theorem dX8_init_5 : decode cX8_init 5 = .ok (.sipush 1200, 3) := by decide +kernel
theorem dX8_init_8 : decode cX8_init 8 = .ok (.newarray .int, 2) := by decide +kernel
theorem dX8_init_10 : decode cX8_init 10 = .ok (.putfield 9, 3) := by decide +kernel
theorem dX8_init_13 : decode cX8_init 13 = .ok (.return_, 1) := by decide +kernel
theorem dX8_scan_0 : decode cX8_scan 0 = .ok (.aload_n 0, 1) := by decide +kernel
theorem dX8_scan_1 : decode cX8_scan 1 = .ok (.iconst 0, 1) := by decide +kernel
theorem dX8_scan_2 : decode cX8_scan 2 = .ok (.putfield 15, 3) := by decide +kernel
theorem dX8_scan_5 : decode cX8_scan 5 = .ok (.aload_n 0, 1) := by decide +kernel
theorem dX8_scan_6 : decode cX8_scan 6 = .ok (.iload_n 2, 1) := by decide +kernel
theorem dX8_scan_7 : decode cX8_scan 7 = .ok (.aload_n 1, 1) := by decide +kernel
theorem dX8_scan_8 : decode cX8_scan 8 = .ok (.arraylength, 1) := by decide +kernel
theorem dX8_scan_9 : decode cX8_scan 9 = .ok (.invokestatic 19, 3) := by decide +kernel
theorem dX8_scan_12 : decode cX8_scan 12 = .ok (.putfield 25, 3) := by decide +kernel
theorem dX8_scan_15 : decode cX8_scan 15 = .ok (.iconst 0, 1) := by decide +kernel
theorem dX8_scan_16 : decode cX8_scan 16 = .ok (.istore_n 3, 1) := by decide +kernel
theorem dX8_scan_17 : decode cX8_scan 17 = .ok (.iload_n 3, 1) := by decide +kernel
theorem dX8_scan_18 : decode cX8_scan 18 = .ok (.aload_n 0, 1) := by decide +kernel
theorem dX8_scan_19 : decode cX8_scan 19 = .ok (.getfield 25, 3) := by decide +kernel
theorem dX8_scan_22 : decode cX8_scan 22 = .ok (.if_icmp .ge 114, 3) := by decide +kernel
theorem dX8_scan_136 : decode cX8_scan 136 = .ok (.return_, 1) := by decide +kernel
theorem dX8_kindAt_0 : decode cX8_kindAt 0 = .ok (.iload_n 1, 1) := by decide +kernel
theorem dX8_kindAt_1 : decode cX8_kindAt 1 = .ok (.ifCond .lt 34, 3) := by decide +kernel
theorem dX8_kindAt_4 : decode cX8_kindAt 4 = .ok (.iload_n 1, 1) := by decide +kernel
theorem dX8_kindAt_5 : decode cX8_kindAt 5 = .ok (.aload_n 0, 1) := by decide +kernel
theorem dX8_kindAt_6 : decode cX8_kindAt 6 = .ok (.getfield 15, 3) := by decide +kernel
theorem dX8_kindAt_9 : decode cX8_kindAt 9 = .ok (.if_icmp .ge 26, 3) := by decide +kernel
theorem dX8_kindAt_35 : decode cX8_kindAt 35 = .ok (.iconst 0, 1) := by decide +kernel
theorem dX8_kindAt_36 : decode cX8_kindAt 36 = .ok (.ireturn, 1) := by decide +kernel
theorem dX9_init_0 : decode cX9_init 0 = .ok (.aload_n 0, 1) := by decide +kernel
theorem dX9_init_1 : decode cX9_init 1 = .ok (.invokespecial 3, 3) := by decide +kernel
theorem dX9_init_4 : decode cX9_init 4 = .ok (.aload_n 0, 1) := by decide +kernel
theorem dX9_init_5 : decode cX9_init 5 = .ok (.bipush 40, 2) := by decide +kernel
theorem dX9_init_7 : decode cX9_init 7 = .ok (.newarray .int, 2) := by decide +kernel
theorem dX9_init_9 : decode cX9_init 9 = .ok (.putfield 9, 3) := by decide +kernel
theorem dX9_init_12 : decode cX9_init 12 = .ok (.aload_n 0, 1) := by decide +kernel
theorem dX9_init_13 : decode cX9_init 13 = .ok (.sipush 256, 3) := by decide +kernel
theorem dX9_init_16 : decode cX9_init 16 = .ok (.newarray .int, 2) := by decide +kernel
theorem dX9_init_18 : decode cX9_init 18 = .ok (.putfield 15, 3) := by decide +kernel
theorem dX9_init_21 : decode cX9_init 21 = .ok (.aload_n 0, 1) := by decide +kernel
theorem dX9_init_22 : decode cX9_init 22 = .ok (.iconst 1, 1) := by decide +kernel
theorem dX9_init_23 : decode cX9_init 23 = .ok (.putfield 18, 3) := by decide +kernel
theorem dX9_init_26 : decode cX9_init 26 = .ok (.aload_n 0, 1) := by decide +kernel
theorem dX9_init_27 : decode cX9_init 27 = .ok (.aload_n 1, 1) := by decide +kernel
theorem dX9_init_28 : decode cX9_init 28 = .ok (.putfield 22, 3) := by decide +kernel
theorem dX9_init_31 : decode cX9_init 31 = .ok (.aload_n 0, 1) := by decide +kernel
theorem dX9_init_32 : decode cX9_init 32 = .ok (.aload_n 2, 1) := by decide +kernel
theorem dX9_init_33 : decode cX9_init 33 = .ok (.putfield 26, 3) := by decide +kernel
theorem dX9_init_36 : decode cX9_init 36 = .ok (.return_, 1) := by decide +kernel
set_option maxRecDepth 100000 in
theorem mw_wsX10_init_42 : (.code yX8_init cX8_init 1 none : Cond) ∈ wsX10_init := List.mem_of_getElem? (i := 42) rfl
set_option maxRecDepth 100000 in
theorem mw_wsX10_init_44 : (.fieldLink RX8 9 "NothingJudge$Tokens" "packed" "[I" : Cond) ∈ wsX10_init := List.mem_of_getElem? (i := 44) (by decide +kernel)
set_option maxRecDepth 100000 in
theorem mw_wsX10_init_39 : (.arrayClass .int : Cond) ∈ wsX10_init := List.mem_of_getElem? (i := 39) (by decide +kernel)
set_option maxRecDepth 100000 in
theorem mw_wsX10_init_3 : (.code objectInit ⟨#[0xb1]⟩ 1 none : Cond) ∈ wsX10_init := List.mem_of_getElem? (i := 3) rfl
set_option maxRecDepth 100000 in
theorem mw_wsX10_init_2 : (.instanceMethod objectInit : Cond) ∈ wsX10_init := List.mem_of_getElem? (i := 2) (by decide +kernel)
set_option maxRecDepth 100000 in
theorem mw_wsX10_init_43 : (.methodLink RX8 3 objectInit : Cond) ∈ wsX10_init := List.mem_of_getElem? (i := 43) (by decide +kernel)
set_option maxRecDepth 20000 in
theorem ggX10_init_X8_init : GoodIn wsX10_init wsX8_init := goodIn_sub (List.forall_mem_cons.mpr ⟨mw_wsX10_init_42, (wK_app (List.forall_mem_cons.mpr ⟨mw_wsX10_init_43, (List.forall_mem_cons.mpr ⟨mw_wsX10_init_2, (List.forall_mem_cons.mpr ⟨mw_wsX10_init_3, (List.forall_mem_cons.mpr ⟨mw_wsX10_init_39, (List.forall_mem_cons.mpr ⟨mw_wsX10_init_44, (fun _ h => absurd h List.not_mem_nil)⟩)⟩)⟩)⟩)⟩) (fun _ h => List.mem_cons_of_mem _ (List.mem_append_left _ (List.mem_append_left _ (List.mem_append_left _ (List.mem_append_left _ (List.mem_append_left _ (List.mem_append_left _ (List.mem_append_left _ (List.mem_append_left _ (List.mem_append_right _ h)))))))))))⟩) (by decide +kernel)
set_option maxRecDepth 20000 in
theorem gX10_init_X8_init_n15 : GoodIn wsX10_init (wsX8_init) := ggX10_init_X8_init
set_option maxRecDepth 100000 in
theorem mw_wsX10_init_46 : (.code yX3_init cX3_init 1 none : Cond) ∈ wsX10_init := List.mem_of_getElem? (i := 46) rfl
set_option maxRecDepth 100000 in
theorem mw_wsX10_init_64 : (.fieldLink RX0 11 "NothingJudge$Code" "cells" "[I" : Cond) ∈ wsX10_init := List.mem_of_getElem? (i := 64) (by decide +kernel)
set_option maxRecDepth 100000 in
theorem mw_wsX10_init_63 : (.methodLink RX0 5 objectInit : Cond) ∈ wsX10_init := List.mem_of_getElem? (i := 63) (by decide +kernel)
set_option maxRecDepth 100000 in
theorem mw_wsX10_init_62 : (.code yX0_init cX0_init 1 none : Cond) ∈ wsX10_init := List.mem_of_getElem? (i := 62) rfl
set_option maxRecDepth 100000 in
theorem mw_wsX10_init_61 : (.instanceMethod yX0_init : Cond) ∈ wsX10_init := List.mem_of_getElem? (i := 61) (by decide +kernel)
set_option maxRecDepth 100000 in
theorem mw_wsX10_init_60 : (.fieldLink RX3 43 "NothingJudge$Program" "first" "I" : Cond) ∈ wsX10_init := List.mem_of_getElem? (i := 60) (by decide +kernel)
set_option maxRecDepth 100000 in
theorem mw_wsX10_init_59 : (.fieldLink RX3 40 "NothingJudge$Program" "testPlace" "[I" : Cond) ∈ wsX10_init := List.mem_of_getElem? (i := 59) (by decide +kernel)
set_option maxRecDepth 100000 in
theorem mw_wsX10_init_58 : (.fieldLink RX3 37 "NothingJudge$Program" "testOwner" "[I" : Cond) ∈ wsX10_init := List.mem_of_getElem? (i := 58) (by decide +kernel)
set_option maxRecDepth 100000 in
theorem mw_wsX10_init_57 : (.fieldLink RX3 34 "NothingJudge$Program" "useName" "[I" : Cond) ∈ wsX10_init := List.mem_of_getElem? (i := 57) (by decide +kernel)
set_option maxRecDepth 100000 in
theorem mw_wsX10_init_56 : (.fieldLink RX3 31 "NothingJudge$Program" "usePlace" "[I" : Cond) ∈ wsX10_init := List.mem_of_getElem? (i := 56) (by decide +kernel)
set_option maxRecDepth 100000 in
theorem mw_wsX10_init_55 : (.fieldLink RX3 28 "NothingJudge$Program" "useOwner" "[I" : Cond) ∈ wsX10_init := List.mem_of_getElem? (i := 55) (by decide +kernel)
set_option maxRecDepth 100000 in
theorem mw_wsX10_init_54 : (.fieldLink RX3 25 "NothingJudge$Program" "parameters" "[I" : Cond) ∈ wsX10_init := List.mem_of_getElem? (i := 54) (by decide +kernel)
set_option maxRecDepth 100000 in
theorem mw_wsX10_init_53 : (.fieldLink RX3 22 "NothingJudge$Program" "arity" "[I" : Cond) ∈ wsX10_init := List.mem_of_getElem? (i := 53) (by decide +kernel)
set_option maxRecDepth 100000 in
theorem mw_wsX10_init_52 : (.fieldLink RX3 18 "NothingJudge$Program" "opening" "[I" : Cond) ∈ wsX10_init := List.mem_of_getElem? (i := 52) (by decide +kernel)
set_option maxRecDepth 100000 in
theorem mw_wsX10_init_51 : (.fieldLink RX3 12 "NothingJudge$Program" "code" "LNothingJudge$Code;" : Cond) ∈ wsX10_init := List.mem_of_getElem? (i := 51) (by decide +kernel)
set_option maxRecDepth 100000 in
theorem mw_wsX10_init_50 : (.initialized RX0 : Cond) ∈ wsX10_init := List.mem_of_getElem? (i := 50) (by decide +kernel)
set_option maxRecDepth 100000 in
theorem mw_wsX10_init_49 : (.instantiable RX0 2 : Cond) ∈ wsX10_init := List.mem_of_getElem? (i := 49) (by decide +kernel)
set_option maxRecDepth 100000 in
theorem mw_wsX10_init_48 : (.classLink RX3 9 RX0 : Cond) ∈ wsX10_init := List.mem_of_getElem? (i := 48) (by decide +kernel)
set_option maxRecDepth 100000 in
theorem mw_wsX10_init_47 : (.methodLink RX3 3 objectInit : Cond) ∈ wsX10_init := List.mem_of_getElem? (i := 47) (by decide +kernel)
set_option maxRecDepth 20000 in
theorem ggX10_init_X3_init : GoodIn wsX10_init wsX3_init := goodIn_sub (List.forall_mem_cons.mpr ⟨mw_wsX10_init_46, (wK_app (wK_app (List.forall_mem_cons.mpr ⟨mw_wsX10_init_47, (List.forall_mem_cons.mpr ⟨mw_wsX10_init_2, (List.forall_mem_cons.mpr ⟨mw_wsX10_init_3, (List.forall_mem_cons.mpr ⟨mw_wsX10_init_48, (List.forall_mem_cons.mpr ⟨mw_wsX10_init_49, (List.forall_mem_cons.mpr ⟨mw_wsX10_init_50, (List.forall_mem_cons.mpr ⟨mw_wsX10_init_51, (List.forall_mem_cons.mpr ⟨mw_wsX10_init_39, (List.forall_mem_cons.mpr ⟨mw_wsX10_init_52, (List.forall_mem_cons.mpr ⟨mw_wsX10_init_53, (List.forall_mem_cons.mpr ⟨mw_wsX10_init_54, (List.forall_mem_cons.mpr ⟨mw_wsX10_init_55, (List.forall_mem_cons.mpr ⟨mw_wsX10_init_56, (List.forall_mem_cons.mpr ⟨mw_wsX10_init_57, (List.forall_mem_cons.mpr ⟨mw_wsX10_init_58, (List.forall_mem_cons.mpr ⟨mw_wsX10_init_59, (List.forall_mem_cons.mpr ⟨mw_wsX10_init_60, (List.forall_mem_cons.mpr ⟨mw_wsX10_init_61, (List.forall_mem_cons.mpr ⟨mw_wsX10_init_62, (List.forall_mem_cons.mpr ⟨mw_wsX10_init_63, (List.forall_mem_cons.mpr ⟨mw_wsX10_init_64, (fun _ h => absurd h List.not_mem_nil)⟩)⟩)⟩)⟩)⟩)⟩)⟩)⟩)⟩)⟩)⟩)⟩)⟩)⟩)⟩)⟩)⟩)⟩)⟩)⟩)⟩) (fun _ h => List.mem_cons_of_mem _ (List.mem_append_right _ h))) (fun _ h => List.mem_cons_of_mem _ (List.mem_append_left _ (List.mem_append_left _ (List.mem_append_left _ (List.mem_append_left _ (List.mem_append_left _ (List.mem_append_left _ (List.mem_append_left _ (List.mem_append_right _ h))))))))))⟩) (by decide +kernel)
set_option maxRecDepth 20000 in
theorem gX10_init_X3_init_n22 : GoodIn wsX10_init (wsX3_init) := ggX10_init_X3_init
set_option maxRecDepth 100000 in
theorem mw_wsX10_init_67 : (.code yX4_init cX4_init 3 none : Cond) ∈ wsX10_init := List.mem_of_getElem? (i := 67) rfl
set_option maxRecDepth 100000 in
theorem mw_wsX10_init_75 : (.fieldLink RX4 36 "NothingJudge$Reader" "code" "LNothingJudge$Code;" : Cond) ∈ wsX10_init := List.mem_of_getElem? (i := 75) (by decide +kernel)
set_option maxRecDepth 100000 in
theorem mw_wsX10_init_74 : (.fieldLink RX4 30 "NothingJudge$Program" "code" "LNothingJudge$Code;" : Cond) ∈ wsX10_init := List.mem_of_getElem? (i := 74) (by decide +kernel)
set_option maxRecDepth 100000 in
theorem mw_wsX10_init_73 : (.fieldLink RX4 26 "NothingJudge$Reader" "program" "LNothingJudge$Program;" : Cond) ∈ wsX10_init := List.mem_of_getElem? (i := 73) (by decide +kernel)
set_option maxRecDepth 100000 in
theorem mw_wsX10_init_72 : (.fieldLink RX4 22 "NothingJudge$Reader" "tokens" "LNothingJudge$Tokens;" : Cond) ∈ wsX10_init := List.mem_of_getElem? (i := 72) (by decide +kernel)
set_option maxRecDepth 100000 in
theorem mw_wsX10_init_71 : (.fieldLink RX4 18 "NothingJudge$Reader" "wrongPlace" "I" : Cond) ∈ wsX10_init := List.mem_of_getElem? (i := 71) (by decide +kernel)
set_option maxRecDepth 100000 in
theorem mw_wsX10_init_70 : (.fieldLink RX4 15 "NothingJudge$Reader" "openAt" "[I" : Cond) ∈ wsX10_init := List.mem_of_getElem? (i := 70) (by decide +kernel)
set_option maxRecDepth 100000 in
theorem mw_wsX10_init_69 : (.fieldLink RX4 9 "NothingJudge$Reader" "openKind" "[I" : Cond) ∈ wsX10_init := List.mem_of_getElem? (i := 69) (by decide +kernel)
set_option maxRecDepth 100000 in
theorem mw_wsX10_init_68 : (.methodLink RX4 3 objectInit : Cond) ∈ wsX10_init := List.mem_of_getElem? (i := 68) (by decide +kernel)
set_option maxRecDepth 20000 in
theorem ggX10_init_X4_init : GoodIn wsX10_init wsX4_init := goodIn_sub (List.forall_mem_cons.mpr ⟨mw_wsX10_init_67, (wK_app (wK_app (List.forall_mem_cons.mpr ⟨mw_wsX10_init_68, (List.forall_mem_cons.mpr ⟨mw_wsX10_init_2, (List.forall_mem_cons.mpr ⟨mw_wsX10_init_3, (List.forall_mem_cons.mpr ⟨mw_wsX10_init_39, (List.forall_mem_cons.mpr ⟨mw_wsX10_init_69, (List.forall_mem_cons.mpr ⟨mw_wsX10_init_70, (List.forall_mem_cons.mpr ⟨mw_wsX10_init_71, (List.forall_mem_cons.mpr ⟨mw_wsX10_init_72, (List.forall_mem_cons.mpr ⟨mw_wsX10_init_73, (List.forall_mem_cons.mpr ⟨mw_wsX10_init_74, (List.forall_mem_cons.mpr ⟨mw_wsX10_init_75, (fun _ h => absurd h List.not_mem_nil)⟩)⟩)⟩)⟩)⟩)⟩)⟩)⟩)⟩)⟩)⟩) (fun _ h => List.mem_cons_of_mem _ (List.mem_append_left _ (List.mem_append_left _ (List.mem_append_left _ (List.mem_append_left _ (List.mem_append_left _ (List.mem_append_left _ (List.mem_append_right _ h))))))))) (fun _ h => List.mem_cons_of_mem _ (List.mem_append_left _ (List.mem_append_left _ (List.mem_append_left _ (List.mem_append_left _ (List.mem_append_left _ (List.mem_append_left _ (List.mem_append_left _ (List.mem_append_right _ h))))))))))⟩) (by decide +kernel)
set_option maxRecDepth 20000 in
theorem gX10_init_X4_init : GoodIn wsX10_init (wsX4_init) := ggX10_init_X4_init
set_option maxRecDepth 100000 in
theorem mw_wsX10_init_78 : (.code yX7_init cX7_init 2 none : Cond) ∈ wsX10_init := List.mem_of_getElem? (i := 78) rfl
set_option maxRecDepth 100000 in
theorem mw_wsX10_init_82 : (.fieldLink RX7 19 "NothingJudge$Scene" "program" "LNothingJudge$Program;" : Cond) ∈ wsX10_init := List.mem_of_getElem? (i := 82) (by decide +kernel)
set_option maxRecDepth 100000 in
theorem mw_wsX10_init_81 : (.fieldLink RX7 15 "NothingJudge$Scene" "told" "[I" : Cond) ∈ wsX10_init := List.mem_of_getElem? (i := 81) (by decide +kernel)
set_option maxRecDepth 100000 in
theorem mw_wsX10_init_80 : (.fieldLink RX7 9 "NothingJudge$Scene" "start" "I" : Cond) ∈ wsX10_init := List.mem_of_getElem? (i := 80) (by decide +kernel)
set_option maxRecDepth 100000 in
theorem mw_wsX10_init_79 : (.methodLink RX7 3 objectInit : Cond) ∈ wsX10_init := List.mem_of_getElem? (i := 79) (by decide +kernel)
set_option maxRecDepth 20000 in
theorem ggX10_init_X7_init : GoodIn wsX10_init wsX7_init := goodIn_sub (List.forall_mem_cons.mpr ⟨mw_wsX10_init_78, (wK_app (List.forall_mem_cons.mpr ⟨mw_wsX10_init_79, (List.forall_mem_cons.mpr ⟨mw_wsX10_init_2, (List.forall_mem_cons.mpr ⟨mw_wsX10_init_3, (List.forall_mem_cons.mpr ⟨mw_wsX10_init_80, (List.forall_mem_cons.mpr ⟨mw_wsX10_init_39, (List.forall_mem_cons.mpr ⟨mw_wsX10_init_81, (List.forall_mem_cons.mpr ⟨mw_wsX10_init_82, (fun _ h => absurd h List.not_mem_nil)⟩)⟩)⟩)⟩)⟩)⟩)⟩) (fun _ h => List.mem_cons_of_mem _ (List.mem_append_left _ (List.mem_append_left _ (List.mem_append_left _ (List.mem_append_left _ (List.mem_append_left _ (List.mem_append_right _ h))))))))⟩) (by decide +kernel)
set_option maxRecDepth 20000 in
theorem gX10_init_X7_init : GoodIn wsX10_init (wsX7_init) := ggX10_init_X7_init
set_option maxRecDepth 100000 in
theorem mw_wsX10_init_85 : (.code yX1_init cX1_init 2 none : Cond) ∈ wsX10_init := List.mem_of_getElem? (i := 85) rfl
set_option maxRecDepth 100000 in
theorem mw_wsX10_init_98 : (.fieldLink RX1 49 "NothingJudge$Facts" "code" "LNothingJudge$Code;" : Cond) ∈ wsX10_init := List.mem_of_getElem? (i := 98) (by decide +kernel)
set_option maxRecDepth 100000 in
theorem mw_wsX10_init_97 : (.fieldLink RX1 43 "NothingJudge$Program" "code" "LNothingJudge$Code;" : Cond) ∈ wsX10_init := List.mem_of_getElem? (i := 97) (by decide +kernel)
set_option maxRecDepth 100000 in
theorem mw_wsX10_init_96 : (.fieldLink RX1 42 "NothingJudge$Facts" "program" "LNothingJudge$Program;" : Cond) ∈ wsX10_init := List.mem_of_getElem? (i := 96) (by decide +kernel)
set_option maxRecDepth 100000 in
theorem mw_wsX10_init_95 : (.fieldLink RX1 36 "NothingJudge$Scene" "program" "LNothingJudge$Program;" : Cond) ∈ wsX10_init := List.mem_of_getElem? (i := 95) (by decide +kernel)
set_option maxRecDepth 100000 in
theorem mw_wsX10_init_94 : (.fieldLink RX1 32 "NothingJudge$Facts" "scene" "LNothingJudge$Scene;" : Cond) ∈ wsX10_init := List.mem_of_getElem? (i := 94) (by decide +kernel)
set_option maxRecDepth 100000 in
theorem mw_wsX10_init_93 : (.fieldLink RX1 28 "NothingJudge$Facts" "stale" "Z" : Cond) ∈ wsX10_init := List.mem_of_getElem? (i := 93) (by decide +kernel)
set_option maxRecDepth 100000 in
theorem mw_wsX10_init_92 : (.fieldLink RX1 25 "NothingJudge$Facts" "tested" "[I" : Cond) ∈ wsX10_init := List.mem_of_getElem? (i := 92) (by decide +kernel)
set_option maxRecDepth 100000 in
theorem mw_wsX10_init_91 : (.fieldLink RX1 22 "NothingJudge$Facts" "used" "[I" : Cond) ∈ wsX10_init := List.mem_of_getElem? (i := 91) (by decide +kernel)
set_option maxRecDepth 100000 in
theorem mw_wsX10_init_90 : (.fieldLink RX1 19 "NothingJudge$Facts" "marks" "[I" : Cond) ∈ wsX10_init := List.mem_of_getElem? (i := 90) (by decide +kernel)
set_option maxRecDepth 100000 in
theorem mw_wsX10_init_89 : (.fieldLink RX1 15 "NothingJudge$Facts" "seenAt" "[I" : Cond) ∈ wsX10_init := List.mem_of_getElem? (i := 89) (by decide +kernel)
set_option maxRecDepth 100000 in
theorem mw_wsX10_init_88 : (.fieldLink RX1 9 "NothingJudge$Facts" "state" "[J" : Cond) ∈ wsX10_init := List.mem_of_getElem? (i := 88) (by decide +kernel)
set_option maxRecDepth 100000 in
theorem mw_wsX10_init_87 : (.arrayClass .long : Cond) ∈ wsX10_init := List.mem_of_getElem? (i := 87) (by decide +kernel)
set_option maxRecDepth 100000 in
theorem mw_wsX10_init_86 : (.methodLink RX1 3 objectInit : Cond) ∈ wsX10_init := List.mem_of_getElem? (i := 86) (by decide +kernel)
set_option maxRecDepth 20000 in
theorem ggX10_init_X1_init : GoodIn wsX10_init wsX1_init := goodIn_sub (List.forall_mem_cons.mpr ⟨mw_wsX10_init_85, (wK_app (wK_app (wK_app (List.forall_mem_cons.mpr ⟨mw_wsX10_init_86, (List.forall_mem_cons.mpr ⟨mw_wsX10_init_2, (List.forall_mem_cons.mpr ⟨mw_wsX10_init_3, (List.forall_mem_cons.mpr ⟨mw_wsX10_init_87, (List.forall_mem_cons.mpr ⟨mw_wsX10_init_88, (List.forall_mem_cons.mpr ⟨mw_wsX10_init_39, (List.forall_mem_cons.mpr ⟨mw_wsX10_init_89, (List.forall_mem_cons.mpr ⟨mw_wsX10_init_90, (List.forall_mem_cons.mpr ⟨mw_wsX10_init_91, (List.forall_mem_cons.mpr ⟨mw_wsX10_init_92, (List.forall_mem_cons.mpr ⟨mw_wsX10_init_93, (List.forall_mem_cons.mpr ⟨mw_wsX10_init_94, (List.forall_mem_cons.mpr ⟨mw_wsX10_init_95, (List.forall_mem_cons.mpr ⟨mw_wsX10_init_96, (List.forall_mem_cons.mpr ⟨mw_wsX10_init_97, (List.forall_mem_cons.mpr ⟨mw_wsX10_init_98, (fun _ h => absurd h List.not_mem_nil)⟩)⟩)⟩)⟩)⟩)⟩)⟩)⟩)⟩)⟩)⟩)⟩)⟩)⟩)⟩)⟩) (fun _ h => List.mem_cons_of_mem _ (List.mem_append_left _ (List.mem_append_left _ (List.mem_append_left _ (List.mem_append_left _ (List.mem_append_right _ h))))))) (fun _ h => List.mem_cons_of_mem _ (List.mem_append_left _ (List.mem_append_left _ (List.mem_append_left _ (List.mem_append_left _ (List.mem_append_left _ (List.mem_append_right _ h)))))))) (fun _ h => List.mem_cons_of_mem _ (List.mem_append_left _ (List.mem_append_left _ (List.mem_append_left _ (List.mem_append_left _ (List.mem_append_left _ (List.mem_append_left _ (List.mem_append_left _ (List.mem_append_right _ h))))))))))⟩) (by decide +kernel)
set_option maxRecDepth 20000 in
theorem gX10_init_X1_init : GoodIn wsX10_init (wsX1_init) := ggX10_init_X1_init
set_option maxRecDepth 100000 in
theorem mw_wsX10_init_101 : (.code yX6_init cX6_init 2 none : Cond) ∈ wsX10_init := List.mem_of_getElem? (i := 101) rfl
set_option maxRecDepth 100000 in
theorem mw_wsX10_init_110 : (.fieldLink RX6 38 "NothingJudge$Runner" "code" "LNothingJudge$Code;" : Cond) ∈ wsX10_init := List.mem_of_getElem? (i := 110) (by decide +kernel)
set_option maxRecDepth 100000 in
theorem mw_wsX10_init_109 : (.fieldLink RX6 32 "NothingJudge$Program" "code" "LNothingJudge$Code;" : Cond) ∈ wsX10_init := List.mem_of_getElem? (i := 109) (by decide +kernel)
set_option maxRecDepth 100000 in
theorem mw_wsX10_init_108 : (.fieldLink RX6 31 "NothingJudge$Runner" "program" "LNothingJudge$Program;" : Cond) ∈ wsX10_init := List.mem_of_getElem? (i := 108) (by decide +kernel)
set_option maxRecDepth 100000 in
theorem mw_wsX10_init_107 : (.fieldLink RX6 25 "NothingJudge$Scene" "program" "LNothingJudge$Program;" : Cond) ∈ wsX10_init := List.mem_of_getElem? (i := 107) (by decide +kernel)
set_option maxRecDepth 100000 in
theorem mw_wsX10_init_106 : (.fieldLink RX6 21 "NothingJudge$Runner" "scene" "LNothingJudge$Scene;" : Cond) ∈ wsX10_init := List.mem_of_getElem? (i := 106) (by decide +kernel)
set_option maxRecDepth 100000 in
theorem mw_wsX10_init_105 : (.fieldLink RX6 18 "NothingJudge$Runner" "fields" "[I" : Cond) ∈ wsX10_init := List.mem_of_getElem? (i := 105) (by decide +kernel)
set_option maxRecDepth 100000 in
theorem mw_wsX10_init_104 : (.fieldLink RX6 15 "NothingJudge$Runner" "back" "[I" : Cond) ∈ wsX10_init := List.mem_of_getElem? (i := 104) (by decide +kernel)
set_option maxRecDepth 100000 in
theorem mw_wsX10_init_103 : (.fieldLink RX6 11 "NothingJudge$Runner" "names" "[I" : Cond) ∈ wsX10_init := List.mem_of_getElem? (i := 103) (by decide +kernel)
set_option maxRecDepth 100000 in
theorem mw_wsX10_init_102 : (.methodLink RX6 3 objectInit : Cond) ∈ wsX10_init := List.mem_of_getElem? (i := 102) (by decide +kernel)
set_option maxRecDepth 20000 in
theorem ggX10_init_X6_init : GoodIn wsX10_init wsX6_init := goodIn_sub (List.forall_mem_cons.mpr ⟨mw_wsX10_init_101, (wK_app (wK_app (wK_app (List.forall_mem_cons.mpr ⟨mw_wsX10_init_102, (List.forall_mem_cons.mpr ⟨mw_wsX10_init_2, (List.forall_mem_cons.mpr ⟨mw_wsX10_init_3, (List.forall_mem_cons.mpr ⟨mw_wsX10_init_39, (List.forall_mem_cons.mpr ⟨mw_wsX10_init_103, (List.forall_mem_cons.mpr ⟨mw_wsX10_init_104, (List.forall_mem_cons.mpr ⟨mw_wsX10_init_105, (List.forall_mem_cons.mpr ⟨mw_wsX10_init_106, (List.forall_mem_cons.mpr ⟨mw_wsX10_init_107, (List.forall_mem_cons.mpr ⟨mw_wsX10_init_108, (List.forall_mem_cons.mpr ⟨mw_wsX10_init_109, (List.forall_mem_cons.mpr ⟨mw_wsX10_init_110, (fun _ h => absurd h List.not_mem_nil)⟩)⟩)⟩)⟩)⟩)⟩)⟩)⟩)⟩)⟩)⟩)⟩) (fun _ h => List.mem_cons_of_mem _ (List.mem_append_left _ (List.mem_append_left _ (List.mem_append_left _ (List.mem_append_right _ h)))))) (fun _ h => List.mem_cons_of_mem _ (List.mem_append_left _ (List.mem_append_left _ (List.mem_append_left _ (List.mem_append_left _ (List.mem_append_left _ (List.mem_append_right _ h)))))))) (fun _ h => List.mem_cons_of_mem _ (List.mem_append_left _ (List.mem_append_left _ (List.mem_append_left _ (List.mem_append_left _ (List.mem_append_left _ (List.mem_append_left _ (List.mem_append_left _ (List.mem_append_right _ h))))))))))⟩) (by decide +kernel)
set_option maxRecDepth 20000 in
theorem gX10_init_X6_init : GoodIn wsX10_init (wsX6_init) := ggX10_init_X6_init
set_option maxRecDepth 100000 in
theorem mw_wsX10_init_113 : (.code yX9_init cX9_init 3 none : Cond) ∈ wsX10_init := List.mem_of_getElem? (i := 113) rfl
set_option maxRecDepth 100000 in
theorem mw_wsX10_init_119 : (.fieldLink RX9 26 "NothingJudge$Trials" "runner" "LNothingJudge$Runner;" : Cond) ∈ wsX10_init := List.mem_of_getElem? (i := 119) (by decide +kernel)
set_option maxRecDepth 100000 in
theorem mw_wsX10_init_118 : (.fieldLink RX9 22 "NothingJudge$Trials" "scene" "LNothingJudge$Scene;" : Cond) ∈ wsX10_init := List.mem_of_getElem? (i := 118) (by decide +kernel)
set_option maxRecDepth 100000 in
theorem mw_wsX10_init_117 : (.fieldLink RX9 18 "NothingJudge$Trials" "stale" "Z" : Cond) ∈ wsX10_init := List.mem_of_getElem? (i := 117) (by decide +kernel)
set_option maxRecDepth 100000 in
theorem mw_wsX10_init_116 : (.fieldLink RX9 15 "NothingJudge$Trials" "knownFor" "[I" : Cond) ∈ wsX10_init := List.mem_of_getElem? (i := 116) (by decide +kernel)
set_option maxRecDepth 100000 in
theorem mw_wsX10_init_115 : (.fieldLink RX9 9 "NothingJudge$Trials" "first" "[I" : Cond) ∈ wsX10_init := List.mem_of_getElem? (i := 115) (by decide +kernel)
set_option maxRecDepth 100000 in
theorem mw_wsX10_init_114 : (.methodLink RX9 3 objectInit : Cond) ∈ wsX10_init := List.mem_of_getElem? (i := 114) (by decide +kernel)
set_option maxRecDepth 20000 in
theorem ggX10_init_X9_init : GoodIn wsX10_init wsX9_init := goodIn_sub (List.forall_mem_cons.mpr ⟨mw_wsX10_init_113, (wK_app (List.forall_mem_cons.mpr ⟨mw_wsX10_init_114, (List.forall_mem_cons.mpr ⟨mw_wsX10_init_2, (List.forall_mem_cons.mpr ⟨mw_wsX10_init_3, (List.forall_mem_cons.mpr ⟨mw_wsX10_init_39, (List.forall_mem_cons.mpr ⟨mw_wsX10_init_115, (List.forall_mem_cons.mpr ⟨mw_wsX10_init_116, (List.forall_mem_cons.mpr ⟨mw_wsX10_init_117, (List.forall_mem_cons.mpr ⟨mw_wsX10_init_118, (List.forall_mem_cons.mpr ⟨mw_wsX10_init_119, (fun _ h => absurd h List.not_mem_nil)⟩)⟩)⟩)⟩)⟩)⟩)⟩)⟩)⟩) (fun _ h => List.mem_cons_of_mem _ (List.mem_append_left _ (List.mem_append_left _ (List.mem_append_right _ h)))))⟩) (by decide +kernel)
set_option maxRecDepth 20000 in
theorem gX10_init_X9_init : GoodIn wsX10_init (wsX9_init) := ggX10_init_X9_init
set_option maxRecDepth 100000 in
theorem mw_wsX10_init_122 : (.code yX2_init cX2_init 2 none : Cond) ∈ wsX10_init := List.mem_of_getElem? (i := 122) rfl
set_option maxRecDepth 100000 in
theorem mw_wsX10_init_129 : (.fieldLink RX2 29 "NothingJudge$Mender" "facts" "LNothingJudge$Facts;" : Cond) ∈ wsX10_init := List.mem_of_getElem? (i := 129) (by decide +kernel)
set_option maxRecDepth 100000 in
theorem mw_wsX10_init_128 : (.fieldLink RX2 25 "NothingJudge$Mender" "cost" "I" : Cond) ∈ wsX10_init := List.mem_of_getElem? (i := 128) (by decide +kernel)
set_option maxRecDepth 100000 in
theorem mw_wsX10_init_127 : (.fieldLink RX2 21 "NothingJudge$Mender" "stale" "Z" : Cond) ∈ wsX10_init := List.mem_of_getElem? (i := 127) (by decide +kernel)
set_option maxRecDepth 100000 in
theorem mw_wsX10_init_126 : (.fieldLink RX2 18 "NothingJudge$Mender" "heldNames" "[I" : Cond) ∈ wsX10_init := List.mem_of_getElem? (i := 126) (by decide +kernel)
set_option maxRecDepth 100000 in
theorem mw_wsX10_init_125 : (.fieldLink RX2 15 "NothingJudge$Mender" "candidates" "[I" : Cond) ∈ wsX10_init := List.mem_of_getElem? (i := 125) (by decide +kernel)
set_option maxRecDepth 100000 in
theorem mw_wsX10_init_124 : (.fieldLink RX2 9 "NothingJudge$Mender" "prices" "[I" : Cond) ∈ wsX10_init := List.mem_of_getElem? (i := 124) (by decide +kernel)
set_option maxRecDepth 100000 in
theorem mw_wsX10_init_123 : (.methodLink RX2 3 objectInit : Cond) ∈ wsX10_init := List.mem_of_getElem? (i := 123) (by decide +kernel)
set_option maxRecDepth 20000 in
theorem ggX10_init_X2_init : GoodIn wsX10_init wsX2_init := goodIn_sub (List.forall_mem_cons.mpr ⟨mw_wsX10_init_122, (wK_app (List.forall_mem_cons.mpr ⟨mw_wsX10_init_123, (List.forall_mem_cons.mpr ⟨mw_wsX10_init_2, (List.forall_mem_cons.mpr ⟨mw_wsX10_init_3, (List.forall_mem_cons.mpr ⟨mw_wsX10_init_39, (List.forall_mem_cons.mpr ⟨mw_wsX10_init_124, (List.forall_mem_cons.mpr ⟨mw_wsX10_init_125, (List.forall_mem_cons.mpr ⟨mw_wsX10_init_126, (List.forall_mem_cons.mpr ⟨mw_wsX10_init_127, (List.forall_mem_cons.mpr ⟨mw_wsX10_init_128, (List.forall_mem_cons.mpr ⟨mw_wsX10_init_129, (fun _ h => absurd h List.not_mem_nil)⟩)⟩)⟩)⟩)⟩)⟩)⟩)⟩)⟩)⟩) (fun _ h => List.mem_cons_of_mem _ (List.mem_append_left _ (List.mem_append_right _ h))))⟩) (by decide +kernel)
set_option maxRecDepth 20000 in
theorem gX10_init_X2_init : GoodIn wsX10_init (wsX2_init) := ggX10_init_X2_init
theorem dX10_init_0 : decode cX10_init 0 = .ok (.aload_n 0, 1) := by decide +kernel
theorem dX10_init_1 : decode cX10_init 1 = .ok (.invokespecial 3, 3) := by decide +kernel
theorem dX10_init_4 : decode cX10_init 4 = .ok (.aload_n 0, 1) := by decide +kernel
theorem dX10_init_5 : decode cX10_init 5 = .ok (.sipush 1200, 3) := by decide +kernel
theorem dX10_init_8 : decode cX10_init 8 = .ok (.newarray .byte, 2) := by decide +kernel
theorem dX10_init_10 : decode cX10_init 10 = .ok (.putfield 9, 3) := by decide +kernel
theorem dX10_init_13 : decode cX10_init 13 = .ok (.aload_n 0, 1) := by decide +kernel
theorem dX10_init_14 : decode cX10_init 14 = .ok (.new 13, 3) := by decide +kernel
theorem dX10_init_17 : decode cX10_init 17 = .ok (.dup, 1) := by decide +kernel
theorem dX10_init_18 : decode cX10_init 18 = .ok (.invokespecial 15, 3) := by decide +kernel
theorem dX10_init_21 : decode cX10_init 21 = .ok (.putfield 16, 3) := by decide +kernel
theorem dX10_init_24 : decode cX10_init 24 = .ok (.aload_n 0, 1) := by decide +kernel
theorem dX10_init_25 : decode cX10_init 25 = .ok (.new 20, 3) := by decide +kernel
theorem dX10_init_28 : decode cX10_init 28 = .ok (.dup, 1) := by decide +kernel
theorem dX10_init_29 : decode cX10_init 29 = .ok (.invokespecial 22, 3) := by decide +kernel
theorem dX10_init_32 : decode cX10_init 32 = .ok (.putfield 23, 3) := by decide +kernel
theorem dX10_init_35 : decode cX10_init 35 = .ok (.aload_n 0, 1) := by decide +kernel
theorem dX10_init_36 : decode cX10_init 36 = .ok (.new 27, 3) := by decide +kernel
theorem dX10_init_39 : decode cX10_init 39 = .ok (.dup, 1) := by decide +kernel
theorem dX10_init_40 : decode cX10_init 40 = .ok (.aload_n 0, 1) := by decide +kernel
theorem dX10_init_41 : decode cX10_init 41 = .ok (.getfield 16, 3) := by decide +kernel
theorem dX10_init_44 : decode cX10_init 44 = .ok (.aload_n 0, 1) := by decide +kernel
theorem dX10_init_45 : decode cX10_init 45 = .ok (.getfield 23, 3) := by decide +kernel
theorem dX10_init_48 : decode cX10_init 48 = .ok (.invokespecial 29, 3) := by decide +kernel
theorem dX10_init_51 : decode cX10_init 51 = .ok (.putfield 32, 3) := by decide +kernel
theorem dX10_init_54 : decode cX10_init 54 = .ok (.aload_n 0, 1) := by decide +kernel
theorem dX10_init_55 : decode cX10_init 55 = .ok (.iconst (-1), 1) := by decide +kernel
theorem dX10_init_56 : decode cX10_init 56 = .ok (.putfield 36, 3) := by decide +kernel
theorem dX10_init_59 : decode cX10_init 59 = .ok (.aload_n 0, 1) := by decide +kernel
theorem dX10_init_60 : decode cX10_init 60 = .ok (.new 40, 3) := by decide +kernel
theorem dX10_init_63 : decode cX10_init 63 = .ok (.dup, 1) := by decide +kernel
theorem dX10_init_64 : decode cX10_init 64 = .ok (.new 20, 3) := by decide +kernel
theorem dX10_init_67 : decode cX10_init 67 = .ok (.dup, 1) := by decide +kernel
theorem dX10_init_68 : decode cX10_init 68 = .ok (.invokespecial 22, 3) := by decide +kernel
theorem dX10_init_71 : decode cX10_init 71 = .ok (.invokespecial 42, 3) := by decide +kernel
theorem dX10_init_74 : decode cX10_init 74 = .ok (.putfield 45, 3) := by decide +kernel
theorem dX10_init_77 : decode cX10_init 77 = .ok (.aload_n 0, 1) := by decide +kernel
theorem dX10_init_78 : decode cX10_init 78 = .ok (.new 49, 3) := by decide +kernel
theorem dX10_init_81 : decode cX10_init 81 = .ok (.dup, 1) := by decide +kernel
theorem dX10_init_82 : decode cX10_init 82 = .ok (.aload_n 0, 1) := by decide +kernel
theorem dX10_init_83 : decode cX10_init 83 = .ok (.getfield 45, 3) := by decide +kernel
theorem dX10_init_86 : decode cX10_init 86 = .ok (.invokespecial 51, 3) := by decide +kernel
theorem dX10_init_89 : decode cX10_init 89 = .ok (.putfield 54, 3) := by decide +kernel
theorem dX10_init_92 : decode cX10_init 92 = .ok (.aload_n 0, 1) := by decide +kernel
theorem dX10_init_93 : decode cX10_init 93 = .ok (.new 58, 3) := by decide +kernel
theorem dX10_init_96 : decode cX10_init 96 = .ok (.dup, 1) := by decide +kernel
theorem dX10_init_97 : decode cX10_init 97 = .ok (.aload_n 0, 1) := by decide +kernel
theorem dX10_init_98 : decode cX10_init 98 = .ok (.getfield 45, 3) := by decide +kernel
theorem dX10_init_101 : decode cX10_init 101 = .ok (.invokespecial 60, 3) := by decide +kernel
theorem dX10_init_104 : decode cX10_init 104 = .ok (.putfield 61, 3) := by decide +kernel
theorem dX10_init_107 : decode cX10_init 107 = .ok (.aload_n 0, 1) := by decide +kernel
theorem dX10_init_108 : decode cX10_init 108 = .ok (.new 65, 3) := by decide +kernel
theorem dX10_init_111 : decode cX10_init 111 = .ok (.dup, 1) := by decide +kernel
theorem dX10_init_112 : decode cX10_init 112 = .ok (.aload_n 0, 1) := by decide +kernel
theorem dX10_init_113 : decode cX10_init 113 = .ok (.getfield 45, 3) := by decide +kernel
theorem dX10_init_116 : decode cX10_init 116 = .ok (.aload_n 0, 1) := by decide +kernel
theorem dX10_init_117 : decode cX10_init 117 = .ok (.getfield 61, 3) := by decide +kernel
theorem dX10_init_120 : decode cX10_init 120 = .ok (.invokespecial 67, 3) := by decide +kernel
theorem dX10_init_123 : decode cX10_init 123 = .ok (.putfield 70, 3) := by decide +kernel
theorem dX10_init_126 : decode cX10_init 126 = .ok (.aload_n 0, 1) := by decide +kernel
theorem dX10_init_127 : decode cX10_init 127 = .ok (.new 74, 3) := by decide +kernel
theorem dX10_init_130 : decode cX10_init 130 = .ok (.dup, 1) := by decide +kernel
theorem dX10_init_131 : decode cX10_init 131 = .ok (.aload_n 0, 1) := by decide +kernel
theorem dX10_init_132 : decode cX10_init 132 = .ok (.getfield 54, 3) := by decide +kernel
theorem dX10_init_135 : decode cX10_init 135 = .ok (.invokespecial 76, 3) := by decide +kernel
theorem dX10_init_138 : decode cX10_init 138 = .ok (.putfield 79, 3) := by decide +kernel
theorem dX10_init_141 : decode cX10_init 141 = .ok (.aload_n 0, 1) := by decide +kernel
theorem dX10_init_142 : decode cX10_init 142 = .ok (.iconst 4, 1) := by decide +kernel
theorem dX10_init_143 : decode cX10_init 143 = .ok (.newarray .int, 2) := by decide +kernel
theorem dX10_init_145 : decode cX10_init 145 = .ok (.dup, 1) := by decide +kernel
theorem dX10_init_146 : decode cX10_init 146 = .ok (.iconst 0, 1) := by decide +kernel
theorem dX10_init_147 : decode cX10_init 147 = .ok (.iconst (-1), 1) := by decide +kernel
theorem dX10_init_148 : decode cX10_init 148 = .ok (.iastore, 1) := by decide +kernel
theorem dX10_init_149 : decode cX10_init 149 = .ok (.dup, 1) := by decide +kernel
theorem dX10_init_150 : decode cX10_init 150 = .ok (.iconst 1, 1) := by decide +kernel
theorem dX10_init_151 : decode cX10_init 151 = .ok (.iconst (-1), 1) := by decide +kernel
theorem dX10_init_152 : decode cX10_init 152 = .ok (.iastore, 1) := by decide +kernel
theorem dX10_init_153 : decode cX10_init 153 = .ok (.dup, 1) := by decide +kernel
theorem dX10_init_154 : decode cX10_init 154 = .ok (.iconst 2, 1) := by decide +kernel
theorem dX10_init_155 : decode cX10_init 155 = .ok (.iconst (-1), 1) := by decide +kernel
theorem dX10_init_156 : decode cX10_init 156 = .ok (.iastore, 1) := by decide +kernel
theorem dX10_init_157 : decode cX10_init 157 = .ok (.dup, 1) := by decide +kernel
theorem dX10_init_158 : decode cX10_init 158 = .ok (.iconst 3, 1) := by decide +kernel
theorem dX10_init_159 : decode cX10_init 159 = .ok (.iconst (-1), 1) := by decide +kernel
theorem dX10_init_160 : decode cX10_init 160 = .ok (.iastore, 1) := by decide +kernel
theorem dX10_init_161 : decode cX10_init 161 = .ok (.putfield 83, 3) := by decide +kernel
theorem dX10_init_164 : decode cX10_init 164 = .ok (.return_, 1) := by decide +kernel
set_option maxRecDepth 100000 in
theorem mw_wsX10_feed_6 : (.code yX10_putNumber cX10_putNumber 3 none : Cond) ∈ wsX10_feed := List.mem_of_getElem? (i := 6) rfl
set_option maxRecDepth 100000 in
theorem mw_wsX10_feed_7 : (.fieldLink RX10 9 "NothingJudge" "tape" "[B" : Cond) ∈ wsX10_feed := List.mem_of_getElem? (i := 7) (by decide +kernel)
set_option maxRecDepth 100000 in
theorem mw_wsX10_feed_1 : (.fieldLink RX10 87 "NothingJudge" "taped" "I" : Cond) ∈ wsX10_feed := List.mem_of_getElem? (i := 1) (by decide +kernel)
set_option maxRecDepth 20000 in
theorem ggX10_feed_X10_putNumber : GoodIn wsX10_feed wsX10_putNumber := goodIn_sub (List.forall_mem_cons.mpr ⟨mw_wsX10_feed_6, (wK_app (List.forall_mem_cons.mpr ⟨mw_wsX10_feed_1, (List.forall_mem_cons.mpr ⟨mw_wsX10_feed_7, (fun _ h => absurd h List.not_mem_nil)⟩)⟩) (fun _ h => List.mem_cons_of_mem _ (List.mem_append_right _ h)))⟩) (by decide +kernel)
set_option maxRecDepth 20000 in
theorem gX10_feed_X10_putNumber : GoodIn wsX10_feed (wsV RX10 90 RX10 yX10_putNumber wsX10_putNumber) := goodIn_app (goodIn_of _ (by decide +kernel)) ggX10_feed_X10_putNumber
theorem dX10_feed_0 : decode cX10_feed 0 = .ok (.aload_n 0, 1) := by decide +kernel
theorem dX10_feed_1 : decode cX10_feed 1 = .ok (.getfield 87, 3) := by decide +kernel
theorem dX10_feed_4 : decode cX10_feed 4 = .ok (.bipush 20, 2) := by decide +kernel
theorem dX10_feed_6 : decode cX10_feed 6 = .ok (.iadd, 1) := by decide +kernel
theorem dX10_feed_7 : decode cX10_feed 7 = .ok (.sipush 1200, 3) := by decide +kernel
theorem dX10_feed_10 : decode cX10_feed 10 = .ok (.if_icmp .le 5, 3) := by decide +kernel
theorem dX10_feed_15 : decode cX10_feed 15 = .ok (.aload_n 0, 1) := by decide +kernel
theorem dX10_feed_16 : decode cX10_feed 16 = .ok (.iload_n 1, 1) := by decide +kernel
theorem dX10_feed_17 : decode cX10_feed 17 = .ok (.invokevirtual 90, 3) := by decide +kernel
theorem dX10_feed_20 : decode cX10_feed 20 = .ok (.aload_n 0, 1) := by decide +kernel
theorem dX10_feed_21 : decode cX10_feed 21 = .ok (.iload_n 2, 1) := by decide +kernel
theorem dX10_feed_22 : decode cX10_feed 22 = .ok (.invokevirtual 90, 3) := by decide +kernel
theorem dX10_feed_25 : decode cX10_feed 25 = .ok (.aload_n 0, 1) := by decide +kernel
theorem dX10_feed_26 : decode cX10_feed 26 = .ok (.iload_n 3, 1) := by decide +kernel
theorem dX10_feed_27 : decode cX10_feed 27 = .ok (.invokevirtual 90, 3) := by decide +kernel
theorem dX10_feed_30 : decode cX10_feed 30 = .ok (.aload_n 0, 1) := by decide +kernel
theorem dX10_feed_31 : decode cX10_feed 31 = .ok (.iload 4, 2) := by decide +kernel
theorem dX10_feed_33 : decode cX10_feed 33 = .ok (.invokevirtual 90, 3) := by decide +kernel
theorem dX10_feed_36 : decode cX10_feed 36 = .ok (.aload_n 0, 1) := by decide +kernel
theorem dX10_feed_37 : decode cX10_feed 37 = .ok (.iload 5, 2) := by decide +kernel
theorem dX10_feed_39 : decode cX10_feed 39 = .ok (.invokevirtual 90, 3) := by decide +kernel
theorem dX10_feed_42 : decode cX10_feed 42 = .ok (.aload_n 0, 1) := by decide +kernel
theorem dX10_feed_43 : decode cX10_feed 43 = .ok (.getfield 87, 3) := by decide +kernel
theorem dX10_feed_46 : decode cX10_feed 46 = .ok (.ireturn, 1) := by decide +kernel
set_option maxRecDepth 100000 in
theorem mw_wsX10_text_18 : (.code yX8_scan cX8_scan 6 none : Cond) ∈ wsX10_text := List.mem_of_getElem? (i := 18) rfl
set_option maxRecDepth 100000 in
theorem mw_wsX10_text_41 : (.methodLink RX8 79 yJ0_length_8abf5 : Cond) ∈ wsX10_text := List.mem_of_getElem? (i := 41) (by decide +kernel)
set_option maxRecDepth 100000 in
theorem mw_wsX10_text_40 : (.code yX8_spells cX8_spells 4 (some .boolean) : Cond) ∈ wsX10_text := List.mem_of_getElem? (i := 40) rfl
set_option maxRecDepth 100000 in
theorem mw_wsX10_text_39 : (.static yX8_spells : Cond) ∈ wsX10_text := List.mem_of_getElem? (i := 39) (by decide +kernel)
set_option maxRecDepth 100000 in
theorem mw_wsX10_text_38 : (.methodLink RX8 59 yX8_spells : Cond) ∈ wsX10_text := List.mem_of_getElem? (i := 38) (by decide +kernel)
set_option maxRecDepth 100000 in
theorem mw_wsX10_text_37 : (.code yX8_kindOfWord cX8_kindOfWord 3 (some .int) : Cond) ∈ wsX10_text := List.mem_of_getElem? (i := 37) rfl
set_option maxRecDepth 100000 in
theorem mw_wsX10_text_36 : (.static yX8_kindOfWord : Cond) ∈ wsX10_text := List.mem_of_getElem? (i := 36) (by decide +kernel)
set_option maxRecDepth 100000 in
theorem mw_wsX10_text_35 : (.methodLink RX8 36 yX8_kindOfWord : Cond) ∈ wsX10_text := List.mem_of_getElem? (i := 35) (by decide +kernel)
set_option maxRecDepth 100000 in
theorem mw_wsX10_text_34 : (.code yX8_endOfWord cX8_endOfWord 4 (some .int) : Cond) ∈ wsX10_text := List.mem_of_getElem? (i := 34) rfl
set_option maxRecDepth 100000 in
theorem mw_wsX10_text_33 : (.selects RX8 yX8_endOfWord yX8_endOfWord : Cond) ∈ wsX10_text := List.mem_of_getElem? (i := 33) (by decide +kernel)
set_option maxRecDepth 100000 in
theorem mw_wsX10_text_32 : (.instanceMethod yX8_endOfWord : Cond) ∈ wsX10_text := List.mem_of_getElem? (i := 32) (by decide +kernel)
set_option maxRecDepth 100000 in
theorem mw_wsX10_text_31 : (.methodLink RX8 32 yX8_endOfWord : Cond) ∈ wsX10_text := List.mem_of_getElem? (i := 31) (by decide +kernel)
set_option maxRecDepth 100000 in
theorem mw_wsX10_text_30 : (.code yX8_isSmall cX8_isSmall 1 (some .boolean) : Cond) ∈ wsX10_text := List.mem_of_getElem? (i := 30) rfl
set_option maxRecDepth 100000 in
theorem mw_wsX10_text_17 : (.initialized RX8 : Cond) ∈ wsX10_text := List.mem_of_getElem? (i := 17) (by decide +kernel)
set_option maxRecDepth 100000 in
theorem mw_wsX10_text_29 : (.static yX8_isSmall : Cond) ∈ wsX10_text := List.mem_of_getElem? (i := 29) (by decide +kernel)
set_option maxRecDepth 100000 in
theorem mw_wsX10_text_28 : (.methodLink RX8 28 yX8_isSmall : Cond) ∈ wsX10_text := List.mem_of_getElem? (i := 28) (by decide +kernel)
set_option maxRecDepth 100000 in
theorem mw_wsX10_text_27 : (.code Lib.Math.max.name Lib.Math.max.code 2 (some .int) : Cond) ∈ wsX10_text := List.mem_of_getElem? (i := 27) rfl
set_option maxRecDepth 100000 in
theorem mw_wsX10_text_26 : (.static Lib.Math.max.name : Cond) ∈ wsX10_text := List.mem_of_getElem? (i := 26) (by decide +kernel)
set_option maxRecDepth 100000 in
theorem mw_wsX10_text_25 : (.methodLink RX8 44 Lib.Math.max.name : Cond) ∈ wsX10_text := List.mem_of_getElem? (i := 25) (by decide +kernel)
set_option maxRecDepth 100000 in
theorem mw_wsX10_text_24 : (.fieldLink RX8 25 "NothingJudge$Tokens" "length" "I" : Cond) ∈ wsX10_text := List.mem_of_getElem? (i := 24) (by decide +kernel)
set_option maxRecDepth 100000 in
theorem mw_wsX10_text_23 : (.code Lib.Math.min.name Lib.Math.min.code 2 (some .int) : Cond) ∈ wsX10_text := List.mem_of_getElem? (i := 23) rfl
set_option maxRecDepth 100000 in
theorem mw_wsX10_text_22 : (.initialized "java/lang/Math" : Cond) ∈ wsX10_text := List.mem_of_getElem? (i := 22) (by decide +kernel)
set_option maxRecDepth 100000 in
theorem mw_wsX10_text_21 : (.static Lib.Math.min.name : Cond) ∈ wsX10_text := List.mem_of_getElem? (i := 21) (by decide +kernel)
set_option maxRecDepth 100000 in
theorem mw_wsX10_text_20 : (.methodLink RX8 19 Lib.Math.min.name : Cond) ∈ wsX10_text := List.mem_of_getElem? (i := 20) (by decide +kernel)
set_option maxRecDepth 100000 in
theorem mw_wsX10_text_19 : (.fieldLink RX8 15 "NothingJudge$Tokens" "size" "I" : Cond) ∈ wsX10_text := List.mem_of_getElem? (i := 19) (by decide +kernel)
set_option maxRecDepth 100000 in
theorem mc_wsX10_text_wsX8_scan_r1 : ∀ w ∈ wsX8_scan_r1, w ∈ wsX10_text := (List.forall_mem_cons.mpr ⟨mw_wsX10_text_19, (List.forall_mem_cons.mpr ⟨mw_wsX10_text_20, (List.forall_mem_cons.mpr ⟨mw_wsX10_text_21, (List.forall_mem_cons.mpr ⟨mw_wsX10_text_22, (List.forall_mem_cons.mpr ⟨mw_wsX10_text_23, (List.forall_mem_cons.mpr ⟨mw_wsX10_text_24, (List.forall_mem_cons.mpr ⟨mw_wsX10_text_25, (List.forall_mem_cons.mpr ⟨mw_wsX10_text_26, (List.forall_mem_cons.mpr ⟨mw_wsX10_text_27, (List.forall_mem_cons.mpr ⟨mw_wsX10_text_28, (List.forall_mem_cons.mpr ⟨mw_wsX10_text_29, (List.forall_mem_cons.mpr ⟨mw_wsX10_text_17, (List.forall_mem_cons.mpr ⟨mw_wsX10_text_30, (List.forall_mem_cons.mpr ⟨mw_wsX10_text_31, (List.forall_mem_cons.mpr ⟨mw_wsX10_text_32, (List.forall_mem_cons.mpr ⟨mw_wsX10_text_33, (List.forall_mem_cons.mpr ⟨mw_wsX10_text_34, (List.forall_mem_cons.mpr ⟨mw_wsX10_text_35, (List.forall_mem_cons.mpr ⟨mw_wsX10_text_36, (List.forall_mem_cons.mpr ⟨mw_wsX10_text_37, (List.forall_mem_cons.mpr ⟨mw_wsX10_text_38, (List.forall_mem_cons.mpr ⟨mw_wsX10_text_39, (List.forall_mem_cons.mpr ⟨mw_wsX10_text_40, (List.forall_mem_cons.mpr ⟨mw_wsX10_text_41, (fun _ h => absurd h List.not_mem_nil)⟩)⟩)⟩)⟩)⟩)⟩)⟩)⟩)⟩)⟩)⟩)⟩)⟩)⟩)⟩)⟩)⟩)⟩)⟩)⟩)⟩)⟩)⟩)⟩)
set_option maxRecDepth 100000 in
theorem mw_wsX10_text_65 : (.methodLink RJ1 9 yJ0_checkIndex_df160 : Cond) ∈ wsX10_text := List.mem_of_getElem? (i := 65) (by decide +kernel)
set_option maxRecDepth 100000 in
theorem mw_wsX10_text_64 : (.code yJ1_charAt_3b067 cJ1_charAt_3b067 2 (some .char) : Cond) ∈ wsX10_text := List.mem_of_getElem? (i := 64) rfl
set_option maxRecDepth 100000 in
theorem mw_wsX10_text_63 : (.initialized RJ1 : Cond) ∈ wsX10_text := List.mem_of_getElem? (i := 63) (by decide +kernel)
set_option maxRecDepth 100000 in
theorem mw_wsX10_text_62 : (.static yJ1_charAt_3b067 : Cond) ∈ wsX10_text := List.mem_of_getElem? (i := 62) (by decide +kernel)
set_option maxRecDepth 100000 in
theorem mw_wsX10_text_61 : (.methodLink RJ0 495 yJ1_charAt_3b067 : Cond) ∈ wsX10_text := List.mem_of_getElem? (i := 61) (by decide +kernel)
set_option maxRecDepth 100000 in
theorem mw_wsX10_text_60 : (.code yJ0_isLatin1_aae02 cJ0_isLatin1_aae02 1 (some .boolean) : Cond) ∈ wsX10_text := List.mem_of_getElem? (i := 60) rfl
set_option maxRecDepth 100000 in
theorem mw_wsX10_text_59 : (.selects RJ0 yJ0_isLatin1_aae02 yJ0_isLatin1_aae02 : Cond) ∈ wsX10_text := List.mem_of_getElem? (i := 59) (by decide +kernel)
set_option maxRecDepth 100000 in
theorem mw_wsX10_text_58 : (.instanceMethod yJ0_isLatin1_aae02 : Cond) ∈ wsX10_text := List.mem_of_getElem? (i := 58) (by decide +kernel)
set_option maxRecDepth 100000 in
theorem mw_wsX10_text_57 : (.methodLink RJ0 492 yJ0_isLatin1_aae02 : Cond) ∈ wsX10_text := List.mem_of_getElem? (i := 57) (by decide +kernel)
set_option maxRecDepth 100000 in
theorem mw_wsX10_text_56 : (.code yJ0_charAt_5068e cJ0_charAt_5068e 2 (some .char) : Cond) ∈ wsX10_text := List.mem_of_getElem? (i := 56) rfl
set_option maxRecDepth 100000 in
theorem mw_wsX10_text_55 : (.selects RJ0 yJ0_charAt_5068e yJ0_charAt_5068e : Cond) ∈ wsX10_text := List.mem_of_getElem? (i := 55) (by decide +kernel)
set_option maxRecDepth 100000 in
theorem mw_wsX10_text_54 : (.instanceMethod yJ0_charAt_5068e : Cond) ∈ wsX10_text := List.mem_of_getElem? (i := 54) (by decide +kernel)
set_option maxRecDepth 100000 in
theorem mw_wsX10_text_53 : (.methodLink RX8 84 yJ0_charAt_5068e : Cond) ∈ wsX10_text := List.mem_of_getElem? (i := 53) (by decide +kernel)
set_option maxRecDepth 100000 in
theorem mw_wsX10_text_52 : (.fieldLink RJ0 15 "java/lang/String" "coder" "B" : Cond) ∈ wsX10_text := List.mem_of_getElem? (i := 52) (by decide +kernel)
set_option maxRecDepth 100000 in
theorem mw_wsX10_text_51 : (.fieldLink RJ0 38 "java/lang/String" "COMPACT_STRINGS" "Z" : Cond) ∈ wsX10_text := List.mem_of_getElem? (i := 51) (by decide +kernel)
set_option maxRecDepth 100000 in
theorem mw_wsX10_text_50 : (.code yJ0_coder_7d493 cJ0_coder_7d493 1 (some .byte) : Cond) ∈ wsX10_text := List.mem_of_getElem? (i := 50) rfl
set_option maxRecDepth 100000 in
theorem mw_wsX10_text_49 : (.selects RJ0 yJ0_coder_7d493 yJ0_coder_7d493 : Cond) ∈ wsX10_text := List.mem_of_getElem? (i := 49) (by decide +kernel)
set_option maxRecDepth 100000 in
theorem mw_wsX10_text_48 : (.instanceMethod yJ0_coder_7d493 : Cond) ∈ wsX10_text := List.mem_of_getElem? (i := 48) (by decide +kernel)
set_option maxRecDepth 100000 in
theorem mw_wsX10_text_47 : (.methodLink RJ0 335 yJ0_coder_7d493 : Cond) ∈ wsX10_text := List.mem_of_getElem? (i := 47) (by decide +kernel)
set_option maxRecDepth 100000 in
theorem mw_wsX10_text_46 : (.fieldLink RJ0 9 "java/lang/String" "value" "[B" : Cond) ∈ wsX10_text := List.mem_of_getElem? (i := 46) (by decide +kernel)
set_option maxRecDepth 100000 in
theorem mw_wsX10_text_45 : (.code yJ0_length_8abf5 cJ0_length_8abf5 1 (some .int) : Cond) ∈ wsX10_text := List.mem_of_getElem? (i := 45) rfl
set_option maxRecDepth 100000 in
theorem mw_wsX10_text_44 : (.initialized RJ0 : Cond) ∈ wsX10_text := List.mem_of_getElem? (i := 44) (by decide +kernel)
set_option maxRecDepth 100000 in
theorem mw_wsX10_text_43 : (.selects RJ0 yJ0_length_8abf5 yJ0_length_8abf5 : Cond) ∈ wsX10_text := List.mem_of_getElem? (i := 43) (by decide +kernel)
set_option maxRecDepth 100000 in
theorem mw_wsX10_text_42 : (.instanceMethod yJ0_length_8abf5 : Cond) ∈ wsX10_text := List.mem_of_getElem? (i := 42) (by decide +kernel)
set_option maxRecDepth 100000 in
theorem mc_wsX10_text_wsX8_scan_r2 : ∀ w ∈ wsX8_scan_r2, w ∈ wsX10_text := (List.forall_mem_cons.mpr ⟨mw_wsX10_text_42, (List.forall_mem_cons.mpr ⟨mw_wsX10_text_43, (List.forall_mem_cons.mpr ⟨mw_wsX10_text_44, (List.forall_mem_cons.mpr ⟨mw_wsX10_text_45, (List.forall_mem_cons.mpr ⟨mw_wsX10_text_46, (List.forall_mem_cons.mpr ⟨mw_wsX10_text_47, (List.forall_mem_cons.mpr ⟨mw_wsX10_text_48, (List.forall_mem_cons.mpr ⟨mw_wsX10_text_49, (List.forall_mem_cons.mpr ⟨mw_wsX10_text_50, (List.forall_mem_cons.mpr ⟨mw_wsX10_text_51, (List.forall_mem_cons.mpr ⟨mw_wsX10_text_52, (List.forall_mem_cons.mpr ⟨mw_wsX10_text_53, (List.forall_mem_cons.mpr ⟨mw_wsX10_text_54, (List.forall_mem_cons.mpr ⟨mw_wsX10_text_55, (List.forall_mem_cons.mpr ⟨mw_wsX10_text_56, (List.forall_mem_cons.mpr ⟨mw_wsX10_text_57, (List.forall_mem_cons.mpr ⟨mw_wsX10_text_58, (List.forall_mem_cons.mpr ⟨mw_wsX10_text_59, (List.forall_mem_cons.mpr ⟨mw_wsX10_text_60, (List.forall_mem_cons.mpr ⟨mw_wsX10_text_61, (List.forall_mem_cons.mpr ⟨mw_wsX10_text_62, (List.forall_mem_cons.mpr ⟨mw_wsX10_text_63, (List.forall_mem_cons.mpr ⟨mw_wsX10_text_64, (List.forall_mem_cons.mpr ⟨mw_wsX10_text_65, (fun _ h => absurd h List.not_mem_nil)⟩)⟩)⟩)⟩)⟩)⟩)⟩)⟩)⟩)⟩)⟩)⟩)⟩)⟩)⟩)⟩)⟩)⟩)⟩)⟩)⟩)⟩)⟩)⟩)
set_option maxRecDepth 100000 in
theorem mw_wsX10_text_89 : (.fieldLink RJ2 63 "java/lang/StringUTF16" "LO_BYTE_SHIFT" "I" : Cond) ∈ wsX10_text := List.mem_of_getElem? (i := 89) (by decide +kernel)
set_option maxRecDepth 100000 in
theorem mw_wsX10_text_88 : (.fieldLink RJ2 59 "java/lang/StringUTF16" "HI_BYTE_SHIFT" "I" : Cond) ∈ wsX10_text := List.mem_of_getElem? (i := 88) (by decide +kernel)
set_option maxRecDepth 100000 in
theorem mw_wsX10_text_87 : (.fieldLink RJ2 44 "java/lang/StringUTF16" "$assertionsDisabled" "Z" : Cond) ∈ wsX10_text := List.mem_of_getElem? (i := 87) (by decide +kernel)
set_option maxRecDepth 100000 in
theorem mw_wsX10_text_86 : (.code yJ2_getChar_3b067 cJ2_getChar_3b067 2 (some .char) : Cond) ∈ wsX10_text := List.mem_of_getElem? (i := 86) rfl
set_option maxRecDepth 100000 in
theorem mw_wsX10_text_85 : (.static yJ2_getChar_3b067 : Cond) ∈ wsX10_text := List.mem_of_getElem? (i := 85) (by decide +kernel)
set_option maxRecDepth 100000 in
theorem mw_wsX10_text_84 : (.methodLink RJ2 71 yJ2_getChar_3b067 : Cond) ∈ wsX10_text := List.mem_of_getElem? (i := 84) (by decide +kernel)
set_option maxRecDepth 100000 in
theorem mw_wsX10_text_83 : (.methodLink RJ2 414 yJ0_checkIndex_df160 : Cond) ∈ wsX10_text := List.mem_of_getElem? (i := 83) (by decide +kernel)
set_option maxRecDepth 100000 in
theorem mw_wsX10_text_82 : (.code yJ2_length_9d52b cJ2_length_9d52b 1 (some .int) : Cond) ∈ wsX10_text := List.mem_of_getElem? (i := 82) rfl
set_option maxRecDepth 100000 in
theorem mw_wsX10_text_81 : (.static yJ2_length_9d52b : Cond) ∈ wsX10_text := List.mem_of_getElem? (i := 81) (by decide +kernel)
set_option maxRecDepth 100000 in
theorem mw_wsX10_text_80 : (.methodLink RJ2 48 yJ2_length_9d52b : Cond) ∈ wsX10_text := List.mem_of_getElem? (i := 80) (by decide +kernel)
set_option maxRecDepth 100000 in
theorem mw_wsX10_text_79 : (.code yJ2_checkIndex_2214a cJ2_checkIndex_2214a 2 none : Cond) ∈ wsX10_text := List.mem_of_getElem? (i := 79) rfl
set_option maxRecDepth 100000 in
theorem mw_wsX10_text_78 : (.static yJ2_checkIndex_2214a : Cond) ∈ wsX10_text := List.mem_of_getElem? (i := 78) (by decide +kernel)
set_option maxRecDepth 100000 in
theorem mw_wsX10_text_77 : (.methodLink RJ2 67 yJ2_checkIndex_2214a : Cond) ∈ wsX10_text := List.mem_of_getElem? (i := 77) (by decide +kernel)
set_option maxRecDepth 100000 in
theorem mw_wsX10_text_76 : (.code yJ2_charAt_3b067 cJ2_charAt_3b067 2 (some .char) : Cond) ∈ wsX10_text := List.mem_of_getElem? (i := 76) rfl
set_option maxRecDepth 100000 in
theorem mw_wsX10_text_75 : (.initialized RJ2 : Cond) ∈ wsX10_text := List.mem_of_getElem? (i := 75) (by decide +kernel)
set_option maxRecDepth 100000 in
theorem mw_wsX10_text_74 : (.static yJ2_charAt_3b067 : Cond) ∈ wsX10_text := List.mem_of_getElem? (i := 74) (by decide +kernel)
set_option maxRecDepth 100000 in
theorem mw_wsX10_text_73 : (.methodLink RJ0 498 yJ2_charAt_3b067 : Cond) ∈ wsX10_text := List.mem_of_getElem? (i := 73) (by decide +kernel)
set_option maxRecDepth 100000 in
theorem mw_wsX10_text_72 : (.code yJ3_checkIndex_8e157 cJ3_checkIndex_8e157 3 (some .int) : Cond) ∈ wsX10_text := List.mem_of_getElem? (i := 72) rfl
set_option maxRecDepth 100000 in
theorem mw_wsX10_text_71 : (.initialized RJ3 : Cond) ∈ wsX10_text := List.mem_of_getElem? (i := 71) (by decide +kernel)
set_option maxRecDepth 100000 in
theorem mw_wsX10_text_70 : (.static yJ3_checkIndex_8e157 : Cond) ∈ wsX10_text := List.mem_of_getElem? (i := 70) (by decide +kernel)
set_option maxRecDepth 100000 in
theorem mw_wsX10_text_69 : (.methodLink RJ0 1059 yJ3_checkIndex_8e157 : Cond) ∈ wsX10_text := List.mem_of_getElem? (i := 69) (by decide +kernel)
set_option maxRecDepth 100000 in
theorem mw_wsX10_text_68 : (.fieldLink RJ0 1053 "jdk/internal/util/Preconditions" "SIOOBE_FORMATTER" "Ljava/util/function/BiFunction;" : Cond) ∈ wsX10_text := List.mem_of_getElem? (i := 68) (by decide +kernel)
set_option maxRecDepth 100000 in
theorem mw_wsX10_text_67 : (.code yJ0_checkIndex_df160 cJ0_checkIndex_df160 2 none : Cond) ∈ wsX10_text := List.mem_of_getElem? (i := 67) rfl
set_option maxRecDepth 100000 in
theorem mw_wsX10_text_66 : (.static yJ0_checkIndex_df160 : Cond) ∈ wsX10_text := List.mem_of_getElem? (i := 66) (by decide +kernel)
set_option maxRecDepth 100000 in
theorem mc_wsX10_text_wsX8_scan_r3 : ∀ w ∈ wsX8_scan_r3, w ∈ wsX10_text := (List.forall_mem_cons.mpr ⟨mw_wsX10_text_66, (List.forall_mem_cons.mpr ⟨mw_wsX10_text_67, (List.forall_mem_cons.mpr ⟨mw_wsX10_text_68, (List.forall_mem_cons.mpr ⟨mw_wsX10_text_69, (List.forall_mem_cons.mpr ⟨mw_wsX10_text_70, (List.forall_mem_cons.mpr ⟨mw_wsX10_text_71, (List.forall_mem_cons.mpr ⟨mw_wsX10_text_72, (List.forall_mem_cons.mpr ⟨mw_wsX10_text_73, (List.forall_mem_cons.mpr ⟨mw_wsX10_text_74, (List.forall_mem_cons.mpr ⟨mw_wsX10_text_75, (List.forall_mem_cons.mpr ⟨mw_wsX10_text_76, (List.forall_mem_cons.mpr ⟨mw_wsX10_text_77, (List.forall_mem_cons.mpr ⟨mw_wsX10_text_78, (List.forall_mem_cons.mpr ⟨mw_wsX10_text_79, (List.forall_mem_cons.mpr ⟨mw_wsX10_text_80, (List.forall_mem_cons.mpr ⟨mw_wsX10_text_81, (List.forall_mem_cons.mpr ⟨mw_wsX10_text_82, (List.forall_mem_cons.mpr ⟨mw_wsX10_text_83, (List.forall_mem_cons.mpr ⟨mw_wsX10_text_84, (List.forall_mem_cons.mpr ⟨mw_wsX10_text_85, (List.forall_mem_cons.mpr ⟨mw_wsX10_text_86, (List.forall_mem_cons.mpr ⟨mw_wsX10_text_87, (List.forall_mem_cons.mpr ⟨mw_wsX10_text_88, (List.forall_mem_cons.mpr ⟨mw_wsX10_text_89, (fun _ h => absurd h List.not_mem_nil)⟩)⟩)⟩)⟩)⟩)⟩)⟩)⟩)⟩)⟩)⟩)⟩)⟩)⟩)⟩)⟩)⟩)⟩)⟩)⟩)⟩)⟩)⟩)⟩)
set_option maxRecDepth 100000 in
theorem mw_wsX10_text_101 : (.code yX8_kindOfSign cX8_kindOfSign 1 (some .int) : Cond) ∈ wsX10_text := List.mem_of_getElem? (i := 101) rfl
set_option maxRecDepth 100000 in
theorem mw_wsX10_text_100 : (.static yX8_kindOfSign : Cond) ∈ wsX10_text := List.mem_of_getElem? (i := 100) (by decide +kernel)
set_option maxRecDepth 100000 in
theorem mw_wsX10_text_99 : (.methodLink RX8 47 yX8_kindOfSign : Cond) ∈ wsX10_text := List.mem_of_getElem? (i := 99) (by decide +kernel)
set_option maxRecDepth 100000 in
theorem mw_wsX10_text_98 : (.code yX5_put cX5_put 3 none : Cond) ∈ wsX10_text := List.mem_of_getElem? (i := 98) rfl
set_option maxRecDepth 100000 in
theorem mw_wsX10_text_97 : (.initialized RX5 : Cond) ∈ wsX10_text := List.mem_of_getElem? (i := 97) (by decide +kernel)
set_option maxRecDepth 100000 in
theorem mw_wsX10_text_96 : (.static yX5_put : Cond) ∈ wsX10_text := List.mem_of_getElem? (i := 96) (by decide +kernel)
set_option maxRecDepth 100000 in
theorem mw_wsX10_text_95 : (.methodLink RX8 51 yX5_put : Cond) ∈ wsX10_text := List.mem_of_getElem? (i := 95) (by decide +kernel)
set_option maxRecDepth 100000 in
theorem mw_wsX10_text_94 : (.fieldLink RX8 9 "NothingJudge$Tokens" "packed" "[I" : Cond) ∈ wsX10_text := List.mem_of_getElem? (i := 94) (by decide +kernel)
set_option maxRecDepth 100000 in
theorem mw_wsX10_text_93 : (.code yX8_add cX8_add 4 none : Cond) ∈ wsX10_text := List.mem_of_getElem? (i := 93) rfl
set_option maxRecDepth 100000 in
theorem mw_wsX10_text_92 : (.selects RX8 yX8_add yX8_add : Cond) ∈ wsX10_text := List.mem_of_getElem? (i := 92) (by decide +kernel)
set_option maxRecDepth 100000 in
theorem mw_wsX10_text_91 : (.instanceMethod yX8_add : Cond) ∈ wsX10_text := List.mem_of_getElem? (i := 91) (by decide +kernel)
set_option maxRecDepth 100000 in
theorem mw_wsX10_text_90 : (.methodLink RX8 40 yX8_add : Cond) ∈ wsX10_text := List.mem_of_getElem? (i := 90) (by decide +kernel)
set_option maxRecDepth 100000 in
theorem mc_wsX10_text_wsX8_scan_r4 : ∀ w ∈ wsX8_scan_r4, w ∈ wsX10_text := (List.forall_mem_cons.mpr ⟨mw_wsX10_text_90, (List.forall_mem_cons.mpr ⟨mw_wsX10_text_91, (List.forall_mem_cons.mpr ⟨mw_wsX10_text_92, (List.forall_mem_cons.mpr ⟨mw_wsX10_text_93, (List.forall_mem_cons.mpr ⟨mw_wsX10_text_94, (List.forall_mem_cons.mpr ⟨mw_wsX10_text_95, (List.forall_mem_cons.mpr ⟨mw_wsX10_text_96, (List.forall_mem_cons.mpr ⟨mw_wsX10_text_97, (List.forall_mem_cons.mpr ⟨mw_wsX10_text_98, (List.forall_mem_cons.mpr ⟨mw_wsX10_text_99, (List.forall_mem_cons.mpr ⟨mw_wsX10_text_100, (List.forall_mem_cons.mpr ⟨mw_wsX10_text_101, (fun _ h => absurd h List.not_mem_nil)⟩)⟩)⟩)⟩)⟩)⟩)⟩)⟩)⟩)⟩)⟩)⟩)
set_option maxRecDepth 20000 in
theorem ggX10_text_X8_scan : GoodIn wsX10_text wsX8_scan := goodIn_sub (List.forall_mem_cons.mpr ⟨mw_wsX10_text_18, (wK_app (wK_app mc_wsX10_text_wsX8_scan_r1 (wK_app mc_wsX10_text_wsX8_scan_r2 (wK_app mc_wsX10_text_wsX8_scan_r3 mc_wsX10_text_wsX8_scan_r4))) (fun _ h => List.mem_cons_of_mem _ (List.mem_append_left _ (List.mem_append_left _ (List.mem_append_left _ (List.mem_append_left _ (List.mem_append_right _ h)))))))⟩) (by decide +kernel)
set_option maxRecDepth 20000 in
theorem gX10_text_X8_scan : GoodIn wsX10_text (wsV RX10 94 RX8 yX8_scan wsX8_scan) := goodIn_app (goodIn_of _ (by decide +kernel)) ggX10_text_X8_scan
set_option maxRecDepth 100000 in
theorem mw_wsX10_text_106 : (.code yX4_readInto cX4_readInto 3 none : Cond) ∈ wsX10_text := List.mem_of_getElem? (i := 106) rfl
set_option maxRecDepth 100000 in
theorem mw_wsX10_text_129 : (.code yX4_seen cX4_seen 2 (some .boolean) : Cond) ∈ wsX10_text := List.mem_of_getElem? (i := 129) rfl
set_option maxRecDepth 100000 in
theorem mw_wsX10_text_105 : (.initialized RX4 : Cond) ∈ wsX10_text := List.mem_of_getElem? (i := 105) (by decide +kernel)
set_option maxRecDepth 100000 in
theorem mw_wsX10_text_128 : (.selects RX4 yX4_seen yX4_seen : Cond) ∈ wsX10_text := List.mem_of_getElem? (i := 128) (by decide +kernel)
set_option maxRecDepth 100000 in
theorem mw_wsX10_text_127 : (.instanceMethod yX4_seen : Cond) ∈ wsX10_text := List.mem_of_getElem? (i := 127) (by decide +kernel)
set_option maxRecDepth 100000 in
theorem mw_wsX10_text_126 : (.methodLink RX4 51 yX4_seen : Cond) ∈ wsX10_text := List.mem_of_getElem? (i := 126) (by decide +kernel)
set_option maxRecDepth 100000 in
theorem mw_wsX10_text_125 : (.fieldLink RX3 43 "NothingJudge$Program" "first" "I" : Cond) ∈ wsX10_text := List.mem_of_getElem? (i := 125) (by decide +kernel)
set_option maxRecDepth 100000 in
theorem mw_wsX10_text_124 : (.fieldLink RX3 59 "NothingJudge$Program" "tests" "I" : Cond) ∈ wsX10_text := List.mem_of_getElem? (i := 124) (by decide +kernel)
set_option maxRecDepth 100000 in
theorem mw_wsX10_text_123 : (.fieldLink RX3 56 "NothingJudge$Program" "uses" "I" : Cond) ∈ wsX10_text := List.mem_of_getElem? (i := 123) (by decide +kernel)
set_option maxRecDepth 100000 in
theorem mw_wsX10_text_122 : (.fieldLink RX3 53 "NothingJudge$Program" "routines" "I" : Cond) ∈ wsX10_text := List.mem_of_getElem? (i := 122) (by decide +kernel)
set_option maxRecDepth 100000 in
theorem mw_wsX10_text_121 : (.fieldLink RX3 50 "NothingJudge$Program" "told" "I" : Cond) ∈ wsX10_text := List.mem_of_getElem? (i := 121) (by decide +kernel)
set_option maxRecDepth 100000 in
theorem mw_wsX10_text_120 : (.fieldLink RX3 47 "NothingJudge$Code" "size" "I" : Cond) ∈ wsX10_text := List.mem_of_getElem? (i := 120) (by decide +kernel)
set_option maxRecDepth 100000 in
theorem mw_wsX10_text_119 : (.fieldLink RX3 12 "NothingJudge$Program" "code" "LNothingJudge$Code;" : Cond) ∈ wsX10_text := List.mem_of_getElem? (i := 119) (by decide +kernel)
set_option maxRecDepth 100000 in
theorem mw_wsX10_text_118 : (.code yX3_clear cX3_clear 1 none : Cond) ∈ wsX10_text := List.mem_of_getElem? (i := 118) rfl
set_option maxRecDepth 100000 in
theorem mw_wsX10_text_117 : (.initialized RX3 : Cond) ∈ wsX10_text := List.mem_of_getElem? (i := 117) (by decide +kernel)
set_option maxRecDepth 100000 in
theorem mw_wsX10_text_116 : (.selects RX3 yX3_clear yX3_clear : Cond) ∈ wsX10_text := List.mem_of_getElem? (i := 116) (by decide +kernel)
set_option maxRecDepth 100000 in
theorem mw_wsX10_text_115 : (.instanceMethod yX3_clear : Cond) ∈ wsX10_text := List.mem_of_getElem? (i := 115) (by decide +kernel)
set_option maxRecDepth 100000 in
theorem mw_wsX10_text_114 : (.methodLink RX4 37 yX3_clear : Cond) ∈ wsX10_text := List.mem_of_getElem? (i := 114) (by decide +kernel)
set_option maxRecDepth 100000 in
theorem mw_wsX10_text_113 : (.fieldLink RX4 18 "NothingJudge$Reader" "wrongPlace" "I" : Cond) ∈ wsX10_text := List.mem_of_getElem? (i := 113) (by decide +kernel)
set_option maxRecDepth 100000 in
theorem mw_wsX10_text_112 : (.fieldLink RX4 46 "NothingJudge$Reader" "wrong" "I" : Cond) ∈ wsX10_text := List.mem_of_getElem? (i := 112) (by decide +kernel)
set_option maxRecDepth 100000 in
theorem mw_wsX10_text_111 : (.fieldLink RX4 43 "NothingJudge$Reader" "open" "I" : Cond) ∈ wsX10_text := List.mem_of_getElem? (i := 111) (by decide +kernel)
set_option maxRecDepth 100000 in
theorem mw_wsX10_text_110 : (.fieldLink RX4 40 "NothingJudge$Reader" "next" "I" : Cond) ∈ wsX10_text := List.mem_of_getElem? (i := 110) (by decide +kernel)
set_option maxRecDepth 100000 in
theorem mw_wsX10_text_109 : (.fieldLink RX4 36 "NothingJudge$Reader" "code" "LNothingJudge$Code;" : Cond) ∈ wsX10_text := List.mem_of_getElem? (i := 109) (by decide +kernel)
set_option maxRecDepth 100000 in
theorem mw_wsX10_text_108 : (.fieldLink RX4 30 "NothingJudge$Program" "code" "LNothingJudge$Code;" : Cond) ∈ wsX10_text := List.mem_of_getElem? (i := 108) (by decide +kernel)
set_option maxRecDepth 100000 in
theorem mw_wsX10_text_107 : (.fieldLink RX4 26 "NothingJudge$Reader" "program" "LNothingJudge$Program;" : Cond) ∈ wsX10_text := List.mem_of_getElem? (i := 107) (by decide +kernel)
set_option maxRecDepth 100000 in
theorem mc_wsX10_text_wsX4_readInto_r1 : ∀ w ∈ wsX4_readInto_r1, w ∈ wsX10_text := (List.forall_mem_cons.mpr ⟨mw_wsX10_text_107, (List.forall_mem_cons.mpr ⟨mw_wsX10_text_108, (List.forall_mem_cons.mpr ⟨mw_wsX10_text_109, (List.forall_mem_cons.mpr ⟨mw_wsX10_text_110, (List.forall_mem_cons.mpr ⟨mw_wsX10_text_111, (List.forall_mem_cons.mpr ⟨mw_wsX10_text_112, (List.forall_mem_cons.mpr ⟨mw_wsX10_text_113, (List.forall_mem_cons.mpr ⟨mw_wsX10_text_114, (List.forall_mem_cons.mpr ⟨mw_wsX10_text_115, (List.forall_mem_cons.mpr ⟨mw_wsX10_text_116, (List.forall_mem_cons.mpr ⟨mw_wsX10_text_117, (List.forall_mem_cons.mpr ⟨mw_wsX10_text_118, (List.forall_mem_cons.mpr ⟨mw_wsX10_text_119, (List.forall_mem_cons.mpr ⟨mw_wsX10_text_120, (List.forall_mem_cons.mpr ⟨mw_wsX10_text_121, (List.forall_mem_cons.mpr ⟨mw_wsX10_text_122, (List.forall_mem_cons.mpr ⟨mw_wsX10_text_123, (List.forall_mem_cons.mpr ⟨mw_wsX10_text_124, (List.forall_mem_cons.mpr ⟨mw_wsX10_text_125, (List.forall_mem_cons.mpr ⟨mw_wsX10_text_126, (List.forall_mem_cons.mpr ⟨mw_wsX10_text_127, (List.forall_mem_cons.mpr ⟨mw_wsX10_text_128, (List.forall_mem_cons.mpr ⟨mw_wsX10_text_105, (List.forall_mem_cons.mpr ⟨mw_wsX10_text_129, (fun _ h => absurd h List.not_mem_nil)⟩)⟩)⟩)⟩)⟩)⟩)⟩)⟩)⟩)⟩)⟩)⟩)⟩)⟩)⟩)⟩)⟩)⟩)⟩)⟩)⟩)⟩)⟩)⟩)
set_option maxRecDepth 100000 in
theorem mw_wsX10_text_149 : (.instanceMethod yX4_refuse : Cond) ∈ wsX10_text := List.mem_of_getElem? (i := 149) (by decide +kernel)
set_option maxRecDepth 100000 in
theorem mw_wsX10_text_148 : (.methodLink RX4 75 yX4_refuse : Cond) ∈ wsX10_text := List.mem_of_getElem? (i := 148) (by decide +kernel)
set_option maxRecDepth 100000 in
theorem mw_wsX10_text_147 : (.code yX8_placeAt cX8_placeAt 2 (some .int) : Cond) ∈ wsX10_text := List.mem_of_getElem? (i := 147) rfl
set_option maxRecDepth 100000 in
theorem mw_wsX10_text_146 : (.selects RX8 yX8_placeAt yX8_placeAt : Cond) ∈ wsX10_text := List.mem_of_getElem? (i := 146) (by decide +kernel)
set_option maxRecDepth 100000 in
theorem mw_wsX10_text_145 : (.instanceMethod yX8_placeAt : Cond) ∈ wsX10_text := List.mem_of_getElem? (i := 145) (by decide +kernel)
set_option maxRecDepth 100000 in
theorem mw_wsX10_text_144 : (.methodLink RX4 72 yX8_placeAt : Cond) ∈ wsX10_text := List.mem_of_getElem? (i := 144) (by decide +kernel)
set_option maxRecDepth 100000 in
theorem mw_wsX10_text_143 : (.code yX4_take cX4_take 2 (some .boolean) : Cond) ∈ wsX10_text := List.mem_of_getElem? (i := 143) rfl
set_option maxRecDepth 100000 in
theorem mw_wsX10_text_142 : (.selects RX4 yX4_take yX4_take : Cond) ∈ wsX10_text := List.mem_of_getElem? (i := 142) (by decide +kernel)
set_option maxRecDepth 100000 in
theorem mw_wsX10_text_141 : (.instanceMethod yX4_take : Cond) ∈ wsX10_text := List.mem_of_getElem? (i := 141) (by decide +kernel)
set_option maxRecDepth 100000 in
theorem mw_wsX10_text_140 : (.methodLink RX4 79 yX4_take : Cond) ∈ wsX10_text := List.mem_of_getElem? (i := 140) (by decide +kernel)
set_option maxRecDepth 100000 in
theorem mw_wsX10_text_139 : (.fieldLink RX4 85 "NothingJudge$Reader" "letter" "I" : Cond) ∈ wsX10_text := List.mem_of_getElem? (i := 139) (by decide +kernel)
set_option maxRecDepth 100000 in
theorem mw_wsX10_text_138 : (.code yX4_readHead cX4_readHead 2 (some .boolean) : Cond) ∈ wsX10_text := List.mem_of_getElem? (i := 138) rfl
set_option maxRecDepth 100000 in
theorem mw_wsX10_text_137 : (.selects RX4 yX4_readHead yX4_readHead : Cond) ∈ wsX10_text := List.mem_of_getElem? (i := 137) (by decide +kernel)
set_option maxRecDepth 100000 in
theorem mw_wsX10_text_136 : (.instanceMethod yX4_readHead : Cond) ∈ wsX10_text := List.mem_of_getElem? (i := 136) (by decide +kernel)
set_option maxRecDepth 100000 in
theorem mw_wsX10_text_135 : (.methodLink RX4 55 yX4_readHead : Cond) ∈ wsX10_text := List.mem_of_getElem? (i := 135) (by decide +kernel)
set_option maxRecDepth 100000 in
theorem mw_wsX10_text_134 : (.code yX8_kindAt cX8_kindAt 2 (some .int) : Cond) ∈ wsX10_text := List.mem_of_getElem? (i := 134) rfl
set_option maxRecDepth 100000 in
theorem mw_wsX10_text_133 : (.selects RX8 yX8_kindAt yX8_kindAt : Cond) ∈ wsX10_text := List.mem_of_getElem? (i := 133) (by decide +kernel)
set_option maxRecDepth 100000 in
theorem mw_wsX10_text_132 : (.instanceMethod yX8_kindAt : Cond) ∈ wsX10_text := List.mem_of_getElem? (i := 132) (by decide +kernel)
set_option maxRecDepth 100000 in
theorem mw_wsX10_text_131 : (.methodLink RX4 68 yX8_kindAt : Cond) ∈ wsX10_text := List.mem_of_getElem? (i := 131) (by decide +kernel)
set_option maxRecDepth 100000 in
theorem mw_wsX10_text_130 : (.fieldLink RX4 22 "NothingJudge$Reader" "tokens" "LNothingJudge$Tokens;" : Cond) ∈ wsX10_text := List.mem_of_getElem? (i := 130) (by decide +kernel)
set_option maxRecDepth 100000 in
theorem mc_wsX10_text_wsX4_readInto_r2 : ∀ w ∈ wsX4_readInto_r2, w ∈ wsX10_text := (List.forall_mem_cons.mpr ⟨mw_wsX10_text_130, (List.forall_mem_cons.mpr ⟨mw_wsX10_text_131, (List.forall_mem_cons.mpr ⟨mw_wsX10_text_132, (List.forall_mem_cons.mpr ⟨mw_wsX10_text_133, (List.forall_mem_cons.mpr ⟨mw_wsX10_text_17, (List.forall_mem_cons.mpr ⟨mw_wsX10_text_134, (List.forall_mem_cons.mpr ⟨mw_wsX10_text_19, (List.forall_mem_cons.mpr ⟨mw_wsX10_text_94, (List.forall_mem_cons.mpr ⟨mw_wsX10_text_135, (List.forall_mem_cons.mpr ⟨mw_wsX10_text_136, (List.forall_mem_cons.mpr ⟨mw_wsX10_text_137, (List.forall_mem_cons.mpr ⟨mw_wsX10_text_138, (List.forall_mem_cons.mpr ⟨mw_wsX10_text_139, (List.forall_mem_cons.mpr ⟨mw_wsX10_text_140, (List.forall_mem_cons.mpr ⟨mw_wsX10_text_141, (List.forall_mem_cons.mpr ⟨mw_wsX10_text_142, (List.forall_mem_cons.mpr ⟨mw_wsX10_text_143, (List.forall_mem_cons.mpr ⟨mw_wsX10_text_144, (List.forall_mem_cons.mpr ⟨mw_wsX10_text_145, (List.forall_mem_cons.mpr ⟨mw_wsX10_text_146, (List.forall_mem_cons.mpr ⟨mw_wsX10_text_147, (List.forall_mem_cons.mpr ⟨mw_wsX10_text_24, (List.forall_mem_cons.mpr ⟨mw_wsX10_text_148, (List.forall_mem_cons.mpr ⟨mw_wsX10_text_149, (fun _ h => absurd h List.not_mem_nil)⟩)⟩)⟩)⟩)⟩)⟩)⟩)⟩)⟩)⟩)⟩)⟩)⟩)⟩)⟩)⟩)⟩)⟩)⟩)⟩)⟩)⟩)⟩)⟩)
set_option maxRecDepth 100000 in
theorem mw_wsX10_text_170 : (.code yX4_readParameters cX4_readParameters 4 (some .boolean) : Cond) ∈ wsX10_text := List.mem_of_getElem? (i := 170) rfl
set_option maxRecDepth 100000 in
theorem mw_wsX10_text_169 : (.selects RX4 yX4_readParameters yX4_readParameters : Cond) ∈ wsX10_text := List.mem_of_getElem? (i := 169) (by decide +kernel)
set_option maxRecDepth 100000 in
theorem mw_wsX10_text_168 : (.instanceMethod yX4_readParameters : Cond) ∈ wsX10_text := List.mem_of_getElem? (i := 168) (by decide +kernel)
set_option maxRecDepth 100000 in
theorem mw_wsX10_text_167 : (.methodLink RX4 95 yX4_readParameters : Cond) ∈ wsX10_text := List.mem_of_getElem? (i := 167) (by decide +kernel)
set_option maxRecDepth 100000 in
theorem mw_wsX10_text_166 : (.methodLink RX3 62 yX5_put : Cond) ∈ wsX10_text := List.mem_of_getElem? (i := 166) (by decide +kernel)
set_option maxRecDepth 100000 in
theorem mw_wsX10_text_165 : (.fieldLink RX3 22 "NothingJudge$Program" "arity" "[I" : Cond) ∈ wsX10_text := List.mem_of_getElem? (i := 165) (by decide +kernel)
set_option maxRecDepth 100000 in
theorem mw_wsX10_text_164 : (.fieldLink RX3 18 "NothingJudge$Program" "opening" "[I" : Cond) ∈ wsX10_text := List.mem_of_getElem? (i := 164) (by decide +kernel)
set_option maxRecDepth 100000 in
theorem mw_wsX10_text_163 : (.code yX3_addRoutine cX3_addRoutine 2 none : Cond) ∈ wsX10_text := List.mem_of_getElem? (i := 163) rfl
set_option maxRecDepth 100000 in
theorem mw_wsX10_text_162 : (.selects RX3 yX3_addRoutine yX3_addRoutine : Cond) ∈ wsX10_text := List.mem_of_getElem? (i := 162) (by decide +kernel)
set_option maxRecDepth 100000 in
theorem mw_wsX10_text_161 : (.instanceMethod yX3_addRoutine : Cond) ∈ wsX10_text := List.mem_of_getElem? (i := 161) (by decide +kernel)
set_option maxRecDepth 100000 in
theorem mw_wsX10_text_160 : (.methodLink RX4 91 yX3_addRoutine : Cond) ∈ wsX10_text := List.mem_of_getElem? (i := 160) (by decide +kernel)
set_option maxRecDepth 100000 in
theorem mw_wsX10_text_159 : (.code yX3_has cX3_has 2 (some .boolean) : Cond) ∈ wsX10_text := List.mem_of_getElem? (i := 159) rfl
set_option maxRecDepth 100000 in
theorem mw_wsX10_text_158 : (.selects RX3 yX3_has yX3_has : Cond) ∈ wsX10_text := List.mem_of_getElem? (i := 158) (by decide +kernel)
set_option maxRecDepth 100000 in
theorem mw_wsX10_text_157 : (.instanceMethod yX3_has : Cond) ∈ wsX10_text := List.mem_of_getElem? (i := 157) (by decide +kernel)
set_option maxRecDepth 100000 in
theorem mw_wsX10_text_156 : (.methodLink RX4 88 yX3_has : Cond) ∈ wsX10_text := List.mem_of_getElem? (i := 156) (by decide +kernel)
set_option maxRecDepth 100000 in
theorem mw_wsX10_text_155 : (.code yX8_letterAt cX8_letterAt 2 (some .int) : Cond) ∈ wsX10_text := List.mem_of_getElem? (i := 155) rfl
set_option maxRecDepth 100000 in
theorem mw_wsX10_text_154 : (.selects RX8 yX8_letterAt yX8_letterAt : Cond) ∈ wsX10_text := List.mem_of_getElem? (i := 154) (by decide +kernel)
set_option maxRecDepth 100000 in
theorem mw_wsX10_text_153 : (.instanceMethod yX8_letterAt : Cond) ∈ wsX10_text := List.mem_of_getElem? (i := 153) (by decide +kernel)
set_option maxRecDepth 100000 in
theorem mw_wsX10_text_152 : (.methodLink RX4 82 yX8_letterAt : Cond) ∈ wsX10_text := List.mem_of_getElem? (i := 152) (by decide +kernel)
set_option maxRecDepth 100000 in
theorem mw_wsX10_text_151 : (.code yX4_refuse cX4_refuse 3 (some .boolean) : Cond) ∈ wsX10_text := List.mem_of_getElem? (i := 151) rfl
set_option maxRecDepth 100000 in
theorem mw_wsX10_text_150 : (.selects RX4 yX4_refuse yX4_refuse : Cond) ∈ wsX10_text := List.mem_of_getElem? (i := 150) (by decide +kernel)
set_option maxRecDepth 100000 in
theorem mc_wsX10_text_wsX4_readInto_r3 : ∀ w ∈ wsX4_readInto_r3, w ∈ wsX10_text := (List.forall_mem_cons.mpr ⟨mw_wsX10_text_150, (List.forall_mem_cons.mpr ⟨mw_wsX10_text_151, (List.forall_mem_cons.mpr ⟨mw_wsX10_text_152, (List.forall_mem_cons.mpr ⟨mw_wsX10_text_153, (List.forall_mem_cons.mpr ⟨mw_wsX10_text_154, (List.forall_mem_cons.mpr ⟨mw_wsX10_text_155, (List.forall_mem_cons.mpr ⟨mw_wsX10_text_156, (List.forall_mem_cons.mpr ⟨mw_wsX10_text_157, (List.forall_mem_cons.mpr ⟨mw_wsX10_text_158, (List.forall_mem_cons.mpr ⟨mw_wsX10_text_159, (List.forall_mem_cons.mpr ⟨mw_wsX10_text_160, (List.forall_mem_cons.mpr ⟨mw_wsX10_text_161, (List.forall_mem_cons.mpr ⟨mw_wsX10_text_162, (List.forall_mem_cons.mpr ⟨mw_wsX10_text_163, (List.forall_mem_cons.mpr ⟨mw_wsX10_text_164, (List.forall_mem_cons.mpr ⟨mw_wsX10_text_165, (List.forall_mem_cons.mpr ⟨mw_wsX10_text_166, (List.forall_mem_cons.mpr ⟨mw_wsX10_text_96, (List.forall_mem_cons.mpr ⟨mw_wsX10_text_97, (List.forall_mem_cons.mpr ⟨mw_wsX10_text_98, (List.forall_mem_cons.mpr ⟨mw_wsX10_text_167, (List.forall_mem_cons.mpr ⟨mw_wsX10_text_168, (List.forall_mem_cons.mpr ⟨mw_wsX10_text_169, (List.forall_mem_cons.mpr ⟨mw_wsX10_text_170, (fun _ h => absurd h List.not_mem_nil)⟩)⟩)⟩)⟩)⟩)⟩)⟩)⟩)⟩)⟩)⟩)⟩)⟩)⟩)⟩)⟩)⟩)⟩)⟩)⟩)⟩)⟩)⟩)⟩)
set_option maxRecDepth 100000 in
theorem mw_wsX10_text_194 : (.methodLink RX4 59 yX4_closeBlock : Cond) ∈ wsX10_text := List.mem_of_getElem? (i := 194) (by decide +kernel)
set_option maxRecDepth 100000 in
theorem mw_wsX10_text_193 : (.methodLink RX4 108 yX5_put : Cond) ∈ wsX10_text := List.mem_of_getElem? (i := 193) (by decide +kernel)
set_option maxRecDepth 100000 in
theorem mw_wsX10_text_192 : (.fieldLink RX4 15 "NothingJudge$Reader" "openAt" "[I" : Cond) ∈ wsX10_text := List.mem_of_getElem? (i := 192) (by decide +kernel)
set_option maxRecDepth 100000 in
theorem mw_wsX10_text_191 : (.fieldLink RX4 9 "NothingJudge$Reader" "openKind" "[I" : Cond) ∈ wsX10_text := List.mem_of_getElem? (i := 191) (by decide +kernel)
set_option maxRecDepth 100000 in
theorem mw_wsX10_text_190 : (.code yX4_openBlock cX4_openBlock 4 (some .boolean) : Cond) ∈ wsX10_text := List.mem_of_getElem? (i := 190) rfl
set_option maxRecDepth 100000 in
theorem mw_wsX10_text_189 : (.selects RX4 yX4_openBlock yX4_openBlock : Cond) ∈ wsX10_text := List.mem_of_getElem? (i := 189) (by decide +kernel)
set_option maxRecDepth 100000 in
theorem mw_wsX10_text_188 : (.instanceMethod yX4_openBlock : Cond) ∈ wsX10_text := List.mem_of_getElem? (i := 188) (by decide +kernel)
set_option maxRecDepth 100000 in
theorem mw_wsX10_text_187 : (.methodLink RX4 98 yX4_openBlock : Cond) ∈ wsX10_text := List.mem_of_getElem? (i := 187) (by decide +kernel)
set_option maxRecDepth 100000 in
theorem mw_wsX10_text_186 : (.code yX3_addParameter cX3_addParameter 4 none : Cond) ∈ wsX10_text := List.mem_of_getElem? (i := 186) rfl
set_option maxRecDepth 100000 in
theorem mw_wsX10_text_185 : (.selects RX3 yX3_addParameter yX3_addParameter : Cond) ∈ wsX10_text := List.mem_of_getElem? (i := 185) (by decide +kernel)
set_option maxRecDepth 100000 in
theorem mw_wsX10_text_184 : (.instanceMethod yX3_addParameter : Cond) ∈ wsX10_text := List.mem_of_getElem? (i := 184) (by decide +kernel)
set_option maxRecDepth 100000 in
theorem mw_wsX10_text_183 : (.methodLink RX4 104 yX3_addParameter : Cond) ∈ wsX10_text := List.mem_of_getElem? (i := 183) (by decide +kernel)
set_option maxRecDepth 100000 in
theorem mw_wsX10_text_182 : (.fieldLink RX3 25 "NothingJudge$Program" "parameters" "[I" : Cond) ∈ wsX10_text := List.mem_of_getElem? (i := 182) (by decide +kernel)
set_option maxRecDepth 100000 in
theorem mw_wsX10_text_181 : (.code yX3_parameter cX3_parameter 3 (some .int) : Cond) ∈ wsX10_text := List.mem_of_getElem? (i := 181) rfl
set_option maxRecDepth 100000 in
theorem mw_wsX10_text_180 : (.selects RX3 yX3_parameter yX3_parameter : Cond) ∈ wsX10_text := List.mem_of_getElem? (i := 180) (by decide +kernel)
set_option maxRecDepth 100000 in
theorem mw_wsX10_text_179 : (.instanceMethod yX3_parameter : Cond) ∈ wsX10_text := List.mem_of_getElem? (i := 179) (by decide +kernel)
set_option maxRecDepth 100000 in
theorem mw_wsX10_text_178 : (.methodLink RX3 72 yX3_parameter : Cond) ∈ wsX10_text := List.mem_of_getElem? (i := 178) (by decide +kernel)
set_option maxRecDepth 100000 in
theorem mw_wsX10_text_177 : (.code yX5_at cX5_at 2 (some .int) : Cond) ∈ wsX10_text := List.mem_of_getElem? (i := 177) rfl
set_option maxRecDepth 100000 in
theorem mw_wsX10_text_176 : (.static yX5_at : Cond) ∈ wsX10_text := List.mem_of_getElem? (i := 176) (by decide +kernel)
set_option maxRecDepth 100000 in
theorem mw_wsX10_text_175 : (.methodLink RX3 68 yX5_at : Cond) ∈ wsX10_text := List.mem_of_getElem? (i := 175) (by decide +kernel)
set_option maxRecDepth 100000 in
theorem mw_wsX10_text_174 : (.code yX3_hasParameter cX3_hasParameter 4 (some .boolean) : Cond) ∈ wsX10_text := List.mem_of_getElem? (i := 174) rfl
set_option maxRecDepth 100000 in
theorem mw_wsX10_text_173 : (.selects RX3 yX3_hasParameter yX3_hasParameter : Cond) ∈ wsX10_text := List.mem_of_getElem? (i := 173) (by decide +kernel)
set_option maxRecDepth 100000 in
theorem mw_wsX10_text_172 : (.instanceMethod yX3_hasParameter : Cond) ∈ wsX10_text := List.mem_of_getElem? (i := 172) (by decide +kernel)
set_option maxRecDepth 100000 in
theorem mw_wsX10_text_171 : (.methodLink RX4 101 yX3_hasParameter : Cond) ∈ wsX10_text := List.mem_of_getElem? (i := 171) (by decide +kernel)
set_option maxRecDepth 100000 in
theorem mc_wsX10_text_wsX4_readInto_r4 : ∀ w ∈ wsX4_readInto_r4, w ∈ wsX10_text := (List.forall_mem_cons.mpr ⟨mw_wsX10_text_171, (List.forall_mem_cons.mpr ⟨mw_wsX10_text_172, (List.forall_mem_cons.mpr ⟨mw_wsX10_text_173, (List.forall_mem_cons.mpr ⟨mw_wsX10_text_174, (List.forall_mem_cons.mpr ⟨mw_wsX10_text_175, (List.forall_mem_cons.mpr ⟨mw_wsX10_text_176, (List.forall_mem_cons.mpr ⟨mw_wsX10_text_177, (List.forall_mem_cons.mpr ⟨mw_wsX10_text_178, (List.forall_mem_cons.mpr ⟨mw_wsX10_text_179, (List.forall_mem_cons.mpr ⟨mw_wsX10_text_180, (List.forall_mem_cons.mpr ⟨mw_wsX10_text_181, (List.forall_mem_cons.mpr ⟨mw_wsX10_text_182, (List.forall_mem_cons.mpr ⟨mw_wsX10_text_183, (List.forall_mem_cons.mpr ⟨mw_wsX10_text_184, (List.forall_mem_cons.mpr ⟨mw_wsX10_text_185, (List.forall_mem_cons.mpr ⟨mw_wsX10_text_186, (List.forall_mem_cons.mpr ⟨mw_wsX10_text_187, (List.forall_mem_cons.mpr ⟨mw_wsX10_text_188, (List.forall_mem_cons.mpr ⟨mw_wsX10_text_189, (List.forall_mem_cons.mpr ⟨mw_wsX10_text_190, (List.forall_mem_cons.mpr ⟨mw_wsX10_text_191, (List.forall_mem_cons.mpr ⟨mw_wsX10_text_192, (List.forall_mem_cons.mpr ⟨mw_wsX10_text_193, (List.forall_mem_cons.mpr ⟨mw_wsX10_text_194, (fun _ h => absurd h List.not_mem_nil)⟩)⟩)⟩)⟩)⟩)⟩)⟩)⟩)⟩)⟩)⟩)⟩)⟩)⟩)⟩)⟩)⟩)⟩)⟩)⟩)⟩)⟩)⟩)⟩)
set_option maxRecDepth 100000 in
theorem mw_wsX10_text_218 : (.selects RX4 yX4_readStatement yX4_readStatement : Cond) ∈ wsX10_text := List.mem_of_getElem? (i := 218) (by decide +kernel)
set_option maxRecDepth 100000 in
theorem mw_wsX10_text_217 : (.instanceMethod yX4_readStatement : Cond) ∈ wsX10_text := List.mem_of_getElem? (i := 217) (by decide +kernel)
set_option maxRecDepth 100000 in
theorem mw_wsX10_text_216 : (.methodLink RX4 62 yX4_readStatement : Cond) ∈ wsX10_text := List.mem_of_getElem? (i := 216) (by decide +kernel)
set_option maxRecDepth 100000 in
theorem mw_wsX10_text_215 : (.code yX4_closeIf cX4_closeIf 3 none : Cond) ∈ wsX10_text := List.mem_of_getElem? (i := 215) rfl
set_option maxRecDepth 100000 in
theorem mw_wsX10_text_214 : (.selects RX4 yX4_closeIf yX4_closeIf : Cond) ∈ wsX10_text := List.mem_of_getElem? (i := 214) (by decide +kernel)
set_option maxRecDepth 100000 in
theorem mw_wsX10_text_213 : (.instanceMethod yX4_closeIf : Cond) ∈ wsX10_text := List.mem_of_getElem? (i := 213) (by decide +kernel)
set_option maxRecDepth 100000 in
theorem mw_wsX10_text_212 : (.methodLink RX4 131 yX4_closeIf : Cond) ∈ wsX10_text := List.mem_of_getElem? (i := 212) (by decide +kernel)
set_option maxRecDepth 100000 in
theorem mw_wsX10_text_211 : (.methodLink RX4 124 yX0_set : Cond) ∈ wsX10_text := List.mem_of_getElem? (i := 211) (by decide +kernel)
set_option maxRecDepth 100000 in
theorem mw_wsX10_text_210 : (.fieldLink RX0 11 "NothingJudge$Code" "cells" "[I" : Cond) ∈ wsX10_text := List.mem_of_getElem? (i := 210) (by decide +kernel)
set_option maxRecDepth 100000 in
theorem mw_wsX10_text_209 : (.code yX0_set cX0_set 5 none : Cond) ∈ wsX10_text := List.mem_of_getElem? (i := 209) rfl
set_option maxRecDepth 100000 in
theorem mw_wsX10_text_208 : (.selects RX0 yX0_set yX0_set : Cond) ∈ wsX10_text := List.mem_of_getElem? (i := 208) (by decide +kernel)
set_option maxRecDepth 100000 in
theorem mw_wsX10_text_207 : (.instanceMethod yX0_set : Cond) ∈ wsX10_text := List.mem_of_getElem? (i := 207) (by decide +kernel)
set_option maxRecDepth 100000 in
theorem mw_wsX10_text_206 : (.methodLink RX0 19 yX0_set : Cond) ∈ wsX10_text := List.mem_of_getElem? (i := 206) (by decide +kernel)
set_option maxRecDepth 100000 in
theorem mw_wsX10_text_205 : (.fieldLink RX0 15 "NothingJudge$Code" "size" "I" : Cond) ∈ wsX10_text := List.mem_of_getElem? (i := 205) (by decide +kernel)
set_option maxRecDepth 100000 in
theorem mw_wsX10_text_204 : (.code yX0_add cX0_add 5 (some .int) : Cond) ∈ wsX10_text := List.mem_of_getElem? (i := 204) rfl
set_option maxRecDepth 100000 in
theorem mw_wsX10_text_203 : (.initialized RX0 : Cond) ∈ wsX10_text := List.mem_of_getElem? (i := 203) (by decide +kernel)
set_option maxRecDepth 100000 in
theorem mw_wsX10_text_202 : (.selects RX0 yX0_add yX0_add : Cond) ∈ wsX10_text := List.mem_of_getElem? (i := 202) (by decide +kernel)
set_option maxRecDepth 100000 in
theorem mw_wsX10_text_201 : (.instanceMethod yX0_add : Cond) ∈ wsX10_text := List.mem_of_getElem? (i := 201) (by decide +kernel)
set_option maxRecDepth 100000 in
theorem mw_wsX10_text_200 : (.methodLink RX4 120 yX0_add : Cond) ∈ wsX10_text := List.mem_of_getElem? (i := 200) (by decide +kernel)
set_option maxRecDepth 100000 in
theorem mw_wsX10_text_199 : (.methodLink RX4 114 yX5_at : Cond) ∈ wsX10_text := List.mem_of_getElem? (i := 199) (by decide +kernel)
set_option maxRecDepth 100000 in
theorem mw_wsX10_text_198 : (.fieldLink RX4 128 "NothingJudge$Code" "size" "I" : Cond) ∈ wsX10_text := List.mem_of_getElem? (i := 198) (by decide +kernel)
set_option maxRecDepth 100000 in
theorem mw_wsX10_text_197 : (.code yX4_closeBlock cX4_closeBlock 2 none : Cond) ∈ wsX10_text := List.mem_of_getElem? (i := 197) rfl
set_option maxRecDepth 100000 in
theorem mw_wsX10_text_196 : (.selects RX4 yX4_closeBlock yX4_closeBlock : Cond) ∈ wsX10_text := List.mem_of_getElem? (i := 196) (by decide +kernel)
set_option maxRecDepth 100000 in
theorem mw_wsX10_text_195 : (.instanceMethod yX4_closeBlock : Cond) ∈ wsX10_text := List.mem_of_getElem? (i := 195) (by decide +kernel)
set_option maxRecDepth 100000 in
theorem mc_wsX10_text_wsX4_readInto_r5 : ∀ w ∈ wsX4_readInto_r5, w ∈ wsX10_text := (List.forall_mem_cons.mpr ⟨mw_wsX10_text_195, (List.forall_mem_cons.mpr ⟨mw_wsX10_text_196, (List.forall_mem_cons.mpr ⟨mw_wsX10_text_197, (List.forall_mem_cons.mpr ⟨mw_wsX10_text_198, (List.forall_mem_cons.mpr ⟨mw_wsX10_text_199, (List.forall_mem_cons.mpr ⟨mw_wsX10_text_200, (List.forall_mem_cons.mpr ⟨mw_wsX10_text_201, (List.forall_mem_cons.mpr ⟨mw_wsX10_text_202, (List.forall_mem_cons.mpr ⟨mw_wsX10_text_203, (List.forall_mem_cons.mpr ⟨mw_wsX10_text_204, (List.forall_mem_cons.mpr ⟨mw_wsX10_text_205, (List.forall_mem_cons.mpr ⟨mw_wsX10_text_206, (List.forall_mem_cons.mpr ⟨mw_wsX10_text_207, (List.forall_mem_cons.mpr ⟨mw_wsX10_text_208, (List.forall_mem_cons.mpr ⟨mw_wsX10_text_209, (List.forall_mem_cons.mpr ⟨mw_wsX10_text_210, (List.forall_mem_cons.mpr ⟨mw_wsX10_text_211, (List.forall_mem_cons.mpr ⟨mw_wsX10_text_212, (List.forall_mem_cons.mpr ⟨mw_wsX10_text_213, (List.forall_mem_cons.mpr ⟨mw_wsX10_text_214, (List.forall_mem_cons.mpr ⟨mw_wsX10_text_215, (List.forall_mem_cons.mpr ⟨mw_wsX10_text_216, (List.forall_mem_cons.mpr ⟨mw_wsX10_text_217, (List.forall_mem_cons.mpr ⟨mw_wsX10_text_218, (fun _ h => absurd h List.not_mem_nil)⟩)⟩)⟩)⟩)⟩)⟩)⟩)⟩)⟩)⟩)⟩)⟩)⟩)⟩)⟩)⟩)⟩)⟩)⟩)⟩)⟩)⟩)⟩)⟩)
set_option maxRecDepth 100000 in
theorem mw_wsX10_text_242 : (.selects RX4 yX4_readValue yX4_readValue : Cond) ∈ wsX10_text := List.mem_of_getElem? (i := 242) (by decide +kernel)
set_option maxRecDepth 100000 in
theorem mw_wsX10_text_241 : (.instanceMethod yX4_readValue : Cond) ∈ wsX10_text := List.mem_of_getElem? (i := 241) (by decide +kernel)
set_option maxRecDepth 100000 in
theorem mw_wsX10_text_240 : (.methodLink RX4 153 yX4_readValue : Cond) ∈ wsX10_text := List.mem_of_getElem? (i := 240) (by decide +kernel)
set_option maxRecDepth 100000 in
theorem mw_wsX10_text_239 : (.code yX4_readField cX4_readField 4 (some .boolean) : Cond) ∈ wsX10_text := List.mem_of_getElem? (i := 239) rfl
set_option maxRecDepth 100000 in
theorem mw_wsX10_text_238 : (.selects RX4 yX4_readField yX4_readField : Cond) ∈ wsX10_text := List.mem_of_getElem? (i := 238) (by decide +kernel)
set_option maxRecDepth 100000 in
theorem mw_wsX10_text_237 : (.instanceMethod yX4_readField : Cond) ∈ wsX10_text := List.mem_of_getElem? (i := 237) (by decide +kernel)
set_option maxRecDepth 100000 in
theorem mw_wsX10_text_236 : (.methodLink RX4 150 yX4_readField : Cond) ∈ wsX10_text := List.mem_of_getElem? (i := 236) (by decide +kernel)
set_option maxRecDepth 100000 in
theorem mw_wsX10_text_235 : (.fieldLink RX3 34 "NothingJudge$Program" "useName" "[I" : Cond) ∈ wsX10_text := List.mem_of_getElem? (i := 235) (by decide +kernel)
set_option maxRecDepth 100000 in
theorem mw_wsX10_text_234 : (.fieldLink RX3 31 "NothingJudge$Program" "usePlace" "[I" : Cond) ∈ wsX10_text := List.mem_of_getElem? (i := 234) (by decide +kernel)
set_option maxRecDepth 100000 in
theorem mw_wsX10_text_233 : (.fieldLink RX3 28 "NothingJudge$Program" "useOwner" "[I" : Cond) ∈ wsX10_text := List.mem_of_getElem? (i := 233) (by decide +kernel)
set_option maxRecDepth 100000 in
theorem mw_wsX10_text_232 : (.code yX3_addUse cX3_addUse 5 (some .int) : Cond) ∈ wsX10_text := List.mem_of_getElem? (i := 232) rfl
set_option maxRecDepth 100000 in
theorem mw_wsX10_text_231 : (.selects RX3 yX3_addUse yX3_addUse : Cond) ∈ wsX10_text := List.mem_of_getElem? (i := 231) (by decide +kernel)
set_option maxRecDepth 100000 in
theorem mw_wsX10_text_230 : (.instanceMethod yX3_addUse : Cond) ∈ wsX10_text := List.mem_of_getElem? (i := 230) (by decide +kernel)
set_option maxRecDepth 100000 in
theorem mw_wsX10_text_229 : (.methodLink RX4 159 yX3_addUse : Cond) ∈ wsX10_text := List.mem_of_getElem? (i := 229) (by decide +kernel)
set_option maxRecDepth 100000 in
theorem mw_wsX10_text_228 : (.fieldLink RX4 156 "NothingJudge$Program" "uses" "I" : Cond) ∈ wsX10_text := List.mem_of_getElem? (i := 228) (by decide +kernel)
set_option maxRecDepth 100000 in
theorem mw_wsX10_text_227 : (.code yX4_readUse cX4_readUse 4 (some .boolean) : Cond) ∈ wsX10_text := List.mem_of_getElem? (i := 227) rfl
set_option maxRecDepth 100000 in
theorem mw_wsX10_text_226 : (.selects RX4 yX4_readUse yX4_readUse : Cond) ∈ wsX10_text := List.mem_of_getElem? (i := 226) (by decide +kernel)
set_option maxRecDepth 100000 in
theorem mw_wsX10_text_225 : (.instanceMethod yX4_readUse : Cond) ∈ wsX10_text := List.mem_of_getElem? (i := 225) (by decide +kernel)
set_option maxRecDepth 100000 in
theorem mw_wsX10_text_224 : (.methodLink RX4 146 yX4_readUse : Cond) ∈ wsX10_text := List.mem_of_getElem? (i := 224) (by decide +kernel)
set_option maxRecDepth 100000 in
theorem mw_wsX10_text_223 : (.code yX4_readPut cX4_readPut 3 (some .boolean) : Cond) ∈ wsX10_text := List.mem_of_getElem? (i := 223) rfl
set_option maxRecDepth 100000 in
theorem mw_wsX10_text_222 : (.selects RX4 yX4_readPut yX4_readPut : Cond) ∈ wsX10_text := List.mem_of_getElem? (i := 222) (by decide +kernel)
set_option maxRecDepth 100000 in
theorem mw_wsX10_text_221 : (.instanceMethod yX4_readPut : Cond) ∈ wsX10_text := List.mem_of_getElem? (i := 221) (by decide +kernel)
set_option maxRecDepth 100000 in
theorem mw_wsX10_text_220 : (.methodLink RX4 134 yX4_readPut : Cond) ∈ wsX10_text := List.mem_of_getElem? (i := 220) (by decide +kernel)
set_option maxRecDepth 100000 in
theorem mw_wsX10_text_219 : (.code yX4_readStatement cX4_readStatement 1 (some .boolean) : Cond) ∈ wsX10_text := List.mem_of_getElem? (i := 219) rfl
set_option maxRecDepth 100000 in
theorem mc_wsX10_text_wsX4_readInto_r6 : ∀ w ∈ wsX4_readInto_r6, w ∈ wsX10_text := (List.forall_mem_cons.mpr ⟨mw_wsX10_text_219, (List.forall_mem_cons.mpr ⟨mw_wsX10_text_220, (List.forall_mem_cons.mpr ⟨mw_wsX10_text_221, (List.forall_mem_cons.mpr ⟨mw_wsX10_text_222, (List.forall_mem_cons.mpr ⟨mw_wsX10_text_223, (List.forall_mem_cons.mpr ⟨mw_wsX10_text_224, (List.forall_mem_cons.mpr ⟨mw_wsX10_text_225, (List.forall_mem_cons.mpr ⟨mw_wsX10_text_226, (List.forall_mem_cons.mpr ⟨mw_wsX10_text_227, (List.forall_mem_cons.mpr ⟨mw_wsX10_text_228, (List.forall_mem_cons.mpr ⟨mw_wsX10_text_229, (List.forall_mem_cons.mpr ⟨mw_wsX10_text_230, (List.forall_mem_cons.mpr ⟨mw_wsX10_text_231, (List.forall_mem_cons.mpr ⟨mw_wsX10_text_232, (List.forall_mem_cons.mpr ⟨mw_wsX10_text_233, (List.forall_mem_cons.mpr ⟨mw_wsX10_text_234, (List.forall_mem_cons.mpr ⟨mw_wsX10_text_235, (List.forall_mem_cons.mpr ⟨mw_wsX10_text_236, (List.forall_mem_cons.mpr ⟨mw_wsX10_text_237, (List.forall_mem_cons.mpr ⟨mw_wsX10_text_238, (List.forall_mem_cons.mpr ⟨mw_wsX10_text_239, (List.forall_mem_cons.mpr ⟨mw_wsX10_text_240, (List.forall_mem_cons.mpr ⟨mw_wsX10_text_241, (List.forall_mem_cons.mpr ⟨mw_wsX10_text_242, (fun _ h => absurd h List.not_mem_nil)⟩)⟩)⟩)⟩)⟩)⟩)⟩)⟩)⟩)⟩)⟩)⟩)⟩)⟩)⟩)⟩)⟩)⟩)⟩)⟩)⟩)⟩)⟩)⟩)
set_option maxRecDepth 100000 in
theorem mw_wsX10_text_266 : (.instanceMethod yX4_readReturn : Cond) ∈ wsX10_text := List.mem_of_getElem? (i := 266) (by decide +kernel)
set_option maxRecDepth 100000 in
theorem mw_wsX10_text_265 : (.methodLink RX4 140 yX4_readReturn : Cond) ∈ wsX10_text := List.mem_of_getElem? (i := 265) (by decide +kernel)
set_option maxRecDepth 100000 in
theorem mw_wsX10_text_264 : (.code yX0_get cX0_get 4 (some .int) : Cond) ∈ wsX10_text := List.mem_of_getElem? (i := 264) rfl
set_option maxRecDepth 100000 in
theorem mw_wsX10_text_263 : (.selects RX0 yX0_get yX0_get : Cond) ∈ wsX10_text := List.mem_of_getElem? (i := 263) (by decide +kernel)
set_option maxRecDepth 100000 in
theorem mw_wsX10_text_262 : (.instanceMethod yX0_get : Cond) ∈ wsX10_text := List.mem_of_getElem? (i := 262) (by decide +kernel)
set_option maxRecDepth 100000 in
theorem mw_wsX10_text_261 : (.methodLink RX0 23 yX0_get : Cond) ∈ wsX10_text := List.mem_of_getElem? (i := 261) (by decide +kernel)
set_option maxRecDepth 100000 in
theorem mw_wsX10_text_260 : (.constant RX0 27 (1048576) : Cond) ∈ wsX10_text := List.mem_of_getElem? (i := 260) (by decide +kernel)
set_option maxRecDepth 100000 in
theorem mw_wsX10_text_259 : (.code yX0_addArgument cX0_addArgument 5 none : Cond) ∈ wsX10_text := List.mem_of_getElem? (i := 259) rfl
set_option maxRecDepth 100000 in
theorem mw_wsX10_text_258 : (.selects RX0 yX0_addArgument yX0_addArgument : Cond) ∈ wsX10_text := List.mem_of_getElem? (i := 258) (by decide +kernel)
set_option maxRecDepth 100000 in
theorem mw_wsX10_text_257 : (.instanceMethod yX0_addArgument : Cond) ∈ wsX10_text := List.mem_of_getElem? (i := 257) (by decide +kernel)
set_option maxRecDepth 100000 in
theorem mw_wsX10_text_256 : (.methodLink RX4 178 yX0_addArgument : Cond) ∈ wsX10_text := List.mem_of_getElem? (i := 256) (by decide +kernel)
set_option maxRecDepth 100000 in
theorem mw_wsX10_text_255 : (.code yX4_readCall cX4_readCall 4 (some .boolean) : Cond) ∈ wsX10_text := List.mem_of_getElem? (i := 255) rfl
set_option maxRecDepth 100000 in
theorem mw_wsX10_text_254 : (.selects RX4 yX4_readCall yX4_readCall : Cond) ∈ wsX10_text := List.mem_of_getElem? (i := 254) (by decide +kernel)
set_option maxRecDepth 100000 in
theorem mw_wsX10_text_253 : (.instanceMethod yX4_readCall : Cond) ∈ wsX10_text := List.mem_of_getElem? (i := 253) (by decide +kernel)
set_option maxRecDepth 100000 in
theorem mw_wsX10_text_252 : (.methodLink RX4 137 yX4_readCall : Cond) ∈ wsX10_text := List.mem_of_getElem? (i := 252) (by decide +kernel)
set_option maxRecDepth 100000 in
theorem mw_wsX10_text_251 : (.code yX4_readNameOrField cX4_readNameOrField 3 (some .boolean) : Cond) ∈ wsX10_text := List.mem_of_getElem? (i := 251) rfl
set_option maxRecDepth 100000 in
theorem mw_wsX10_text_250 : (.selects RX4 yX4_readNameOrField yX4_readNameOrField : Cond) ∈ wsX10_text := List.mem_of_getElem? (i := 250) (by decide +kernel)
set_option maxRecDepth 100000 in
theorem mw_wsX10_text_249 : (.instanceMethod yX4_readNameOrField : Cond) ∈ wsX10_text := List.mem_of_getElem? (i := 249) (by decide +kernel)
set_option maxRecDepth 100000 in
theorem mw_wsX10_text_248 : (.methodLink RX4 175 yX4_readNameOrField : Cond) ∈ wsX10_text := List.mem_of_getElem? (i := 248) (by decide +kernel)
set_option maxRecDepth 100000 in
theorem mw_wsX10_text_247 : (.code yX4_readName cX4_readName 3 (some .boolean) : Cond) ∈ wsX10_text := List.mem_of_getElem? (i := 247) rfl
set_option maxRecDepth 100000 in
theorem mw_wsX10_text_246 : (.selects RX4 yX4_readName yX4_readName : Cond) ∈ wsX10_text := List.mem_of_getElem? (i := 246) (by decide +kernel)
set_option maxRecDepth 100000 in
theorem mw_wsX10_text_245 : (.instanceMethod yX4_readName : Cond) ∈ wsX10_text := List.mem_of_getElem? (i := 245) (by decide +kernel)
set_option maxRecDepth 100000 in
theorem mw_wsX10_text_244 : (.methodLink RX4 172 yX4_readName : Cond) ∈ wsX10_text := List.mem_of_getElem? (i := 244) (by decide +kernel)
set_option maxRecDepth 100000 in
theorem mw_wsX10_text_243 : (.code yX4_readValue cX4_readValue 2 (some .boolean) : Cond) ∈ wsX10_text := List.mem_of_getElem? (i := 243) rfl
set_option maxRecDepth 100000 in
theorem mc_wsX10_text_wsX4_readInto_r7 : ∀ w ∈ wsX4_readInto_r7, w ∈ wsX10_text := (List.forall_mem_cons.mpr ⟨mw_wsX10_text_243, (List.forall_mem_cons.mpr ⟨mw_wsX10_text_244, (List.forall_mem_cons.mpr ⟨mw_wsX10_text_245, (List.forall_mem_cons.mpr ⟨mw_wsX10_text_246, (List.forall_mem_cons.mpr ⟨mw_wsX10_text_247, (List.forall_mem_cons.mpr ⟨mw_wsX10_text_248, (List.forall_mem_cons.mpr ⟨mw_wsX10_text_249, (List.forall_mem_cons.mpr ⟨mw_wsX10_text_250, (List.forall_mem_cons.mpr ⟨mw_wsX10_text_251, (List.forall_mem_cons.mpr ⟨mw_wsX10_text_252, (List.forall_mem_cons.mpr ⟨mw_wsX10_text_253, (List.forall_mem_cons.mpr ⟨mw_wsX10_text_254, (List.forall_mem_cons.mpr ⟨mw_wsX10_text_255, (List.forall_mem_cons.mpr ⟨mw_wsX10_text_256, (List.forall_mem_cons.mpr ⟨mw_wsX10_text_257, (List.forall_mem_cons.mpr ⟨mw_wsX10_text_258, (List.forall_mem_cons.mpr ⟨mw_wsX10_text_259, (List.forall_mem_cons.mpr ⟨mw_wsX10_text_260, (List.forall_mem_cons.mpr ⟨mw_wsX10_text_261, (List.forall_mem_cons.mpr ⟨mw_wsX10_text_262, (List.forall_mem_cons.mpr ⟨mw_wsX10_text_263, (List.forall_mem_cons.mpr ⟨mw_wsX10_text_264, (List.forall_mem_cons.mpr ⟨mw_wsX10_text_265, (List.forall_mem_cons.mpr ⟨mw_wsX10_text_266, (fun _ h => absurd h List.not_mem_nil)⟩)⟩)⟩)⟩)⟩)⟩)⟩)⟩)⟩)⟩)⟩)⟩)⟩)⟩)⟩)⟩)⟩)⟩)⟩)⟩)⟩)⟩)⟩)⟩)
set_option maxRecDepth 100000 in
theorem mw_wsX10_text_290 : (.methodLink RX4 187 yX0_arguments : Cond) ∈ wsX10_text := List.mem_of_getElem? (i := 290) (by decide +kernel)
set_option maxRecDepth 100000 in
theorem mw_wsX10_text_289 : (.methodLink RX4 181 yX0_get : Cond) ∈ wsX10_text := List.mem_of_getElem? (i := 289) (by decide +kernel)
set_option maxRecDepth 100000 in
theorem mw_wsX10_text_288 : (.fieldLink RX4 184 "NothingJudge$Program" "arity" "[I" : Cond) ∈ wsX10_text := List.mem_of_getElem? (i := 288) (by decide +kernel)
set_option maxRecDepth 100000 in
theorem mw_wsX10_text_287 : (.code yX4_checkCalls cX4_checkCalls 3 none : Cond) ∈ wsX10_text := List.mem_of_getElem? (i := 287) rfl
set_option maxRecDepth 100000 in
theorem mw_wsX10_text_286 : (.selects RX4 yX4_checkCalls yX4_checkCalls : Cond) ∈ wsX10_text := List.mem_of_getElem? (i := 286) (by decide +kernel)
set_option maxRecDepth 100000 in
theorem mw_wsX10_text_285 : (.instanceMethod yX4_checkCalls : Cond) ∈ wsX10_text := List.mem_of_getElem? (i := 285) (by decide +kernel)
set_option maxRecDepth 100000 in
theorem mw_wsX10_text_284 : (.methodLink RX4 65 yX4_checkCalls : Cond) ∈ wsX10_text := List.mem_of_getElem? (i := 284) (by decide +kernel)
set_option maxRecDepth 100000 in
theorem mw_wsX10_text_283 : (.code yX4_readComparison cX4_readComparison 3 (some .boolean) : Cond) ∈ wsX10_text := List.mem_of_getElem? (i := 283) rfl
set_option maxRecDepth 100000 in
theorem mw_wsX10_text_282 : (.selects RX4 yX4_readComparison yX4_readComparison : Cond) ∈ wsX10_text := List.mem_of_getElem? (i := 282) (by decide +kernel)
set_option maxRecDepth 100000 in
theorem mw_wsX10_text_281 : (.instanceMethod yX4_readComparison : Cond) ∈ wsX10_text := List.mem_of_getElem? (i := 281) (by decide +kernel)
set_option maxRecDepth 100000 in
theorem mw_wsX10_text_280 : (.methodLink RX4 169 yX4_readComparison : Cond) ∈ wsX10_text := List.mem_of_getElem? (i := 280) (by decide +kernel)
set_option maxRecDepth 100000 in
theorem mw_wsX10_text_279 : (.fieldLink RX3 40 "NothingJudge$Program" "testPlace" "[I" : Cond) ∈ wsX10_text := List.mem_of_getElem? (i := 279) (by decide +kernel)
set_option maxRecDepth 100000 in
theorem mw_wsX10_text_278 : (.fieldLink RX3 37 "NothingJudge$Program" "testOwner" "[I" : Cond) ∈ wsX10_text := List.mem_of_getElem? (i := 278) (by decide +kernel)
set_option maxRecDepth 100000 in
theorem mw_wsX10_text_277 : (.code yX3_addTest cX3_addTest 4 (some .int) : Cond) ∈ wsX10_text := List.mem_of_getElem? (i := 277) rfl
set_option maxRecDepth 100000 in
theorem mw_wsX10_text_276 : (.selects RX3 yX3_addTest yX3_addTest : Cond) ∈ wsX10_text := List.mem_of_getElem? (i := 276) (by decide +kernel)
set_option maxRecDepth 100000 in
theorem mw_wsX10_text_275 : (.instanceMethod yX3_addTest : Cond) ∈ wsX10_text := List.mem_of_getElem? (i := 275) (by decide +kernel)
set_option maxRecDepth 100000 in
theorem mw_wsX10_text_274 : (.methodLink RX4 166 yX3_addTest : Cond) ∈ wsX10_text := List.mem_of_getElem? (i := 274) (by decide +kernel)
set_option maxRecDepth 100000 in
theorem mw_wsX10_text_273 : (.fieldLink RX4 163 "NothingJudge$Program" "tests" "I" : Cond) ∈ wsX10_text := List.mem_of_getElem? (i := 273) (by decide +kernel)
set_option maxRecDepth 100000 in
theorem mw_wsX10_text_272 : (.code yX4_readBranch cX4_readBranch 5 (some .boolean) : Cond) ∈ wsX10_text := List.mem_of_getElem? (i := 272) rfl
set_option maxRecDepth 100000 in
theorem mw_wsX10_text_271 : (.selects RX4 yX4_readBranch yX4_readBranch : Cond) ∈ wsX10_text := List.mem_of_getElem? (i := 271) (by decide +kernel)
set_option maxRecDepth 100000 in
theorem mw_wsX10_text_270 : (.instanceMethod yX4_readBranch : Cond) ∈ wsX10_text := List.mem_of_getElem? (i := 270) (by decide +kernel)
set_option maxRecDepth 100000 in
theorem mw_wsX10_text_269 : (.methodLink RX4 143 yX4_readBranch : Cond) ∈ wsX10_text := List.mem_of_getElem? (i := 269) (by decide +kernel)
set_option maxRecDepth 100000 in
theorem mw_wsX10_text_268 : (.code yX4_readReturn cX4_readReturn 2 (some .boolean) : Cond) ∈ wsX10_text := List.mem_of_getElem? (i := 268) rfl
set_option maxRecDepth 100000 in
theorem mw_wsX10_text_267 : (.selects RX4 yX4_readReturn yX4_readReturn : Cond) ∈ wsX10_text := List.mem_of_getElem? (i := 267) (by decide +kernel)
set_option maxRecDepth 100000 in
theorem mc_wsX10_text_wsX4_readInto_r8 : ∀ w ∈ wsX4_readInto_r8, w ∈ wsX10_text := (List.forall_mem_cons.mpr ⟨mw_wsX10_text_267, (List.forall_mem_cons.mpr ⟨mw_wsX10_text_268, (List.forall_mem_cons.mpr ⟨mw_wsX10_text_269, (List.forall_mem_cons.mpr ⟨mw_wsX10_text_270, (List.forall_mem_cons.mpr ⟨mw_wsX10_text_271, (List.forall_mem_cons.mpr ⟨mw_wsX10_text_272, (List.forall_mem_cons.mpr ⟨mw_wsX10_text_273, (List.forall_mem_cons.mpr ⟨mw_wsX10_text_274, (List.forall_mem_cons.mpr ⟨mw_wsX10_text_275, (List.forall_mem_cons.mpr ⟨mw_wsX10_text_276, (List.forall_mem_cons.mpr ⟨mw_wsX10_text_277, (List.forall_mem_cons.mpr ⟨mw_wsX10_text_278, (List.forall_mem_cons.mpr ⟨mw_wsX10_text_279, (List.forall_mem_cons.mpr ⟨mw_wsX10_text_280, (List.forall_mem_cons.mpr ⟨mw_wsX10_text_281, (List.forall_mem_cons.mpr ⟨mw_wsX10_text_282, (List.forall_mem_cons.mpr ⟨mw_wsX10_text_283, (List.forall_mem_cons.mpr ⟨mw_wsX10_text_284, (List.forall_mem_cons.mpr ⟨mw_wsX10_text_285, (List.forall_mem_cons.mpr ⟨mw_wsX10_text_286, (List.forall_mem_cons.mpr ⟨mw_wsX10_text_287, (List.forall_mem_cons.mpr ⟨mw_wsX10_text_288, (List.forall_mem_cons.mpr ⟨mw_wsX10_text_289, (List.forall_mem_cons.mpr ⟨mw_wsX10_text_290, (fun _ h => absurd h List.not_mem_nil)⟩)⟩)⟩)⟩)⟩)⟩)⟩)⟩)⟩)⟩)⟩)⟩)⟩)⟩)⟩)⟩)⟩)⟩)⟩)⟩)⟩)⟩)⟩)⟩)
set_option maxRecDepth 100000 in
theorem mw_wsX10_text_293 : (.code yX0_arguments cX0_arguments 2 (some .int) : Cond) ∈ wsX10_text := List.mem_of_getElem? (i := 293) rfl
set_option maxRecDepth 100000 in
theorem mw_wsX10_text_292 : (.selects RX0 yX0_arguments yX0_arguments : Cond) ∈ wsX10_text := List.mem_of_getElem? (i := 292) (by decide +kernel)
set_option maxRecDepth 100000 in
theorem mw_wsX10_text_291 : (.instanceMethod yX0_arguments : Cond) ∈ wsX10_text := List.mem_of_getElem? (i := 291) (by decide +kernel)
set_option maxRecDepth 100000 in
theorem mc_wsX10_text_wsX4_readInto_r9 : ∀ w ∈ wsX4_readInto_r9, w ∈ wsX10_text := (List.forall_mem_cons.mpr ⟨mw_wsX10_text_291, (List.forall_mem_cons.mpr ⟨mw_wsX10_text_292, (List.forall_mem_cons.mpr ⟨mw_wsX10_text_293, (fun _ h => absurd h List.not_mem_nil)⟩)⟩)⟩)
set_option maxRecDepth 20000 in
theorem ggX10_text_X4_readInto : GoodIn wsX10_text wsX4_readInto := goodIn_sub (List.forall_mem_cons.mpr ⟨mw_wsX10_text_106, (wK_app (wK_app (wK_app (wK_app (wK_app mc_wsX10_text_wsX4_readInto_r1 (wK_app mc_wsX10_text_wsX4_readInto_r2 (wK_app mc_wsX10_text_wsX4_readInto_r3 (wK_app mc_wsX10_text_wsX4_readInto_r4 (wK_app mc_wsX10_text_wsX4_readInto_r5 (wK_app mc_wsX10_text_wsX4_readInto_r6 (wK_app mc_wsX10_text_wsX4_readInto_r7 (wK_app mc_wsX10_text_wsX4_readInto_r8 mc_wsX10_text_wsX4_readInto_r9)))))))) (fun _ h => List.mem_cons_of_mem _ (List.mem_append_left _ (List.mem_append_left _ (List.mem_append_left _ (List.mem_append_left _ (List.mem_append_left _ (List.mem_append_left _ (List.mem_append_left _ (List.mem_append_right _ h)))))))))) (fun _ h => List.mem_cons_of_mem _ (List.mem_append_left _ (List.mem_append_left _ (List.mem_append_left _ (List.mem_append_left _ (List.mem_append_left _ (List.mem_append_right _ h)))))))) (fun _ h => List.mem_cons_of_mem _ (List.mem_append_left _ (List.mem_append_left _ (List.mem_append_left _ (List.mem_append_right _ h)))))) (fun _ h => List.mem_cons_of_mem _ (List.mem_append_left _ (List.mem_append_left _ (List.mem_append_left _ (List.mem_append_left _ (List.mem_append_right _ h)))))))⟩) (by decide +kernel)
set_option maxRecDepth 20000 in
theorem gX10_text_X4_readInto : GoodIn wsX10_text (wsV RX10 98 RX4 yX4_readInto wsX4_readInto) := goodIn_app (goodIn_of _ (by decide +kernel)) ggX10_text_X4_readInto
set_option maxRecDepth 100000 in
theorem mw_wsX10_text_298 : (.code yX7_startAt cX7_startAt 2 none : Cond) ∈ wsX10_text := List.mem_of_getElem? (i := 298) rfl
set_option maxRecDepth 100000 in
theorem mw_wsX10_text_304 : (.code yJ7_fill_53178 cJ7_fill_53178 4 none : Cond) ∈ wsX10_text := List.mem_of_getElem? (i := 304) rfl
set_option maxRecDepth 100000 in
theorem mw_wsX10_text_303 : (.initialized RJ7 : Cond) ∈ wsX10_text := List.mem_of_getElem? (i := 303) (by decide +kernel)
set_option maxRecDepth 100000 in
theorem mw_wsX10_text_302 : (.static yJ7_fill_53178 : Cond) ∈ wsX10_text := List.mem_of_getElem? (i := 302) (by decide +kernel)
set_option maxRecDepth 100000 in
theorem mw_wsX10_text_301 : (.methodLink RX7 23 yJ7_fill_53178 : Cond) ∈ wsX10_text := List.mem_of_getElem? (i := 301) (by decide +kernel)
set_option maxRecDepth 100000 in
theorem mw_wsX10_text_300 : (.fieldLink RX7 15 "NothingJudge$Scene" "told" "[I" : Cond) ∈ wsX10_text := List.mem_of_getElem? (i := 300) (by decide +kernel)
set_option maxRecDepth 100000 in
theorem mw_wsX10_text_299 : (.fieldLink RX7 9 "NothingJudge$Scene" "start" "I" : Cond) ∈ wsX10_text := List.mem_of_getElem? (i := 299) (by decide +kernel)
set_option maxRecDepth 20000 in
theorem ggX10_text_X7_startAt : GoodIn wsX10_text wsX7_startAt := goodIn_sub (List.forall_mem_cons.mpr ⟨mw_wsX10_text_298, (wK_app (List.forall_mem_cons.mpr ⟨mw_wsX10_text_299, (List.forall_mem_cons.mpr ⟨mw_wsX10_text_300, (List.forall_mem_cons.mpr ⟨mw_wsX10_text_301, (List.forall_mem_cons.mpr ⟨mw_wsX10_text_302, (List.forall_mem_cons.mpr ⟨mw_wsX10_text_303, (List.forall_mem_cons.mpr ⟨mw_wsX10_text_304, (fun _ h => absurd h List.not_mem_nil)⟩)⟩)⟩)⟩)⟩)⟩) (fun _ h => List.mem_cons_of_mem _ (List.mem_append_left _ (List.mem_append_left _ (List.mem_append_left _ (List.mem_append_left _ (List.mem_append_left _ (List.mem_append_left _ (List.mem_append_right _ h)))))))))⟩) (by decide +kernel)
set_option maxRecDepth 20000 in
theorem gX10_text_X7_startAt : GoodIn wsX10_text (wsV RX10 116 RX7 yX7_startAt wsX7_startAt) := goodIn_app (goodIn_of _ (by decide +kernel)) ggX10_text_X7_startAt
set_option maxRecDepth 100000 in
theorem mw_wsX10_text_309 : (.code yX10_forget cX10_forget 1 none : Cond) ∈ wsX10_text := List.mem_of_getElem? (i := 309) rfl
set_option maxRecDepth 100000 in
theorem mw_wsX10_text_315 : (.fieldLink RX10 221 "NothingJudge$Mender" "stale" "Z" : Cond) ∈ wsX10_text := List.mem_of_getElem? (i := 315) (by decide +kernel)
set_option maxRecDepth 100000 in
theorem mw_wsX10_text_314 : (.fieldLink RX10 79 "NothingJudge" "mender" "LNothingJudge$Mender;" : Cond) ∈ wsX10_text := List.mem_of_getElem? (i := 314) (by decide +kernel)
set_option maxRecDepth 100000 in
theorem mw_wsX10_text_313 : (.fieldLink RX10 247 "NothingJudge$Trials" "stale" "Z" : Cond) ∈ wsX10_text := List.mem_of_getElem? (i := 313) (by decide +kernel)
set_option maxRecDepth 100000 in
theorem mw_wsX10_text_312 : (.fieldLink RX10 70 "NothingJudge" "trials" "LNothingJudge$Trials;" : Cond) ∈ wsX10_text := List.mem_of_getElem? (i := 312) (by decide +kernel)
set_option maxRecDepth 100000 in
theorem mw_wsX10_text_311 : (.fieldLink RX10 246 "NothingJudge$Facts" "stale" "Z" : Cond) ∈ wsX10_text := List.mem_of_getElem? (i := 311) (by decide +kernel)
set_option maxRecDepth 100000 in
theorem mw_wsX10_text_310 : (.fieldLink RX10 54 "NothingJudge" "facts" "LNothingJudge$Facts;" : Cond) ∈ wsX10_text := List.mem_of_getElem? (i := 310) (by decide +kernel)
set_option maxRecDepth 20000 in
theorem ggX10_text_X10_forget : GoodIn wsX10_text wsX10_forget := goodIn_sub (List.forall_mem_cons.mpr ⟨mw_wsX10_text_309, (wK_app (wK_app (wK_app (wK_app (List.forall_mem_cons.mpr ⟨mw_wsX10_text_310, (List.forall_mem_cons.mpr ⟨mw_wsX10_text_311, (List.forall_mem_cons.mpr ⟨mw_wsX10_text_312, (List.forall_mem_cons.mpr ⟨mw_wsX10_text_313, (List.forall_mem_cons.mpr ⟨mw_wsX10_text_314, (List.forall_mem_cons.mpr ⟨mw_wsX10_text_315, (fun _ h => absurd h List.not_mem_nil)⟩)⟩)⟩)⟩)⟩)⟩) (fun _ h => List.mem_cons_of_mem _ (List.mem_append_left _ (List.mem_append_left _ (List.mem_append_left _ (List.mem_append_left _ (List.mem_append_left _ (List.mem_append_left _ (List.mem_append_left _ (List.mem_append_left _ (List.mem_append_right _ h))))))))))) (fun _ h => List.mem_cons_of_mem _ (List.mem_append_left _ (List.mem_append_left _ (List.mem_append_right _ h))))) (fun _ h => List.mem_cons_of_mem _ (List.mem_append_left _ (List.mem_append_right _ h)))) (fun _ h => List.mem_cons_of_mem _ (List.mem_append_right _ h)))⟩) (by decide +kernel)
set_option maxRecDepth 20000 in
theorem gX10_text_X10_forget : GoodIn wsX10_text (wsV RX10 119 RX10 yX10_forget wsX10_forget) := goodIn_app (goodIn_of _ (by decide +kernel)) ggX10_text_X10_forget
theorem dX10_text_0 : decode cX10_text 0 = .ok (.iload_n 1, 1) := by decide +kernel
theorem dX10_text_1 : decode cX10_text 1 = .ok (.ifCond .lt 11, 3) := by decide +kernel
theorem dX10_text_4 : decode cX10_text 4 = .ok (.iload_n 1, 1) := by decide +kernel
theorem dX10_text_5 : decode cX10_text 5 = .ok (.aload_n 0, 1) := by decide +kernel
theorem dX10_text_6 : decode cX10_text 6 = .ok (.getfield 87, 3) := by decide +kernel
theorem dX10_text_9 : decode cX10_text 9 = .ok (.if_icmp .le 6, 3) := by decide +kernel
theorem dX10_text_12 : decode cX10_text 12 = .ok (.bipush (-2), 2) := by decide +kernel
theorem dX10_text_14 : decode cX10_text 14 = .ok (.ireturn, 1) := by decide +kernel
theorem dX10_text_15 : decode cX10_text 15 = .ok (.aload_n 0, 1) := by decide +kernel
theorem dX10_text_16 : decode cX10_text 16 = .ok (.iconst 0, 1) := by decide +kernel
theorem dX10_text_17 : decode cX10_text 17 = .ok (.putfield 87, 3) := by decide +kernel
theorem dX10_text_20 : decode cX10_text 20 = .ok (.aload_n 0, 1) := by decide +kernel
theorem dX10_text_21 : decode cX10_text 21 = .ok (.getfield 16, 3) := by decide +kernel
theorem dX10_text_24 : decode cX10_text 24 = .ok (.aload_n 0, 1) := by decide +kernel
theorem dX10_text_25 : decode cX10_text 25 = .ok (.getfield 9, 3) := by decide +kernel
theorem dX10_text_28 : decode cX10_text 28 = .ok (.iload_n 1, 1) := by decide +kernel
theorem dX10_text_29 : decode cX10_text 29 = .ok (.invokevirtual 94, 3) := by decide +kernel
theorem dX10_text_32 : decode cX10_text 32 = .ok (.aload_n 0, 1) := by decide +kernel
theorem dX10_text_33 : decode cX10_text 33 = .ok (.getfield 32, 3) := by decide +kernel
theorem dX10_text_36 : decode cX10_text 36 = .ok (.aload_n 0, 1) := by decide +kernel
theorem dX10_text_37 : decode cX10_text 37 = .ok (.getfield 23, 3) := by decide +kernel
theorem dX10_text_40 : decode cX10_text 40 = .ok (.invokevirtual 98, 3) := by decide +kernel
theorem dX10_text_43 : decode cX10_text 43 = .ok (.aload_n 0, 1) := by decide +kernel
theorem dX10_text_44 : decode cX10_text 44 = .ok (.aload_n 0, 1) := by decide +kernel
theorem dX10_text_45 : decode cX10_text 45 = .ok (.getfield 32, 3) := by decide +kernel
theorem dX10_text_48 : decode cX10_text 48 = .ok (.getfield 101, 3) := by decide +kernel
theorem dX10_text_51 : decode cX10_text 51 = .ok (.putfield 104, 3) := by decide +kernel
theorem dX10_text_54 : decode cX10_text 54 = .ok (.aload_n 0, 1) := by decide +kernel
theorem dX10_text_55 : decode cX10_text 55 = .ok (.aload_n 0, 1) := by decide +kernel
theorem dX10_text_56 : decode cX10_text 56 = .ok (.getfield 32, 3) := by decide +kernel
theorem dX10_text_59 : decode cX10_text 59 = .ok (.getfield 107, 3) := by decide +kernel
theorem dX10_text_62 : decode cX10_text 62 = .ok (.putfield 36, 3) := by decide +kernel
theorem dX10_text_65 : decode cX10_text 65 = .ok (.aload_n 0, 1) := by decide +kernel
theorem dX10_text_66 : decode cX10_text 66 = .ok (.getfield 104, 3) := by decide +kernel
theorem dX10_text_69 : decode cX10_text 69 = .ok (.ifCond .eq 5, 3) := by decide +kernel
theorem dX10_text_74 : decode cX10_text 74 = .ok (.aload_n 0, 1) := by decide +kernel
theorem dX10_text_75 : decode cX10_text 75 = .ok (.getfield 45, 3) := by decide +kernel
theorem dX10_text_78 : decode cX10_text 78 = .ok (.getfield 110, 3) := by decide +kernel
theorem dX10_text_81 : decode cX10_text 81 = .ok (.astore_n 2, 1) := by decide +kernel
theorem dX10_text_82 : decode cX10_text 82 = .ok (.aload_n 0, 1) := by decide +kernel
theorem dX10_text_83 : decode cX10_text 83 = .ok (.getfield 45, 3) := by decide +kernel
theorem dX10_text_86 : decode cX10_text 86 = .ok (.aload_n 0, 1) := by decide +kernel
theorem dX10_text_87 : decode cX10_text 87 = .ok (.getfield 23, 3) := by decide +kernel
theorem dX10_text_90 : decode cX10_text 90 = .ok (.putfield 110, 3) := by decide +kernel
theorem dX10_text_93 : decode cX10_text 93 = .ok (.aload_n 0, 1) := by decide +kernel
theorem dX10_text_94 : decode cX10_text 94 = .ok (.aload_n 2, 1) := by decide +kernel
theorem dX10_text_95 : decode cX10_text 95 = .ok (.putfield 23, 3) := by decide +kernel
theorem dX10_text_98 : decode cX10_text 98 = .ok (.aload_n 0, 1) := by decide +kernel
theorem dX10_text_99 : decode cX10_text 99 = .ok (.getfield 45, 3) := by decide +kernel
theorem dX10_text_102 : decode cX10_text 102 = .ok (.aload_n 0, 1) := by decide +kernel
theorem dX10_text_103 : decode cX10_text 103 = .ok (.getfield 45, 3) := by decide +kernel
theorem dX10_text_106 : decode cX10_text 106 = .ok (.getfield 110, 3) := by decide +kernel
theorem dX10_text_109 : decode cX10_text 109 = .ok (.getfield 113, 3) := by decide +kernel
theorem dX10_text_112 : decode cX10_text 112 = .ok (.invokevirtual 116, 3) := by decide +kernel
theorem dX10_text_115 : decode cX10_text 115 = .ok (.aload_n 0, 1) := by decide +kernel
theorem dX10_text_116 : decode cX10_text 116 = .ok (.invokevirtual 119, 3) := by decide +kernel
theorem dX10_text_119 : decode cX10_text 119 = .ok (.aload_n 0, 1) := by decide +kernel
theorem dX10_text_120 : decode cX10_text 120 = .ok (.getfield 45, 3) := by decide +kernel
theorem dX10_text_123 : decode cX10_text 123 = .ok (.getfield 110, 3) := by decide +kernel
theorem dX10_text_126 : decode cX10_text 126 = .ok (.getfield 122, 3) := by decide +kernel
theorem dX10_text_129 : decode cX10_text 129 = .ok (.ireturn, 1) := by decide +kernel
theorem dX10_fault_0 : decode cX10_fault 0 = .ok (.iload_n 1, 1) := by decide +kernel
theorem dX10_fault_1 : decode cX10_fault 1 = .ok (.ifCond .ne 8, 3) := by decide +kernel
theorem dX10_fault_4 : decode cX10_fault 4 = .ok (.aload_n 0, 1) := by decide +kernel
theorem dX10_fault_5 : decode cX10_fault 5 = .ok (.getfield 104, 3) := by decide +kernel
theorem dX10_fault_8 : decode cX10_fault 8 = .ok (.ireturn, 1) := by decide +kernel
theorem dX10_fault_9 : decode cX10_fault 9 = .ok (.iload_n 1, 1) := by decide +kernel
theorem dX10_fault_10 : decode cX10_fault 10 = .ok (.iconst 1, 1) := by decide +kernel
theorem dX10_fault_11 : decode cX10_fault 11 = .ok (.if_icmp .ne 10, 3) := by decide +kernel
theorem dX10_fault_14 : decode cX10_fault 14 = .ok (.aload_n 0, 1) := by decide +kernel
theorem dX10_fault_15 : decode cX10_fault 15 = .ok (.getfield 36, 3) := by decide +kernel
theorem dX10_fault_18 : decode cX10_fault 18 = .ok (.goto 4, 3) := by decide +kernel
theorem dX10_fault_21 : decode cX10_fault 21 = .ok (.iconst (-1), 1) := by decide +kernel
theorem dX10_fault_22 : decode cX10_fault 22 = .ok (.ireturn, 1) := by decide +kernel
set_option maxRecDepth 100000 in
theorem mw_wsX10_entry_7 : (.code yX3_has cX3_has 2 (some .boolean) : Cond) ∈ wsX10_entry := List.mem_of_getElem? (i := 7) rfl
set_option maxRecDepth 100000 in
theorem mw_wsX10_entry_8 : (.fieldLink RX3 50 "NothingJudge$Program" "told" "I" : Cond) ∈ wsX10_entry := List.mem_of_getElem? (i := 8) (by decide +kernel)
set_option maxRecDepth 20000 in
theorem ggX10_entry_X3_has : GoodIn wsX10_entry wsX3_has := goodIn_sub (List.forall_mem_cons.mpr ⟨mw_wsX10_entry_7, (wK_app (List.forall_mem_cons.mpr ⟨mw_wsX10_entry_8, (fun _ h => absurd h List.not_mem_nil)⟩) (fun _ h => List.mem_cons_of_mem _ (List.mem_append_left _ (List.mem_append_left _ (List.mem_append_left _ (List.mem_append_right _ h))))))⟩) (by decide +kernel)
set_option maxRecDepth 20000 in
theorem gX10_entry_X3_has : GoodIn wsX10_entry (wsV RX10 125 RX3 yX3_has wsX3_has) := goodIn_app (goodIn_of _ (by decide +kernel)) ggX10_entry_X3_has
theorem dX10_entry_0 : decode cX10_entry 0 = .ok (.aload_n 0, 1) := by decide +kernel
theorem dX10_entry_1 : decode cX10_entry 1 = .ok (.getfield 45, 3) := by decide +kernel
theorem dX10_entry_4 : decode cX10_entry 4 = .ok (.getfield 110, 3) := by decide +kernel
theorem dX10_entry_7 : decode cX10_entry 7 = .ok (.iload_n 1, 1) := by decide +kernel
theorem dX10_entry_8 : decode cX10_entry 8 = .ok (.invokevirtual 125, 3) := by decide +kernel
theorem dX10_entry_11 : decode cX10_entry 11 = .ok (.ifCond .ne 5, 3) := by decide +kernel
theorem dX10_entry_14 : decode cX10_entry 14 = .ok (.iconst 0, 1) := by decide +kernel
theorem dX10_entry_15 : decode cX10_entry 15 = .ok (.ireturn, 1) := by decide +kernel
set_option maxRecDepth 100000 in
theorem mw_wsX10_outer_7 : (.code yX7_outers cX7_outers 1 (some .int) : Cond) ∈ wsX10_outer := List.mem_of_getElem? (i := 7) rfl
set_option maxRecDepth 100000 in
theorem mw_wsX10_outer_24 : (.fieldLink RX3 50 "NothingJudge$Program" "told" "I" : Cond) ∈ wsX10_outer := List.mem_of_getElem? (i := 24) (by decide +kernel)
set_option maxRecDepth 100000 in
theorem mw_wsX10_outer_23 : (.code yX3_has cX3_has 2 (some .boolean) : Cond) ∈ wsX10_outer := List.mem_of_getElem? (i := 23) rfl
set_option maxRecDepth 100000 in
theorem mw_wsX10_outer_22 : (.initialized RX3 : Cond) ∈ wsX10_outer := List.mem_of_getElem? (i := 22) (by decide +kernel)
set_option maxRecDepth 100000 in
theorem mw_wsX10_outer_21 : (.selects RX3 yX3_has yX3_has : Cond) ∈ wsX10_outer := List.mem_of_getElem? (i := 21) (by decide +kernel)
set_option maxRecDepth 100000 in
theorem mw_wsX10_outer_20 : (.instanceMethod yX3_has : Cond) ∈ wsX10_outer := List.mem_of_getElem? (i := 20) (by decide +kernel)
set_option maxRecDepth 100000 in
theorem mw_wsX10_outer_19 : (.methodLink RX7 40 yX3_has : Cond) ∈ wsX10_outer := List.mem_of_getElem? (i := 19) (by decide +kernel)
set_option maxRecDepth 100000 in
theorem mw_wsX10_outer_18 : (.code yX5_at cX5_at 2 (some .int) : Cond) ∈ wsX10_outer := List.mem_of_getElem? (i := 18) rfl
set_option maxRecDepth 100000 in
theorem mw_wsX10_outer_17 : (.initialized RX5 : Cond) ∈ wsX10_outer := List.mem_of_getElem? (i := 17) (by decide +kernel)
set_option maxRecDepth 100000 in
theorem mw_wsX10_outer_16 : (.static yX5_at : Cond) ∈ wsX10_outer := List.mem_of_getElem? (i := 16) (by decide +kernel)
set_option maxRecDepth 100000 in
theorem mw_wsX10_outer_15 : (.methodLink RX7 34 yX5_at : Cond) ∈ wsX10_outer := List.mem_of_getElem? (i := 15) (by decide +kernel)
set_option maxRecDepth 100000 in
theorem mw_wsX10_outer_14 : (.code Lib.Math.min.name Lib.Math.min.code 2 (some .int) : Cond) ∈ wsX10_outer := List.mem_of_getElem? (i := 14) rfl
set_option maxRecDepth 100000 in
theorem mw_wsX10_outer_13 : (.initialized "java/lang/Math" : Cond) ∈ wsX10_outer := List.mem_of_getElem? (i := 13) (by decide +kernel)
set_option maxRecDepth 100000 in
theorem mw_wsX10_outer_12 : (.static Lib.Math.min.name : Cond) ∈ wsX10_outer := List.mem_of_getElem? (i := 12) (by decide +kernel)
set_option maxRecDepth 100000 in
theorem mw_wsX10_outer_11 : (.methodLink RX7 44 Lib.Math.min.name : Cond) ∈ wsX10_outer := List.mem_of_getElem? (i := 11) (by decide +kernel)
set_option maxRecDepth 100000 in
theorem mw_wsX10_outer_10 : (.fieldLink RX7 9 "NothingJudge$Scene" "start" "I" : Cond) ∈ wsX10_outer := List.mem_of_getElem? (i := 10) (by decide +kernel)
set_option maxRecDepth 100000 in
theorem mw_wsX10_outer_9 : (.fieldLink RX7 29 "NothingJudge$Program" "arity" "[I" : Cond) ∈ wsX10_outer := List.mem_of_getElem? (i := 9) (by decide +kernel)
set_option maxRecDepth 100000 in
theorem mw_wsX10_outer_8 : (.fieldLink RX7 19 "NothingJudge$Scene" "program" "LNothingJudge$Program;" : Cond) ∈ wsX10_outer := List.mem_of_getElem? (i := 8) (by decide +kernel)
set_option maxRecDepth 20000 in
theorem ggX10_outer_X7_outers : GoodIn wsX10_outer wsX7_outers := goodIn_sub (List.forall_mem_cons.mpr ⟨mw_wsX10_outer_7, (wK_app (wK_app (List.forall_mem_cons.mpr ⟨mw_wsX10_outer_8, (List.forall_mem_cons.mpr ⟨mw_wsX10_outer_9, (List.forall_mem_cons.mpr ⟨mw_wsX10_outer_10, (List.forall_mem_cons.mpr ⟨mw_wsX10_outer_11, (List.forall_mem_cons.mpr ⟨mw_wsX10_outer_12, (List.forall_mem_cons.mpr ⟨mw_wsX10_outer_13, (List.forall_mem_cons.mpr ⟨mw_wsX10_outer_14, (List.forall_mem_cons.mpr ⟨mw_wsX10_outer_15, (List.forall_mem_cons.mpr ⟨mw_wsX10_outer_16, (List.forall_mem_cons.mpr ⟨mw_wsX10_outer_17, (List.forall_mem_cons.mpr ⟨mw_wsX10_outer_18, (List.forall_mem_cons.mpr ⟨mw_wsX10_outer_19, (List.forall_mem_cons.mpr ⟨mw_wsX10_outer_20, (List.forall_mem_cons.mpr ⟨mw_wsX10_outer_21, (List.forall_mem_cons.mpr ⟨mw_wsX10_outer_22, (List.forall_mem_cons.mpr ⟨mw_wsX10_outer_23, (List.forall_mem_cons.mpr ⟨mw_wsX10_outer_24, (fun _ h => absurd h List.not_mem_nil)⟩)⟩)⟩)⟩)⟩)⟩)⟩)⟩)⟩)⟩)⟩)⟩)⟩)⟩)⟩)⟩)⟩) (fun _ h => List.mem_cons_of_mem _ (List.mem_append_left _ (List.mem_append_left _ (List.mem_append_left _ (List.mem_append_left _ (List.mem_append_right _ h))))))) (fun _ h => List.mem_cons_of_mem _ (List.mem_append_left _ (List.mem_append_left _ (List.mem_append_left _ (List.mem_append_right _ h))))))⟩) (by decide +kernel)
set_option maxRecDepth 20000 in
theorem gX10_outer_X7_outers : GoodIn wsX10_outer (wsV RX10 129 RX7 yX7_outers wsX7_outers) := goodIn_app (goodIn_of _ (by decide +kernel)) ggX10_outer_X7_outers
theorem dX10_outer_0 : decode cX10_outer 0 = .ok (.iload_n 1, 1) := by decide +kernel
theorem dX10_outer_1 : decode cX10_outer 1 = .ok (.ifCond .lt 24, 3) := by decide +kernel
theorem dX10_outer_4 : decode cX10_outer 4 = .ok (.iload_n 1, 1) := by decide +kernel
theorem dX10_outer_5 : decode cX10_outer 5 = .ok (.aload_n 0, 1) := by decide +kernel
theorem dX10_outer_6 : decode cX10_outer 6 = .ok (.getfield 45, 3) := by decide +kernel
theorem dX10_outer_9 : decode cX10_outer 9 = .ok (.invokevirtual 129, 3) := by decide +kernel
theorem dX10_outer_12 : decode cX10_outer 12 = .ok (.if_icmp .ge 13, 3) := by decide +kernel
theorem dX10_outer_25 : decode cX10_outer 25 = .ok (.iconst 0, 1) := by decide +kernel
theorem dX10_outer_26 : decode cX10_outer 26 = .ok (.ireturn, 1) := by decide +kernel
set_option maxRecDepth 100000 in
theorem mw_wsX10_mark_7 : (.code yX10_markIndex cX10_markIndex 5 (some .int) : Cond) ∈ wsX10_mark := List.mem_of_getElem? (i := 7) rfl
set_option maxRecDepth 100000 in
theorem mw_wsX10_mark_20 : (.code yX5_at cX5_at 2 (some .int) : Cond) ∈ wsX10_mark := List.mem_of_getElem? (i := 20) rfl
set_option maxRecDepth 100000 in
theorem mw_wsX10_mark_19 : (.initialized RX5 : Cond) ∈ wsX10_mark := List.mem_of_getElem? (i := 19) (by decide +kernel)
set_option maxRecDepth 100000 in
theorem mw_wsX10_mark_18 : (.static yX5_at : Cond) ∈ wsX10_mark := List.mem_of_getElem? (i := 18) (by decide +kernel)
set_option maxRecDepth 100000 in
theorem mw_wsX10_mark_17 : (.methodLink RX10 153 yX5_at : Cond) ∈ wsX10_mark := List.mem_of_getElem? (i := 17) (by decide +kernel)
set_option maxRecDepth 100000 in
theorem mw_wsX10_mark_16 : (.fieldLink RX3 50 "NothingJudge$Program" "told" "I" : Cond) ∈ wsX10_mark := List.mem_of_getElem? (i := 16) (by decide +kernel)
set_option maxRecDepth 100000 in
theorem mw_wsX10_mark_15 : (.code yX3_has cX3_has 2 (some .boolean) : Cond) ∈ wsX10_mark := List.mem_of_getElem? (i := 15) rfl
set_option maxRecDepth 100000 in
theorem mw_wsX10_mark_14 : (.initialized RX3 : Cond) ∈ wsX10_mark := List.mem_of_getElem? (i := 14) (by decide +kernel)
set_option maxRecDepth 100000 in
theorem mw_wsX10_mark_13 : (.selects RX3 yX3_has yX3_has : Cond) ∈ wsX10_mark := List.mem_of_getElem? (i := 13) (by decide +kernel)
set_option maxRecDepth 100000 in
theorem mw_wsX10_mark_12 : (.instanceMethod yX3_has : Cond) ∈ wsX10_mark := List.mem_of_getElem? (i := 12) (by decide +kernel)
set_option maxRecDepth 100000 in
theorem mw_wsX10_mark_11 : (.methodLink RX10 125 yX3_has : Cond) ∈ wsX10_mark := List.mem_of_getElem? (i := 11) (by decide +kernel)
set_option maxRecDepth 100000 in
theorem mw_wsX10_mark_10 : (.fieldLink RX10 248 "NothingJudge$Program" "arity" "[I" : Cond) ∈ wsX10_mark := List.mem_of_getElem? (i := 10) (by decide +kernel)
set_option maxRecDepth 100000 in
theorem mw_wsX10_mark_9 : (.fieldLink RX10 110 "NothingJudge$Scene" "program" "LNothingJudge$Program;" : Cond) ∈ wsX10_mark := List.mem_of_getElem? (i := 9) (by decide +kernel)
set_option maxRecDepth 100000 in
theorem mw_wsX10_mark_8 : (.fieldLink RX10 45 "NothingJudge" "scene" "LNothingJudge$Scene;" : Cond) ∈ wsX10_mark := List.mem_of_getElem? (i := 8) (by decide +kernel)
set_option maxRecDepth 20000 in
theorem ggX10_mark_X10_markIndex : GoodIn wsX10_mark wsX10_markIndex := goodIn_sub (List.forall_mem_cons.mpr ⟨mw_wsX10_mark_7, (wK_app (wK_app (wK_app (List.forall_mem_cons.mpr ⟨mw_wsX10_mark_8, (List.forall_mem_cons.mpr ⟨mw_wsX10_mark_9, (List.forall_mem_cons.mpr ⟨mw_wsX10_mark_10, (List.forall_mem_cons.mpr ⟨mw_wsX10_mark_11, (List.forall_mem_cons.mpr ⟨mw_wsX10_mark_12, (List.forall_mem_cons.mpr ⟨mw_wsX10_mark_13, (List.forall_mem_cons.mpr ⟨mw_wsX10_mark_14, (List.forall_mem_cons.mpr ⟨mw_wsX10_mark_15, (List.forall_mem_cons.mpr ⟨mw_wsX10_mark_16, (List.forall_mem_cons.mpr ⟨mw_wsX10_mark_17, (List.forall_mem_cons.mpr ⟨mw_wsX10_mark_18, (List.forall_mem_cons.mpr ⟨mw_wsX10_mark_19, (List.forall_mem_cons.mpr ⟨mw_wsX10_mark_20, (fun _ h => absurd h List.not_mem_nil)⟩)⟩)⟩)⟩)⟩)⟩)⟩)⟩)⟩)⟩)⟩)⟩)⟩) (fun _ h => List.mem_cons_of_mem _ (List.mem_append_left _ (List.mem_append_left _ (List.mem_append_left _ (List.mem_append_left _ (List.mem_append_right _ h))))))) (fun _ h => List.mem_cons_of_mem _ (List.mem_append_left _ (List.mem_append_left _ (List.mem_append_right _ h))))) (fun _ h => List.mem_cons_of_mem _ (List.mem_append_left _ (List.mem_append_right _ h))))⟩) (by decide +kernel)
set_option maxRecDepth 20000 in
theorem gX10_mark_X10_markIndex : GoodIn wsX10_mark (wsV RX10 142 RX10 yX10_markIndex wsX10_markIndex) := goodIn_app (goodIn_of _ (by decide +kernel)) ggX10_mark_X10_markIndex
set_option maxRecDepth 100000 in
theorem mw_wsX10_mark_25 : (.code yX1_settle cX1_settle 5 none : Cond) ∈ wsX10_mark := List.mem_of_getElem? (i := 25) rfl
set_option maxRecDepth 100000 in
theorem mw_wsX10_mark_48 : (.initialized RJ7 : Cond) ∈ wsX10_mark := List.mem_of_getElem? (i := 48) (by decide +kernel)
set_option maxRecDepth 100000 in
theorem mw_wsX10_mark_47 : (.static yJ7_fill_d0a16 : Cond) ∈ wsX10_mark := List.mem_of_getElem? (i := 47) (by decide +kernel)
set_option maxRecDepth 100000 in
theorem mw_wsX10_mark_46 : (.methodLink RX1 95 yJ7_fill_d0a16 : Cond) ∈ wsX10_mark := List.mem_of_getElem? (i := 46) (by decide +kernel)
set_option maxRecDepth 100000 in
theorem mw_wsX10_mark_45 : (.fieldLink RX1 25 "NothingJudge$Facts" "tested" "[I" : Cond) ∈ wsX10_mark := List.mem_of_getElem? (i := 45) (by decide +kernel)
set_option maxRecDepth 100000 in
theorem mw_wsX10_mark_44 : (.fieldLink RX1 22 "NothingJudge$Facts" "used" "[I" : Cond) ∈ wsX10_mark := List.mem_of_getElem? (i := 44) (by decide +kernel)
set_option maxRecDepth 100000 in
theorem mw_wsX10_mark_43 : (.fieldLink RX1 19 "NothingJudge$Facts" "marks" "[I" : Cond) ∈ wsX10_mark := List.mem_of_getElem? (i := 43) (by decide +kernel)
set_option maxRecDepth 100000 in
theorem mw_wsX10_mark_42 : (.fieldLink RX1 92 "NothingJudge$Facts" "reached" "I" : Cond) ∈ wsX10_mark := List.mem_of_getElem? (i := 42) (by decide +kernel)
set_option maxRecDepth 100000 in
theorem mw_wsX10_mark_41 : (.fieldLink RX1 43 "NothingJudge$Program" "code" "LNothingJudge$Code;" : Cond) ∈ wsX10_mark := List.mem_of_getElem? (i := 41) (by decide +kernel)
set_option maxRecDepth 100000 in
theorem mw_wsX10_mark_40 : (.fieldLink RX1 42 "NothingJudge$Facts" "program" "LNothingJudge$Program;" : Cond) ∈ wsX10_mark := List.mem_of_getElem? (i := 40) (by decide +kernel)
set_option maxRecDepth 100000 in
theorem mw_wsX10_mark_39 : (.fieldLink RX1 36 "NothingJudge$Scene" "program" "LNothingJudge$Program;" : Cond) ∈ wsX10_mark := List.mem_of_getElem? (i := 39) (by decide +kernel)
set_option maxRecDepth 100000 in
theorem mw_wsX10_mark_38 : (.fieldLink RX1 32 "NothingJudge$Facts" "scene" "LNothingJudge$Scene;" : Cond) ∈ wsX10_mark := List.mem_of_getElem? (i := 38) (by decide +kernel)
set_option maxRecDepth 100000 in
theorem mw_wsX10_mark_37 : (.code yX1_clear cX1_clear 1 none : Cond) ∈ wsX10_mark := List.mem_of_getElem? (i := 37) rfl
set_option maxRecDepth 100000 in
theorem mw_wsX10_mark_24 : (.initialized RX1 : Cond) ∈ wsX10_mark := List.mem_of_getElem? (i := 24) (by decide +kernel)
set_option maxRecDepth 100000 in
theorem mw_wsX10_mark_36 : (.selects RX1 yX1_clear yX1_clear : Cond) ∈ wsX10_mark := List.mem_of_getElem? (i := 36) (by decide +kernel)
set_option maxRecDepth 100000 in
theorem mw_wsX10_mark_35 : (.instanceMethod yX1_clear : Cond) ∈ wsX10_mark := List.mem_of_getElem? (i := 35) (by decide +kernel)
set_option maxRecDepth 100000 in
theorem mw_wsX10_mark_34 : (.methodLink RX1 54 yX1_clear : Cond) ∈ wsX10_mark := List.mem_of_getElem? (i := 34) (by decide +kernel)
set_option maxRecDepth 100000 in
theorem mw_wsX10_mark_33 : (.fieldLink RX1 78 "NothingJudge$Facts" "version" "I" : Cond) ∈ wsX10_mark := List.mem_of_getElem? (i := 33) (by decide +kernel)
set_option maxRecDepth 100000 in
theorem mw_wsX10_mark_32 : (.fieldLink RX1 15 "NothingJudge$Facts" "seenAt" "[I" : Cond) ∈ wsX10_mark := List.mem_of_getElem? (i := 32) (by decide +kernel)
set_option maxRecDepth 100000 in
theorem mw_wsX10_mark_31 : (.fieldLink RX1 9 "NothingJudge$Facts" "state" "[J" : Cond) ∈ wsX10_mark := List.mem_of_getElem? (i := 31) (by decide +kernel)
set_option maxRecDepth 100000 in
theorem mw_wsX10_mark_30 : (.fieldLink RX1 66 "NothingJudge$Code" "size" "I" : Cond) ∈ wsX10_mark := List.mem_of_getElem? (i := 30) (by decide +kernel)
set_option maxRecDepth 100000 in
theorem mw_wsX10_mark_29 : (.fieldLink RX1 49 "NothingJudge$Facts" "code" "LNothingJudge$Code;" : Cond) ∈ wsX10_mark := List.mem_of_getElem? (i := 29) (by decide +kernel)
set_option maxRecDepth 100000 in
theorem mw_wsX10_mark_28 : (.fieldLink RX1 60 "NothingJudge$Facts" "changed" "Z" : Cond) ∈ wsX10_mark := List.mem_of_getElem? (i := 28) (by decide +kernel)
set_option maxRecDepth 100000 in
theorem mw_wsX10_mark_27 : (.fieldLink RX1 50 "NothingJudge$Facts" "held" "J" : Cond) ∈ wsX10_mark := List.mem_of_getElem? (i := 27) (by decide +kernel)
set_option maxRecDepth 100000 in
theorem mw_wsX10_mark_26 : (.fieldLink RX1 28 "NothingJudge$Facts" "stale" "Z" : Cond) ∈ wsX10_mark := List.mem_of_getElem? (i := 26) (by decide +kernel)
set_option maxRecDepth 100000 in
theorem mc_wsX10_mark_wsX1_settle_r1 : ∀ w ∈ wsX1_settle_r1, w ∈ wsX10_mark := (List.forall_mem_cons.mpr ⟨mw_wsX10_mark_26, (List.forall_mem_cons.mpr ⟨mw_wsX10_mark_27, (List.forall_mem_cons.mpr ⟨mw_wsX10_mark_28, (List.forall_mem_cons.mpr ⟨mw_wsX10_mark_29, (List.forall_mem_cons.mpr ⟨mw_wsX10_mark_30, (List.forall_mem_cons.mpr ⟨mw_wsX10_mark_31, (List.forall_mem_cons.mpr ⟨mw_wsX10_mark_32, (List.forall_mem_cons.mpr ⟨mw_wsX10_mark_33, (List.forall_mem_cons.mpr ⟨mw_wsX10_mark_34, (List.forall_mem_cons.mpr ⟨mw_wsX10_mark_35, (List.forall_mem_cons.mpr ⟨mw_wsX10_mark_36, (List.forall_mem_cons.mpr ⟨mw_wsX10_mark_24, (List.forall_mem_cons.mpr ⟨mw_wsX10_mark_37, (List.forall_mem_cons.mpr ⟨mw_wsX10_mark_38, (List.forall_mem_cons.mpr ⟨mw_wsX10_mark_39, (List.forall_mem_cons.mpr ⟨mw_wsX10_mark_40, (List.forall_mem_cons.mpr ⟨mw_wsX10_mark_41, (List.forall_mem_cons.mpr ⟨mw_wsX10_mark_42, (List.forall_mem_cons.mpr ⟨mw_wsX10_mark_43, (List.forall_mem_cons.mpr ⟨mw_wsX10_mark_44, (List.forall_mem_cons.mpr ⟨mw_wsX10_mark_45, (List.forall_mem_cons.mpr ⟨mw_wsX10_mark_46, (List.forall_mem_cons.mpr ⟨mw_wsX10_mark_47, (List.forall_mem_cons.mpr ⟨mw_wsX10_mark_48, (fun _ h => absurd h List.not_mem_nil)⟩)⟩)⟩)⟩)⟩)⟩)⟩)⟩)⟩)⟩)⟩)⟩)⟩)⟩)⟩)⟩)⟩)⟩)⟩)⟩)⟩)⟩)⟩)⟩)
set_option maxRecDepth 100000 in
theorem mw_wsX10_mark_67 : (.fieldLink RX7 9 "NothingJudge$Scene" "start" "I" : Cond) ∈ wsX10_mark := List.mem_of_getElem? (i := 67) (by decide +kernel)
set_option maxRecDepth 100000 in
theorem mw_wsX10_mark_66 : (.fieldLink RX7 29 "NothingJudge$Program" "arity" "[I" : Cond) ∈ wsX10_mark := List.mem_of_getElem? (i := 66) (by decide +kernel)
set_option maxRecDepth 100000 in
theorem mw_wsX10_mark_65 : (.fieldLink RX7 19 "NothingJudge$Scene" "program" "LNothingJudge$Program;" : Cond) ∈ wsX10_mark := List.mem_of_getElem? (i := 65) (by decide +kernel)
set_option maxRecDepth 100000 in
theorem mw_wsX10_mark_64 : (.code yX7_outers cX7_outers 1 (some .int) : Cond) ∈ wsX10_mark := List.mem_of_getElem? (i := 64) rfl
set_option maxRecDepth 100000 in
theorem mw_wsX10_mark_63 : (.initialized RX7 : Cond) ∈ wsX10_mark := List.mem_of_getElem? (i := 63) (by decide +kernel)
set_option maxRecDepth 100000 in
theorem mw_wsX10_mark_62 : (.selects RX7 yX7_outers yX7_outers : Cond) ∈ wsX10_mark := List.mem_of_getElem? (i := 62) (by decide +kernel)
set_option maxRecDepth 100000 in
theorem mw_wsX10_mark_61 : (.instanceMethod yX7_outers : Cond) ∈ wsX10_mark := List.mem_of_getElem? (i := 61) (by decide +kernel)
set_option maxRecDepth 100000 in
theorem mw_wsX10_mark_60 : (.methodLink RX1 111 yX7_outers : Cond) ∈ wsX10_mark := List.mem_of_getElem? (i := 60) (by decide +kernel)
set_option maxRecDepth 100000 in
theorem mw_wsX10_mark_59 : (.methodLink RX1 107 yX3_has : Cond) ∈ wsX10_mark := List.mem_of_getElem? (i := 59) (by decide +kernel)
set_option maxRecDepth 100000 in
theorem mw_wsX10_mark_58 : (.fieldLink RX1 115 "NothingJudge$Scene" "told" "[I" : Cond) ∈ wsX10_mark := List.mem_of_getElem? (i := 58) (by decide +kernel)
set_option maxRecDepth 100000 in
theorem mw_wsX10_mark_57 : (.fieldLink RX1 104 "NothingJudge$Scene" "start" "I" : Cond) ∈ wsX10_mark := List.mem_of_getElem? (i := 57) (by decide +kernel)
set_option maxRecDepth 100000 in
theorem mw_wsX10_mark_56 : (.code yX1_reachEntry cX1_reachEntry 3 none : Cond) ∈ wsX10_mark := List.mem_of_getElem? (i := 56) rfl
set_option maxRecDepth 100000 in
theorem mw_wsX10_mark_55 : (.selects RX1 yX1_reachEntry yX1_reachEntry : Cond) ∈ wsX10_mark := List.mem_of_getElem? (i := 55) (by decide +kernel)
set_option maxRecDepth 100000 in
theorem mw_wsX10_mark_54 : (.instanceMethod yX1_reachEntry : Cond) ∈ wsX10_mark := List.mem_of_getElem? (i := 54) (by decide +kernel)
set_option maxRecDepth 100000 in
theorem mw_wsX10_mark_53 : (.methodLink RX1 57 yX1_reachEntry : Cond) ∈ wsX10_mark := List.mem_of_getElem? (i := 53) (by decide +kernel)
set_option maxRecDepth 100000 in
theorem mw_wsX10_mark_52 : (.code yJ7_fill_53178 cJ7_fill_53178 4 none : Cond) ∈ wsX10_mark := List.mem_of_getElem? (i := 52) rfl
set_option maxRecDepth 100000 in
theorem mw_wsX10_mark_51 : (.static yJ7_fill_53178 : Cond) ∈ wsX10_mark := List.mem_of_getElem? (i := 51) (by decide +kernel)
set_option maxRecDepth 100000 in
theorem mw_wsX10_mark_50 : (.methodLink RX1 101 yJ7_fill_53178 : Cond) ∈ wsX10_mark := List.mem_of_getElem? (i := 50) (by decide +kernel)
set_option maxRecDepth 100000 in
theorem mw_wsX10_mark_49 : (.code yJ7_fill_d0a16 cJ7_fill_d0a16 5 none : Cond) ∈ wsX10_mark := List.mem_of_getElem? (i := 49) rfl
set_option maxRecDepth 100000 in
theorem mc_wsX10_mark_wsX1_settle_r2 : ∀ w ∈ wsX1_settle_r2, w ∈ wsX10_mark := (List.forall_mem_cons.mpr ⟨mw_wsX10_mark_49, (List.forall_mem_cons.mpr ⟨mw_wsX10_mark_50, (List.forall_mem_cons.mpr ⟨mw_wsX10_mark_51, (List.forall_mem_cons.mpr ⟨mw_wsX10_mark_52, (List.forall_mem_cons.mpr ⟨mw_wsX10_mark_53, (List.forall_mem_cons.mpr ⟨mw_wsX10_mark_54, (List.forall_mem_cons.mpr ⟨mw_wsX10_mark_55, (List.forall_mem_cons.mpr ⟨mw_wsX10_mark_56, (List.forall_mem_cons.mpr ⟨mw_wsX10_mark_57, (List.forall_mem_cons.mpr ⟨mw_wsX10_mark_58, (List.forall_mem_cons.mpr ⟨mw_wsX10_mark_59, (List.forall_mem_cons.mpr ⟨mw_wsX10_mark_12, (List.forall_mem_cons.mpr ⟨mw_wsX10_mark_13, (List.forall_mem_cons.mpr ⟨mw_wsX10_mark_14, (List.forall_mem_cons.mpr ⟨mw_wsX10_mark_15, (List.forall_mem_cons.mpr ⟨mw_wsX10_mark_16, (List.forall_mem_cons.mpr ⟨mw_wsX10_mark_60, (List.forall_mem_cons.mpr ⟨mw_wsX10_mark_61, (List.forall_mem_cons.mpr ⟨mw_wsX10_mark_62, (List.forall_mem_cons.mpr ⟨mw_wsX10_mark_63, (List.forall_mem_cons.mpr ⟨mw_wsX10_mark_64, (List.forall_mem_cons.mpr ⟨mw_wsX10_mark_65, (List.forall_mem_cons.mpr ⟨mw_wsX10_mark_66, (List.forall_mem_cons.mpr ⟨mw_wsX10_mark_67, (fun _ h => absurd h List.not_mem_nil)⟩)⟩)⟩)⟩)⟩)⟩)⟩)⟩)⟩)⟩)⟩)⟩)⟩)⟩)⟩)⟩)⟩)⟩)⟩)⟩)⟩)⟩)⟩)⟩)
set_option maxRecDepth 100000 in
theorem mw_wsX10_mark_88 : (.fieldLink RX1 135 "NothingJudge$Program" "opening" "[I" : Cond) ∈ wsX10_mark := List.mem_of_getElem? (i := 88) (by decide +kernel)
set_option maxRecDepth 100000 in
theorem mw_wsX10_mark_87 : (.fieldLink RX1 124 "NothingJudge$Program" "arity" "[I" : Cond) ∈ wsX10_mark := List.mem_of_getElem? (i := 87) (by decide +kernel)
set_option maxRecDepth 100000 in
theorem mw_wsX10_mark_86 : (.constantLong RX1 122 (67108863) : Cond) ∈ wsX10_mark := List.mem_of_getElem? (i := 86) (by decide +kernel)
set_option maxRecDepth 100000 in
theorem mw_wsX10_mark_85 : (.code yX1_openRoutines cX1_openRoutines 6 none : Cond) ∈ wsX10_mark := List.mem_of_getElem? (i := 85) rfl
set_option maxRecDepth 100000 in
theorem mw_wsX10_mark_84 : (.selects RX1 yX1_openRoutines yX1_openRoutines : Cond) ∈ wsX10_mark := List.mem_of_getElem? (i := 84) (by decide +kernel)
set_option maxRecDepth 100000 in
theorem mw_wsX10_mark_83 : (.instanceMethod yX1_openRoutines : Cond) ∈ wsX10_mark := List.mem_of_getElem? (i := 83) (by decide +kernel)
set_option maxRecDepth 100000 in
theorem mw_wsX10_mark_82 : (.methodLink RX1 63 yX1_openRoutines : Cond) ∈ wsX10_mark := List.mem_of_getElem? (i := 82) (by decide +kernel)
set_option maxRecDepth 100000 in
theorem mw_wsX10_mark_81 : (.code yX5_put cX5_put 3 none : Cond) ∈ wsX10_mark := List.mem_of_getElem? (i := 81) rfl
set_option maxRecDepth 100000 in
theorem mw_wsX10_mark_80 : (.static yX5_put : Cond) ∈ wsX10_mark := List.mem_of_getElem? (i := 80) (by decide +kernel)
set_option maxRecDepth 100000 in
theorem mw_wsX10_mark_79 : (.methodLink RX1 81 yX5_put : Cond) ∈ wsX10_mark := List.mem_of_getElem? (i := 79) (by decide +kernel)
set_option maxRecDepth 100000 in
theorem mw_wsX10_mark_78 : (.code yX1_raise cX1_raise 5 none : Cond) ∈ wsX10_mark := List.mem_of_getElem? (i := 78) rfl
set_option maxRecDepth 100000 in
theorem mw_wsX10_mark_77 : (.selects RX1 yX1_raise yX1_raise : Cond) ∈ wsX10_mark := List.mem_of_getElem? (i := 77) (by decide +kernel)
set_option maxRecDepth 100000 in
theorem mw_wsX10_mark_76 : (.instanceMethod yX1_raise : Cond) ∈ wsX10_mark := List.mem_of_getElem? (i := 76) (by decide +kernel)
set_option maxRecDepth 100000 in
theorem mw_wsX10_mark_75 : (.methodLink RX1 118 yX1_raise : Cond) ∈ wsX10_mark := List.mem_of_getElem? (i := 75) (by decide +kernel)
set_option maxRecDepth 100000 in
theorem mw_wsX10_mark_74 : (.methodLink RX1 72 yX5_at : Cond) ∈ wsX10_mark := List.mem_of_getElem? (i := 74) (by decide +kernel)
set_option maxRecDepth 100000 in
theorem mw_wsX10_mark_73 : (.methodLink RX7 40 yX3_has : Cond) ∈ wsX10_mark := List.mem_of_getElem? (i := 73) (by decide +kernel)
set_option maxRecDepth 100000 in
theorem mw_wsX10_mark_72 : (.methodLink RX7 34 yX5_at : Cond) ∈ wsX10_mark := List.mem_of_getElem? (i := 72) (by decide +kernel)
set_option maxRecDepth 100000 in
theorem mw_wsX10_mark_71 : (.code Lib.Math.min.name Lib.Math.min.code 2 (some .int) : Cond) ∈ wsX10_mark := List.mem_of_getElem? (i := 71) rfl
set_option maxRecDepth 100000 in
theorem mw_wsX10_mark_70 : (.initialized "java/lang/Math" : Cond) ∈ wsX10_mark := List.mem_of_getElem? (i := 70) (by decide +kernel)
set_option maxRecDepth 100000 in
theorem mw_wsX10_mark_69 : (.static Lib.Math.min.name : Cond) ∈ wsX10_mark := List.mem_of_getElem? (i := 69) (by decide +kernel)
set_option maxRecDepth 100000 in
theorem mw_wsX10_mark_68 : (.methodLink RX7 44 Lib.Math.min.name : Cond) ∈ wsX10_mark := List.mem_of_getElem? (i := 68) (by decide +kernel)
set_option maxRecDepth 100000 in
theorem mc_wsX10_mark_wsX1_settle_r3 : ∀ w ∈ wsX1_settle_r3, w ∈ wsX10_mark := (List.forall_mem_cons.mpr ⟨mw_wsX10_mark_68, (List.forall_mem_cons.mpr ⟨mw_wsX10_mark_69, (List.forall_mem_cons.mpr ⟨mw_wsX10_mark_70, (List.forall_mem_cons.mpr ⟨mw_wsX10_mark_71, (List.forall_mem_cons.mpr ⟨mw_wsX10_mark_72, (List.forall_mem_cons.mpr ⟨mw_wsX10_mark_18, (List.forall_mem_cons.mpr ⟨mw_wsX10_mark_19, (List.forall_mem_cons.mpr ⟨mw_wsX10_mark_20, (List.forall_mem_cons.mpr ⟨mw_wsX10_mark_73, (List.forall_mem_cons.mpr ⟨mw_wsX10_mark_74, (List.forall_mem_cons.mpr ⟨mw_wsX10_mark_75, (List.forall_mem_cons.mpr ⟨mw_wsX10_mark_76, (List.forall_mem_cons.mpr ⟨mw_wsX10_mark_77, (List.forall_mem_cons.mpr ⟨mw_wsX10_mark_78, (List.forall_mem_cons.mpr ⟨mw_wsX10_mark_79, (List.forall_mem_cons.mpr ⟨mw_wsX10_mark_80, (List.forall_mem_cons.mpr ⟨mw_wsX10_mark_81, (List.forall_mem_cons.mpr ⟨mw_wsX10_mark_82, (List.forall_mem_cons.mpr ⟨mw_wsX10_mark_83, (List.forall_mem_cons.mpr ⟨mw_wsX10_mark_84, (List.forall_mem_cons.mpr ⟨mw_wsX10_mark_85, (List.forall_mem_cons.mpr ⟨mw_wsX10_mark_86, (List.forall_mem_cons.mpr ⟨mw_wsX10_mark_87, (List.forall_mem_cons.mpr ⟨mw_wsX10_mark_88, (fun _ h => absurd h List.not_mem_nil)⟩)⟩)⟩)⟩)⟩)⟩)⟩)⟩)⟩)⟩)⟩)⟩)⟩)⟩)⟩)⟩)⟩)⟩)⟩)⟩)⟩)⟩)⟩)⟩)
set_option maxRecDepth 100000 in
theorem mw_wsX10_mark_112 : (.code yX0_get cX0_get 4 (some .int) : Cond) ∈ wsX10_mark := List.mem_of_getElem? (i := 112) rfl
set_option maxRecDepth 100000 in
theorem mw_wsX10_mark_111 : (.initialized RX0 : Cond) ∈ wsX10_mark := List.mem_of_getElem? (i := 111) (by decide +kernel)
set_option maxRecDepth 100000 in
theorem mw_wsX10_mark_110 : (.selects RX0 yX0_get yX0_get : Cond) ∈ wsX10_mark := List.mem_of_getElem? (i := 110) (by decide +kernel)
set_option maxRecDepth 100000 in
theorem mw_wsX10_mark_109 : (.instanceMethod yX0_get : Cond) ∈ wsX10_mark := List.mem_of_getElem? (i := 109) (by decide +kernel)
set_option maxRecDepth 100000 in
theorem mw_wsX10_mark_108 : (.methodLink RX1 141 yX0_get : Cond) ∈ wsX10_mark := List.mem_of_getElem? (i := 108) (by decide +kernel)
set_option maxRecDepth 100000 in
theorem mw_wsX10_mark_107 : (.fieldLink RX1 151 "NothingJudge$Facts" "now" "J" : Cond) ∈ wsX10_mark := List.mem_of_getElem? (i := 107) (by decide +kernel)
set_option maxRecDepth 100000 in
theorem mw_wsX10_mark_106 : (.code yX1_advance cX1_advance 6 none : Cond) ∈ wsX10_mark := List.mem_of_getElem? (i := 106) rfl
set_option maxRecDepth 100000 in
theorem mw_wsX10_mark_105 : (.selects RX1 yX1_advance yX1_advance : Cond) ∈ wsX10_mark := List.mem_of_getElem? (i := 105) (by decide +kernel)
set_option maxRecDepth 100000 in
theorem mw_wsX10_mark_104 : (.instanceMethod yX1_advance : Cond) ∈ wsX10_mark := List.mem_of_getElem? (i := 104) (by decide +kernel)
set_option maxRecDepth 100000 in
theorem mw_wsX10_mark_103 : (.methodLink RX1 85 yX1_advance : Cond) ∈ wsX10_mark := List.mem_of_getElem? (i := 103) (by decide +kernel)
set_option maxRecDepth 100000 in
theorem mw_wsX10_mark_102 : (.code yX1_join cX1_join 4 none : Cond) ∈ wsX10_mark := List.mem_of_getElem? (i := 102) rfl
set_option maxRecDepth 100000 in
theorem mw_wsX10_mark_101 : (.selects RX1 yX1_join yX1_join : Cond) ∈ wsX10_mark := List.mem_of_getElem? (i := 101) (by decide +kernel)
set_option maxRecDepth 100000 in
theorem mw_wsX10_mark_100 : (.instanceMethod yX1_join : Cond) ∈ wsX10_mark := List.mem_of_getElem? (i := 100) (by decide +kernel)
set_option maxRecDepth 100000 in
theorem mw_wsX10_mark_99 : (.methodLink RX1 138 yX1_join : Cond) ∈ wsX10_mark := List.mem_of_getElem? (i := 99) (by decide +kernel)
set_option maxRecDepth 100000 in
theorem mw_wsX10_mark_98 : (.constantLong RX1 179 (-1) : Cond) ∈ wsX10_mark := List.mem_of_getElem? (i := 98) (by decide +kernel)
set_option maxRecDepth 100000 in
theorem mw_wsX10_mark_97 : (.code yX1_with cX1_with 10 (some .long) : Cond) ∈ wsX10_mark := List.mem_of_getElem? (i := 97) rfl
set_option maxRecDepth 100000 in
theorem mw_wsX10_mark_96 : (.static yX1_with : Cond) ∈ wsX10_mark := List.mem_of_getElem? (i := 96) (by decide +kernel)
set_option maxRecDepth 100000 in
theorem mw_wsX10_mark_95 : (.methodLink RX1 131 yX1_with : Cond) ∈ wsX10_mark := List.mem_of_getElem? (i := 95) (by decide +kernel)
set_option maxRecDepth 100000 in
theorem mw_wsX10_mark_94 : (.methodLink RX3 68 yX5_at : Cond) ∈ wsX10_mark := List.mem_of_getElem? (i := 94) (by decide +kernel)
set_option maxRecDepth 100000 in
theorem mw_wsX10_mark_93 : (.fieldLink RX3 25 "NothingJudge$Program" "parameters" "[I" : Cond) ∈ wsX10_mark := List.mem_of_getElem? (i := 93) (by decide +kernel)
set_option maxRecDepth 100000 in
theorem mw_wsX10_mark_92 : (.code yX3_parameter cX3_parameter 3 (some .int) : Cond) ∈ wsX10_mark := List.mem_of_getElem? (i := 92) rfl
set_option maxRecDepth 100000 in
theorem mw_wsX10_mark_91 : (.selects RX3 yX3_parameter yX3_parameter : Cond) ∈ wsX10_mark := List.mem_of_getElem? (i := 91) (by decide +kernel)
set_option maxRecDepth 100000 in
theorem mw_wsX10_mark_90 : (.instanceMethod yX3_parameter : Cond) ∈ wsX10_mark := List.mem_of_getElem? (i := 90) (by decide +kernel)
set_option maxRecDepth 100000 in
theorem mw_wsX10_mark_89 : (.methodLink RX1 127 yX3_parameter : Cond) ∈ wsX10_mark := List.mem_of_getElem? (i := 89) (by decide +kernel)
set_option maxRecDepth 100000 in
theorem mc_wsX10_mark_wsX1_settle_r4 : ∀ w ∈ wsX1_settle_r4, w ∈ wsX10_mark := (List.forall_mem_cons.mpr ⟨mw_wsX10_mark_89, (List.forall_mem_cons.mpr ⟨mw_wsX10_mark_90, (List.forall_mem_cons.mpr ⟨mw_wsX10_mark_91, (List.forall_mem_cons.mpr ⟨mw_wsX10_mark_92, (List.forall_mem_cons.mpr ⟨mw_wsX10_mark_93, (List.forall_mem_cons.mpr ⟨mw_wsX10_mark_94, (List.forall_mem_cons.mpr ⟨mw_wsX10_mark_95, (List.forall_mem_cons.mpr ⟨mw_wsX10_mark_96, (List.forall_mem_cons.mpr ⟨mw_wsX10_mark_97, (List.forall_mem_cons.mpr ⟨mw_wsX10_mark_98, (List.forall_mem_cons.mpr ⟨mw_wsX10_mark_99, (List.forall_mem_cons.mpr ⟨mw_wsX10_mark_100, (List.forall_mem_cons.mpr ⟨mw_wsX10_mark_101, (List.forall_mem_cons.mpr ⟨mw_wsX10_mark_102, (List.forall_mem_cons.mpr ⟨mw_wsX10_mark_103, (List.forall_mem_cons.mpr ⟨mw_wsX10_mark_104, (List.forall_mem_cons.mpr ⟨mw_wsX10_mark_105, (List.forall_mem_cons.mpr ⟨mw_wsX10_mark_106, (List.forall_mem_cons.mpr ⟨mw_wsX10_mark_107, (List.forall_mem_cons.mpr ⟨mw_wsX10_mark_108, (List.forall_mem_cons.mpr ⟨mw_wsX10_mark_109, (List.forall_mem_cons.mpr ⟨mw_wsX10_mark_110, (List.forall_mem_cons.mpr ⟨mw_wsX10_mark_111, (List.forall_mem_cons.mpr ⟨mw_wsX10_mark_112, (fun _ h => absurd h List.not_mem_nil)⟩)⟩)⟩)⟩)⟩)⟩)⟩)⟩)⟩)⟩)⟩)⟩)⟩)⟩)⟩)⟩)⟩)⟩)⟩)⟩)⟩)⟩)⟩)⟩)
set_option maxRecDepth 100000 in
theorem mw_wsX10_mark_136 : (.code yX1_workCall cX1_workCall 6 (some .int) : Cond) ∈ wsX10_mark := List.mem_of_getElem? (i := 136) rfl
set_option maxRecDepth 100000 in
theorem mw_wsX10_mark_135 : (.selects RX1 yX1_workCall yX1_workCall : Cond) ∈ wsX10_mark := List.mem_of_getElem? (i := 135) (by decide +kernel)
set_option maxRecDepth 100000 in
theorem mw_wsX10_mark_134 : (.instanceMethod yX1_workCall : Cond) ∈ wsX10_mark := List.mem_of_getElem? (i := 134) (by decide +kernel)
set_option maxRecDepth 100000 in
theorem mw_wsX10_mark_133 : (.methodLink RX1 168 yX1_workCall : Cond) ∈ wsX10_mark := List.mem_of_getElem? (i := 133) (by decide +kernel)
set_option maxRecDepth 100000 in
theorem mw_wsX10_mark_132 : (.code yX1_noteUse cX1_noteUse 3 none : Cond) ∈ wsX10_mark := List.mem_of_getElem? (i := 132) rfl
set_option maxRecDepth 100000 in
theorem mw_wsX10_mark_131 : (.selects RX1 yX1_noteUse yX1_noteUse : Cond) ∈ wsX10_mark := List.mem_of_getElem? (i := 131) (by decide +kernel)
set_option maxRecDepth 100000 in
theorem mw_wsX10_mark_130 : (.instanceMethod yX1_noteUse : Cond) ∈ wsX10_mark := List.mem_of_getElem? (i := 130) (by decide +kernel)
set_option maxRecDepth 100000 in
theorem mw_wsX10_mark_129 : (.methodLink RX1 165 yX1_noteUse : Cond) ∈ wsX10_mark := List.mem_of_getElem? (i := 129) (by decide +kernel)
set_option maxRecDepth 100000 in
theorem mw_wsX10_mark_128 : (.code yX1_work cX1_work 6 (some .int) : Cond) ∈ wsX10_mark := List.mem_of_getElem? (i := 128) rfl
set_option maxRecDepth 100000 in
theorem mw_wsX10_mark_127 : (.selects RX1 yX1_work yX1_work : Cond) ∈ wsX10_mark := List.mem_of_getElem? (i := 127) (by decide +kernel)
set_option maxRecDepth 100000 in
theorem mw_wsX10_mark_126 : (.instanceMethod yX1_work : Cond) ∈ wsX10_mark := List.mem_of_getElem? (i := 126) (by decide +kernel)
set_option maxRecDepth 100000 in
theorem mw_wsX10_mark_125 : (.methodLink RX1 147 yX1_work : Cond) ∈ wsX10_mark := List.mem_of_getElem? (i := 125) (by decide +kernel)
set_option maxRecDepth 100000 in
theorem mw_wsX10_mark_124 : (.code yX1_factOf cX1_factOf 5 (some .int) : Cond) ∈ wsX10_mark := List.mem_of_getElem? (i := 124) rfl
set_option maxRecDepth 100000 in
theorem mw_wsX10_mark_123 : (.static yX1_factOf : Cond) ∈ wsX10_mark := List.mem_of_getElem? (i := 123) (by decide +kernel)
set_option maxRecDepth 100000 in
theorem mw_wsX10_mark_122 : (.methodLink RX1 161 yX1_factOf : Cond) ∈ wsX10_mark := List.mem_of_getElem? (i := 122) (by decide +kernel)
set_option maxRecDepth 100000 in
theorem mw_wsX10_mark_121 : (.code yX1_narrow cX1_narrow 4 (some .long) : Cond) ∈ wsX10_mark := List.mem_of_getElem? (i := 121) rfl
set_option maxRecDepth 100000 in
theorem mw_wsX10_mark_120 : (.static yX1_narrow : Cond) ∈ wsX10_mark := List.mem_of_getElem? (i := 120) (by decide +kernel)
set_option maxRecDepth 100000 in
theorem mw_wsX10_mark_119 : (.methodLink RX1 158 yX1_narrow : Cond) ∈ wsX10_mark := List.mem_of_getElem? (i := 119) (by decide +kernel)
set_option maxRecDepth 100000 in
theorem mw_wsX10_mark_118 : (.code yX1_fork cX1_fork 12 none : Cond) ∈ wsX10_mark := List.mem_of_getElem? (i := 118) rfl
set_option maxRecDepth 100000 in
theorem mw_wsX10_mark_117 : (.selects RX1 yX1_fork yX1_fork : Cond) ∈ wsX10_mark := List.mem_of_getElem? (i := 117) (by decide +kernel)
set_option maxRecDepth 100000 in
theorem mw_wsX10_mark_116 : (.instanceMethod yX1_fork : Cond) ∈ wsX10_mark := List.mem_of_getElem? (i := 116) (by decide +kernel)
set_option maxRecDepth 100000 in
theorem mw_wsX10_mark_115 : (.methodLink RX1 144 yX1_fork : Cond) ∈ wsX10_mark := List.mem_of_getElem? (i := 115) (by decide +kernel)
set_option maxRecDepth 100000 in
theorem mw_wsX10_mark_114 : (.fieldLink RX0 11 "NothingJudge$Code" "cells" "[I" : Cond) ∈ wsX10_mark := List.mem_of_getElem? (i := 114) (by decide +kernel)
set_option maxRecDepth 100000 in
theorem mw_wsX10_mark_113 : (.fieldLink RX0 15 "NothingJudge$Code" "size" "I" : Cond) ∈ wsX10_mark := List.mem_of_getElem? (i := 113) (by decide +kernel)
set_option maxRecDepth 100000 in
theorem mc_wsX10_mark_wsX1_settle_r5 : ∀ w ∈ wsX1_settle_r5, w ∈ wsX10_mark := (List.forall_mem_cons.mpr ⟨mw_wsX10_mark_113, (List.forall_mem_cons.mpr ⟨mw_wsX10_mark_114, (List.forall_mem_cons.mpr ⟨mw_wsX10_mark_115, (List.forall_mem_cons.mpr ⟨mw_wsX10_mark_116, (List.forall_mem_cons.mpr ⟨mw_wsX10_mark_117, (List.forall_mem_cons.mpr ⟨mw_wsX10_mark_118, (List.forall_mem_cons.mpr ⟨mw_wsX10_mark_119, (List.forall_mem_cons.mpr ⟨mw_wsX10_mark_120, (List.forall_mem_cons.mpr ⟨mw_wsX10_mark_121, (List.forall_mem_cons.mpr ⟨mw_wsX10_mark_122, (List.forall_mem_cons.mpr ⟨mw_wsX10_mark_123, (List.forall_mem_cons.mpr ⟨mw_wsX10_mark_124, (List.forall_mem_cons.mpr ⟨mw_wsX10_mark_125, (List.forall_mem_cons.mpr ⟨mw_wsX10_mark_126, (List.forall_mem_cons.mpr ⟨mw_wsX10_mark_127, (List.forall_mem_cons.mpr ⟨mw_wsX10_mark_128, (List.forall_mem_cons.mpr ⟨mw_wsX10_mark_129, (List.forall_mem_cons.mpr ⟨mw_wsX10_mark_130, (List.forall_mem_cons.mpr ⟨mw_wsX10_mark_131, (List.forall_mem_cons.mpr ⟨mw_wsX10_mark_132, (List.forall_mem_cons.mpr ⟨mw_wsX10_mark_133, (List.forall_mem_cons.mpr ⟨mw_wsX10_mark_134, (List.forall_mem_cons.mpr ⟨mw_wsX10_mark_135, (List.forall_mem_cons.mpr ⟨mw_wsX10_mark_136, (fun _ h => absurd h List.not_mem_nil)⟩)⟩)⟩)⟩)⟩)⟩)⟩)⟩)⟩)⟩)⟩)⟩)⟩)⟩)⟩)⟩)⟩)⟩)⟩)⟩)⟩)⟩)⟩)⟩)
set_option maxRecDepth 100000 in
theorem mw_wsX10_mark_149 : (.code yX1_finish cX1_finish 5 none : Cond) ∈ wsX10_mark := List.mem_of_getElem? (i := 149) rfl
set_option maxRecDepth 100000 in
theorem mw_wsX10_mark_148 : (.selects RX1 yX1_finish yX1_finish : Cond) ∈ wsX10_mark := List.mem_of_getElem? (i := 148) (by decide +kernel)
set_option maxRecDepth 100000 in
theorem mw_wsX10_mark_147 : (.instanceMethod yX1_finish : Cond) ∈ wsX10_mark := List.mem_of_getElem? (i := 147) (by decide +kernel)
set_option maxRecDepth 100000 in
theorem mw_wsX10_mark_146 : (.methodLink RX1 154 yX1_finish : Cond) ∈ wsX10_mark := List.mem_of_getElem? (i := 146) (by decide +kernel)
set_option maxRecDepth 100000 in
theorem mw_wsX10_mark_145 : (.code yX0_argument cX0_argument 3 (some .int) : Cond) ∈ wsX10_mark := List.mem_of_getElem? (i := 145) rfl
set_option maxRecDepth 100000 in
theorem mw_wsX10_mark_144 : (.selects RX0 yX0_argument yX0_argument : Cond) ∈ wsX10_mark := List.mem_of_getElem? (i := 144) (by decide +kernel)
set_option maxRecDepth 100000 in
theorem mw_wsX10_mark_143 : (.instanceMethod yX0_argument : Cond) ∈ wsX10_mark := List.mem_of_getElem? (i := 143) (by decide +kernel)
set_option maxRecDepth 100000 in
theorem mw_wsX10_mark_142 : (.methodLink RX1 176 yX0_argument : Cond) ∈ wsX10_mark := List.mem_of_getElem? (i := 142) (by decide +kernel)
set_option maxRecDepth 100000 in
theorem mw_wsX10_mark_141 : (.methodLink RX0 23 yX0_get : Cond) ∈ wsX10_mark := List.mem_of_getElem? (i := 141) (by decide +kernel)
set_option maxRecDepth 100000 in
theorem mw_wsX10_mark_140 : (.code yX0_arguments cX0_arguments 2 (some .int) : Cond) ∈ wsX10_mark := List.mem_of_getElem? (i := 140) rfl
set_option maxRecDepth 100000 in
theorem mw_wsX10_mark_139 : (.selects RX0 yX0_arguments yX0_arguments : Cond) ∈ wsX10_mark := List.mem_of_getElem? (i := 139) (by decide +kernel)
set_option maxRecDepth 100000 in
theorem mw_wsX10_mark_138 : (.instanceMethod yX0_arguments : Cond) ∈ wsX10_mark := List.mem_of_getElem? (i := 138) (by decide +kernel)
set_option maxRecDepth 100000 in
theorem mw_wsX10_mark_137 : (.methodLink RX1 172 yX0_arguments : Cond) ∈ wsX10_mark := List.mem_of_getElem? (i := 137) (by decide +kernel)
set_option maxRecDepth 100000 in
theorem mc_wsX10_mark_wsX1_settle_r6 : ∀ w ∈ wsX1_settle_r6, w ∈ wsX10_mark := (List.forall_mem_cons.mpr ⟨mw_wsX10_mark_137, (List.forall_mem_cons.mpr ⟨mw_wsX10_mark_138, (List.forall_mem_cons.mpr ⟨mw_wsX10_mark_139, (List.forall_mem_cons.mpr ⟨mw_wsX10_mark_140, (List.forall_mem_cons.mpr ⟨mw_wsX10_mark_141, (List.forall_mem_cons.mpr ⟨mw_wsX10_mark_142, (List.forall_mem_cons.mpr ⟨mw_wsX10_mark_143, (List.forall_mem_cons.mpr ⟨mw_wsX10_mark_144, (List.forall_mem_cons.mpr ⟨mw_wsX10_mark_145, (List.forall_mem_cons.mpr ⟨mw_wsX10_mark_146, (List.forall_mem_cons.mpr ⟨mw_wsX10_mark_147, (List.forall_mem_cons.mpr ⟨mw_wsX10_mark_148, (List.forall_mem_cons.mpr ⟨mw_wsX10_mark_149, (fun _ h => absurd h List.not_mem_nil)⟩)⟩)⟩)⟩)⟩)⟩)⟩)⟩)⟩)⟩)⟩)⟩)⟩)
set_option maxRecDepth 20000 in
theorem ggX10_mark_X1_settle : GoodIn wsX10_mark wsX1_settle := goodIn_sub (List.forall_mem_cons.mpr ⟨mw_wsX10_mark_25, (wK_app (wK_app (wK_app (wK_app (wK_app mc_wsX10_mark_wsX1_settle_r1 (wK_app mc_wsX10_mark_wsX1_settle_r2 (wK_app mc_wsX10_mark_wsX1_settle_r3 (wK_app mc_wsX10_mark_wsX1_settle_r4 (wK_app mc_wsX10_mark_wsX1_settle_r5 mc_wsX10_mark_wsX1_settle_r6))))) (fun _ h => List.mem_cons_of_mem _ (List.mem_append_left _ (List.mem_append_left _ (List.mem_append_left _ (List.mem_append_right _ h)))))) (fun _ h => List.mem_cons_of_mem _ (List.mem_append_right _ h))) (fun _ h => List.mem_cons_of_mem _ (List.mem_append_left _ (List.mem_append_left _ (List.mem_append_right _ h))))) (fun _ h => List.mem_cons_of_mem _ (List.mem_append_left _ (List.mem_append_right _ h))))⟩) (by decide +kernel)
set_option maxRecDepth 20000 in
theorem gX10_mark_X1_settle : GoodIn wsX10_mark (wsV RX10 146 RX1 yX1_settle wsX1_settle) := goodIn_app (goodIn_of _ (by decide +kernel)) ggX10_mark_X1_settle
set_option maxRecDepth 20000 in
theorem ggX10_mark_X5_at : GoodIn wsX10_mark wsX5_at := goodIn_sub (List.forall_mem_cons.mpr ⟨mw_wsX10_mark_20, (fun _ h => absurd h List.not_mem_nil)⟩) (by decide +kernel)
set_option maxRecDepth 20000 in
theorem gX10_mark_X5_at : GoodIn wsX10_mark (va_wsS RX10 153 yX5_at wsX5_at) := goodIn_app (goodIn_of _ (by decide +kernel)) ggX10_mark_X5_at
theorem dX10_mark_0 : decode cX10_mark 0 = .ok (.aload_n 0, 1) := by decide +kernel
theorem dX10_mark_1 : decode cX10_mark 1 = .ok (.iload_n 1, 1) := by decide +kernel
theorem dX10_mark_2 : decode cX10_mark 2 = .ok (.iload_n 2, 1) := by decide +kernel
theorem dX10_mark_3 : decode cX10_mark 3 = .ok (.iload_n 3, 1) := by decide +kernel
theorem dX10_mark_4 : decode cX10_mark 4 = .ok (.invokevirtual 142, 3) := by decide +kernel
theorem dX10_mark_7 : decode cX10_mark 7 = .ok (.istore 4, 2) := by decide +kernel
theorem dX10_mark_9 : decode cX10_mark 9 = .ok (.iload 4, 2) := by decide +kernel
theorem dX10_mark_11 : decode cX10_mark 11 = .ok (.iconst (-1), 1) := by decide +kernel
theorem dX10_mark_12 : decode cX10_mark 12 = .ok (.if_icmp .ne 5, 3) := by decide +kernel
theorem dX10_mark_15 : decode cX10_mark 15 = .ok (.iconst (-1), 1) := by decide +kernel
theorem dX10_mark_16 : decode cX10_mark 16 = .ok (.ireturn, 1) := by decide +kernel
theorem dX10_mark_17 : decode cX10_mark 17 = .ok (.aload_n 0, 1) := by decide +kernel
theorem dX10_mark_18 : decode cX10_mark 18 = .ok (.getfield 54, 3) := by decide +kernel
theorem dX10_mark_21 : decode cX10_mark 21 = .ok (.lconst 0, 1) := by decide +kernel
theorem dX10_mark_22 : decode cX10_mark 22 = .ok (.invokevirtual 146, 3) := by decide +kernel
theorem dX10_mark_25 : decode cX10_mark 25 = .ok (.aload_n 0, 1) := by decide +kernel
theorem dX10_mark_26 : decode cX10_mark 26 = .ok (.getfield 54, 3) := by decide +kernel
theorem dX10_mark_29 : decode cX10_mark 29 = .ok (.getfield 150, 3) := by decide +kernel
theorem dX10_mark_32 : decode cX10_mark 32 = .ok (.iload 4, 2) := by decide +kernel
theorem dX10_mark_34 : decode cX10_mark 34 = .ok (.invokestatic 153, 3) := by decide +kernel
theorem dX10_mark_37 : decode cX10_mark 37 = .ok (.ireturn, 1) := by decide +kernel
theorem dX10_use_0 : decode cX10_use 0 = .ok (.aload_n 0, 1) := by decide +kernel
theorem dX10_use_1 : decode cX10_use 1 = .ok (.getfield 45, 3) := by decide +kernel
theorem dX10_use_4 : decode cX10_use 4 = .ok (.getfield 110, 3) := by decide +kernel
theorem dX10_use_7 : decode cX10_use 7 = .ok (.astore_n 3, 1) := by decide +kernel
theorem dX10_use_8 : decode cX10_use 8 = .ok (.iload_n 1, 1) := by decide +kernel
theorem dX10_use_9 : decode cX10_use 9 = .ok (.ifCond .lt 11, 3) := by decide +kernel
theorem dX10_use_12 : decode cX10_use 12 = .ok (.iload_n 1, 1) := by decide +kernel
theorem dX10_use_13 : decode cX10_use 13 = .ok (.aload_n 3, 1) := by decide +kernel
theorem dX10_use_14 : decode cX10_use 14 = .ok (.getfield 157, 3) := by decide +kernel
theorem dX10_use_17 : decode cX10_use 17 = .ok (.if_icmp .lt 5, 3) := by decide +kernel
theorem dX10_use_20 : decode cX10_use 20 = .ok (.iconst (-1), 1) := by decide +kernel
theorem dX10_use_21 : decode cX10_use 21 = .ok (.ireturn, 1) := by decide +kernel
theorem dX10_test_0 : decode cX10_test 0 = .ok (.aload_n 0, 1) := by decide +kernel
theorem dX10_test_1 : decode cX10_test 1 = .ok (.getfield 45, 3) := by decide +kernel
theorem dX10_test_4 : decode cX10_test 4 = .ok (.getfield 110, 3) := by decide +kernel
theorem dX10_test_7 : decode cX10_test 7 = .ok (.astore_n 3, 1) := by decide +kernel
theorem dX10_test_8 : decode cX10_test 8 = .ok (.iload_n 1, 1) := by decide +kernel
theorem dX10_test_9 : decode cX10_test 9 = .ok (.ifCond .lt 11, 3) := by decide +kernel
theorem dX10_test_12 : decode cX10_test 12 = .ok (.iload_n 1, 1) := by decide +kernel
theorem dX10_test_13 : decode cX10_test 13 = .ok (.aload_n 3, 1) := by decide +kernel
theorem dX10_test_14 : decode cX10_test 14 = .ok (.getfield 176, 3) := by decide +kernel
theorem dX10_test_17 : decode cX10_test 17 = .ok (.if_icmp .lt 5, 3) := by decide +kernel
theorem dX10_test_20 : decode cX10_test 20 = .ok (.iconst (-1), 1) := by decide +kernel
theorem dX10_test_21 : decode cX10_test 21 = .ok (.ireturn, 1) := by decide +kernel
set_option maxRecDepth 100000 in
theorem mw_wsX10_run_12 : (.code yX7_allows cX7_allows 4 (some .boolean) : Cond) ∈ wsX10_run := List.mem_of_getElem? (i := 12) rfl
set_option maxRecDepth 100000 in
theorem mw_wsX10_run_34 : (.code yX5_at cX5_at 2 (some .int) : Cond) ∈ wsX10_run := List.mem_of_getElem? (i := 34) rfl
set_option maxRecDepth 100000 in
theorem mw_wsX10_run_33 : (.initialized RX5 : Cond) ∈ wsX10_run := List.mem_of_getElem? (i := 33) (by decide +kernel)
set_option maxRecDepth 100000 in
theorem mw_wsX10_run_32 : (.static yX5_at : Cond) ∈ wsX10_run := List.mem_of_getElem? (i := 32) (by decide +kernel)
set_option maxRecDepth 100000 in
theorem mw_wsX10_run_31 : (.methodLink RX7 34 yX5_at : Cond) ∈ wsX10_run := List.mem_of_getElem? (i := 31) (by decide +kernel)
set_option maxRecDepth 100000 in
theorem mw_wsX10_run_30 : (.code Lib.Math.min.name Lib.Math.min.code 2 (some .int) : Cond) ∈ wsX10_run := List.mem_of_getElem? (i := 30) rfl
set_option maxRecDepth 100000 in
theorem mw_wsX10_run_29 : (.initialized "java/lang/Math" : Cond) ∈ wsX10_run := List.mem_of_getElem? (i := 29) (by decide +kernel)
set_option maxRecDepth 100000 in
theorem mw_wsX10_run_28 : (.static Lib.Math.min.name : Cond) ∈ wsX10_run := List.mem_of_getElem? (i := 28) (by decide +kernel)
set_option maxRecDepth 100000 in
theorem mw_wsX10_run_27 : (.methodLink RX7 44 Lib.Math.min.name : Cond) ∈ wsX10_run := List.mem_of_getElem? (i := 27) (by decide +kernel)
set_option maxRecDepth 100000 in
theorem mw_wsX10_run_26 : (.fieldLink RX7 29 "NothingJudge$Program" "arity" "[I" : Cond) ∈ wsX10_run := List.mem_of_getElem? (i := 26) (by decide +kernel)
set_option maxRecDepth 100000 in
theorem mw_wsX10_run_25 : (.code yX7_outers cX7_outers 1 (some .int) : Cond) ∈ wsX10_run := List.mem_of_getElem? (i := 25) rfl
set_option maxRecDepth 100000 in
theorem mw_wsX10_run_11 : (.initialized RX7 : Cond) ∈ wsX10_run := List.mem_of_getElem? (i := 11) (by decide +kernel)
set_option maxRecDepth 100000 in
theorem mw_wsX10_run_24 : (.selects RX7 yX7_outers yX7_outers : Cond) ∈ wsX10_run := List.mem_of_getElem? (i := 24) (by decide +kernel)
set_option maxRecDepth 100000 in
theorem mw_wsX10_run_23 : (.instanceMethod yX7_outers : Cond) ∈ wsX10_run := List.mem_of_getElem? (i := 23) (by decide +kernel)
set_option maxRecDepth 100000 in
theorem mw_wsX10_run_22 : (.methodLink RX7 50 yX7_outers : Cond) ∈ wsX10_run := List.mem_of_getElem? (i := 22) (by decide +kernel)
set_option maxRecDepth 100000 in
theorem mw_wsX10_run_21 : (.fieldLink RX3 50 "NothingJudge$Program" "told" "I" : Cond) ∈ wsX10_run := List.mem_of_getElem? (i := 21) (by decide +kernel)
set_option maxRecDepth 100000 in
theorem mw_wsX10_run_20 : (.code yX3_has cX3_has 2 (some .boolean) : Cond) ∈ wsX10_run := List.mem_of_getElem? (i := 20) rfl
set_option maxRecDepth 100000 in
theorem mw_wsX10_run_19 : (.initialized RX3 : Cond) ∈ wsX10_run := List.mem_of_getElem? (i := 19) (by decide +kernel)
set_option maxRecDepth 100000 in
theorem mw_wsX10_run_18 : (.selects RX3 yX3_has yX3_has : Cond) ∈ wsX10_run := List.mem_of_getElem? (i := 18) (by decide +kernel)
set_option maxRecDepth 100000 in
theorem mw_wsX10_run_17 : (.instanceMethod yX3_has : Cond) ∈ wsX10_run := List.mem_of_getElem? (i := 17) (by decide +kernel)
set_option maxRecDepth 100000 in
theorem mw_wsX10_run_16 : (.methodLink RX7 40 yX3_has : Cond) ∈ wsX10_run := List.mem_of_getElem? (i := 16) (by decide +kernel)
set_option maxRecDepth 100000 in
theorem mw_wsX10_run_15 : (.fieldLink RX7 15 "NothingJudge$Scene" "told" "[I" : Cond) ∈ wsX10_run := List.mem_of_getElem? (i := 15) (by decide +kernel)
set_option maxRecDepth 100000 in
theorem mw_wsX10_run_14 : (.fieldLink RX7 9 "NothingJudge$Scene" "start" "I" : Cond) ∈ wsX10_run := List.mem_of_getElem? (i := 14) (by decide +kernel)
set_option maxRecDepth 100000 in
theorem mw_wsX10_run_13 : (.fieldLink RX7 19 "NothingJudge$Scene" "program" "LNothingJudge$Program;" : Cond) ∈ wsX10_run := List.mem_of_getElem? (i := 13) (by decide +kernel)
set_option maxRecDepth 20000 in
theorem ggX10_run_X7_allows : GoodIn wsX10_run wsX7_allows := goodIn_sub (List.forall_mem_cons.mpr ⟨mw_wsX10_run_12, (wK_app (wK_app (List.forall_mem_cons.mpr ⟨mw_wsX10_run_13, (List.forall_mem_cons.mpr ⟨mw_wsX10_run_14, (List.forall_mem_cons.mpr ⟨mw_wsX10_run_15, (List.forall_mem_cons.mpr ⟨mw_wsX10_run_16, (List.forall_mem_cons.mpr ⟨mw_wsX10_run_17, (List.forall_mem_cons.mpr ⟨mw_wsX10_run_18, (List.forall_mem_cons.mpr ⟨mw_wsX10_run_19, (List.forall_mem_cons.mpr ⟨mw_wsX10_run_20, (List.forall_mem_cons.mpr ⟨mw_wsX10_run_21, (List.forall_mem_cons.mpr ⟨mw_wsX10_run_22, (List.forall_mem_cons.mpr ⟨mw_wsX10_run_23, (List.forall_mem_cons.mpr ⟨mw_wsX10_run_24, (List.forall_mem_cons.mpr ⟨mw_wsX10_run_11, (List.forall_mem_cons.mpr ⟨mw_wsX10_run_25, (List.forall_mem_cons.mpr ⟨mw_wsX10_run_26, (List.forall_mem_cons.mpr ⟨mw_wsX10_run_27, (List.forall_mem_cons.mpr ⟨mw_wsX10_run_28, (List.forall_mem_cons.mpr ⟨mw_wsX10_run_29, (List.forall_mem_cons.mpr ⟨mw_wsX10_run_30, (List.forall_mem_cons.mpr ⟨mw_wsX10_run_31, (List.forall_mem_cons.mpr ⟨mw_wsX10_run_32, (List.forall_mem_cons.mpr ⟨mw_wsX10_run_33, (List.forall_mem_cons.mpr ⟨mw_wsX10_run_34, (fun _ h => absurd h List.not_mem_nil)⟩)⟩)⟩)⟩)⟩)⟩)⟩)⟩)⟩)⟩)⟩)⟩)⟩)⟩)⟩)⟩)⟩)⟩)⟩)⟩)⟩)⟩)⟩) (fun _ h => List.mem_cons_of_mem _ (List.mem_append_left _ (List.mem_append_left _ (List.mem_append_right _ h))))) (fun _ h => List.mem_cons_of_mem _ (List.mem_append_left _ (List.mem_append_right _ h))))⟩) (by decide +kernel)
set_option maxRecDepth 20000 in
theorem gX10_run_X7_allows : GoodIn wsX10_run (wsV RX10 191 RX7 yX7_allows wsX7_allows) := goodIn_app (goodIn_of _ (by decide +kernel)) ggX10_run_X7_allows
theorem dX10_run_0 : decode cX10_run 0 = .ok (.iload_n 2, 1) := by decide +kernel
theorem dX10_run_1 : decode cX10_run 1 = .ok (.ifCond .lt 21, 3) := by decide +kernel
theorem dX10_run_4 : decode cX10_run 4 = .ok (.iload_n 2, 1) := by decide +kernel
theorem dX10_run_5 : decode cX10_run 5 = .ok (.sipush 256, 3) := by decide +kernel
theorem dX10_run_8 : decode cX10_run 8 = .ok (.if_icmp .ge 14, 3) := by decide +kernel
theorem dX10_run_11 : decode cX10_run 11 = .ok (.aload_n 0, 1) := by decide +kernel
theorem dX10_run_12 : decode cX10_run 12 = .ok (.getfield 45, 3) := by decide +kernel
theorem dX10_run_15 : decode cX10_run 15 = .ok (.iload_n 1, 1) := by decide +kernel
theorem dX10_run_16 : decode cX10_run 16 = .ok (.invokevirtual 191, 3) := by decide +kernel
theorem dX10_run_19 : decode cX10_run 19 = .ok (.ifCond .ne 5, 3) := by decide +kernel
theorem dX10_run_22 : decode cX10_run 22 = .ok (.iconst (-1), 1) := by decide +kernel
theorem dX10_run_23 : decode cX10_run 23 = .ok (.ireturn, 1) := by decide +kernel
theorem dX10_ran_0 : decode cX10_ran 0 = .ok (.iload_n 1, 1) := by decide +kernel
theorem dX10_ran_1 : decode cX10_ran 1 = .ok (.ifCond .lt 12, 3) := by decide +kernel
theorem dX10_ran_4 : decode cX10_ran 4 = .ok (.iload_n 1, 1) := by decide +kernel
theorem dX10_ran_5 : decode cX10_ran 5 = .ok (.aload_n 0, 1) := by decide +kernel
theorem dX10_ran_6 : decode cX10_ran 6 = .ok (.getfield 83, 3) := by decide +kernel
theorem dX10_ran_9 : decode cX10_ran 9 = .ok (.arraylength, 1) := by decide +kernel
theorem dX10_ran_10 : decode cX10_ran 10 = .ok (.if_icmp .lt 7, 3) := by decide +kernel
theorem dX10_ran_13 : decode cX10_ran 13 = .ok (.iconst (-1), 1) := by decide +kernel
theorem dX10_ran_14 : decode cX10_ran 14 = .ok (.goto 9, 3) := by decide +kernel
theorem dX10_ran_17 : decode cX10_ran 17 = .ok (.aload_n 0, 1) := by decide +kernel
theorem dX10_ran_18 : decode cX10_ran 18 = .ok (.getfield 83, 3) := by decide +kernel
theorem dX10_ran_21 : decode cX10_ran 21 = .ok (.iload_n 1, 1) := by decide +kernel
theorem dX10_ran_22 : decode cX10_ran 22 = .ok (.iaload, 1) := by decide +kernel
theorem dX10_ran_23 : decode cX10_ran 23 = .ok (.ireturn, 1) := by decide +kernel
theorem dX10_tries_0 : decode cX10_tries 0 = .ok (.iload_n 1, 1) := by decide +kernel
theorem dX10_tries_1 : decode cX10_tries 1 = .ok (.ifCond .lt 17, 3) := by decide +kernel
theorem dX10_tries_4 : decode cX10_tries 4 = .ok (.iload_n 1, 1) := by decide +kernel
theorem dX10_tries_5 : decode cX10_tries 5 = .ok (.aload_n 0, 1) := by decide +kernel
theorem dX10_tries_6 : decode cX10_tries 6 = .ok (.getfield 45, 3) := by decide +kernel
theorem dX10_tries_9 : decode cX10_tries 9 = .ok (.getfield 110, 3) := by decide +kernel
theorem dX10_tries_12 : decode cX10_tries 12 = .ok (.getfield 157, 3) := by decide +kernel
theorem dX10_tries_15 : decode cX10_tries 15 = .ok (.if_icmp .lt 5, 3) := by decide +kernel
theorem dX10_tries_18 : decode cX10_tries 18 = .ok (.iconst (-1), 1) := by decide +kernel
theorem dX10_tries_19 : decode cX10_tries 19 = .ok (.ireturn, 1) := by decide +kernel
set_option maxRecDepth 100000 in
theorem mw_wsX10_price_7 : (.code yX5_put cX5_put 3 none : Cond) ∈ wsX10_price := List.mem_of_getElem? (i := 7) rfl
set_option maxRecDepth 20000 in
theorem ggX10_price_X5_put : GoodIn wsX10_price wsX5_put := goodIn_sub (List.forall_mem_cons.mpr ⟨mw_wsX10_price_7, (fun _ h => absurd h List.not_mem_nil)⟩) (by decide +kernel)
set_option maxRecDepth 20000 in
theorem gX10_price_X5_put : GoodIn wsX10_price (va_wsS RX10 136 yX5_put wsX5_put) := goodIn_app (goodIn_of _ (by decide +kernel)) ggX10_price_X5_put
theorem dX10_price_0 : decode cX10_price 0 = .ok (.iload_n 1, 1) := by decide +kernel
theorem dX10_price_1 : decode cX10_price 1 = .ok (.ifCond .lt 19, 3) := by decide +kernel
theorem dX10_price_4 : decode cX10_price 4 = .ok (.iload_n 1, 1) := by decide +kernel
theorem dX10_price_5 : decode cX10_price 5 = .ok (.iconst 3, 1) := by decide +kernel
theorem dX10_price_6 : decode cX10_price 6 = .ok (.if_icmp .gt 14, 3) := by decide +kernel
theorem dX10_price_9 : decode cX10_price 9 = .ok (.iload_n 2, 1) := by decide +kernel
theorem dX10_price_10 : decode cX10_price 10 = .ok (.iconst 1, 1) := by decide +kernel
theorem dX10_price_11 : decode cX10_price 11 = .ok (.if_icmp .lt 9, 3) := by decide +kernel
theorem dX10_price_14 : decode cX10_price 14 = .ok (.iload_n 2, 1) := by decide +kernel
theorem dX10_price_15 : decode cX10_price 15 = .ok (.bipush 99, 2) := by decide +kernel
theorem dX10_price_17 : decode cX10_price 17 = .ok (.if_icmp .le 5, 3) := by decide +kernel
theorem dX10_price_20 : decode cX10_price 20 = .ok (.iconst 0, 1) := by decide +kernel
theorem dX10_price_21 : decode cX10_price 21 = .ok (.ireturn, 1) := by decide +kernel
theorem dX10_price_22 : decode cX10_price 22 = .ok (.aload_n 0, 1) := by decide +kernel
theorem dX10_price_23 : decode cX10_price 23 = .ok (.getfield 79, 3) := by decide +kernel
theorem dX10_price_26 : decode cX10_price 26 = .ok (.getfield 218, 3) := by decide +kernel
theorem dX10_price_29 : decode cX10_price 29 = .ok (.iload_n 1, 1) := by decide +kernel
theorem dX10_price_30 : decode cX10_price 30 = .ok (.iload_n 2, 1) := by decide +kernel
theorem dX10_price_31 : decode cX10_price 31 = .ok (.invokestatic 136, 3) := by decide +kernel
theorem dX10_price_34 : decode cX10_price 34 = .ok (.aload_n 0, 1) := by decide +kernel
theorem dX10_price_35 : decode cX10_price 35 = .ok (.getfield 79, 3) := by decide +kernel
theorem dX10_price_38 : decode cX10_price 38 = .ok (.iconst 1, 1) := by decide +kernel
theorem dX10_price_39 : decode cX10_price 39 = .ok (.putfield 221, 3) := by decide +kernel
theorem dX10_price_42 : decode cX10_price 42 = .ok (.iconst 1, 1) := by decide +kernel
theorem dX10_price_43 : decode cX10_price 43 = .ok (.ireturn, 1) := by decide +kernel
theorem dX10_mend_0 : decode cX10_mend 0 = .ok (.aload_n 0, 1) := by decide +kernel
theorem dX10_mend_1 : decode cX10_mend 1 = .ok (.getfield 45, 3) := by decide +kernel
theorem dX10_mend_4 : decode cX10_mend 4 = .ok (.getfield 110, 3) := by decide +kernel
theorem dX10_mend_7 : decode cX10_mend 7 = .ok (.getfield 122, 3) := by decide +kernel
theorem dX10_mend_10 : decode cX10_mend 10 = .ok (.ifCond .ne 5, 3) := by decide +kernel
theorem dX10_mend_13 : decode cX10_mend 13 = .ok (.iconst (-1), 1) := by decide +kernel
theorem dX10_mend_14 : decode cX10_mend 14 = .ok (.ireturn, 1) := by decide +kernel
theorem dX10_mended_0 : decode cX10_mended 0 = .ok (.aload_n 0, 1) := by decide +kernel
theorem dX10_mended_1 : decode cX10_mended 1 = .ok (.getfield 79, 3) := by decide +kernel
theorem dX10_mended_4 : decode cX10_mended 4 = .ok (.getfield 228, 3) := by decide +kernel
theorem dX10_mended_7 : decode cX10_mended 7 = .ok (.iconst (-1), 1) := by decide +kernel
theorem dX10_mended_8 : decode cX10_mended 8 = .ok (.if_icmp .ne 5, 3) := by decide +kernel
theorem dX10_mended_11 : decode cX10_mended 11 = .ok (.iconst (-1), 1) := by decide +kernel
theorem dX10_mended_12 : decode cX10_mended 12 = .ok (.ireturn, 1) := by decide +kernel
set_option maxRecDepth 100000 in
theorem mw_wsX10_count_11 : (.code yX10_usesOfFact cX10_usesOfFact 4 (some .int) : Cond) ∈ wsX10_count := List.mem_of_getElem? (i := 11) rfl
set_option maxRecDepth 100000 in
theorem mw_wsX10_count_32 : (.fieldLink RX1 36 "NothingJudge$Scene" "program" "LNothingJudge$Program;" : Cond) ∈ wsX10_count := List.mem_of_getElem? (i := 32) (by decide +kernel)
set_option maxRecDepth 100000 in
theorem mw_wsX10_count_31 : (.fieldLink RX1 32 "NothingJudge$Facts" "scene" "LNothingJudge$Scene;" : Cond) ∈ wsX10_count := List.mem_of_getElem? (i := 31) (by decide +kernel)
set_option maxRecDepth 100000 in
theorem mw_wsX10_count_30 : (.code yX1_clear cX1_clear 1 none : Cond) ∈ wsX10_count := List.mem_of_getElem? (i := 30) rfl
set_option maxRecDepth 100000 in
theorem mw_wsX10_count_29 : (.selects RX1 yX1_clear yX1_clear : Cond) ∈ wsX10_count := List.mem_of_getElem? (i := 29) (by decide +kernel)
set_option maxRecDepth 100000 in
theorem mw_wsX10_count_28 : (.instanceMethod yX1_clear : Cond) ∈ wsX10_count := List.mem_of_getElem? (i := 28) (by decide +kernel)
set_option maxRecDepth 100000 in
theorem mw_wsX10_count_27 : (.methodLink RX1 54 yX1_clear : Cond) ∈ wsX10_count := List.mem_of_getElem? (i := 27) (by decide +kernel)
set_option maxRecDepth 100000 in
theorem mw_wsX10_count_26 : (.fieldLink RX1 78 "NothingJudge$Facts" "version" "I" : Cond) ∈ wsX10_count := List.mem_of_getElem? (i := 26) (by decide +kernel)
set_option maxRecDepth 100000 in
theorem mw_wsX10_count_25 : (.fieldLink RX1 15 "NothingJudge$Facts" "seenAt" "[I" : Cond) ∈ wsX10_count := List.mem_of_getElem? (i := 25) (by decide +kernel)
set_option maxRecDepth 100000 in
theorem mw_wsX10_count_24 : (.fieldLink RX1 9 "NothingJudge$Facts" "state" "[J" : Cond) ∈ wsX10_count := List.mem_of_getElem? (i := 24) (by decide +kernel)
set_option maxRecDepth 100000 in
theorem mw_wsX10_count_23 : (.fieldLink RX1 66 "NothingJudge$Code" "size" "I" : Cond) ∈ wsX10_count := List.mem_of_getElem? (i := 23) (by decide +kernel)
set_option maxRecDepth 100000 in
theorem mw_wsX10_count_22 : (.fieldLink RX1 49 "NothingJudge$Facts" "code" "LNothingJudge$Code;" : Cond) ∈ wsX10_count := List.mem_of_getElem? (i := 22) (by decide +kernel)
set_option maxRecDepth 100000 in
theorem mw_wsX10_count_21 : (.fieldLink RX1 60 "NothingJudge$Facts" "changed" "Z" : Cond) ∈ wsX10_count := List.mem_of_getElem? (i := 21) (by decide +kernel)
set_option maxRecDepth 100000 in
theorem mw_wsX10_count_20 : (.fieldLink RX1 50 "NothingJudge$Facts" "held" "J" : Cond) ∈ wsX10_count := List.mem_of_getElem? (i := 20) (by decide +kernel)
set_option maxRecDepth 100000 in
theorem mw_wsX10_count_19 : (.fieldLink RX1 28 "NothingJudge$Facts" "stale" "Z" : Cond) ∈ wsX10_count := List.mem_of_getElem? (i := 19) (by decide +kernel)
set_option maxRecDepth 100000 in
theorem mw_wsX10_count_18 : (.code yX1_settle cX1_settle 5 none : Cond) ∈ wsX10_count := List.mem_of_getElem? (i := 18) rfl
set_option maxRecDepth 100000 in
theorem mw_wsX10_count_17 : (.initialized RX1 : Cond) ∈ wsX10_count := List.mem_of_getElem? (i := 17) (by decide +kernel)
set_option maxRecDepth 100000 in
theorem mw_wsX10_count_16 : (.selects RX1 yX1_settle yX1_settle : Cond) ∈ wsX10_count := List.mem_of_getElem? (i := 16) (by decide +kernel)
set_option maxRecDepth 100000 in
theorem mw_wsX10_count_15 : (.instanceMethod yX1_settle : Cond) ∈ wsX10_count := List.mem_of_getElem? (i := 15) (by decide +kernel)
set_option maxRecDepth 100000 in
theorem mw_wsX10_count_14 : (.methodLink RX10 146 yX1_settle : Cond) ∈ wsX10_count := List.mem_of_getElem? (i := 14) (by decide +kernel)
set_option maxRecDepth 100000 in
theorem mw_wsX10_count_13 : (.fieldLink RX10 160 "NothingJudge$Facts" "used" "[I" : Cond) ∈ wsX10_count := List.mem_of_getElem? (i := 13) (by decide +kernel)
set_option maxRecDepth 100000 in
theorem mw_wsX10_count_4 : (.fieldLink RX10 157 "NothingJudge$Program" "uses" "I" : Cond) ∈ wsX10_count := List.mem_of_getElem? (i := 4) (by decide +kernel)
set_option maxRecDepth 100000 in
theorem mw_wsX10_count_2 : (.fieldLink RX10 110 "NothingJudge$Scene" "program" "LNothingJudge$Program;" : Cond) ∈ wsX10_count := List.mem_of_getElem? (i := 2) (by decide +kernel)
set_option maxRecDepth 100000 in
theorem mw_wsX10_count_1 : (.fieldLink RX10 45 "NothingJudge" "scene" "LNothingJudge$Scene;" : Cond) ∈ wsX10_count := List.mem_of_getElem? (i := 1) (by decide +kernel)
set_option maxRecDepth 100000 in
theorem mw_wsX10_count_12 : (.fieldLink RX10 54 "NothingJudge" "facts" "LNothingJudge$Facts;" : Cond) ∈ wsX10_count := List.mem_of_getElem? (i := 12) (by decide +kernel)
set_option maxRecDepth 100000 in
theorem mc_wsX10_count_wsX10_usesOfFact_r1 : ∀ w ∈ wsX10_usesOfFact_r1, w ∈ wsX10_count := (List.forall_mem_cons.mpr ⟨mw_wsX10_count_12, (List.forall_mem_cons.mpr ⟨mw_wsX10_count_1, (List.forall_mem_cons.mpr ⟨mw_wsX10_count_2, (List.forall_mem_cons.mpr ⟨mw_wsX10_count_4, (List.forall_mem_cons.mpr ⟨mw_wsX10_count_13, (List.forall_mem_cons.mpr ⟨mw_wsX10_count_14, (List.forall_mem_cons.mpr ⟨mw_wsX10_count_15, (List.forall_mem_cons.mpr ⟨mw_wsX10_count_16, (List.forall_mem_cons.mpr ⟨mw_wsX10_count_17, (List.forall_mem_cons.mpr ⟨mw_wsX10_count_18, (List.forall_mem_cons.mpr ⟨mw_wsX10_count_19, (List.forall_mem_cons.mpr ⟨mw_wsX10_count_20, (List.forall_mem_cons.mpr ⟨mw_wsX10_count_21, (List.forall_mem_cons.mpr ⟨mw_wsX10_count_22, (List.forall_mem_cons.mpr ⟨mw_wsX10_count_23, (List.forall_mem_cons.mpr ⟨mw_wsX10_count_24, (List.forall_mem_cons.mpr ⟨mw_wsX10_count_25, (List.forall_mem_cons.mpr ⟨mw_wsX10_count_26, (List.forall_mem_cons.mpr ⟨mw_wsX10_count_27, (List.forall_mem_cons.mpr ⟨mw_wsX10_count_28, (List.forall_mem_cons.mpr ⟨mw_wsX10_count_29, (List.forall_mem_cons.mpr ⟨mw_wsX10_count_30, (List.forall_mem_cons.mpr ⟨mw_wsX10_count_31, (List.forall_mem_cons.mpr ⟨mw_wsX10_count_32, (fun _ h => absurd h List.not_mem_nil)⟩)⟩)⟩)⟩)⟩)⟩)⟩)⟩)⟩)⟩)⟩)⟩)⟩)⟩)⟩)⟩)⟩)⟩)⟩)⟩)⟩)⟩)⟩)⟩)
set_option maxRecDepth 100000 in
theorem mw_wsX10_count_56 : (.code yX3_has cX3_has 2 (some .boolean) : Cond) ∈ wsX10_count := List.mem_of_getElem? (i := 56) rfl
set_option maxRecDepth 100000 in
theorem mw_wsX10_count_55 : (.initialized RX3 : Cond) ∈ wsX10_count := List.mem_of_getElem? (i := 55) (by decide +kernel)
set_option maxRecDepth 100000 in
theorem mw_wsX10_count_54 : (.selects RX3 yX3_has yX3_has : Cond) ∈ wsX10_count := List.mem_of_getElem? (i := 54) (by decide +kernel)
set_option maxRecDepth 100000 in
theorem mw_wsX10_count_53 : (.instanceMethod yX3_has : Cond) ∈ wsX10_count := List.mem_of_getElem? (i := 53) (by decide +kernel)
set_option maxRecDepth 100000 in
theorem mw_wsX10_count_52 : (.methodLink RX1 107 yX3_has : Cond) ∈ wsX10_count := List.mem_of_getElem? (i := 52) (by decide +kernel)
set_option maxRecDepth 100000 in
theorem mw_wsX10_count_51 : (.fieldLink RX1 115 "NothingJudge$Scene" "told" "[I" : Cond) ∈ wsX10_count := List.mem_of_getElem? (i := 51) (by decide +kernel)
set_option maxRecDepth 100000 in
theorem mw_wsX10_count_50 : (.fieldLink RX1 104 "NothingJudge$Scene" "start" "I" : Cond) ∈ wsX10_count := List.mem_of_getElem? (i := 50) (by decide +kernel)
set_option maxRecDepth 100000 in
theorem mw_wsX10_count_49 : (.code yX1_reachEntry cX1_reachEntry 3 none : Cond) ∈ wsX10_count := List.mem_of_getElem? (i := 49) rfl
set_option maxRecDepth 100000 in
theorem mw_wsX10_count_48 : (.selects RX1 yX1_reachEntry yX1_reachEntry : Cond) ∈ wsX10_count := List.mem_of_getElem? (i := 48) (by decide +kernel)
set_option maxRecDepth 100000 in
theorem mw_wsX10_count_47 : (.instanceMethod yX1_reachEntry : Cond) ∈ wsX10_count := List.mem_of_getElem? (i := 47) (by decide +kernel)
set_option maxRecDepth 100000 in
theorem mw_wsX10_count_46 : (.methodLink RX1 57 yX1_reachEntry : Cond) ∈ wsX10_count := List.mem_of_getElem? (i := 46) (by decide +kernel)
set_option maxRecDepth 100000 in
theorem mw_wsX10_count_45 : (.code yJ7_fill_53178 cJ7_fill_53178 4 none : Cond) ∈ wsX10_count := List.mem_of_getElem? (i := 45) rfl
set_option maxRecDepth 100000 in
theorem mw_wsX10_count_44 : (.static yJ7_fill_53178 : Cond) ∈ wsX10_count := List.mem_of_getElem? (i := 44) (by decide +kernel)
set_option maxRecDepth 100000 in
theorem mw_wsX10_count_43 : (.methodLink RX1 101 yJ7_fill_53178 : Cond) ∈ wsX10_count := List.mem_of_getElem? (i := 43) (by decide +kernel)
set_option maxRecDepth 100000 in
theorem mw_wsX10_count_42 : (.code yJ7_fill_d0a16 cJ7_fill_d0a16 5 none : Cond) ∈ wsX10_count := List.mem_of_getElem? (i := 42) rfl
set_option maxRecDepth 100000 in
theorem mw_wsX10_count_41 : (.initialized RJ7 : Cond) ∈ wsX10_count := List.mem_of_getElem? (i := 41) (by decide +kernel)
set_option maxRecDepth 100000 in
theorem mw_wsX10_count_40 : (.static yJ7_fill_d0a16 : Cond) ∈ wsX10_count := List.mem_of_getElem? (i := 40) (by decide +kernel)
set_option maxRecDepth 100000 in
theorem mw_wsX10_count_39 : (.methodLink RX1 95 yJ7_fill_d0a16 : Cond) ∈ wsX10_count := List.mem_of_getElem? (i := 39) (by decide +kernel)
set_option maxRecDepth 100000 in
theorem mw_wsX10_count_38 : (.fieldLink RX1 25 "NothingJudge$Facts" "tested" "[I" : Cond) ∈ wsX10_count := List.mem_of_getElem? (i := 38) (by decide +kernel)
set_option maxRecDepth 100000 in
theorem mw_wsX10_count_37 : (.fieldLink RX1 22 "NothingJudge$Facts" "used" "[I" : Cond) ∈ wsX10_count := List.mem_of_getElem? (i := 37) (by decide +kernel)
set_option maxRecDepth 100000 in
theorem mw_wsX10_count_36 : (.fieldLink RX1 19 "NothingJudge$Facts" "marks" "[I" : Cond) ∈ wsX10_count := List.mem_of_getElem? (i := 36) (by decide +kernel)
set_option maxRecDepth 100000 in
theorem mw_wsX10_count_35 : (.fieldLink RX1 92 "NothingJudge$Facts" "reached" "I" : Cond) ∈ wsX10_count := List.mem_of_getElem? (i := 35) (by decide +kernel)
set_option maxRecDepth 100000 in
theorem mw_wsX10_count_34 : (.fieldLink RX1 43 "NothingJudge$Program" "code" "LNothingJudge$Code;" : Cond) ∈ wsX10_count := List.mem_of_getElem? (i := 34) (by decide +kernel)
set_option maxRecDepth 100000 in
theorem mw_wsX10_count_33 : (.fieldLink RX1 42 "NothingJudge$Facts" "program" "LNothingJudge$Program;" : Cond) ∈ wsX10_count := List.mem_of_getElem? (i := 33) (by decide +kernel)
set_option maxRecDepth 100000 in
theorem mc_wsX10_count_wsX10_usesOfFact_r2 : ∀ w ∈ wsX10_usesOfFact_r2, w ∈ wsX10_count := (List.forall_mem_cons.mpr ⟨mw_wsX10_count_33, (List.forall_mem_cons.mpr ⟨mw_wsX10_count_34, (List.forall_mem_cons.mpr ⟨mw_wsX10_count_35, (List.forall_mem_cons.mpr ⟨mw_wsX10_count_36, (List.forall_mem_cons.mpr ⟨mw_wsX10_count_37, (List.forall_mem_cons.mpr ⟨mw_wsX10_count_38, (List.forall_mem_cons.mpr ⟨mw_wsX10_count_39, (List.forall_mem_cons.mpr ⟨mw_wsX10_count_40, (List.forall_mem_cons.mpr ⟨mw_wsX10_count_41, (List.forall_mem_cons.mpr ⟨mw_wsX10_count_42, (List.forall_mem_cons.mpr ⟨mw_wsX10_count_43, (List.forall_mem_cons.mpr ⟨mw_wsX10_count_44, (List.forall_mem_cons.mpr ⟨mw_wsX10_count_45, (List.forall_mem_cons.mpr ⟨mw_wsX10_count_46, (List.forall_mem_cons.mpr ⟨mw_wsX10_count_47, (List.forall_mem_cons.mpr ⟨mw_wsX10_count_48, (List.forall_mem_cons.mpr ⟨mw_wsX10_count_49, (List.forall_mem_cons.mpr ⟨mw_wsX10_count_50, (List.forall_mem_cons.mpr ⟨mw_wsX10_count_51, (List.forall_mem_cons.mpr ⟨mw_wsX10_count_52, (List.forall_mem_cons.mpr ⟨mw_wsX10_count_53, (List.forall_mem_cons.mpr ⟨mw_wsX10_count_54, (List.forall_mem_cons.mpr ⟨mw_wsX10_count_55, (List.forall_mem_cons.mpr ⟨mw_wsX10_count_56, (fun _ h => absurd h List.not_mem_nil)⟩)⟩)⟩)⟩)⟩)⟩)⟩)⟩)⟩)⟩)⟩)⟩)⟩)⟩)⟩)⟩)⟩)⟩)⟩)⟩)⟩)⟩)⟩)⟩)
set_option maxRecDepth 100000 in
theorem mw_wsX10_count_80 : (.methodLink RX1 81 yX5_put : Cond) ∈ wsX10_count := List.mem_of_getElem? (i := 80) (by decide +kernel)
set_option maxRecDepth 100000 in
theorem mw_wsX10_count_79 : (.code yX1_raise cX1_raise 5 none : Cond) ∈ wsX10_count := List.mem_of_getElem? (i := 79) rfl
set_option maxRecDepth 100000 in
theorem mw_wsX10_count_78 : (.selects RX1 yX1_raise yX1_raise : Cond) ∈ wsX10_count := List.mem_of_getElem? (i := 78) (by decide +kernel)
set_option maxRecDepth 100000 in
theorem mw_wsX10_count_77 : (.instanceMethod yX1_raise : Cond) ∈ wsX10_count := List.mem_of_getElem? (i := 77) (by decide +kernel)
set_option maxRecDepth 100000 in
theorem mw_wsX10_count_76 : (.methodLink RX1 118 yX1_raise : Cond) ∈ wsX10_count := List.mem_of_getElem? (i := 76) (by decide +kernel)
set_option maxRecDepth 100000 in
theorem mw_wsX10_count_75 : (.methodLink RX1 72 yX5_at : Cond) ∈ wsX10_count := List.mem_of_getElem? (i := 75) (by decide +kernel)
set_option maxRecDepth 100000 in
theorem mw_wsX10_count_74 : (.methodLink RX7 40 yX3_has : Cond) ∈ wsX10_count := List.mem_of_getElem? (i := 74) (by decide +kernel)
set_option maxRecDepth 100000 in
theorem mw_wsX10_count_73 : (.code yX5_at cX5_at 2 (some .int) : Cond) ∈ wsX10_count := List.mem_of_getElem? (i := 73) rfl
set_option maxRecDepth 100000 in
theorem mw_wsX10_count_72 : (.initialized RX5 : Cond) ∈ wsX10_count := List.mem_of_getElem? (i := 72) (by decide +kernel)
set_option maxRecDepth 100000 in
theorem mw_wsX10_count_71 : (.static yX5_at : Cond) ∈ wsX10_count := List.mem_of_getElem? (i := 71) (by decide +kernel)
set_option maxRecDepth 100000 in
theorem mw_wsX10_count_70 : (.methodLink RX7 34 yX5_at : Cond) ∈ wsX10_count := List.mem_of_getElem? (i := 70) (by decide +kernel)
set_option maxRecDepth 100000 in
theorem mw_wsX10_count_69 : (.code Lib.Math.min.name Lib.Math.min.code 2 (some .int) : Cond) ∈ wsX10_count := List.mem_of_getElem? (i := 69) rfl
set_option maxRecDepth 100000 in
theorem mw_wsX10_count_68 : (.initialized "java/lang/Math" : Cond) ∈ wsX10_count := List.mem_of_getElem? (i := 68) (by decide +kernel)
set_option maxRecDepth 100000 in
theorem mw_wsX10_count_67 : (.static Lib.Math.min.name : Cond) ∈ wsX10_count := List.mem_of_getElem? (i := 67) (by decide +kernel)
set_option maxRecDepth 100000 in
theorem mw_wsX10_count_66 : (.methodLink RX7 44 Lib.Math.min.name : Cond) ∈ wsX10_count := List.mem_of_getElem? (i := 66) (by decide +kernel)
set_option maxRecDepth 100000 in
theorem mw_wsX10_count_65 : (.fieldLink RX7 9 "NothingJudge$Scene" "start" "I" : Cond) ∈ wsX10_count := List.mem_of_getElem? (i := 65) (by decide +kernel)
set_option maxRecDepth 100000 in
theorem mw_wsX10_count_64 : (.fieldLink RX7 29 "NothingJudge$Program" "arity" "[I" : Cond) ∈ wsX10_count := List.mem_of_getElem? (i := 64) (by decide +kernel)
set_option maxRecDepth 100000 in
theorem mw_wsX10_count_63 : (.fieldLink RX7 19 "NothingJudge$Scene" "program" "LNothingJudge$Program;" : Cond) ∈ wsX10_count := List.mem_of_getElem? (i := 63) (by decide +kernel)
set_option maxRecDepth 100000 in
theorem mw_wsX10_count_62 : (.code yX7_outers cX7_outers 1 (some .int) : Cond) ∈ wsX10_count := List.mem_of_getElem? (i := 62) rfl
set_option maxRecDepth 100000 in
theorem mw_wsX10_count_61 : (.initialized RX7 : Cond) ∈ wsX10_count := List.mem_of_getElem? (i := 61) (by decide +kernel)
set_option maxRecDepth 100000 in
theorem mw_wsX10_count_60 : (.selects RX7 yX7_outers yX7_outers : Cond) ∈ wsX10_count := List.mem_of_getElem? (i := 60) (by decide +kernel)
set_option maxRecDepth 100000 in
theorem mw_wsX10_count_59 : (.instanceMethod yX7_outers : Cond) ∈ wsX10_count := List.mem_of_getElem? (i := 59) (by decide +kernel)
set_option maxRecDepth 100000 in
theorem mw_wsX10_count_58 : (.methodLink RX1 111 yX7_outers : Cond) ∈ wsX10_count := List.mem_of_getElem? (i := 58) (by decide +kernel)
set_option maxRecDepth 100000 in
theorem mw_wsX10_count_57 : (.fieldLink RX3 50 "NothingJudge$Program" "told" "I" : Cond) ∈ wsX10_count := List.mem_of_getElem? (i := 57) (by decide +kernel)
set_option maxRecDepth 100000 in
theorem mc_wsX10_count_wsX10_usesOfFact_r3 : ∀ w ∈ wsX10_usesOfFact_r3, w ∈ wsX10_count := (List.forall_mem_cons.mpr ⟨mw_wsX10_count_57, (List.forall_mem_cons.mpr ⟨mw_wsX10_count_58, (List.forall_mem_cons.mpr ⟨mw_wsX10_count_59, (List.forall_mem_cons.mpr ⟨mw_wsX10_count_60, (List.forall_mem_cons.mpr ⟨mw_wsX10_count_61, (List.forall_mem_cons.mpr ⟨mw_wsX10_count_62, (List.forall_mem_cons.mpr ⟨mw_wsX10_count_63, (List.forall_mem_cons.mpr ⟨mw_wsX10_count_64, (List.forall_mem_cons.mpr ⟨mw_wsX10_count_65, (List.forall_mem_cons.mpr ⟨mw_wsX10_count_66, (List.forall_mem_cons.mpr ⟨mw_wsX10_count_67, (List.forall_mem_cons.mpr ⟨mw_wsX10_count_68, (List.forall_mem_cons.mpr ⟨mw_wsX10_count_69, (List.forall_mem_cons.mpr ⟨mw_wsX10_count_70, (List.forall_mem_cons.mpr ⟨mw_wsX10_count_71, (List.forall_mem_cons.mpr ⟨mw_wsX10_count_72, (List.forall_mem_cons.mpr ⟨mw_wsX10_count_73, (List.forall_mem_cons.mpr ⟨mw_wsX10_count_74, (List.forall_mem_cons.mpr ⟨mw_wsX10_count_75, (List.forall_mem_cons.mpr ⟨mw_wsX10_count_76, (List.forall_mem_cons.mpr ⟨mw_wsX10_count_77, (List.forall_mem_cons.mpr ⟨mw_wsX10_count_78, (List.forall_mem_cons.mpr ⟨mw_wsX10_count_79, (List.forall_mem_cons.mpr ⟨mw_wsX10_count_80, (fun _ h => absurd h List.not_mem_nil)⟩)⟩)⟩)⟩)⟩)⟩)⟩)⟩)⟩)⟩)⟩)⟩)⟩)⟩)⟩)⟩)⟩)⟩)⟩)⟩)⟩)⟩)⟩)⟩)
set_option maxRecDepth 100000 in
theorem mw_wsX10_count_104 : (.methodLink RX1 85 yX1_advance : Cond) ∈ wsX10_count := List.mem_of_getElem? (i := 104) (by decide +kernel)
set_option maxRecDepth 100000 in
theorem mw_wsX10_count_103 : (.code yX1_join cX1_join 4 none : Cond) ∈ wsX10_count := List.mem_of_getElem? (i := 103) rfl
set_option maxRecDepth 100000 in
theorem mw_wsX10_count_102 : (.selects RX1 yX1_join yX1_join : Cond) ∈ wsX10_count := List.mem_of_getElem? (i := 102) (by decide +kernel)
set_option maxRecDepth 100000 in
theorem mw_wsX10_count_101 : (.instanceMethod yX1_join : Cond) ∈ wsX10_count := List.mem_of_getElem? (i := 101) (by decide +kernel)
set_option maxRecDepth 100000 in
theorem mw_wsX10_count_100 : (.methodLink RX1 138 yX1_join : Cond) ∈ wsX10_count := List.mem_of_getElem? (i := 100) (by decide +kernel)
set_option maxRecDepth 100000 in
theorem mw_wsX10_count_99 : (.constantLong RX1 179 (-1) : Cond) ∈ wsX10_count := List.mem_of_getElem? (i := 99) (by decide +kernel)
set_option maxRecDepth 100000 in
theorem mw_wsX10_count_98 : (.code yX1_with cX1_with 10 (some .long) : Cond) ∈ wsX10_count := List.mem_of_getElem? (i := 98) rfl
set_option maxRecDepth 100000 in
theorem mw_wsX10_count_97 : (.static yX1_with : Cond) ∈ wsX10_count := List.mem_of_getElem? (i := 97) (by decide +kernel)
set_option maxRecDepth 100000 in
theorem mw_wsX10_count_96 : (.methodLink RX1 131 yX1_with : Cond) ∈ wsX10_count := List.mem_of_getElem? (i := 96) (by decide +kernel)
set_option maxRecDepth 100000 in
theorem mw_wsX10_count_95 : (.methodLink RX3 68 yX5_at : Cond) ∈ wsX10_count := List.mem_of_getElem? (i := 95) (by decide +kernel)
set_option maxRecDepth 100000 in
theorem mw_wsX10_count_94 : (.fieldLink RX3 25 "NothingJudge$Program" "parameters" "[I" : Cond) ∈ wsX10_count := List.mem_of_getElem? (i := 94) (by decide +kernel)
set_option maxRecDepth 100000 in
theorem mw_wsX10_count_93 : (.code yX3_parameter cX3_parameter 3 (some .int) : Cond) ∈ wsX10_count := List.mem_of_getElem? (i := 93) rfl
set_option maxRecDepth 100000 in
theorem mw_wsX10_count_92 : (.selects RX3 yX3_parameter yX3_parameter : Cond) ∈ wsX10_count := List.mem_of_getElem? (i := 92) (by decide +kernel)
set_option maxRecDepth 100000 in
theorem mw_wsX10_count_91 : (.instanceMethod yX3_parameter : Cond) ∈ wsX10_count := List.mem_of_getElem? (i := 91) (by decide +kernel)
set_option maxRecDepth 100000 in
theorem mw_wsX10_count_90 : (.methodLink RX1 127 yX3_parameter : Cond) ∈ wsX10_count := List.mem_of_getElem? (i := 90) (by decide +kernel)
set_option maxRecDepth 100000 in
theorem mw_wsX10_count_89 : (.fieldLink RX1 135 "NothingJudge$Program" "opening" "[I" : Cond) ∈ wsX10_count := List.mem_of_getElem? (i := 89) (by decide +kernel)
set_option maxRecDepth 100000 in
theorem mw_wsX10_count_88 : (.fieldLink RX1 124 "NothingJudge$Program" "arity" "[I" : Cond) ∈ wsX10_count := List.mem_of_getElem? (i := 88) (by decide +kernel)
set_option maxRecDepth 100000 in
theorem mw_wsX10_count_87 : (.constantLong RX1 122 (67108863) : Cond) ∈ wsX10_count := List.mem_of_getElem? (i := 87) (by decide +kernel)
set_option maxRecDepth 100000 in
theorem mw_wsX10_count_86 : (.code yX1_openRoutines cX1_openRoutines 6 none : Cond) ∈ wsX10_count := List.mem_of_getElem? (i := 86) rfl
set_option maxRecDepth 100000 in
theorem mw_wsX10_count_85 : (.selects RX1 yX1_openRoutines yX1_openRoutines : Cond) ∈ wsX10_count := List.mem_of_getElem? (i := 85) (by decide +kernel)
set_option maxRecDepth 100000 in
theorem mw_wsX10_count_84 : (.instanceMethod yX1_openRoutines : Cond) ∈ wsX10_count := List.mem_of_getElem? (i := 84) (by decide +kernel)
set_option maxRecDepth 100000 in
theorem mw_wsX10_count_83 : (.methodLink RX1 63 yX1_openRoutines : Cond) ∈ wsX10_count := List.mem_of_getElem? (i := 83) (by decide +kernel)
set_option maxRecDepth 100000 in
theorem mw_wsX10_count_82 : (.code yX5_put cX5_put 3 none : Cond) ∈ wsX10_count := List.mem_of_getElem? (i := 82) rfl
set_option maxRecDepth 100000 in
theorem mw_wsX10_count_81 : (.static yX5_put : Cond) ∈ wsX10_count := List.mem_of_getElem? (i := 81) (by decide +kernel)
set_option maxRecDepth 100000 in
theorem mc_wsX10_count_wsX10_usesOfFact_r4 : ∀ w ∈ wsX10_usesOfFact_r4, w ∈ wsX10_count := (List.forall_mem_cons.mpr ⟨mw_wsX10_count_81, (List.forall_mem_cons.mpr ⟨mw_wsX10_count_82, (List.forall_mem_cons.mpr ⟨mw_wsX10_count_83, (List.forall_mem_cons.mpr ⟨mw_wsX10_count_84, (List.forall_mem_cons.mpr ⟨mw_wsX10_count_85, (List.forall_mem_cons.mpr ⟨mw_wsX10_count_86, (List.forall_mem_cons.mpr ⟨mw_wsX10_count_87, (List.forall_mem_cons.mpr ⟨mw_wsX10_count_88, (List.forall_mem_cons.mpr ⟨mw_wsX10_count_89, (List.forall_mem_cons.mpr ⟨mw_wsX10_count_90, (List.forall_mem_cons.mpr ⟨mw_wsX10_count_91, (List.forall_mem_cons.mpr ⟨mw_wsX10_count_92, (List.forall_mem_cons.mpr ⟨mw_wsX10_count_93, (List.forall_mem_cons.mpr ⟨mw_wsX10_count_94, (List.forall_mem_cons.mpr ⟨mw_wsX10_count_95, (List.forall_mem_cons.mpr ⟨mw_wsX10_count_96, (List.forall_mem_cons.mpr ⟨mw_wsX10_count_97, (List.forall_mem_cons.mpr ⟨mw_wsX10_count_98, (List.forall_mem_cons.mpr ⟨mw_wsX10_count_99, (List.forall_mem_cons.mpr ⟨mw_wsX10_count_100, (List.forall_mem_cons.mpr ⟨mw_wsX10_count_101, (List.forall_mem_cons.mpr ⟨mw_wsX10_count_102, (List.forall_mem_cons.mpr ⟨mw_wsX10_count_103, (List.forall_mem_cons.mpr ⟨mw_wsX10_count_104, (fun _ h => absurd h List.not_mem_nil)⟩)⟩)⟩)⟩)⟩)⟩)⟩)⟩)⟩)⟩)⟩)⟩)⟩)⟩)⟩)⟩)⟩)⟩)⟩)⟩)⟩)⟩)⟩)⟩)
set_option maxRecDepth 100000 in
theorem mw_wsX10_count_128 : (.selects RX1 yX1_work yX1_work : Cond) ∈ wsX10_count := List.mem_of_getElem? (i := 128) (by decide +kernel)
set_option maxRecDepth 100000 in
theorem mw_wsX10_count_127 : (.instanceMethod yX1_work : Cond) ∈ wsX10_count := List.mem_of_getElem? (i := 127) (by decide +kernel)
set_option maxRecDepth 100000 in
theorem mw_wsX10_count_126 : (.methodLink RX1 147 yX1_work : Cond) ∈ wsX10_count := List.mem_of_getElem? (i := 126) (by decide +kernel)
set_option maxRecDepth 100000 in
theorem mw_wsX10_count_125 : (.code yX1_factOf cX1_factOf 5 (some .int) : Cond) ∈ wsX10_count := List.mem_of_getElem? (i := 125) rfl
set_option maxRecDepth 100000 in
theorem mw_wsX10_count_124 : (.static yX1_factOf : Cond) ∈ wsX10_count := List.mem_of_getElem? (i := 124) (by decide +kernel)
set_option maxRecDepth 100000 in
theorem mw_wsX10_count_123 : (.methodLink RX1 161 yX1_factOf : Cond) ∈ wsX10_count := List.mem_of_getElem? (i := 123) (by decide +kernel)
set_option maxRecDepth 100000 in
theorem mw_wsX10_count_122 : (.code yX1_narrow cX1_narrow 4 (some .long) : Cond) ∈ wsX10_count := List.mem_of_getElem? (i := 122) rfl
set_option maxRecDepth 100000 in
theorem mw_wsX10_count_121 : (.static yX1_narrow : Cond) ∈ wsX10_count := List.mem_of_getElem? (i := 121) (by decide +kernel)
set_option maxRecDepth 100000 in
theorem mw_wsX10_count_120 : (.methodLink RX1 158 yX1_narrow : Cond) ∈ wsX10_count := List.mem_of_getElem? (i := 120) (by decide +kernel)
set_option maxRecDepth 100000 in
theorem mw_wsX10_count_119 : (.code yX1_fork cX1_fork 12 none : Cond) ∈ wsX10_count := List.mem_of_getElem? (i := 119) rfl
set_option maxRecDepth 100000 in
theorem mw_wsX10_count_118 : (.selects RX1 yX1_fork yX1_fork : Cond) ∈ wsX10_count := List.mem_of_getElem? (i := 118) (by decide +kernel)
set_option maxRecDepth 100000 in
theorem mw_wsX10_count_117 : (.instanceMethod yX1_fork : Cond) ∈ wsX10_count := List.mem_of_getElem? (i := 117) (by decide +kernel)
set_option maxRecDepth 100000 in
theorem mw_wsX10_count_116 : (.methodLink RX1 144 yX1_fork : Cond) ∈ wsX10_count := List.mem_of_getElem? (i := 116) (by decide +kernel)
set_option maxRecDepth 100000 in
theorem mw_wsX10_count_115 : (.fieldLink RX0 11 "NothingJudge$Code" "cells" "[I" : Cond) ∈ wsX10_count := List.mem_of_getElem? (i := 115) (by decide +kernel)
set_option maxRecDepth 100000 in
theorem mw_wsX10_count_114 : (.fieldLink RX0 15 "NothingJudge$Code" "size" "I" : Cond) ∈ wsX10_count := List.mem_of_getElem? (i := 114) (by decide +kernel)
set_option maxRecDepth 100000 in
theorem mw_wsX10_count_113 : (.code yX0_get cX0_get 4 (some .int) : Cond) ∈ wsX10_count := List.mem_of_getElem? (i := 113) rfl
set_option maxRecDepth 100000 in
theorem mw_wsX10_count_112 : (.initialized RX0 : Cond) ∈ wsX10_count := List.mem_of_getElem? (i := 112) (by decide +kernel)
set_option maxRecDepth 100000 in
theorem mw_wsX10_count_111 : (.selects RX0 yX0_get yX0_get : Cond) ∈ wsX10_count := List.mem_of_getElem? (i := 111) (by decide +kernel)
set_option maxRecDepth 100000 in
theorem mw_wsX10_count_110 : (.instanceMethod yX0_get : Cond) ∈ wsX10_count := List.mem_of_getElem? (i := 110) (by decide +kernel)
set_option maxRecDepth 100000 in
theorem mw_wsX10_count_109 : (.methodLink RX1 141 yX0_get : Cond) ∈ wsX10_count := List.mem_of_getElem? (i := 109) (by decide +kernel)
set_option maxRecDepth 100000 in
theorem mw_wsX10_count_108 : (.fieldLink RX1 151 "NothingJudge$Facts" "now" "J" : Cond) ∈ wsX10_count := List.mem_of_getElem? (i := 108) (by decide +kernel)
set_option maxRecDepth 100000 in
theorem mw_wsX10_count_107 : (.code yX1_advance cX1_advance 6 none : Cond) ∈ wsX10_count := List.mem_of_getElem? (i := 107) rfl
set_option maxRecDepth 100000 in
theorem mw_wsX10_count_106 : (.selects RX1 yX1_advance yX1_advance : Cond) ∈ wsX10_count := List.mem_of_getElem? (i := 106) (by decide +kernel)
set_option maxRecDepth 100000 in
theorem mw_wsX10_count_105 : (.instanceMethod yX1_advance : Cond) ∈ wsX10_count := List.mem_of_getElem? (i := 105) (by decide +kernel)
set_option maxRecDepth 100000 in
theorem mc_wsX10_count_wsX10_usesOfFact_r5 : ∀ w ∈ wsX10_usesOfFact_r5, w ∈ wsX10_count := (List.forall_mem_cons.mpr ⟨mw_wsX10_count_105, (List.forall_mem_cons.mpr ⟨mw_wsX10_count_106, (List.forall_mem_cons.mpr ⟨mw_wsX10_count_107, (List.forall_mem_cons.mpr ⟨mw_wsX10_count_108, (List.forall_mem_cons.mpr ⟨mw_wsX10_count_109, (List.forall_mem_cons.mpr ⟨mw_wsX10_count_110, (List.forall_mem_cons.mpr ⟨mw_wsX10_count_111, (List.forall_mem_cons.mpr ⟨mw_wsX10_count_112, (List.forall_mem_cons.mpr ⟨mw_wsX10_count_113, (List.forall_mem_cons.mpr ⟨mw_wsX10_count_114, (List.forall_mem_cons.mpr ⟨mw_wsX10_count_115, (List.forall_mem_cons.mpr ⟨mw_wsX10_count_116, (List.forall_mem_cons.mpr ⟨mw_wsX10_count_117, (List.forall_mem_cons.mpr ⟨mw_wsX10_count_118, (List.forall_mem_cons.mpr ⟨mw_wsX10_count_119, (List.forall_mem_cons.mpr ⟨mw_wsX10_count_120, (List.forall_mem_cons.mpr ⟨mw_wsX10_count_121, (List.forall_mem_cons.mpr ⟨mw_wsX10_count_122, (List.forall_mem_cons.mpr ⟨mw_wsX10_count_123, (List.forall_mem_cons.mpr ⟨mw_wsX10_count_124, (List.forall_mem_cons.mpr ⟨mw_wsX10_count_125, (List.forall_mem_cons.mpr ⟨mw_wsX10_count_126, (List.forall_mem_cons.mpr ⟨mw_wsX10_count_127, (List.forall_mem_cons.mpr ⟨mw_wsX10_count_128, (fun _ h => absurd h List.not_mem_nil)⟩)⟩)⟩)⟩)⟩)⟩)⟩)⟩)⟩)⟩)⟩)⟩)⟩)⟩)⟩)⟩)⟩)⟩)⟩)⟩)⟩)⟩)⟩)⟩)
set_option maxRecDepth 100000 in
theorem mw_wsX10_count_151 : (.methodLink RX10 153 yX5_at : Cond) ∈ wsX10_count := List.mem_of_getElem? (i := 151) (by decide +kernel)
set_option maxRecDepth 100000 in
theorem mw_wsX10_count_150 : (.code yX1_finish cX1_finish 5 none : Cond) ∈ wsX10_count := List.mem_of_getElem? (i := 150) rfl
set_option maxRecDepth 100000 in
theorem mw_wsX10_count_149 : (.selects RX1 yX1_finish yX1_finish : Cond) ∈ wsX10_count := List.mem_of_getElem? (i := 149) (by decide +kernel)
set_option maxRecDepth 100000 in
theorem mw_wsX10_count_148 : (.instanceMethod yX1_finish : Cond) ∈ wsX10_count := List.mem_of_getElem? (i := 148) (by decide +kernel)
set_option maxRecDepth 100000 in
theorem mw_wsX10_count_147 : (.methodLink RX1 154 yX1_finish : Cond) ∈ wsX10_count := List.mem_of_getElem? (i := 147) (by decide +kernel)
set_option maxRecDepth 100000 in
theorem mw_wsX10_count_146 : (.code yX0_argument cX0_argument 3 (some .int) : Cond) ∈ wsX10_count := List.mem_of_getElem? (i := 146) rfl
set_option maxRecDepth 100000 in
theorem mw_wsX10_count_145 : (.selects RX0 yX0_argument yX0_argument : Cond) ∈ wsX10_count := List.mem_of_getElem? (i := 145) (by decide +kernel)
set_option maxRecDepth 100000 in
theorem mw_wsX10_count_144 : (.instanceMethod yX0_argument : Cond) ∈ wsX10_count := List.mem_of_getElem? (i := 144) (by decide +kernel)
set_option maxRecDepth 100000 in
theorem mw_wsX10_count_143 : (.methodLink RX1 176 yX0_argument : Cond) ∈ wsX10_count := List.mem_of_getElem? (i := 143) (by decide +kernel)
set_option maxRecDepth 100000 in
theorem mw_wsX10_count_142 : (.methodLink RX0 23 yX0_get : Cond) ∈ wsX10_count := List.mem_of_getElem? (i := 142) (by decide +kernel)
set_option maxRecDepth 100000 in
theorem mw_wsX10_count_141 : (.code yX0_arguments cX0_arguments 2 (some .int) : Cond) ∈ wsX10_count := List.mem_of_getElem? (i := 141) rfl
set_option maxRecDepth 100000 in
theorem mw_wsX10_count_140 : (.selects RX0 yX0_arguments yX0_arguments : Cond) ∈ wsX10_count := List.mem_of_getElem? (i := 140) (by decide +kernel)
set_option maxRecDepth 100000 in
theorem mw_wsX10_count_139 : (.instanceMethod yX0_arguments : Cond) ∈ wsX10_count := List.mem_of_getElem? (i := 139) (by decide +kernel)
set_option maxRecDepth 100000 in
theorem mw_wsX10_count_138 : (.methodLink RX1 172 yX0_arguments : Cond) ∈ wsX10_count := List.mem_of_getElem? (i := 138) (by decide +kernel)
set_option maxRecDepth 100000 in
theorem mw_wsX10_count_137 : (.code yX1_workCall cX1_workCall 6 (some .int) : Cond) ∈ wsX10_count := List.mem_of_getElem? (i := 137) rfl
set_option maxRecDepth 100000 in
theorem mw_wsX10_count_136 : (.selects RX1 yX1_workCall yX1_workCall : Cond) ∈ wsX10_count := List.mem_of_getElem? (i := 136) (by decide +kernel)
set_option maxRecDepth 100000 in
theorem mw_wsX10_count_135 : (.instanceMethod yX1_workCall : Cond) ∈ wsX10_count := List.mem_of_getElem? (i := 135) (by decide +kernel)
set_option maxRecDepth 100000 in
theorem mw_wsX10_count_134 : (.methodLink RX1 168 yX1_workCall : Cond) ∈ wsX10_count := List.mem_of_getElem? (i := 134) (by decide +kernel)
set_option maxRecDepth 100000 in
theorem mw_wsX10_count_133 : (.code yX1_noteUse cX1_noteUse 3 none : Cond) ∈ wsX10_count := List.mem_of_getElem? (i := 133) rfl
set_option maxRecDepth 100000 in
theorem mw_wsX10_count_132 : (.selects RX1 yX1_noteUse yX1_noteUse : Cond) ∈ wsX10_count := List.mem_of_getElem? (i := 132) (by decide +kernel)
set_option maxRecDepth 100000 in
theorem mw_wsX10_count_131 : (.instanceMethod yX1_noteUse : Cond) ∈ wsX10_count := List.mem_of_getElem? (i := 131) (by decide +kernel)
set_option maxRecDepth 100000 in
theorem mw_wsX10_count_130 : (.methodLink RX1 165 yX1_noteUse : Cond) ∈ wsX10_count := List.mem_of_getElem? (i := 130) (by decide +kernel)
set_option maxRecDepth 100000 in
theorem mw_wsX10_count_129 : (.code yX1_work cX1_work 6 (some .int) : Cond) ∈ wsX10_count := List.mem_of_getElem? (i := 129) rfl
set_option maxRecDepth 100000 in
theorem mc_wsX10_count_wsX10_usesOfFact_r6 : ∀ w ∈ wsX10_usesOfFact_r6, w ∈ wsX10_count := (List.forall_mem_cons.mpr ⟨mw_wsX10_count_129, (List.forall_mem_cons.mpr ⟨mw_wsX10_count_130, (List.forall_mem_cons.mpr ⟨mw_wsX10_count_131, (List.forall_mem_cons.mpr ⟨mw_wsX10_count_132, (List.forall_mem_cons.mpr ⟨mw_wsX10_count_133, (List.forall_mem_cons.mpr ⟨mw_wsX10_count_134, (List.forall_mem_cons.mpr ⟨mw_wsX10_count_135, (List.forall_mem_cons.mpr ⟨mw_wsX10_count_136, (List.forall_mem_cons.mpr ⟨mw_wsX10_count_137, (List.forall_mem_cons.mpr ⟨mw_wsX10_count_138, (List.forall_mem_cons.mpr ⟨mw_wsX10_count_139, (List.forall_mem_cons.mpr ⟨mw_wsX10_count_140, (List.forall_mem_cons.mpr ⟨mw_wsX10_count_141, (List.forall_mem_cons.mpr ⟨mw_wsX10_count_142, (List.forall_mem_cons.mpr ⟨mw_wsX10_count_143, (List.forall_mem_cons.mpr ⟨mw_wsX10_count_144, (List.forall_mem_cons.mpr ⟨mw_wsX10_count_145, (List.forall_mem_cons.mpr ⟨mw_wsX10_count_146, (List.forall_mem_cons.mpr ⟨mw_wsX10_count_147, (List.forall_mem_cons.mpr ⟨mw_wsX10_count_148, (List.forall_mem_cons.mpr ⟨mw_wsX10_count_149, (List.forall_mem_cons.mpr ⟨mw_wsX10_count_150, (List.forall_mem_cons.mpr ⟨mw_wsX10_count_151, (fun _ h => absurd h List.not_mem_nil)⟩)⟩)⟩)⟩)⟩)⟩)⟩)⟩)⟩)⟩)⟩)⟩)⟩)⟩)⟩)⟩)⟩)⟩)⟩)⟩)⟩)⟩)⟩)
set_option maxRecDepth 20000 in
theorem ggX10_count_X10_usesOfFact : GoodIn wsX10_count wsX10_usesOfFact := goodIn_sub (List.forall_mem_cons.mpr ⟨mw_wsX10_count_11, (wK_app (wK_app (wK_app (wK_app (wK_app (wK_app mc_wsX10_count_wsX10_usesOfFact_r1 (wK_app mc_wsX10_count_wsX10_usesOfFact_r2 (wK_app mc_wsX10_count_wsX10_usesOfFact_r3 (wK_app mc_wsX10_count_wsX10_usesOfFact_r4 (wK_app mc_wsX10_count_wsX10_usesOfFact_r5 mc_wsX10_count_wsX10_usesOfFact_r6))))) (fun _ h => List.mem_cons_of_mem _ (List.mem_append_left _ (List.mem_append_left _ (List.mem_append_left _ (List.mem_append_left _ (List.mem_append_right _ h))))))) (fun _ h => List.mem_cons_of_mem _ (List.mem_append_left _ (List.mem_append_left _ (List.mem_append_left _ (List.mem_append_right _ h)))))) (fun _ h => List.mem_cons_of_mem _ (List.mem_append_left _ (List.mem_append_left _ (List.mem_append_right _ h))))) (fun _ h => List.mem_cons_of_mem _ (List.mem_append_left _ (List.mem_append_right _ h)))) (fun _ h => List.mem_cons_of_mem _ (List.mem_append_right _ h)))⟩) (by decide +kernel)
set_option maxRecDepth 20000 in
theorem gX10_count_X10_usesOfFact : GoodIn wsX10_count (wsV RX10 243 RX10 yX10_usesOfFact wsX10_usesOfFact) := goodIn_app (goodIn_of _ (by decide +kernel)) ggX10_count_X10_usesOfFact
theorem dX10_count_0 : decode cX10_count 0 = .ok (.iload_n 1, 1) := by decide +kernel
theorem dX10_count_1 : decode cX10_count 1 = .ok (.tableswitch 92 0 5 #[39, 50, 61, 72, 80, 86], 39) := by decide +kernel
theorem dX10_count_40 : decode cX10_count 40 = .ok (.aload_n 0, 1) := by decide +kernel
theorem dX10_count_41 : decode cX10_count 41 = .ok (.getfield 45, 3) := by decide +kernel
theorem dX10_count_44 : decode cX10_count 44 = .ok (.getfield 110, 3) := by decide +kernel
theorem dX10_count_47 : decode cX10_count 47 = .ok (.getfield 122, 3) := by decide +kernel
theorem dX10_count_50 : decode cX10_count 50 = .ok (.ireturn, 1) := by decide +kernel
theorem dX10_count_51 : decode cX10_count 51 = .ok (.aload_n 0, 1) := by decide +kernel
theorem dX10_count_52 : decode cX10_count 52 = .ok (.getfield 45, 3) := by decide +kernel
theorem dX10_count_55 : decode cX10_count 55 = .ok (.getfield 110, 3) := by decide +kernel
theorem dX10_count_58 : decode cX10_count 58 = .ok (.getfield 157, 3) := by decide +kernel
theorem dX10_count_61 : decode cX10_count 61 = .ok (.ireturn, 1) := by decide +kernel
theorem dX10_count_62 : decode cX10_count 62 = .ok (.aload_n 0, 1) := by decide +kernel
theorem dX10_count_63 : decode cX10_count 63 = .ok (.getfield 45, 3) := by decide +kernel
theorem dX10_count_66 : decode cX10_count 66 = .ok (.getfield 110, 3) := by decide +kernel
theorem dX10_count_69 : decode cX10_count 69 = .ok (.getfield 176, 3) := by decide +kernel
theorem dX10_count_72 : decode cX10_count 72 = .ok (.ireturn, 1) := by decide +kernel
theorem dX10_count_73 : decode cX10_count 73 = .ok (.aload_n 0, 1) := by decide +kernel
theorem dX10_count_74 : decode cX10_count 74 = .ok (.getfield 45, 3) := by decide +kernel
theorem dX10_count_77 : decode cX10_count 77 = .ok (.getfield 240, 3) := by decide +kernel
theorem dX10_count_80 : decode cX10_count 80 = .ok (.ireturn, 1) := by decide +kernel
theorem dX10_count_81 : decode cX10_count 81 = .ok (.aload_n 0, 1) := by decide +kernel
theorem dX10_count_82 : decode cX10_count 82 = .ok (.iconst 3, 1) := by decide +kernel
theorem dX10_count_83 : decode cX10_count 83 = .ok (.invokevirtual 243, 3) := by decide +kernel
theorem dX10_count_86 : decode cX10_count 86 = .ok (.ireturn, 1) := by decide +kernel
theorem dX10_count_87 : decode cX10_count 87 = .ok (.aload_n 0, 1) := by decide +kernel
theorem dX10_count_88 : decode cX10_count 88 = .ok (.iconst 1, 1) := by decide +kernel
theorem dX10_count_89 : decode cX10_count 89 = .ok (.invokevirtual 243, 3) := by decide +kernel
theorem dX10_count_92 : decode cX10_count 92 = .ok (.ireturn, 1) := by decide +kernel
theorem dX10_count_93 : decode cX10_count 93 = .ok (.iconst (-1), 1) := by decide +kernel
theorem dX10_count_94 : decode cX10_count 94 = .ok (.ireturn, 1) := by decide +kernel
theorem dX10_putNumber_0 : decode cX10_putNumber 0 = .ok (.bipush 24, 2) := by decide +kernel
theorem dX10_putNumber_2 : decode cX10_putNumber 2 = .ok (.istore_n 2, 1) := by decide +kernel
theorem dX10_putNumber_3 : decode cX10_putNumber 3 = .ok (.iload_n 2, 1) := by decide +kernel
theorem dX10_putNumber_4 : decode cX10_putNumber 4 = .ok (.ifCond .lt 51, 3) := by decide +kernel
theorem dX10_putNumber_7 : decode cX10_putNumber 7 = .ok (.aload_n 0, 1) := by decide +kernel
theorem dX10_putNumber_8 : decode cX10_putNumber 8 = .ok (.getfield 87, 3) := by decide +kernel
theorem dX10_putNumber_11 : decode cX10_putNumber 11 = .ok (.ifCond .lt 38, 3) := by decide +kernel
theorem dX10_putNumber_14 : decode cX10_putNumber 14 = .ok (.aload_n 0, 1) := by decide +kernel
theorem dX10_putNumber_15 : decode cX10_putNumber 15 = .ok (.getfield 87, 3) := by decide +kernel
theorem dX10_putNumber_18 : decode cX10_putNumber 18 = .ok (.aload_n 0, 1) := by decide +kernel
theorem dX10_putNumber_19 : decode cX10_putNumber 19 = .ok (.getfield 9, 3) := by decide +kernel
theorem dX10_putNumber_22 : decode cX10_putNumber 22 = .ok (.arraylength, 1) := by decide +kernel
theorem dX10_putNumber_23 : decode cX10_putNumber 23 = .ok (.if_icmp .ge 26, 3) := by decide +kernel
theorem dX10_putNumber_26 : decode cX10_putNumber 26 = .ok (.aload_n 0, 1) := by decide +kernel
theorem dX10_putNumber_27 : decode cX10_putNumber 27 = .ok (.getfield 9, 3) := by decide +kernel
theorem dX10_putNumber_30 : decode cX10_putNumber 30 = .ok (.aload_n 0, 1) := by decide +kernel
theorem dX10_putNumber_31 : decode cX10_putNumber 31 = .ok (.getfield 87, 3) := by decide +kernel
theorem dX10_putNumber_34 : decode cX10_putNumber 34 = .ok (.iload_n 1, 1) := by decide +kernel
theorem dX10_putNumber_35 : decode cX10_putNumber 35 = .ok (.iload_n 2, 1) := by decide +kernel
theorem dX10_putNumber_36 : decode cX10_putNumber 36 = .ok (.ishr, 1) := by decide +kernel
theorem dX10_putNumber_37 : decode cX10_putNumber 37 = .ok (.i2b, 1) := by decide +kernel
theorem dX10_putNumber_38 : decode cX10_putNumber 38 = .ok (.bastore, 1) := by decide +kernel
theorem dX10_putNumber_39 : decode cX10_putNumber 39 = .ok (.aload_n 0, 1) := by decide +kernel
theorem dX10_putNumber_40 : decode cX10_putNumber 40 = .ok (.dup, 1) := by decide +kernel
theorem dX10_putNumber_41 : decode cX10_putNumber 41 = .ok (.getfield 87, 3) := by decide +kernel
