set_option maxRecDepth 20000 in
theorem wL_wsX100 : ∀ w ∈ wsX100, w ∈ lw_tbl := fun w h => (goodIn_r wsX100 [501, 503, 505, 507, 509, 511, 513, 515, 517, 519, 521, 523, 525] (by decide +kernel) (by decide +kernel) w h).1
set_option maxRecDepth 20000 in
theorem wL_wsX110 : ∀ w ∈ wsX110, w ∈ lw_tbl := fun w h => (goodIn_r wsX110 [1166, 1168, 1170, 1172, 1174, 1176, 1178, 1180, 1182, 1184, 1186, 1188, 1190, 1192, 1194, 1196, 1198, 1200, 1202, 1204, 1206, 1208, 1210, 1212, 1214, 1216, 1218, 1220, 1222, 1224, 1226, 1228, 1230, 1232, 1234, 1236, 1238, 1240, 1242, 1244, 1246, 1248, 1250, 1252, 1254, 1256, 1258, 1260, 1262, 1264, 1266, 1268, 1270, 1272, 1274, 1276, 1278, 1280, 1282, 1284, 1286, 1288, 1290, 1292, 1294, 1296, 1298, 1300] (by decide +kernel) (by decide +kernel) w h).1
set_option maxRecDepth 20000 in
theorem wL_wsX80 : ∀ w ∈ wsX80, w ∈ lw_tbl := fun w h => (goodIn_r wsX80 [142, 144, 146] (by decide +kernel) (by decide +kernel) w h).1
set_option maxRecDepth 20000 in
theorem wL_wsX30 : ∀ w ∈ wsX30, w ∈ lw_tbl := fun w h => (goodIn_r wsX30 [208, 210, 212, 214, 216, 218, 220, 222, 224, 226, 228, 230, 232, 234] (by decide +kernel) (by decide +kernel) w h).1
set_option maxRecDepth 20000 in
theorem wL_wsX40 : ∀ w ∈ wsX40, w ∈ lw_tbl := fun w h => (goodIn_r wsX40 [255, 257, 259, 261, 263, 265, 267, 269, 271, 273] (by decide +kernel) (by decide +kernel) w h).1
set_option maxRecDepth 20000 in
theorem wL_wsX70 : ∀ w ∈ wsX70, w ∈ lw_tbl := fun w h => (goodIn_r wsX70 [294, 296, 298] (by decide +kernel) (by decide +kernel) w h).1
set_option maxRecDepth 20000 in
theorem wL_wsX10 : ∀ w ∈ wsX10, w ∈ lw_tbl := fun w h => (goodIn_r wsX10 [327, 329, 331, 333, 335, 337, 339, 341, 343, 345, 347, 349, 351, 353] (by decide +kernel) (by decide +kernel) w h).1
set_option maxRecDepth 20000 in
theorem wL_wsX60 : ∀ w ∈ wsX60, w ∈ lw_tbl := fun w h => (goodIn_r wsX60 [385, 387, 389, 391, 393, 395, 397, 399, 401, 403, 405, 407, 409, 411, 413, 415] (by decide +kernel) (by decide +kernel) w h).1
set_option maxRecDepth 20000 in
theorem wL_wsX90 : ∀ w ∈ wsX90, w ∈ lw_tbl := fun w h => (goodIn_r wsX90 [432, 434, 436, 438, 440, 442] (by decide +kernel) (by decide +kernel) w h).1
set_option maxRecDepth 20000 in
theorem wL_wsX20 : ∀ w ∈ wsX20, w ∈ lw_tbl := fun w h => (goodIn_r wsX20 [467, 469, 471, 473, 475, 477, 479, 481, 483, 485] (by decide +kernel) (by decide +kernel) w h).1
set_option maxRecDepth 20000 in
theorem wL_wsX00 : ∀ w ∈ wsX00, w ∈ lw_tbl := fun w h => (goodIn_r wsX00 [168, 170] (by decide +kernel) (by decide +kernel) w h).1
theorem wL_app {a b c : List Cond} (ha : ∀ w ∈ a, w ∈ c) (hb : ∀ w ∈ b, w ∈ c) : ∀ w ∈ a ++ b, w ∈ c := fun w h => (List.mem_append.mp h).elim (ha w) (hb w)
theorem pw_0 : (.fieldLink RX1 9 "NothingJudge$Facts" "state" "[J" : Cond) ∈ lw_tbl := List.mem_of_getElem? (i := 309) (by decide +kernel)
theorem pw_1 : (.fieldLink RX1 66 "NothingJudge$Code" "size" "I" : Cond) ∈ lw_tbl := List.mem_of_getElem? (i := 166) (by decide +kernel)
theorem pw_2 : (.fieldLink RX1 49 "NothingJudge$Facts" "code" "LNothingJudge$Code;" : Cond) ∈ lw_tbl := List.mem_of_getElem? (i := 319) (by decide +kernel)
theorem pw_3 : (.fieldLink RX1 60 "NothingJudge$Facts" "changed" "Z" : Cond) ∈ lw_tbl := List.mem_of_getElem? (i := 322) (by decide +kernel)
theorem pw_4 : (.fieldLink RX1 50 "NothingJudge$Facts" "held" "J" : Cond) ∈ lw_tbl := List.mem_of_getElem? (i := 325) (by decide +kernel)
theorem pw_5 : (.fieldLink RX1 28 "NothingJudge$Facts" "stale" "Z" : Cond) ∈ lw_tbl := List.mem_of_getElem? (i := 320) (by decide +kernel)
set_option maxRecDepth 100000 in
theorem pw_6 : (.code yX1_settle cX1_settle 5 none : Cond) ∈ lw_tbl := List.mem_of_getElem? (i := 831) rfl
theorem pw_7 : (.initialized RX1 : Cond) ∈ lw_tbl := List.mem_of_getElem? (i := 113) (by decide +kernel)
theorem pw_8 : (.selects RX1 yX1_settle yX1_settle : Cond) ∈ lw_tbl := List.mem_of_getElem? (i := 830) (by decide +kernel)
theorem pw_9 : (.instanceMethod yX1_settle : Cond) ∈ lw_tbl := List.mem_of_getElem? (i := 829) (by decide +kernel)
theorem pw_10 : (.methodLink RX10 146 yX1_settle : Cond) ∈ lw_tbl := List.mem_of_getElem? (i := 828) (by decide +kernel)
theorem pw_11 : (.fieldLink RX10 160 "NothingJudge$Facts" "used" "[I" : Cond) ∈ lw_tbl := List.mem_of_getElem? (i := 315) (by decide +kernel)
theorem pw_12 : (.fieldLink RX10 54 "NothingJudge" "facts" "LNothingJudge$Facts;" : Cond) ∈ lw_tbl := List.mem_of_getElem? (i := 496) (by decide +kernel)
set_option maxRecDepth 100000 in
theorem pw_13 : (.code yX10_usesOfFact cX10_usesOfFact 4 (some .int) : Cond) ∈ lw_tbl := List.mem_of_getElem? (i := 1091) rfl
theorem pw_14 : (.initialized RX10 : Cond) ∈ lw_tbl := List.mem_of_getElem? (i := 107) (by decide +kernel)
theorem pw_15 : (.selects RX10 yX10_usesOfFact yX10_usesOfFact : Cond) ∈ lw_tbl := List.mem_of_getElem? (i := 60) (by decide +kernel)
theorem pw_16 : (.instanceMethod yX10_usesOfFact : Cond) ∈ lw_tbl := List.mem_of_getElem? (i := 1090) (by decide +kernel)
theorem pw_17 : (.methodLink RX10 243 yX10_usesOfFact : Cond) ∈ lw_tbl := List.mem_of_getElem? (i := 1088) (by decide +kernel)
theorem pw_18 : (.fieldLink RX10 240 "NothingJudge$Scene" "start" "I" : Cond) ∈ lw_tbl := List.mem_of_getElem? (i := 290) (by decide +kernel)
theorem pw_19 : (.fieldLink RX10 176 "NothingJudge$Program" "tests" "I" : Cond) ∈ lw_tbl := List.mem_of_getElem? (i := 204) (by decide +kernel)
theorem pw_20 : (.fieldLink RX10 157 "NothingJudge$Program" "uses" "I" : Cond) ∈ lw_tbl := List.mem_of_getElem? (i := 201) (by decide +kernel)
theorem pw_21 : (.fieldLink RX10 122 "NothingJudge$Program" "routines" "I" : Cond) ∈ lw_tbl := List.mem_of_getElem? (i := 198) (by decide +kernel)
theorem pw_22 : (.fieldLink RX10 110 "NothingJudge$Scene" "program" "LNothingJudge$Program;" : Cond) ∈ lw_tbl := List.mem_of_getElem? (i := 285) (by decide +kernel)
theorem pw_23 : (.fieldLink RX10 45 "NothingJudge" "scene" "LNothingJudge$Scene;" : Cond) ∈ lw_tbl := List.mem_of_getElem? (i := 495) (by decide +kernel)
theorem ch_wsX10_count_r1 : ∀ w ∈ wsX10_count_r1, w ∈ lw_tbl := (List.forall_mem_cons.mpr ⟨pw_23, (List.forall_mem_cons.mpr ⟨pw_22, (List.forall_mem_cons.mpr ⟨pw_21, (List.forall_mem_cons.mpr ⟨pw_20, (List.forall_mem_cons.mpr ⟨pw_19, (List.forall_mem_cons.mpr ⟨pw_18, (List.forall_mem_cons.mpr ⟨pw_17, (List.forall_mem_cons.mpr ⟨pw_16, (List.forall_mem_cons.mpr ⟨pw_15, (List.forall_mem_cons.mpr ⟨pw_14, (List.forall_mem_cons.mpr ⟨pw_13, (List.forall_mem_cons.mpr ⟨pw_12, (List.forall_mem_cons.mpr ⟨pw_11, (List.forall_mem_cons.mpr ⟨pw_10, (List.forall_mem_cons.mpr ⟨pw_9, (List.forall_mem_cons.mpr ⟨pw_8, (List.forall_mem_cons.mpr ⟨pw_7, (List.forall_mem_cons.mpr ⟨pw_6, (List.forall_mem_cons.mpr ⟨pw_5, (List.forall_mem_cons.mpr ⟨pw_4, (List.forall_mem_cons.mpr ⟨pw_3, (List.forall_mem_cons.mpr ⟨pw_2, (List.forall_mem_cons.mpr ⟨pw_1, (List.forall_mem_cons.mpr ⟨pw_0, (fun _ h => absurd h List.not_mem_nil)⟩)⟩)⟩)⟩)⟩)⟩)⟩)⟩)⟩)⟩)⟩)⟩)⟩)⟩)⟩)⟩)⟩)⟩)⟩)⟩)⟩)⟩)⟩)⟩)
theorem pw_24 : (.selects RX1 yX1_reachEntry yX1_reachEntry : Cond) ∈ lw_tbl := List.mem_of_getElem? (i := 26) (by decide +kernel)
theorem pw_25 : (.instanceMethod yX1_reachEntry : Cond) ∈ lw_tbl := List.mem_of_getElem? (i := 842) (by decide +kernel)
theorem pw_26 : (.methodLink RX1 57 yX1_reachEntry : Cond) ∈ lw_tbl := List.mem_of_getElem? (i := 840) (by decide +kernel)
set_option maxRecDepth 100000 in
theorem pw_27 : (.code yJ7_fill_53178 cJ7_fill_53178 4 none : Cond) ∈ lw_tbl := List.mem_of_getElem? (i := 793) rfl
theorem pw_28 : (.static yJ7_fill_53178 : Cond) ∈ lw_tbl := List.mem_of_getElem? (i := 792) (by decide +kernel)
theorem pw_29 : (.methodLink RX1 101 yJ7_fill_53178 : Cond) ∈ lw_tbl := List.mem_of_getElem? (i := 839) (by decide +kernel)
set_option maxRecDepth 100000 in
theorem pw_30 : (.code yJ7_fill_d0a16 cJ7_fill_d0a16 5 none : Cond) ∈ lw_tbl := List.mem_of_getElem? (i := 838) rfl
theorem pw_31 : (.initialized RJ7 : Cond) ∈ lw_tbl := List.mem_of_getElem? (i := 124) (by decide +kernel)
theorem pw_32 : (.static yJ7_fill_d0a16 : Cond) ∈ lw_tbl := List.mem_of_getElem? (i := 837) (by decide +kernel)
theorem pw_33 : (.methodLink RX1 95 yJ7_fill_d0a16 : Cond) ∈ lw_tbl := List.mem_of_getElem? (i := 836) (by decide +kernel)
theorem pw_34 : (.fieldLink RX1 25 "NothingJudge$Facts" "tested" "[I" : Cond) ∈ lw_tbl := List.mem_of_getElem? (i := 316) (by decide +kernel)
theorem pw_35 : (.fieldLink RX1 22 "NothingJudge$Facts" "used" "[I" : Cond) ∈ lw_tbl := List.mem_of_getElem? (i := 314) (by decide +kernel)
theorem pw_36 : (.fieldLink RX1 19 "NothingJudge$Facts" "marks" "[I" : Cond) ∈ lw_tbl := List.mem_of_getElem? (i := 311) (by decide +kernel)
theorem pw_37 : (.fieldLink RX1 92 "NothingJudge$Facts" "reached" "I" : Cond) ∈ lw_tbl := List.mem_of_getElem? (i := 323) (by decide +kernel)
theorem pw_38 : (.fieldLink RX1 43 "NothingJudge$Program" "code" "LNothingJudge$Code;" : Cond) ∈ lw_tbl := List.mem_of_getElem? (i := 176) (by decide +kernel)
theorem pw_39 : (.fieldLink RX1 42 "NothingJudge$Facts" "program" "LNothingJudge$Program;" : Cond) ∈ lw_tbl := List.mem_of_getElem? (i := 318) (by decide +kernel)
theorem pw_40 : (.fieldLink RX1 36 "NothingJudge$Scene" "program" "LNothingJudge$Program;" : Cond) ∈ lw_tbl := List.mem_of_getElem? (i := 284) (by decide +kernel)
theorem pw_41 : (.fieldLink RX1 32 "NothingJudge$Facts" "scene" "LNothingJudge$Scene;" : Cond) ∈ lw_tbl := List.mem_of_getElem? (i := 307) (by decide +kernel)
set_option maxRecDepth 100000 in
theorem pw_42 : (.code yX1_clear cX1_clear 1 none : Cond) ∈ lw_tbl := List.mem_of_getElem? (i := 835) rfl
theorem pw_43 : (.selects RX1 yX1_clear yX1_clear : Cond) ∈ lw_tbl := List.mem_of_getElem? (i := 25) (by decide +kernel)
theorem pw_44 : (.instanceMethod yX1_clear : Cond) ∈ lw_tbl := List.mem_of_getElem? (i := 834) (by decide +kernel)
theorem pw_45 : (.methodLink RX1 54 yX1_clear : Cond) ∈ lw_tbl := List.mem_of_getElem? (i := 832) (by decide +kernel)
theorem pw_46 : (.fieldLink RX1 78 "NothingJudge$Facts" "version" "I" : Cond) ∈ lw_tbl := List.mem_of_getElem? (i := 324) (by decide +kernel)
theorem pw_47 : (.fieldLink RX1 15 "NothingJudge$Facts" "seenAt" "[I" : Cond) ∈ lw_tbl := List.mem_of_getElem? (i := 310) (by decide +kernel)
theorem ch_wsX10_count_r2 : ∀ w ∈ wsX10_count_r2, w ∈ lw_tbl := (List.forall_mem_cons.mpr ⟨pw_47, (List.forall_mem_cons.mpr ⟨pw_46, (List.forall_mem_cons.mpr ⟨pw_45, (List.forall_mem_cons.mpr ⟨pw_44, (List.forall_mem_cons.mpr ⟨pw_43, (List.forall_mem_cons.mpr ⟨pw_42, (List.forall_mem_cons.mpr ⟨pw_41, (List.forall_mem_cons.mpr ⟨pw_40, (List.forall_mem_cons.mpr ⟨pw_39, (List.forall_mem_cons.mpr ⟨pw_38, (List.forall_mem_cons.mpr ⟨pw_37, (List.forall_mem_cons.mpr ⟨pw_36, (List.forall_mem_cons.mpr ⟨pw_35, (List.forall_mem_cons.mpr ⟨pw_34, (List.forall_mem_cons.mpr ⟨pw_33, (List.forall_mem_cons.mpr ⟨pw_32, (List.forall_mem_cons.mpr ⟨pw_31, (List.forall_mem_cons.mpr ⟨pw_30, (List.forall_mem_cons.mpr ⟨pw_29, (List.forall_mem_cons.mpr ⟨pw_28, (List.forall_mem_cons.mpr ⟨pw_27, (List.forall_mem_cons.mpr ⟨pw_26, (List.forall_mem_cons.mpr ⟨pw_25, (List.forall_mem_cons.mpr ⟨pw_24, (fun _ h => absurd h List.not_mem_nil)⟩)⟩)⟩)⟩)⟩)⟩)⟩)⟩)⟩)⟩)⟩)⟩)⟩)⟩)⟩)⟩)⟩)⟩)⟩)⟩)⟩)⟩)⟩)⟩)
theorem pw_48 : (.initialized RX5 : Cond) ∈ lw_tbl := List.mem_of_getElem? (i := 123) (by decide +kernel)
theorem pw_49 : (.static yX5_at : Cond) ∈ lw_tbl := List.mem_of_getElem? (i := 684) (by decide +kernel)
theorem pw_50 : (.methodLink RX7 34 yX5_at : Cond) ∈ lw_tbl := List.mem_of_getElem? (i := 815) (by decide +kernel)
set_option maxRecDepth 100000 in
theorem pw_51 : (.code Lib.Math.min.name Lib.Math.min.code 2 (some .int) : Cond) ∈ lw_tbl := List.mem_of_getElem? (i := 546) rfl
theorem pw_52 : (.initialized "java/lang/Math" : Cond) ∈ lw_tbl := List.mem_of_getElem? (i := 118) (by decide +kernel)
theorem pw_53 : (.static Lib.Math.min.name : Cond) ∈ lw_tbl := List.mem_of_getElem? (i := 545) (by decide +kernel)
theorem pw_54 : (.methodLink RX7 44 Lib.Math.min.name : Cond) ∈ lw_tbl := List.mem_of_getElem? (i := 817) (by decide +kernel)
theorem pw_55 : (.fieldLink RX7 9 "NothingJudge$Scene" "start" "I" : Cond) ∈ lw_tbl := List.mem_of_getElem? (i := 286) (by decide +kernel)
theorem pw_56 : (.fieldLink RX7 29 "NothingJudge$Program" "arity" "[I" : Cond) ∈ lw_tbl := List.mem_of_getElem? (i := 181) (by decide +kernel)
theorem pw_57 : (.fieldLink RX7 19 "NothingJudge$Scene" "program" "LNothingJudge$Program;" : Cond) ∈ lw_tbl := List.mem_of_getElem? (i := 282) (by decide +kernel)
set_option maxRecDepth 100000 in
theorem pw_58 : (.code yX7_outers cX7_outers 1 (some .int) : Cond) ∈ lw_tbl := List.mem_of_getElem? (i := 814) rfl
theorem pw_59 : (.initialized RX7 : Cond) ∈ lw_tbl := List.mem_of_getElem? (i := 112) (by decide +kernel)
theorem pw_60 : (.selects RX7 yX7_outers yX7_outers : Cond) ∈ lw_tbl := List.mem_of_getElem? (i := 813) (by decide +kernel)
theorem pw_61 : (.instanceMethod yX7_outers : Cond) ∈ lw_tbl := List.mem_of_getElem? (i := 812) (by decide +kernel)
theorem pw_62 : (.methodLink RX1 111 yX7_outers : Cond) ∈ lw_tbl := List.mem_of_getElem? (i := 845) (by decide +kernel)
theorem pw_63 : (.fieldLink RX3 50 "NothingJudge$Program" "told" "I" : Cond) ∈ lw_tbl := List.mem_of_getElem? (i := 196) (by decide +kernel)
set_option maxRecDepth 100000 in
theorem pw_64 : (.code yX3_has cX3_has 2 (some .boolean) : Cond) ∈ lw_tbl := List.mem_of_getElem? (i := 669) rfl
theorem pw_65 : (.initialized RX3 : Cond) ∈ lw_tbl := List.mem_of_getElem? (i := 109) (by decide +kernel)
theorem pw_66 : (.selects RX3 yX3_has yX3_has : Cond) ∈ lw_tbl := List.mem_of_getElem? (i := 668) (by decide +kernel)
theorem pw_67 : (.instanceMethod yX3_has : Cond) ∈ lw_tbl := List.mem_of_getElem? (i := 667) (by decide +kernel)
theorem pw_68 : (.methodLink RX1 107 yX3_has : Cond) ∈ lw_tbl := List.mem_of_getElem? (i := 844) (by decide +kernel)
theorem pw_69 : (.fieldLink RX1 115 "NothingJudge$Scene" "told" "[I" : Cond) ∈ lw_tbl := List.mem_of_getElem? (i := 292) (by decide +kernel)
theorem pw_70 : (.fieldLink RX1 104 "NothingJudge$Scene" "start" "I" : Cond) ∈ lw_tbl := List.mem_of_getElem? (i := 288) (by decide +kernel)
set_option maxRecDepth 100000 in
theorem pw_71 : (.code yX1_reachEntry cX1_reachEntry 3 none : Cond) ∈ lw_tbl := List.mem_of_getElem? (i := 843) rfl
theorem ch_wsX10_count_r3 : ∀ w ∈ wsX10_count_r3, w ∈ lw_tbl := (List.forall_mem_cons.mpr ⟨pw_71, (List.forall_mem_cons.mpr ⟨pw_70, (List.forall_mem_cons.mpr ⟨pw_69, (List.forall_mem_cons.mpr ⟨pw_68, (List.forall_mem_cons.mpr ⟨pw_67, (List.forall_mem_cons.mpr ⟨pw_66, (List.forall_mem_cons.mpr ⟨pw_65, (List.forall_mem_cons.mpr ⟨pw_64, (List.forall_mem_cons.mpr ⟨pw_63, (List.forall_mem_cons.mpr ⟨pw_62, (List.forall_mem_cons.mpr ⟨pw_61, (List.forall_mem_cons.mpr ⟨pw_60, (List.forall_mem_cons.mpr ⟨pw_59, (List.forall_mem_cons.mpr ⟨pw_58, (List.forall_mem_cons.mpr ⟨pw_57, (List.forall_mem_cons.mpr ⟨pw_56, (List.forall_mem_cons.mpr ⟨pw_55, (List.forall_mem_cons.mpr ⟨pw_54, (List.forall_mem_cons.mpr ⟨pw_53, (List.forall_mem_cons.mpr ⟨pw_52, (List.forall_mem_cons.mpr ⟨pw_51, (List.forall_mem_cons.mpr ⟨pw_50, (List.forall_mem_cons.mpr ⟨pw_49, (List.forall_mem_cons.mpr ⟨pw_48, (fun _ h => absurd h List.not_mem_nil)⟩)⟩)⟩)⟩)⟩)⟩)⟩)⟩)⟩)⟩)⟩)⟩)⟩)⟩)⟩)⟩)⟩)⟩)⟩)⟩)⟩)⟩)⟩)⟩)
theorem pw_72 : (.methodLink RX1 131 yX1_with : Cond) ∈ lw_tbl := List.mem_of_getElem? (i := 858) (by decide +kernel)
theorem pw_73 : (.methodLink RX3 68 yX5_at : Cond) ∈ lw_tbl := List.mem_of_getElem? (i := 683) (by decide +kernel)
theorem pw_74 : (.fieldLink RX3 25 "NothingJudge$Program" "parameters" "[I" : Cond) ∈ lw_tbl := List.mem_of_getElem? (i := 185) (by decide +kernel)
set_option maxRecDepth 100000 in
theorem pw_75 : (.code yX3_parameter cX3_parameter 3 (some .int) : Cond) ∈ lw_tbl := List.mem_of_getElem? (i := 689) rfl
theorem pw_76 : (.selects RX3 yX3_parameter yX3_parameter : Cond) ∈ lw_tbl := List.mem_of_getElem? (i := 688) (by decide +kernel)
theorem pw_77 : (.instanceMethod yX3_parameter : Cond) ∈ lw_tbl := List.mem_of_getElem? (i := 687) (by decide +kernel)
theorem pw_78 : (.methodLink RX1 127 yX3_parameter : Cond) ∈ lw_tbl := List.mem_of_getElem? (i := 857) (by decide +kernel)
theorem pw_79 : (.fieldLink RX1 135 "NothingJudge$Program" "opening" "[I" : Cond) ∈ lw_tbl := List.mem_of_getElem? (i := 179) (by decide +kernel)
theorem pw_80 : (.fieldLink RX1 124 "NothingJudge$Program" "arity" "[I" : Cond) ∈ lw_tbl := List.mem_of_getElem? (i := 182) (by decide +kernel)
theorem pw_81 : (.constantLong RX1 122 (67108863) : Cond) ∈ lw_tbl := List.mem_of_getElem? (i := 856) (by decide +kernel)
set_option maxRecDepth 100000 in
theorem pw_82 : (.code yX1_openRoutines cX1_openRoutines 6 none : Cond) ∈ lw_tbl := List.mem_of_getElem? (i := 855) rfl
theorem pw_83 : (.selects RX1 yX1_openRoutines yX1_openRoutines : Cond) ∈ lw_tbl := List.mem_of_getElem? (i := 28) (by decide +kernel)
theorem pw_84 : (.instanceMethod yX1_openRoutines : Cond) ∈ lw_tbl := List.mem_of_getElem? (i := 854) (by decide +kernel)
theorem pw_85 : (.methodLink RX1 63 yX1_openRoutines : Cond) ∈ lw_tbl := List.mem_of_getElem? (i := 852) (by decide +kernel)
set_option maxRecDepth 100000 in
theorem pw_86 : (.code yX5_put cX5_put 3 none : Cond) ∈ lw_tbl := List.mem_of_getElem? (i := 623) rfl
theorem pw_87 : (.static yX5_put : Cond) ∈ lw_tbl := List.mem_of_getElem? (i := 622) (by decide +kernel)
theorem pw_88 : (.methodLink RX1 81 yX5_put : Cond) ∈ lw_tbl := List.mem_of_getElem? (i := 851) (by decide +kernel)
set_option maxRecDepth 100000 in
theorem pw_89 : (.code yX1_raise cX1_raise 5 none : Cond) ∈ lw_tbl := List.mem_of_getElem? (i := 850) rfl
theorem pw_90 : (.selects RX1 yX1_raise yX1_raise : Cond) ∈ lw_tbl := List.mem_of_getElem? (i := 27) (by decide +kernel)
theorem pw_91 : (.instanceMethod yX1_raise : Cond) ∈ lw_tbl := List.mem_of_getElem? (i := 849) (by decide +kernel)
theorem pw_92 : (.methodLink RX1 118 yX1_raise : Cond) ∈ lw_tbl := List.mem_of_getElem? (i := 847) (by decide +kernel)
theorem pw_93 : (.methodLink RX1 72 yX5_at : Cond) ∈ lw_tbl := List.mem_of_getElem? (i := 846) (by decide +kernel)
theorem pw_94 : (.methodLink RX7 40 yX3_has : Cond) ∈ lw_tbl := List.mem_of_getElem? (i := 816) (by decide +kernel)
set_option maxRecDepth 100000 in
theorem pw_95 : (.code yX5_at cX5_at 2 (some .int) : Cond) ∈ lw_tbl := List.mem_of_getElem? (i := 685) rfl
theorem ch_wsX10_count_r4 : ∀ w ∈ wsX10_count_r4, w ∈ lw_tbl := (List.forall_mem_cons.mpr ⟨pw_95, (List.forall_mem_cons.mpr ⟨pw_94, (List.forall_mem_cons.mpr ⟨pw_93, (List.forall_mem_cons.mpr ⟨pw_92, (List.forall_mem_cons.mpr ⟨pw_91, (List.forall_mem_cons.mpr ⟨pw_90, (List.forall_mem_cons.mpr ⟨pw_89, (List.forall_mem_cons.mpr ⟨pw_88, (List.forall_mem_cons.mpr ⟨pw_87, (List.forall_mem_cons.mpr ⟨pw_86, (List.forall_mem_cons.mpr ⟨pw_85, (List.forall_mem_cons.mpr ⟨pw_84, (List.forall_mem_cons.mpr ⟨pw_83, (List.forall_mem_cons.mpr ⟨pw_82, (List.forall_mem_cons.mpr ⟨pw_81, (List.forall_mem_cons.mpr ⟨pw_80, (List.forall_mem_cons.mpr ⟨pw_79, (List.forall_mem_cons.mpr ⟨pw_78, (List.forall_mem_cons.mpr ⟨pw_77, (List.forall_mem_cons.mpr ⟨pw_76, (List.forall_mem_cons.mpr ⟨pw_75, (List.forall_mem_cons.mpr ⟨pw_74, (List.forall_mem_cons.mpr ⟨pw_73, (List.forall_mem_cons.mpr ⟨pw_72, (fun _ h => absurd h List.not_mem_nil)⟩)⟩)⟩)⟩)⟩)⟩)⟩)⟩)⟩)⟩)⟩)⟩)⟩)⟩)⟩)⟩)⟩)⟩)⟩)⟩)⟩)⟩)⟩)⟩)
theorem pw_96 : (.methodLink RX1 158 yX1_narrow : Cond) ∈ lw_tbl := List.mem_of_getElem? (i := 875) (by decide +kernel)
set_option maxRecDepth 100000 in
theorem pw_97 : (.code yX1_fork cX1_fork 12 none : Cond) ∈ lw_tbl := List.mem_of_getElem? (i := 874) rfl
theorem pw_98 : (.selects RX1 yX1_fork yX1_fork : Cond) ∈ lw_tbl := List.mem_of_getElem? (i := 31) (by decide +kernel)
theorem pw_99 : (.instanceMethod yX1_fork : Cond) ∈ lw_tbl := List.mem_of_getElem? (i := 873) (by decide +kernel)
theorem pw_100 : (.methodLink RX1 144 yX1_fork : Cond) ∈ lw_tbl := List.mem_of_getElem? (i := 871) (by decide +kernel)
theorem pw_101 : (.fieldLink RX0 11 "NothingJudge$Code" "cells" "[I" : Cond) ∈ lw_tbl := List.mem_of_getElem? (i := 163) (by decide +kernel)
theorem pw_102 : (.fieldLink RX0 15 "NothingJudge$Code" "size" "I" : Cond) ∈ lw_tbl := List.mem_of_getElem? (i := 164) (by decide +kernel)
set_option maxRecDepth 100000 in
theorem pw_103 : (.code yX0_get cX0_get 4 (some .int) : Cond) ∈ lw_tbl := List.mem_of_getElem? (i := 760) rfl
theorem pw_104 : (.initialized RX0 : Cond) ∈ lw_tbl := List.mem_of_getElem? (i := 110) (by decide +kernel)
theorem pw_105 : (.selects RX0 yX0_get yX0_get : Cond) ∈ lw_tbl := List.mem_of_getElem? (i := 759) (by decide +kernel)
theorem pw_106 : (.instanceMethod yX0_get : Cond) ∈ lw_tbl := List.mem_of_getElem? (i := 758) (by decide +kernel)
theorem pw_107 : (.methodLink RX1 141 yX0_get : Cond) ∈ lw_tbl := List.mem_of_getElem? (i := 870) (by decide +kernel)
theorem pw_108 : (.fieldLink RX1 151 "NothingJudge$Facts" "now" "J" : Cond) ∈ lw_tbl := List.mem_of_getElem? (i := 326) (by decide +kernel)
set_option maxRecDepth 100000 in
theorem pw_109 : (.code yX1_advance cX1_advance 6 none : Cond) ∈ lw_tbl := List.mem_of_getElem? (i := 869) rfl
theorem pw_110 : (.selects RX1 yX1_advance yX1_advance : Cond) ∈ lw_tbl := List.mem_of_getElem? (i := 30) (by decide +kernel)
theorem pw_111 : (.instanceMethod yX1_advance : Cond) ∈ lw_tbl := List.mem_of_getElem? (i := 868) (by decide +kernel)
theorem pw_112 : (.methodLink RX1 85 yX1_advance : Cond) ∈ lw_tbl := List.mem_of_getElem? (i := 866) (by decide +kernel)
set_option maxRecDepth 100000 in
theorem pw_113 : (.code yX1_join cX1_join 4 none : Cond) ∈ lw_tbl := List.mem_of_getElem? (i := 865) rfl
theorem pw_114 : (.selects RX1 yX1_join yX1_join : Cond) ∈ lw_tbl := List.mem_of_getElem? (i := 29) (by decide +kernel)
theorem pw_115 : (.instanceMethod yX1_join : Cond) ∈ lw_tbl := List.mem_of_getElem? (i := 864) (by decide +kernel)
theorem pw_116 : (.methodLink RX1 138 yX1_join : Cond) ∈ lw_tbl := List.mem_of_getElem? (i := 862) (by decide +kernel)
theorem pw_117 : (.constantLong RX1 179 (-1) : Cond) ∈ lw_tbl := List.mem_of_getElem? (i := 861) (by decide +kernel)
set_option maxRecDepth 100000 in
theorem pw_118 : (.code yX1_with cX1_with 10 (some .long) : Cond) ∈ lw_tbl := List.mem_of_getElem? (i := 860) rfl
theorem pw_119 : (.static yX1_with : Cond) ∈ lw_tbl := List.mem_of_getElem? (i := 859) (by decide +kernel)
theorem ch_wsX10_count_r5 : ∀ w ∈ wsX10_count_r5, w ∈ lw_tbl := (List.forall_mem_cons.mpr ⟨pw_119, (List.forall_mem_cons.mpr ⟨pw_118, (List.forall_mem_cons.mpr ⟨pw_117, (List.forall_mem_cons.mpr ⟨pw_116, (List.forall_mem_cons.mpr ⟨pw_115, (List.forall_mem_cons.mpr ⟨pw_114, (List.forall_mem_cons.mpr ⟨pw_113, (List.forall_mem_cons.mpr ⟨pw_112, (List.forall_mem_cons.mpr ⟨pw_111, (List.forall_mem_cons.mpr ⟨pw_110, (List.forall_mem_cons.mpr ⟨pw_109, (List.forall_mem_cons.mpr ⟨pw_108, (List.forall_mem_cons.mpr ⟨pw_107, (List.forall_mem_cons.mpr ⟨pw_106, (List.forall_mem_cons.mpr ⟨pw_105, (List.forall_mem_cons.mpr ⟨pw_104, (List.forall_mem_cons.mpr ⟨pw_103, (List.forall_mem_cons.mpr ⟨pw_102, (List.forall_mem_cons.mpr ⟨pw_101, (List.forall_mem_cons.mpr ⟨pw_100, (List.forall_mem_cons.mpr ⟨pw_99, (List.forall_mem_cons.mpr ⟨pw_98, (List.forall_mem_cons.mpr ⟨pw_97, (List.forall_mem_cons.mpr ⟨pw_96, (fun _ h => absurd h List.not_mem_nil)⟩)⟩)⟩)⟩)⟩)⟩)⟩)⟩)⟩)⟩)⟩)⟩)⟩)⟩)⟩)⟩)⟩)⟩)⟩)⟩)⟩)⟩)⟩)⟩)
theorem pw_120 : (.instanceMethod yX0_argument : Cond) ∈ lw_tbl := List.mem_of_getElem? (i := 895) (by decide +kernel)
theorem pw_121 : (.methodLink RX1 176 yX0_argument : Cond) ∈ lw_tbl := List.mem_of_getElem? (i := 894) (by decide +kernel)
theorem pw_122 : (.methodLink RX0 23 yX0_get : Cond) ∈ lw_tbl := List.mem_of_getElem? (i := 757) (by decide +kernel)
set_option maxRecDepth 100000 in
theorem pw_123 : (.code yX0_arguments cX0_arguments 2 (some .int) : Cond) ∈ lw_tbl := List.mem_of_getElem? (i := 786) rfl
theorem pw_124 : (.selects RX0 yX0_arguments yX0_arguments : Cond) ∈ lw_tbl := List.mem_of_getElem? (i := 785) (by decide +kernel)
theorem pw_125 : (.instanceMethod yX0_arguments : Cond) ∈ lw_tbl := List.mem_of_getElem? (i := 784) (by decide +kernel)
theorem pw_126 : (.methodLink RX1 172 yX0_arguments : Cond) ∈ lw_tbl := List.mem_of_getElem? (i := 893) (by decide +kernel)
set_option maxRecDepth 100000 in
theorem pw_127 : (.code yX1_workCall cX1_workCall 6 (some .int) : Cond) ∈ lw_tbl := List.mem_of_getElem? (i := 892) rfl
theorem pw_128 : (.selects RX1 yX1_workCall yX1_workCall : Cond) ∈ lw_tbl := List.mem_of_getElem? (i := 34) (by decide +kernel)
theorem pw_129 : (.instanceMethod yX1_workCall : Cond) ∈ lw_tbl := List.mem_of_getElem? (i := 891) (by decide +kernel)
theorem pw_130 : (.methodLink RX1 168 yX1_workCall : Cond) ∈ lw_tbl := List.mem_of_getElem? (i := 889) (by decide +kernel)
set_option maxRecDepth 100000 in
theorem pw_131 : (.code yX1_noteUse cX1_noteUse 3 none : Cond) ∈ lw_tbl := List.mem_of_getElem? (i := 888) rfl
theorem pw_132 : (.selects RX1 yX1_noteUse yX1_noteUse : Cond) ∈ lw_tbl := List.mem_of_getElem? (i := 33) (by decide +kernel)
theorem pw_133 : (.instanceMethod yX1_noteUse : Cond) ∈ lw_tbl := List.mem_of_getElem? (i := 887) (by decide +kernel)
theorem pw_134 : (.methodLink RX1 165 yX1_noteUse : Cond) ∈ lw_tbl := List.mem_of_getElem? (i := 885) (by decide +kernel)
set_option maxRecDepth 100000 in
theorem pw_135 : (.code yX1_work cX1_work 6 (some .int) : Cond) ∈ lw_tbl := List.mem_of_getElem? (i := 884) rfl
theorem pw_136 : (.selects RX1 yX1_work yX1_work : Cond) ∈ lw_tbl := List.mem_of_getElem? (i := 32) (by decide +kernel)
theorem pw_137 : (.instanceMethod yX1_work : Cond) ∈ lw_tbl := List.mem_of_getElem? (i := 883) (by decide +kernel)
theorem pw_138 : (.methodLink RX1 147 yX1_work : Cond) ∈ lw_tbl := List.mem_of_getElem? (i := 881) (by decide +kernel)
set_option maxRecDepth 100000 in
theorem pw_139 : (.code yX1_factOf cX1_factOf 5 (some .int) : Cond) ∈ lw_tbl := List.mem_of_getElem? (i := 880) rfl
theorem pw_140 : (.static yX1_factOf : Cond) ∈ lw_tbl := List.mem_of_getElem? (i := 879) (by decide +kernel)
theorem pw_141 : (.methodLink RX1 161 yX1_factOf : Cond) ∈ lw_tbl := List.mem_of_getElem? (i := 878) (by decide +kernel)
set_option maxRecDepth 100000 in
theorem pw_142 : (.code yX1_narrow cX1_narrow 4 (some .long) : Cond) ∈ lw_tbl := List.mem_of_getElem? (i := 877) rfl
theorem pw_143 : (.static yX1_narrow : Cond) ∈ lw_tbl := List.mem_of_getElem? (i := 876) (by decide +kernel)
theorem ch_wsX10_count_r6 : ∀ w ∈ wsX10_count_r6, w ∈ lw_tbl := (List.forall_mem_cons.mpr ⟨pw_143, (List.forall_mem_cons.mpr ⟨pw_142, (List.forall_mem_cons.mpr ⟨pw_141, (List.forall_mem_cons.mpr ⟨pw_140, (List.forall_mem_cons.mpr ⟨pw_139, (List.forall_mem_cons.mpr ⟨pw_138, (List.forall_mem_cons.mpr ⟨pw_137, (List.forall_mem_cons.mpr ⟨pw_136, (List.forall_mem_cons.mpr ⟨pw_135, (List.forall_mem_cons.mpr ⟨pw_134, (List.forall_mem_cons.mpr ⟨pw_133, (List.forall_mem_cons.mpr ⟨pw_132, (List.forall_mem_cons.mpr ⟨pw_131, (List.forall_mem_cons.mpr ⟨pw_130, (List.forall_mem_cons.mpr ⟨pw_129, (List.forall_mem_cons.mpr ⟨pw_128, (List.forall_mem_cons.mpr ⟨pw_127, (List.forall_mem_cons.mpr ⟨pw_126, (List.forall_mem_cons.mpr ⟨pw_125, (List.forall_mem_cons.mpr ⟨pw_124, (List.forall_mem_cons.mpr ⟨pw_123, (List.forall_mem_cons.mpr ⟨pw_122, (List.forall_mem_cons.mpr ⟨pw_121, (List.forall_mem_cons.mpr ⟨pw_120, (fun _ h => absurd h List.not_mem_nil)⟩)⟩)⟩)⟩)⟩)⟩)⟩)⟩)⟩)⟩)⟩)⟩)⟩)⟩)⟩)⟩)⟩)⟩)⟩)⟩)⟩)⟩)⟩)⟩)
theorem pw_144 : (.methodLink RX10 153 yX5_at : Cond) ∈ lw_tbl := List.mem_of_getElem? (i := 827) (by decide +kernel)
set_option maxRecDepth 100000 in
theorem pw_145 : (.code yX1_finish cX1_finish 5 none : Cond) ∈ lw_tbl := List.mem_of_getElem? (i := 901) rfl
theorem pw_146 : (.selects RX1 yX1_finish yX1_finish : Cond) ∈ lw_tbl := List.mem_of_getElem? (i := 35) (by decide +kernel)
theorem pw_147 : (.instanceMethod yX1_finish : Cond) ∈ lw_tbl := List.mem_of_getElem? (i := 900) (by decide +kernel)
theorem pw_148 : (.methodLink RX1 154 yX1_finish : Cond) ∈ lw_tbl := List.mem_of_getElem? (i := 898) (by decide +kernel)
set_option maxRecDepth 100000 in
theorem pw_149 : (.code yX0_argument cX0_argument 3 (some .int) : Cond) ∈ lw_tbl := List.mem_of_getElem? (i := 897) rfl
theorem pw_150 : (.selects RX0 yX0_argument yX0_argument : Cond) ∈ lw_tbl := List.mem_of_getElem? (i := 896) (by decide +kernel)
theorem ch_wsX10_count_r7 : ∀ w ∈ wsX10_count_r7, w ∈ lw_tbl := (List.forall_mem_cons.mpr ⟨pw_150, (List.forall_mem_cons.mpr ⟨pw_149, (List.forall_mem_cons.mpr ⟨pw_148, (List.forall_mem_cons.mpr ⟨pw_147, (List.forall_mem_cons.mpr ⟨pw_146, (List.forall_mem_cons.mpr ⟨pw_145, (List.forall_mem_cons.mpr ⟨pw_144, (fun _ h => absurd h List.not_mem_nil)⟩)⟩)⟩)⟩)⟩)⟩)⟩)
set_option maxRecDepth 100000 in
theorem pw_151 : (.code yX10_count cX10_count 2 (some .int) : Cond) ∈ lw_tbl := List.mem_of_getElem? (i := 1087) rfl
set_option maxRecDepth 20000 in
theorem lm_wsX10_count : ∀ w ∈ wsX10_count, w ∈ lw_tbl := List.forall_mem_cons.mpr ⟨pw_151, (wL_app (wL_app (wL_app (wL_app (wL_app (wL_app ch_wsX10_count_r1 (wL_app ch_wsX10_count_r2 (wL_app ch_wsX10_count_r3 (wL_app ch_wsX10_count_r4 (wL_app ch_wsX10_count_r5 (wL_app ch_wsX10_count_r6 ch_wsX10_count_r7)))))) wL_wsX100) wL_wsX70) wL_wsX30) wL_wsX10) wL_wsX00)⟩
theorem pw_152 : (.selects RX10 yX10_count yX10_count : Cond) ∈ lw_tbl := List.mem_of_getElem? (i := 1086) (by decide +kernel)
theorem pw_153 : (.instanceMethod yX10_count : Cond) ∈ lw_tbl := List.mem_of_getElem? (i := 1085) (by decide +kernel)
theorem pw_154 : (.methodLink RL 76 yX10_count : Cond) ∈ lw_tbl := List.mem_of_getElem? (i := 1084) (by decide +kernel)
set_option maxRecDepth 20000 in
theorem gW_X10_count : GoodIn lw_tbl (wsV RL 76 RX10 yX10_count wsX10_count) := goodIn_sub (wL_app (List.forall_mem_cons.mpr ⟨pw_154, (List.forall_mem_cons.mpr ⟨pw_153, (List.forall_mem_cons.mpr ⟨pw_152, (List.forall_mem_cons.mpr ⟨pw_14, (fun _ h => absurd h List.not_mem_nil)⟩)⟩)⟩)⟩) lm_wsX10_count) (by decide +kernel)
set_option maxRecDepth 100000 in
theorem pw_155 : (.code yX10_forget cX10_forget 1 none : Cond) ∈ lw_tbl := List.mem_of_getElem? (i := 797) rfl
theorem pw_156 : (.selects RX10 yX10_forget yX10_forget : Cond) ∈ lw_tbl := List.mem_of_getElem? (i := 23) (by decide +kernel)
theorem pw_157 : (.instanceMethod yX10_forget : Cond) ∈ lw_tbl := List.mem_of_getElem? (i := 796) (by decide +kernel)
theorem pw_158 : (.methodLink RX10 119 yX10_forget : Cond) ∈ lw_tbl := List.mem_of_getElem? (i := 794) (by decide +kernel)
theorem pw_159 : (.methodLink RX7 23 yJ7_fill_53178 : Cond) ∈ lw_tbl := List.mem_of_getElem? (i := 791) (by decide +kernel)
theorem pw_160 : (.fieldLink RX7 15 "NothingJudge$Scene" "told" "[I" : Cond) ∈ lw_tbl := List.mem_of_getElem? (i := 291) (by decide +kernel)
set_option maxRecDepth 100000 in
theorem pw_161 : (.code yX7_startAt cX7_startAt 2 none : Cond) ∈ lw_tbl := List.mem_of_getElem? (i := 790) rfl
theorem pw_162 : (.selects RX7 yX7_startAt yX7_startAt : Cond) ∈ lw_tbl := List.mem_of_getElem? (i := 789) (by decide +kernel)
theorem pw_163 : (.instanceMethod yX7_startAt : Cond) ∈ lw_tbl := List.mem_of_getElem? (i := 788) (by decide +kernel)
theorem pw_164 : (.methodLink RX10 116 yX7_startAt : Cond) ∈ lw_tbl := List.mem_of_getElem? (i := 787) (by decide +kernel)
theorem pw_165 : (.methodLink RX10 125 yX3_has : Cond) ∈ lw_tbl := List.mem_of_getElem? (i := 806) (by decide +kernel)
theorem ch_wsX10_entry_r1 : ∀ w ∈ wsX10_entry_r1, w ∈ lw_tbl := (List.forall_mem_cons.mpr ⟨pw_23, (List.forall_mem_cons.mpr ⟨pw_22, (List.forall_mem_cons.mpr ⟨pw_165, (List.forall_mem_cons.mpr ⟨pw_67, (List.forall_mem_cons.mpr ⟨pw_66, (List.forall_mem_cons.mpr ⟨pw_65, (List.forall_mem_cons.mpr ⟨pw_64, (List.forall_mem_cons.mpr ⟨pw_63, (List.forall_mem_cons.mpr ⟨pw_164, (List.forall_mem_cons.mpr ⟨pw_163, (List.forall_mem_cons.mpr ⟨pw_162, (List.forall_mem_cons.mpr ⟨pw_59, (List.forall_mem_cons.mpr ⟨pw_161, (List.forall_mem_cons.mpr ⟨pw_55, (List.forall_mem_cons.mpr ⟨pw_160, (List.forall_mem_cons.mpr ⟨pw_159, (List.forall_mem_cons.mpr ⟨pw_28, (List.forall_mem_cons.mpr ⟨pw_31, (List.forall_mem_cons.mpr ⟨pw_27, (List.forall_mem_cons.mpr ⟨pw_158, (List.forall_mem_cons.mpr ⟨pw_157, (List.forall_mem_cons.mpr ⟨pw_156, (List.forall_mem_cons.mpr ⟨pw_14, (List.forall_mem_cons.mpr ⟨pw_155, (fun _ h => absurd h List.not_mem_nil)⟩)⟩)⟩)⟩)⟩)⟩)⟩)⟩)⟩)⟩)⟩)⟩)⟩)⟩)⟩)⟩)⟩)⟩)⟩)⟩)⟩)⟩)⟩)⟩)
theorem pw_166 : (.fieldLink RX10 221 "NothingJudge$Mender" "stale" "Z" : Cond) ∈ lw_tbl := List.mem_of_getElem? (i := 458) (by decide +kernel)
theorem pw_167 : (.fieldLink RX10 79 "NothingJudge" "mender" "LNothingJudge$Mender;" : Cond) ∈ lw_tbl := List.mem_of_getElem? (i := 499) (by decide +kernel)
theorem pw_168 : (.fieldLink RX10 247 "NothingJudge$Trials" "stale" "Z" : Cond) ∈ lw_tbl := List.mem_of_getElem? (i := 430) (by decide +kernel)
theorem pw_169 : (.fieldLink RX10 70 "NothingJudge" "trials" "LNothingJudge$Trials;" : Cond) ∈ lw_tbl := List.mem_of_getElem? (i := 498) (by decide +kernel)
theorem pw_170 : (.fieldLink RX10 246 "NothingJudge$Facts" "stale" "Z" : Cond) ∈ lw_tbl := List.mem_of_getElem? (i := 321) (by decide +kernel)
theorem ch_wsX10_entry_r2 : ∀ w ∈ wsX10_entry_r2, w ∈ lw_tbl := (List.forall_mem_cons.mpr ⟨pw_12, (List.forall_mem_cons.mpr ⟨pw_170, (List.forall_mem_cons.mpr ⟨pw_169, (List.forall_mem_cons.mpr ⟨pw_168, (List.forall_mem_cons.mpr ⟨pw_167, (List.forall_mem_cons.mpr ⟨pw_166, (fun _ h => absurd h List.not_mem_nil)⟩)⟩)⟩)⟩)⟩)⟩)
set_option maxRecDepth 100000 in
theorem pw_171 : (.code yX10_entry cX10_entry 2 (some .boolean) : Cond) ∈ lw_tbl := List.mem_of_getElem? (i := 805) rfl
set_option maxRecDepth 20000 in
theorem lm_wsX10_entry : ∀ w ∈ wsX10_entry, w ∈ lw_tbl := List.forall_mem_cons.mpr ⟨pw_171, (wL_app (wL_app (wL_app (wL_app (wL_app (wL_app (wL_app ch_wsX10_entry_r1 ch_wsX10_entry_r2) wL_wsX100) wL_wsX70) wL_wsX30) wL_wsX10) wL_wsX90) wL_wsX20)⟩
theorem pw_172 : (.selects RX10 yX10_entry yX10_entry : Cond) ∈ lw_tbl := List.mem_of_getElem? (i := 804) (by decide +kernel)
theorem pw_173 : (.instanceMethod yX10_entry : Cond) ∈ lw_tbl := List.mem_of_getElem? (i := 803) (by decide +kernel)
theorem pw_174 : (.methodLink RL 27 yX10_entry : Cond) ∈ lw_tbl := List.mem_of_getElem? (i := 802) (by decide +kernel)
set_option maxRecDepth 20000 in
theorem gW_X10_entry : GoodIn lw_tbl (wsV RL 27 RX10 yX10_entry wsX10_entry) := goodIn_sub (wL_app (List.forall_mem_cons.mpr ⟨pw_174, (List.forall_mem_cons.mpr ⟨pw_173, (List.forall_mem_cons.mpr ⟨pw_172, (List.forall_mem_cons.mpr ⟨pw_14, (fun _ h => absurd h List.not_mem_nil)⟩)⟩)⟩)⟩) lm_wsX10_entry) (by decide +kernel)
theorem pw_175 : (.fieldLink RX10 36 "NothingJudge" "faultPlace" "I" : Cond) ∈ lw_tbl := List.mem_of_getElem? (i := 494) (by decide +kernel)
theorem pw_176 : (.fieldLink RX10 104 "NothingJudge" "faultKind" "I" : Cond) ∈ lw_tbl := List.mem_of_getElem? (i := 493) (by decide +kernel)
set_option maxRecDepth 100000 in
theorem pw_177 : (.code yX10_fault cX10_fault 2 (some .int) : Cond) ∈ lw_tbl := List.mem_of_getElem? (i := 801) rfl
set_option maxRecDepth 20000 in
theorem lm_wsX10_fault : ∀ w ∈ wsX10_fault, w ∈ lw_tbl := List.forall_mem_cons.mpr ⟨pw_177, (wL_app (List.forall_mem_cons.mpr ⟨pw_176, (List.forall_mem_cons.mpr ⟨pw_175, (fun _ h => absurd h List.not_mem_nil)⟩)⟩) wL_wsX100)⟩
theorem pw_178 : (.selects RX10 yX10_fault yX10_fault : Cond) ∈ lw_tbl := List.mem_of_getElem? (i := 800) (by decide +kernel)
theorem pw_179 : (.instanceMethod yX10_fault : Cond) ∈ lw_tbl := List.mem_of_getElem? (i := 799) (by decide +kernel)
theorem pw_180 : (.methodLink RL 23 yX10_fault : Cond) ∈ lw_tbl := List.mem_of_getElem? (i := 798) (by decide +kernel)
set_option maxRecDepth 20000 in
theorem gW_X10_fault : GoodIn lw_tbl (wsV RL 23 RX10 yX10_fault wsX10_fault) := goodIn_sub (wL_app (List.forall_mem_cons.mpr ⟨pw_180, (List.forall_mem_cons.mpr ⟨pw_179, (List.forall_mem_cons.mpr ⟨pw_178, (List.forall_mem_cons.mpr ⟨pw_14, (fun _ h => absurd h List.not_mem_nil)⟩)⟩)⟩)⟩) lm_wsX10_fault) (by decide +kernel)
theorem pw_181 : (.fieldLink RX10 9 "NothingJudge" "tape" "[B" : Cond) ∈ lw_tbl := List.mem_of_getElem? (i := 488) (by decide +kernel)
set_option maxRecDepth 100000 in
theorem pw_182 : (.code yX10_putNumber cX10_putNumber 3 none : Cond) ∈ lw_tbl := List.mem_of_getElem? (i := 535) rfl
theorem pw_183 : (.selects RX10 yX10_putNumber yX10_putNumber : Cond) ∈ lw_tbl := List.mem_of_getElem? (i := 0) (by decide +kernel)
theorem pw_184 : (.instanceMethod yX10_putNumber : Cond) ∈ lw_tbl := List.mem_of_getElem? (i := 534) (by decide +kernel)
theorem pw_185 : (.methodLink RX10 90 yX10_putNumber : Cond) ∈ lw_tbl := List.mem_of_getElem? (i := 532) (by decide +kernel)
theorem pw_186 : (.fieldLink RX10 87 "NothingJudge" "taped" "I" : Cond) ∈ lw_tbl := List.mem_of_getElem? (i := 489) (by decide +kernel)
set_option maxRecDepth 100000 in
theorem pw_187 : (.code yX10_feed cX10_feed 6 (some .int) : Cond) ∈ lw_tbl := List.mem_of_getElem? (i := 531) rfl
set_option maxRecDepth 20000 in
theorem lm_wsX10_feed : ∀ w ∈ wsX10_feed, w ∈ lw_tbl := List.forall_mem_cons.mpr ⟨pw_187, (wL_app (List.forall_mem_cons.mpr ⟨pw_186, (List.forall_mem_cons.mpr ⟨pw_185, (List.forall_mem_cons.mpr ⟨pw_184, (List.forall_mem_cons.mpr ⟨pw_183, (List.forall_mem_cons.mpr ⟨pw_14, (List.forall_mem_cons.mpr ⟨pw_182, (List.forall_mem_cons.mpr ⟨pw_181, (fun _ h => absurd h List.not_mem_nil)⟩)⟩)⟩)⟩)⟩)⟩)⟩) wL_wsX100)⟩
theorem pw_188 : (.selects RX10 yX10_feed yX10_feed : Cond) ∈ lw_tbl := List.mem_of_getElem? (i := 530) (by decide +kernel)
theorem pw_189 : (.instanceMethod yX10_feed : Cond) ∈ lw_tbl := List.mem_of_getElem? (i := 529) (by decide +kernel)
theorem pw_190 : (.methodLink RL 13 yX10_feed : Cond) ∈ lw_tbl := List.mem_of_getElem? (i := 528) (by decide +kernel)
set_option maxRecDepth 20000 in
theorem gW_X10_feed : GoodIn lw_tbl (wsV RL 13 RX10 yX10_feed wsX10_feed) := goodIn_sub (wL_app (List.forall_mem_cons.mpr ⟨pw_190, (List.forall_mem_cons.mpr ⟨pw_189, (List.forall_mem_cons.mpr ⟨pw_188, (List.forall_mem_cons.mpr ⟨pw_14, (fun _ h => absurd h List.not_mem_nil)⟩)⟩)⟩)⟩) lm_wsX10_feed) (by decide +kernel)
theorem pw_191 : (.instantiable RX1 14 : Cond) ∈ lw_tbl := List.mem_of_getElem? (i := 302) (by decide +kernel)
theorem pw_192 : (.classLink RX10 49 RX1 : Cond) ∈ lw_tbl := List.mem_of_getElem? (i := 301) (by decide +kernel)
theorem pw_193 : (.instantiable RX7 3 : Cond) ∈ lw_tbl := List.mem_of_getElem? (i := 277) (by decide +kernel)
theorem pw_194 : (.classLink RX10 40 RX7 : Cond) ∈ lw_tbl := List.mem_of_getElem? (i := 276) (by decide +kernel)
theorem pw_195 : (.fieldLink RX10 32 "NothingJudge" "reader" "LNothingJudge$Reader;" : Cond) ∈ lw_tbl := List.mem_of_getElem? (i := 492) (by decide +kernel)
theorem pw_196 : (.initialized RX4 : Cond) ∈ lw_tbl := List.mem_of_getElem? (i := 111) (by decide +kernel)
theorem pw_197 : (.instantiable RX4 10 : Cond) ∈ lw_tbl := List.mem_of_getElem? (i := 238) (by decide +kernel)
theorem pw_198 : (.classLink RX10 27 RX4 : Cond) ∈ lw_tbl := List.mem_of_getElem? (i := 237) (by decide +kernel)
theorem pw_199 : (.fieldLink RX10 23 "NothingJudge" "spare" "LNothingJudge$Program;" : Cond) ∈ lw_tbl := List.mem_of_getElem? (i := 491) (by decide +kernel)
theorem pw_200 : (.instantiable RX3 14 : Cond) ∈ lw_tbl := List.mem_of_getElem? (i := 152) (by decide +kernel)
theorem pw_201 : (.classLink RX10 20 RX3 : Cond) ∈ lw_tbl := List.mem_of_getElem? (i := 151) (by decide +kernel)
theorem pw_202 : (.fieldLink RX10 16 "NothingJudge" "tokens" "LNothingJudge$Tokens;" : Cond) ∈ lw_tbl := List.mem_of_getElem? (i := 490) (by decide +kernel)
theorem pw_203 : (.initialized RX8 : Cond) ∈ lw_tbl := List.mem_of_getElem? (i := 108) (by decide +kernel)
theorem pw_204 : (.instantiable RX8 3 : Cond) ∈ lw_tbl := List.mem_of_getElem? (i := 134) (by decide +kernel)
theorem pw_205 : (.classLink RX10 13 RX8 : Cond) ∈ lw_tbl := List.mem_of_getElem? (i := 133) (by decide +kernel)
theorem pw_206 : (.arrayClass .byte : Cond) ∈ lw_tbl := List.mem_of_getElem? (i := 149) (by decide +kernel)
set_option maxRecDepth 100000 in
theorem pw_207 : (.code objectInit ⟨#[0xb1]⟩ 1 none : Cond) ∈ lw_tbl := List.mem_of_getElem? (i := 132) rfl
theorem pw_208 : (.instanceMethod objectInit : Cond) ∈ lw_tbl := List.mem_of_getElem? (i := 131) (by decide +kernel)
theorem pw_209 : (.methodLink RX10 3 objectInit : Cond) ∈ lw_tbl := List.mem_of_getElem? (i := 130) (by decide +kernel)
theorem ch_wsX10_init_r1 : ∀ w ∈ wsX10_init_r1, w ∈ lw_tbl := (List.forall_mem_cons.mpr ⟨pw_209, (List.forall_mem_cons.mpr ⟨pw_208, (List.forall_mem_cons.mpr ⟨pw_207, (List.forall_mem_cons.mpr ⟨pw_206, (List.forall_mem_cons.mpr ⟨pw_181, (List.forall_mem_cons.mpr ⟨pw_205, (List.forall_mem_cons.mpr ⟨pw_204, (List.forall_mem_cons.mpr ⟨pw_203, (List.forall_mem_cons.mpr ⟨pw_202, (List.forall_mem_cons.mpr ⟨pw_201, (List.forall_mem_cons.mpr ⟨pw_200, (List.forall_mem_cons.mpr ⟨pw_65, (List.forall_mem_cons.mpr ⟨pw_199, (List.forall_mem_cons.mpr ⟨pw_198, (List.forall_mem_cons.mpr ⟨pw_197, (List.forall_mem_cons.mpr ⟨pw_196, (List.forall_mem_cons.mpr ⟨pw_195, (List.forall_mem_cons.mpr ⟨pw_175, (List.forall_mem_cons.mpr ⟨pw_194, (List.forall_mem_cons.mpr ⟨pw_193, (List.forall_mem_cons.mpr ⟨pw_59, (List.forall_mem_cons.mpr ⟨pw_23, (List.forall_mem_cons.mpr ⟨pw_192, (List.forall_mem_cons.mpr ⟨pw_191, (fun _ h => absurd h List.not_mem_nil)⟩)⟩)⟩)⟩)⟩)⟩)⟩)⟩)⟩)⟩)⟩)⟩)⟩)⟩)⟩)⟩)⟩)⟩)⟩)⟩)⟩)⟩)⟩)⟩)
theorem pw_210 : (.classLink RX3 9 RX0 : Cond) ∈ lw_tbl := List.mem_of_getElem? (i := 157) (by decide +kernel)
theorem pw_211 : (.methodLink RX3 3 objectInit : Cond) ∈ lw_tbl := List.mem_of_getElem? (i := 156) (by decide +kernel)
set_option maxRecDepth 100000 in
theorem pw_212 : (.code yX3_init cX3_init 1 none : Cond) ∈ lw_tbl := List.mem_of_getElem? (i := 155) rfl
theorem pw_213 : (.instanceMethod yX3_init : Cond) ∈ lw_tbl := List.mem_of_getElem? (i := 154) (by decide +kernel)
theorem pw_214 : (.fieldLink RX8 9 "NothingJudge$Tokens" "packed" "[I" : Cond) ∈ lw_tbl := List.mem_of_getElem? (i := 139) (by decide +kernel)
theorem pw_215 : (.methodLink RX8 3 objectInit : Cond) ∈ lw_tbl := List.mem_of_getElem? (i := 138) (by decide +kernel)
set_option maxRecDepth 100000 in
theorem pw_216 : (.code yX8_init cX8_init 1 none : Cond) ∈ lw_tbl := List.mem_of_getElem? (i := 137) rfl
theorem pw_217 : (.instanceMethod yX8_init : Cond) ∈ lw_tbl := List.mem_of_getElem? (i := 136) (by decide +kernel)
theorem pw_218 : (.fieldLink RX10 83 "NothingJudge" "ranRow" "[I" : Cond) ∈ lw_tbl := List.mem_of_getElem? (i := 500) (by decide +kernel)
theorem pw_219 : (.arrayClass .int : Cond) ∈ lw_tbl := List.mem_of_getElem? (i := 150) (by decide +kernel)
theorem pw_220 : (.initialized RX2 : Cond) ∈ lw_tbl := List.mem_of_getElem? (i := 116) (by decide +kernel)
theorem pw_221 : (.instantiable RX2 10 : Cond) ∈ lw_tbl := List.mem_of_getElem? (i := 446) (by decide +kernel)
theorem pw_222 : (.classLink RX10 74 RX2 : Cond) ∈ lw_tbl := List.mem_of_getElem? (i := 445) (by decide +kernel)
theorem pw_223 : (.initialized RX9 : Cond) ∈ lw_tbl := List.mem_of_getElem? (i := 115) (by decide +kernel)
theorem pw_224 : (.instantiable RX9 6 : Cond) ∈ lw_tbl := List.mem_of_getElem? (i := 419) (by decide +kernel)
theorem pw_225 : (.classLink RX10 65 RX9 : Cond) ∈ lw_tbl := List.mem_of_getElem? (i := 418) (by decide +kernel)
theorem pw_226 : (.fieldLink RX10 61 "NothingJudge" "runner" "LNothingJudge$Runner;" : Cond) ∈ lw_tbl := List.mem_of_getElem? (i := 497) (by decide +kernel)
theorem pw_227 : (.initialized RX6 : Cond) ∈ lw_tbl := List.mem_of_getElem? (i := 114) (by decide +kernel)
theorem pw_228 : (.instantiable RX6 16 : Cond) ∈ lw_tbl := List.mem_of_getElem? (i := 358) (by decide +kernel)
theorem pw_229 : (.classLink RX10 58 RX6 : Cond) ∈ lw_tbl := List.mem_of_getElem? (i := 357) (by decide +kernel)
theorem ch_wsX10_init_r2 : ∀ w ∈ wsX10_init_r2, w ∈ lw_tbl := (List.forall_mem_cons.mpr ⟨pw_7, (List.forall_mem_cons.mpr ⟨pw_12, (List.forall_mem_cons.mpr ⟨pw_229, (List.forall_mem_cons.mpr ⟨pw_228, (List.forall_mem_cons.mpr ⟨pw_227, (List.forall_mem_cons.mpr ⟨pw_226, (List.forall_mem_cons.mpr ⟨pw_225, (List.forall_mem_cons.mpr ⟨pw_224, (List.forall_mem_cons.mpr ⟨pw_223, (List.forall_mem_cons.mpr ⟨pw_169, (List.forall_mem_cons.mpr ⟨pw_222, (List.forall_mem_cons.mpr ⟨pw_221, (List.forall_mem_cons.mpr ⟨pw_220, (List.forall_mem_cons.mpr ⟨pw_167, (List.forall_mem_cons.mpr ⟨pw_219, (List.forall_mem_cons.mpr ⟨pw_218, (List.forall_mem_cons.mpr ⟨pw_217, (List.forall_mem_cons.mpr ⟨pw_216, (List.forall_mem_cons.mpr ⟨pw_215, (List.forall_mem_cons.mpr ⟨pw_214, (List.forall_mem_cons.mpr ⟨pw_213, (List.forall_mem_cons.mpr ⟨pw_212, (List.forall_mem_cons.mpr ⟨pw_211, (List.forall_mem_cons.mpr ⟨pw_210, (fun _ h => absurd h List.not_mem_nil)⟩)⟩)⟩)⟩)⟩)⟩)⟩)⟩)⟩)⟩)⟩)⟩)⟩)⟩)⟩)⟩)⟩)⟩)⟩)⟩)⟩)⟩)⟩)⟩)
theorem pw_230 : (.fieldLink RX4 22 "NothingJudge$Reader" "tokens" "LNothingJudge$Tokens;" : Cond) ∈ lw_tbl := List.mem_of_getElem? (i := 243) (by decide +kernel)
theorem pw_231 : (.fieldLink RX4 18 "NothingJudge$Reader" "wrongPlace" "I" : Cond) ∈ lw_tbl := List.mem_of_getElem? (i := 253) (by decide +kernel)
theorem pw_232 : (.fieldLink RX4 15 "NothingJudge$Reader" "openAt" "[I" : Cond) ∈ lw_tbl := List.mem_of_getElem? (i := 245) (by decide +kernel)
theorem pw_233 : (.fieldLink RX4 9 "NothingJudge$Reader" "openKind" "[I" : Cond) ∈ lw_tbl := List.mem_of_getElem? (i := 244) (by decide +kernel)
theorem pw_234 : (.methodLink RX4 3 objectInit : Cond) ∈ lw_tbl := List.mem_of_getElem? (i := 242) (by decide +kernel)
set_option maxRecDepth 100000 in
theorem pw_235 : (.code yX4_init cX4_init 3 none : Cond) ∈ lw_tbl := List.mem_of_getElem? (i := 241) rfl
theorem pw_236 : (.instanceMethod yX4_init : Cond) ∈ lw_tbl := List.mem_of_getElem? (i := 240) (by decide +kernel)
theorem pw_237 : (.methodLink RX10 29 yX4_init : Cond) ∈ lw_tbl := List.mem_of_getElem? (i := 239) (by decide +kernel)
theorem pw_238 : (.methodLink RX0 5 objectInit : Cond) ∈ lw_tbl := List.mem_of_getElem? (i := 162) (by decide +kernel)
set_option maxRecDepth 100000 in
theorem pw_239 : (.code yX0_init cX0_init 1 none : Cond) ∈ lw_tbl := List.mem_of_getElem? (i := 161) rfl
theorem pw_240 : (.instanceMethod yX0_init : Cond) ∈ lw_tbl := List.mem_of_getElem? (i := 160) (by decide +kernel)
theorem pw_241 : (.fieldLink RX3 43 "NothingJudge$Program" "first" "I" : Cond) ∈ lw_tbl := List.mem_of_getElem? (i := 206) (by decide +kernel)
theorem pw_242 : (.fieldLink RX3 40 "NothingJudge$Program" "testPlace" "[I" : Cond) ∈ lw_tbl := List.mem_of_getElem? (i := 194) (by decide +kernel)
theorem pw_243 : (.fieldLink RX3 37 "NothingJudge$Program" "testOwner" "[I" : Cond) ∈ lw_tbl := List.mem_of_getElem? (i := 192) (by decide +kernel)
theorem pw_244 : (.fieldLink RX3 34 "NothingJudge$Program" "useName" "[I" : Cond) ∈ lw_tbl := List.mem_of_getElem? (i := 190) (by decide +kernel)
theorem pw_245 : (.fieldLink RX3 31 "NothingJudge$Program" "usePlace" "[I" : Cond) ∈ lw_tbl := List.mem_of_getElem? (i := 188) (by decide +kernel)
theorem pw_246 : (.fieldLink RX3 28 "NothingJudge$Program" "useOwner" "[I" : Cond) ∈ lw_tbl := List.mem_of_getElem? (i := 186) (by decide +kernel)
theorem pw_247 : (.fieldLink RX3 22 "NothingJudge$Program" "arity" "[I" : Cond) ∈ lw_tbl := List.mem_of_getElem? (i := 180) (by decide +kernel)
theorem pw_248 : (.fieldLink RX3 18 "NothingJudge$Program" "opening" "[I" : Cond) ∈ lw_tbl := List.mem_of_getElem? (i := 177) (by decide +kernel)
theorem pw_249 : (.fieldLink RX3 12 "NothingJudge$Program" "code" "LNothingJudge$Code;" : Cond) ∈ lw_tbl := List.mem_of_getElem? (i := 173) (by decide +kernel)
theorem pw_250 : (.instantiable RX0 2 : Cond) ∈ lw_tbl := List.mem_of_getElem? (i := 158) (by decide +kernel)
theorem ch_wsX10_init_r3 : ∀ w ∈ wsX10_init_r3, w ∈ lw_tbl := (List.forall_mem_cons.mpr ⟨pw_250, (List.forall_mem_cons.mpr ⟨pw_104, (List.forall_mem_cons.mpr ⟨pw_249, (List.forall_mem_cons.mpr ⟨pw_248, (List.forall_mem_cons.mpr ⟨pw_247, (List.forall_mem_cons.mpr ⟨pw_74, (List.forall_mem_cons.mpr ⟨pw_246, (List.forall_mem_cons.mpr ⟨pw_245, (List.forall_mem_cons.mpr ⟨pw_244, (List.forall_mem_cons.mpr ⟨pw_243, (List.forall_mem_cons.mpr ⟨pw_242, (List.forall_mem_cons.mpr ⟨pw_241, (List.forall_mem_cons.mpr ⟨pw_240, (List.forall_mem_cons.mpr ⟨pw_239, (List.forall_mem_cons.mpr ⟨pw_238, (List.forall_mem_cons.mpr ⟨pw_101, (List.forall_mem_cons.mpr ⟨pw_237, (List.forall_mem_cons.mpr ⟨pw_236, (List.forall_mem_cons.mpr ⟨pw_235, (List.forall_mem_cons.mpr ⟨pw_234, (List.forall_mem_cons.mpr ⟨pw_233, (List.forall_mem_cons.mpr ⟨pw_232, (List.forall_mem_cons.mpr ⟨pw_231, (List.forall_mem_cons.mpr ⟨pw_230, (fun _ h => absurd h List.not_mem_nil)⟩)⟩)⟩)⟩)⟩)⟩)⟩)⟩)⟩)⟩)⟩)⟩)⟩)⟩)⟩)⟩)⟩)⟩)⟩)⟩)⟩)⟩)⟩)⟩)
theorem pw_251 : (.arrayClass .long : Cond) ∈ lw_tbl := List.mem_of_getElem? (i := 356) (by decide +kernel)
theorem pw_252 : (.methodLink RX1 3 objectInit : Cond) ∈ lw_tbl := List.mem_of_getElem? (i := 306) (by decide +kernel)
set_option maxRecDepth 100000 in
theorem pw_253 : (.code yX1_init cX1_init 2 none : Cond) ∈ lw_tbl := List.mem_of_getElem? (i := 305) rfl
theorem pw_254 : (.instanceMethod yX1_init : Cond) ∈ lw_tbl := List.mem_of_getElem? (i := 304) (by decide +kernel)
theorem pw_255 : (.methodLink RX10 51 yX1_init : Cond) ∈ lw_tbl := List.mem_of_getElem? (i := 303) (by decide +kernel)
theorem pw_256 : (.methodLink RX7 3 objectInit : Cond) ∈ lw_tbl := List.mem_of_getElem? (i := 281) (by decide +kernel)
set_option maxRecDepth 100000 in
theorem pw_257 : (.code yX7_init cX7_init 2 none : Cond) ∈ lw_tbl := List.mem_of_getElem? (i := 280) rfl
theorem pw_258 : (.instanceMethod yX7_init : Cond) ∈ lw_tbl := List.mem_of_getElem? (i := 279) (by decide +kernel)
theorem pw_259 : (.methodLink RX10 42 yX7_init : Cond) ∈ lw_tbl := List.mem_of_getElem? (i := 278) (by decide +kernel)
theorem pw_260 : (.fieldLink RX4 36 "NothingJudge$Reader" "code" "LNothingJudge$Code;" : Cond) ∈ lw_tbl := List.mem_of_getElem? (i := 247) (by decide +kernel)
theorem pw_261 : (.fieldLink RX4 30 "NothingJudge$Program" "code" "LNothingJudge$Code;" : Cond) ∈ lw_tbl := List.mem_of_getElem? (i := 174) (by decide +kernel)
theorem pw_262 : (.fieldLink RX4 26 "NothingJudge$Reader" "program" "LNothingJudge$Program;" : Cond) ∈ lw_tbl := List.mem_of_getElem? (i := 246) (by decide +kernel)
theorem ch_wsX10_init_r4 : ∀ w ∈ wsX10_init_r4, w ∈ lw_tbl := (List.forall_mem_cons.mpr ⟨pw_262, (List.forall_mem_cons.mpr ⟨pw_261, (List.forall_mem_cons.mpr ⟨pw_260, (List.forall_mem_cons.mpr ⟨pw_259, (List.forall_mem_cons.mpr ⟨pw_258, (List.forall_mem_cons.mpr ⟨pw_257, (List.forall_mem_cons.mpr ⟨pw_256, (List.forall_mem_cons.mpr ⟨pw_55, (List.forall_mem_cons.mpr ⟨pw_160, (List.forall_mem_cons.mpr ⟨pw_57, (List.forall_mem_cons.mpr ⟨pw_255, (List.forall_mem_cons.mpr ⟨pw_254, (List.forall_mem_cons.mpr ⟨pw_253, (List.forall_mem_cons.mpr ⟨pw_252, (List.forall_mem_cons.mpr ⟨pw_251, (List.forall_mem_cons.mpr ⟨pw_0, (List.forall_mem_cons.mpr ⟨pw_47, (List.forall_mem_cons.mpr ⟨pw_36, (List.forall_mem_cons.mpr ⟨pw_35, (List.forall_mem_cons.mpr ⟨pw_34, (List.forall_mem_cons.mpr ⟨pw_5, (List.forall_mem_cons.mpr ⟨pw_41, (List.forall_mem_cons.mpr ⟨pw_40, (List.forall_mem_cons.mpr ⟨pw_39, (fun _ h => absurd h List.not_mem_nil)⟩)⟩)⟩)⟩)⟩)⟩)⟩)⟩)⟩)⟩)⟩)⟩)⟩)⟩)⟩)⟩)⟩)⟩)⟩)⟩)⟩)⟩)⟩)⟩)
theorem pw_263 : (.methodLink RX10 76 yX2_init : Cond) ∈ lw_tbl := List.mem_of_getElem? (i := 447) (by decide +kernel)
theorem pw_264 : (.fieldLink RX9 26 "NothingJudge$Trials" "runner" "LNothingJudge$Runner;" : Cond) ∈ lw_tbl := List.mem_of_getElem? (i := 425) (by decide +kernel)
theorem pw_265 : (.fieldLink RX9 22 "NothingJudge$Trials" "scene" "LNothingJudge$Scene;" : Cond) ∈ lw_tbl := List.mem_of_getElem? (i := 424) (by decide +kernel)
theorem pw_266 : (.fieldLink RX9 18 "NothingJudge$Trials" "stale" "Z" : Cond) ∈ lw_tbl := List.mem_of_getElem? (i := 429) (by decide +kernel)
theorem pw_267 : (.fieldLink RX9 15 "NothingJudge$Trials" "knownFor" "[I" : Cond) ∈ lw_tbl := List.mem_of_getElem? (i := 428) (by decide +kernel)
theorem pw_268 : (.fieldLink RX9 9 "NothingJudge$Trials" "first" "[I" : Cond) ∈ lw_tbl := List.mem_of_getElem? (i := 426) (by decide +kernel)
theorem pw_269 : (.methodLink RX9 3 objectInit : Cond) ∈ lw_tbl := List.mem_of_getElem? (i := 423) (by decide +kernel)
set_option maxRecDepth 100000 in
theorem pw_270 : (.code yX9_init cX9_init 3 none : Cond) ∈ lw_tbl := List.mem_of_getElem? (i := 422) rfl
theorem pw_271 : (.instanceMethod yX9_init : Cond) ∈ lw_tbl := List.mem_of_getElem? (i := 421) (by decide +kernel)
theorem pw_272 : (.methodLink RX10 67 yX9_init : Cond) ∈ lw_tbl := List.mem_of_getElem? (i := 420) (by decide +kernel)
theorem pw_273 : (.fieldLink RX6 38 "NothingJudge$Runner" "code" "LNothingJudge$Code;" : Cond) ∈ lw_tbl := List.mem_of_getElem? (i := 368) (by decide +kernel)
theorem pw_274 : (.fieldLink RX6 32 "NothingJudge$Program" "code" "LNothingJudge$Code;" : Cond) ∈ lw_tbl := List.mem_of_getElem? (i := 175) (by decide +kernel)
theorem pw_275 : (.fieldLink RX6 31 "NothingJudge$Runner" "program" "LNothingJudge$Program;" : Cond) ∈ lw_tbl := List.mem_of_getElem? (i := 367) (by decide +kernel)
theorem pw_276 : (.fieldLink RX6 25 "NothingJudge$Scene" "program" "LNothingJudge$Program;" : Cond) ∈ lw_tbl := List.mem_of_getElem? (i := 283) (by decide +kernel)
theorem pw_277 : (.fieldLink RX6 21 "NothingJudge$Runner" "scene" "LNothingJudge$Scene;" : Cond) ∈ lw_tbl := List.mem_of_getElem? (i := 363) (by decide +kernel)
theorem pw_278 : (.fieldLink RX6 18 "NothingJudge$Runner" "fields" "[I" : Cond) ∈ lw_tbl := List.mem_of_getElem? (i := 366) (by decide +kernel)
theorem pw_279 : (.fieldLink RX6 15 "NothingJudge$Runner" "back" "[I" : Cond) ∈ lw_tbl := List.mem_of_getElem? (i := 365) (by decide +kernel)
theorem pw_280 : (.fieldLink RX6 11 "NothingJudge$Runner" "names" "[I" : Cond) ∈ lw_tbl := List.mem_of_getElem? (i := 364) (by decide +kernel)
theorem pw_281 : (.methodLink RX6 3 objectInit : Cond) ∈ lw_tbl := List.mem_of_getElem? (i := 362) (by decide +kernel)
set_option maxRecDepth 100000 in
theorem pw_282 : (.code yX6_init cX6_init 2 none : Cond) ∈ lw_tbl := List.mem_of_getElem? (i := 361) rfl
theorem pw_283 : (.instanceMethod yX6_init : Cond) ∈ lw_tbl := List.mem_of_getElem? (i := 360) (by decide +kernel)
theorem pw_284 : (.methodLink RX10 60 yX6_init : Cond) ∈ lw_tbl := List.mem_of_getElem? (i := 359) (by decide +kernel)
theorem ch_wsX10_init_r5 : ∀ w ∈ wsX10_init_r5, w ∈ lw_tbl := (List.forall_mem_cons.mpr ⟨pw_38, (List.forall_mem_cons.mpr ⟨pw_2, (List.forall_mem_cons.mpr ⟨pw_284, (List.forall_mem_cons.mpr ⟨pw_283, (List.forall_mem_cons.mpr ⟨pw_282, (List.forall_mem_cons.mpr ⟨pw_281, (List.forall_mem_cons.mpr ⟨pw_280, (List.forall_mem_cons.mpr ⟨pw_279, (List.forall_mem_cons.mpr ⟨pw_278, (List.forall_mem_cons.mpr ⟨pw_277, (List.forall_mem_cons.mpr ⟨pw_276, (List.forall_mem_cons.mpr ⟨pw_275, (List.forall_mem_cons.mpr ⟨pw_274, (List.forall_mem_cons.mpr ⟨pw_273, (List.forall_mem_cons.mpr ⟨pw_272, (List.forall_mem_cons.mpr ⟨pw_271, (List.forall_mem_cons.mpr ⟨pw_270, (List.forall_mem_cons.mpr ⟨pw_269, (List.forall_mem_cons.mpr ⟨pw_268, (List.forall_mem_cons.mpr ⟨pw_267, (List.forall_mem_cons.mpr ⟨pw_266, (List.forall_mem_cons.mpr ⟨pw_265, (List.forall_mem_cons.mpr ⟨pw_264, (List.forall_mem_cons.mpr ⟨pw_263, (fun _ h => absurd h List.not_mem_nil)⟩)⟩)⟩)⟩)⟩)⟩)⟩)⟩)⟩)⟩)⟩)⟩)⟩)⟩)⟩)⟩)⟩)⟩)⟩)⟩)⟩)⟩)⟩)⟩)
theorem pw_285 : (.fieldLink RX2 29 "NothingJudge$Mender" "facts" "LNothingJudge$Facts;" : Cond) ∈ lw_tbl := List.mem_of_getElem? (i := 451) (by decide +kernel)
theorem pw_286 : (.fieldLink RX2 25 "NothingJudge$Mender" "cost" "I" : Cond) ∈ lw_tbl := List.mem_of_getElem? (i := 461) (by decide +kernel)
theorem pw_287 : (.fieldLink RX2 21 "NothingJudge$Mender" "stale" "Z" : Cond) ∈ lw_tbl := List.mem_of_getElem? (i := 457) (by decide +kernel)
theorem pw_288 : (.fieldLink RX2 18 "NothingJudge$Mender" "heldNames" "[I" : Cond) ∈ lw_tbl := List.mem_of_getElem? (i := 455) (by decide +kernel)
theorem pw_289 : (.fieldLink RX2 15 "NothingJudge$Mender" "candidates" "[I" : Cond) ∈ lw_tbl := List.mem_of_getElem? (i := 454) (by decide +kernel)
theorem pw_290 : (.fieldLink RX2 9 "NothingJudge$Mender" "prices" "[I" : Cond) ∈ lw_tbl := List.mem_of_getElem? (i := 452) (by decide +kernel)
theorem pw_291 : (.methodLink RX2 3 objectInit : Cond) ∈ lw_tbl := List.mem_of_getElem? (i := 450) (by decide +kernel)
set_option maxRecDepth 100000 in
theorem pw_292 : (.code yX2_init cX2_init 2 none : Cond) ∈ lw_tbl := List.mem_of_getElem? (i := 449) rfl
theorem pw_293 : (.instanceMethod yX2_init : Cond) ∈ lw_tbl := List.mem_of_getElem? (i := 448) (by decide +kernel)
theorem ch_wsX10_init_r6 : ∀ w ∈ wsX10_init_r6, w ∈ lw_tbl := (List.forall_mem_cons.mpr ⟨pw_293, (List.forall_mem_cons.mpr ⟨pw_292, (List.forall_mem_cons.mpr ⟨pw_291, (List.forall_mem_cons.mpr ⟨pw_290, (List.forall_mem_cons.mpr ⟨pw_289, (List.forall_mem_cons.mpr ⟨pw_288, (List.forall_mem_cons.mpr ⟨pw_287, (List.forall_mem_cons.mpr ⟨pw_286, (List.forall_mem_cons.mpr ⟨pw_285, (fun _ h => absurd h List.not_mem_nil)⟩)⟩)⟩)⟩)⟩)⟩)⟩)⟩)⟩)
set_option maxRecDepth 100000 in
theorem pw_294 : (.code yX10_init cX10_init 1 none : Cond) ∈ lw_tbl := List.mem_of_getElem? (i := 129) rfl
set_option maxRecDepth 20000 in
theorem lm_wsX10_init : ∀ w ∈ wsX10_init, w ∈ lw_tbl := List.forall_mem_cons.mpr ⟨pw_294, (wL_app (wL_app (wL_app (wL_app (wL_app (wL_app (wL_app (wL_app (wL_app (wL_app (wL_app ch_wsX10_init_r1 (wL_app ch_wsX10_init_r2 (wL_app ch_wsX10_init_r3 (wL_app ch_wsX10_init_r4 (wL_app ch_wsX10_init_r5 ch_wsX10_init_r6))))) wL_wsX100) wL_wsX80) wL_wsX30) wL_wsX40) wL_wsX70) wL_wsX10) wL_wsX60) wL_wsX90) wL_wsX20) wL_wsX00)⟩
set_option maxRecDepth 20000 in
theorem gW_X10_init : GoodIn lw_tbl wsX10_init := goodIn_sub lm_wsX10_init (by decide +kernel)
theorem pw_295 : (.fieldLink RX10 248 "NothingJudge$Program" "arity" "[I" : Cond) ∈ lw_tbl := List.mem_of_getElem? (i := 183) (by decide +kernel)
set_option maxRecDepth 100000 in
theorem pw_296 : (.code yX10_markIndex cX10_markIndex 5 (some .int) : Cond) ∈ lw_tbl := List.mem_of_getElem? (i := 826) rfl
theorem pw_297 : (.selects RX10 yX10_markIndex yX10_markIndex : Cond) ∈ lw_tbl := List.mem_of_getElem? (i := 24) (by decide +kernel)
theorem pw_298 : (.instanceMethod yX10_markIndex : Cond) ∈ lw_tbl := List.mem_of_getElem? (i := 825) (by decide +kernel)
theorem pw_299 : (.methodLink RX10 142 yX10_markIndex : Cond) ∈ lw_tbl := List.mem_of_getElem? (i := 823) (by decide +kernel)
theorem pw_300 : (.fieldLink RX10 150 "NothingJudge$Facts" "marks" "[I" : Cond) ∈ lw_tbl := List.mem_of_getElem? (i := 313) (by decide +kernel)
theorem ch_wsX10_mark_r1 : ∀ w ∈ wsX10_mark_r1, w ∈ lw_tbl := (List.forall_mem_cons.mpr ⟨pw_12, (List.forall_mem_cons.mpr ⟨pw_300, (List.forall_mem_cons.mpr ⟨pw_299, (List.forall_mem_cons.mpr ⟨pw_298, (List.forall_mem_cons.mpr ⟨pw_297, (List.forall_mem_cons.mpr ⟨pw_14, (List.forall_mem_cons.mpr ⟨pw_296, (List.forall_mem_cons.mpr ⟨pw_23, (List.forall_mem_cons.mpr ⟨pw_22, (List.forall_mem_cons.mpr ⟨pw_295, (List.forall_mem_cons.mpr ⟨pw_165, (List.forall_mem_cons.mpr ⟨pw_67, (List.forall_mem_cons.mpr ⟨pw_66, (List.forall_mem_cons.mpr ⟨pw_65, (List.forall_mem_cons.mpr ⟨pw_64, (List.forall_mem_cons.mpr ⟨pw_63, (List.forall_mem_cons.mpr ⟨pw_144, (List.forall_mem_cons.mpr ⟨pw_49, (List.forall_mem_cons.mpr ⟨pw_48, (List.forall_mem_cons.mpr ⟨pw_95, (List.forall_mem_cons.mpr ⟨pw_10, (List.forall_mem_cons.mpr ⟨pw_9, (List.forall_mem_cons.mpr ⟨pw_8, (List.forall_mem_cons.mpr ⟨pw_7, (fun _ h => absurd h List.not_mem_nil)⟩)⟩)⟩)⟩)⟩)⟩)⟩)⟩)⟩)⟩)⟩)⟩)⟩)⟩)⟩)⟩)⟩)⟩)⟩)⟩)⟩)⟩)⟩)⟩)
theorem ch_wsX10_mark_r2 : ∀ w ∈ wsX10_mark_r2, w ∈ lw_tbl := (List.forall_mem_cons.mpr ⟨pw_6, (List.forall_mem_cons.mpr ⟨pw_5, (List.forall_mem_cons.mpr ⟨pw_4, (List.forall_mem_cons.mpr ⟨pw_3, (List.forall_mem_cons.mpr ⟨pw_2, (List.forall_mem_cons.mpr ⟨pw_1, (List.forall_mem_cons.mpr ⟨pw_0, (List.forall_mem_cons.mpr ⟨pw_47, (List.forall_mem_cons.mpr ⟨pw_46, (List.forall_mem_cons.mpr ⟨pw_45, (List.forall_mem_cons.mpr ⟨pw_44, (List.forall_mem_cons.mpr ⟨pw_43, (List.forall_mem_cons.mpr ⟨pw_42, (List.forall_mem_cons.mpr ⟨pw_41, (List.forall_mem_cons.mpr ⟨pw_40, (List.forall_mem_cons.mpr ⟨pw_39, (List.forall_mem_cons.mpr ⟨pw_38, (List.forall_mem_cons.mpr ⟨pw_37, (List.forall_mem_cons.mpr ⟨pw_36, (List.forall_mem_cons.mpr ⟨pw_35, (List.forall_mem_cons.mpr ⟨pw_34, (List.forall_mem_cons.mpr ⟨pw_33, (List.forall_mem_cons.mpr ⟨pw_32, (List.forall_mem_cons.mpr ⟨pw_31, (fun _ h => absurd h List.not_mem_nil)⟩)⟩)⟩)⟩)⟩)⟩)⟩)⟩)⟩)⟩)⟩)⟩)⟩)⟩)⟩)⟩)⟩)⟩)⟩)⟩)⟩)⟩)⟩)⟩)
theorem ch_wsX10_mark_r3 : ∀ w ∈ wsX10_mark_r3, w ∈ lw_tbl := (List.forall_mem_cons.mpr ⟨pw_30, (List.forall_mem_cons.mpr ⟨pw_29, (List.forall_mem_cons.mpr ⟨pw_28, (List.forall_mem_cons.mpr ⟨pw_27, (List.forall_mem_cons.mpr ⟨pw_26, (List.forall_mem_cons.mpr ⟨pw_25, (List.forall_mem_cons.mpr ⟨pw_24, (List.forall_mem_cons.mpr ⟨pw_71, (List.forall_mem_cons.mpr ⟨pw_70, (List.forall_mem_cons.mpr ⟨pw_69, (List.forall_mem_cons.mpr ⟨pw_68, (List.forall_mem_cons.mpr ⟨pw_62, (List.forall_mem_cons.mpr ⟨pw_61, (List.forall_mem_cons.mpr ⟨pw_60, (List.forall_mem_cons.mpr ⟨pw_59, (List.forall_mem_cons.mpr ⟨pw_58, (List.forall_mem_cons.mpr ⟨pw_57, (List.forall_mem_cons.mpr ⟨pw_56, (List.forall_mem_cons.mpr ⟨pw_55, (List.forall_mem_cons.mpr ⟨pw_54, (List.forall_mem_cons.mpr ⟨pw_53, (List.forall_mem_cons.mpr ⟨pw_52, (List.forall_mem_cons.mpr ⟨pw_51, (List.forall_mem_cons.mpr ⟨pw_50, (fun _ h => absurd h List.not_mem_nil)⟩)⟩)⟩)⟩)⟩)⟩)⟩)⟩)⟩)⟩)⟩)⟩)⟩)⟩)⟩)⟩)⟩)⟩)⟩)⟩)⟩)⟩)⟩)⟩)
theorem ch_wsX10_mark_r4 : ∀ w ∈ wsX10_mark_r4, w ∈ lw_tbl := (List.forall_mem_cons.mpr ⟨pw_94, (List.forall_mem_cons.mpr ⟨pw_93, (List.forall_mem_cons.mpr ⟨pw_92, (List.forall_mem_cons.mpr ⟨pw_91, (List.forall_mem_cons.mpr ⟨pw_90, (List.forall_mem_cons.mpr ⟨pw_89, (List.forall_mem_cons.mpr ⟨pw_88, (List.forall_mem_cons.mpr ⟨pw_87, (List.forall_mem_cons.mpr ⟨pw_86, (List.forall_mem_cons.mpr ⟨pw_85, (List.forall_mem_cons.mpr ⟨pw_84, (List.forall_mem_cons.mpr ⟨pw_83, (List.forall_mem_cons.mpr ⟨pw_82, (List.forall_mem_cons.mpr ⟨pw_81, (List.forall_mem_cons.mpr ⟨pw_80, (List.forall_mem_cons.mpr ⟨pw_79, (List.forall_mem_cons.mpr ⟨pw_78, (List.forall_mem_cons.mpr ⟨pw_77, (List.forall_mem_cons.mpr ⟨pw_76, (List.forall_mem_cons.mpr ⟨pw_75, (List.forall_mem_cons.mpr ⟨pw_74, (List.forall_mem_cons.mpr ⟨pw_73, (List.forall_mem_cons.mpr ⟨pw_72, (List.forall_mem_cons.mpr ⟨pw_119, (fun _ h => absurd h List.not_mem_nil)⟩)⟩)⟩)⟩)⟩)⟩)⟩)⟩)⟩)⟩)⟩)⟩)⟩)⟩)⟩)⟩)⟩)⟩)⟩)⟩)⟩)⟩)⟩)⟩)
theorem ch_wsX10_mark_r5 : ∀ w ∈ wsX10_mark_r5, w ∈ lw_tbl := (List.forall_mem_cons.mpr ⟨pw_118, (List.forall_mem_cons.mpr ⟨pw_117, (List.forall_mem_cons.mpr ⟨pw_116, (List.forall_mem_cons.mpr ⟨pw_115, (List.forall_mem_cons.mpr ⟨pw_114, (List.forall_mem_cons.mpr ⟨pw_113, (List.forall_mem_cons.mpr ⟨pw_112, (List.forall_mem_cons.mpr ⟨pw_111, (List.forall_mem_cons.mpr ⟨pw_110, (List.forall_mem_cons.mpr ⟨pw_109, (List.forall_mem_cons.mpr ⟨pw_108, (List.forall_mem_cons.mpr ⟨pw_107, (List.forall_mem_cons.mpr ⟨pw_106, (List.forall_mem_cons.mpr ⟨pw_105, (List.forall_mem_cons.mpr ⟨pw_104, (List.forall_mem_cons.mpr ⟨pw_103, (List.forall_mem_cons.mpr ⟨pw_102, (List.forall_mem_cons.mpr ⟨pw_101, (List.forall_mem_cons.mpr ⟨pw_100, (List.forall_mem_cons.mpr ⟨pw_99, (List.forall_mem_cons.mpr ⟨pw_98, (List.forall_mem_cons.mpr ⟨pw_97, (List.forall_mem_cons.mpr ⟨pw_96, (List.forall_mem_cons.mpr ⟨pw_143, (fun _ h => absurd h List.not_mem_nil)⟩)⟩)⟩)⟩)⟩)⟩)⟩)⟩)⟩)⟩)⟩)⟩)⟩)⟩)⟩)⟩)⟩)⟩)⟩)⟩)⟩)⟩)⟩)⟩)
theorem ch_wsX10_mark_r6 : ∀ w ∈ wsX10_mark_r6, w ∈ lw_tbl := (List.forall_mem_cons.mpr ⟨pw_142, (List.forall_mem_cons.mpr ⟨pw_141, (List.forall_mem_cons.mpr ⟨pw_140, (List.forall_mem_cons.mpr ⟨pw_139, (List.forall_mem_cons.mpr ⟨pw_138, (List.forall_mem_cons.mpr ⟨pw_137, (List.forall_mem_cons.mpr ⟨pw_136, (List.forall_mem_cons.mpr ⟨pw_135, (List.forall_mem_cons.mpr ⟨pw_134, (List.forall_mem_cons.mpr ⟨pw_133, (List.forall_mem_cons.mpr ⟨pw_132, (List.forall_mem_cons.mpr ⟨pw_131, (List.forall_mem_cons.mpr ⟨pw_130, (List.forall_mem_cons.mpr ⟨pw_129, (List.forall_mem_cons.mpr ⟨pw_128, (List.forall_mem_cons.mpr ⟨pw_127, (List.forall_mem_cons.mpr ⟨pw_126, (List.forall_mem_cons.mpr ⟨pw_125, (List.forall_mem_cons.mpr ⟨pw_124, (List.forall_mem_cons.mpr ⟨pw_123, (List.forall_mem_cons.mpr ⟨pw_122, (List.forall_mem_cons.mpr ⟨pw_121, (List.forall_mem_cons.mpr ⟨pw_120, (List.forall_mem_cons.mpr ⟨pw_150, (fun _ h => absurd h List.not_mem_nil)⟩)⟩)⟩)⟩)⟩)⟩)⟩)⟩)⟩)⟩)⟩)⟩)⟩)⟩)⟩)⟩)⟩)⟩)⟩)⟩)⟩)⟩)⟩)⟩)
theorem ch_wsX10_mark_r7 : ∀ w ∈ wsX10_mark_r7, w ∈ lw_tbl := (List.forall_mem_cons.mpr ⟨pw_149, (List.forall_mem_cons.mpr ⟨pw_148, (List.forall_mem_cons.mpr ⟨pw_147, (List.forall_mem_cons.mpr ⟨pw_146, (List.forall_mem_cons.mpr ⟨pw_145, (fun _ h => absurd h List.not_mem_nil)⟩)⟩)⟩)⟩)⟩)
set_option maxRecDepth 100000 in
theorem pw_301 : (.code yX10_mark cX10_mark 5 (some .int) : Cond) ∈ lw_tbl := List.mem_of_getElem? (i := 822) rfl
set_option maxRecDepth 20000 in
theorem lm_wsX10_mark : ∀ w ∈ wsX10_mark, w ∈ lw_tbl := List.forall_mem_cons.mpr ⟨pw_301, (wL_app (wL_app (wL_app (wL_app (wL_app (wL_app ch_wsX10_mark_r1 (wL_app ch_wsX10_mark_r2 (wL_app ch_wsX10_mark_r3 (wL_app ch_wsX10_mark_r4 (wL_app ch_wsX10_mark_r5 (wL_app ch_wsX10_mark_r6 ch_wsX10_mark_r7)))))) wL_wsX100) wL_wsX10) wL_wsX70) wL_wsX30) wL_wsX00)⟩
theorem pw_302 : (.selects RX10 yX10_mark yX10_mark : Cond) ∈ lw_tbl := List.mem_of_getElem? (i := 821) (by decide +kernel)
theorem pw_303 : (.instanceMethod yX10_mark : Cond) ∈ lw_tbl := List.mem_of_getElem? (i := 820) (by decide +kernel)
theorem pw_304 : (.methodLink RL 37 yX10_mark : Cond) ∈ lw_tbl := List.mem_of_getElem? (i := 819) (by decide +kernel)
set_option maxRecDepth 20000 in
theorem gW_X10_mark : GoodIn lw_tbl (wsV RL 37 RX10 yX10_mark wsX10_mark) := goodIn_sub (wL_app (List.forall_mem_cons.mpr ⟨pw_304, (List.forall_mem_cons.mpr ⟨pw_303, (List.forall_mem_cons.mpr ⟨pw_302, (List.forall_mem_cons.mpr ⟨pw_14, (fun _ h => absurd h List.not_mem_nil)⟩)⟩)⟩)⟩) lm_wsX10_mark) (by decide +kernel)
theorem pw_305 : (.methodLink RX2 33 yX1_settle : Cond) ∈ lw_tbl := List.mem_of_getElem? (i := 1041) (by decide +kernel)
theorem pw_306 : (.methodLink RX2 73 Lib.Math.min.name : Cond) ∈ lw_tbl := List.mem_of_getElem? (i := 1072) (by decide +kernel)
theorem pw_307 : (.fieldLink RX2 58 "NothingJudge$Mender" "found" "I" : Cond) ∈ lw_tbl := List.mem_of_getElem? (i := 459) (by decide +kernel)
theorem pw_308 : (.fieldLink RX2 49 "NothingJudge$Mender" "guards" "I" : Cond) ∈ lw_tbl := List.mem_of_getElem? (i := 463) (by decide +kernel)
theorem pw_309 : (.fieldLink RX2 42 "NothingJudge$Mender" "best" "I" : Cond) ∈ lw_tbl := List.mem_of_getElem? (i := 460) (by decide +kernel)
set_option maxRecDepth 100000 in
theorem pw_310 : (.code yX2_search cX2_search 3 none : Cond) ∈ lw_tbl := List.mem_of_getElem? (i := 1040) rfl
theorem pw_311 : (.selects RX2 yX2_search yX2_search : Cond) ∈ lw_tbl := List.mem_of_getElem? (i := 1039) (by decide +kernel)
theorem pw_312 : (.instanceMethod yX2_search : Cond) ∈ lw_tbl := List.mem_of_getElem? (i := 1038) (by decide +kernel)
theorem pw_313 : (.methodLink RX10 225 yX2_search : Cond) ∈ lw_tbl := List.mem_of_getElem? (i := 1037) (by decide +kernel)
theorem pw_314 : (.fieldLink RX10 228 "NothingJudge$Mender" "cost" "I" : Cond) ∈ lw_tbl := List.mem_of_getElem? (i := 462) (by decide +kernel)
theorem ch_wsX10_mend_r1 : ∀ w ∈ wsX10_mend_r1, w ∈ lw_tbl := (List.forall_mem_cons.mpr ⟨pw_23, (List.forall_mem_cons.mpr ⟨pw_22, (List.forall_mem_cons.mpr ⟨pw_21, (List.forall_mem_cons.mpr ⟨pw_167, (List.forall_mem_cons.mpr ⟨pw_314, (List.forall_mem_cons.mpr ⟨pw_313, (List.forall_mem_cons.mpr ⟨pw_312, (List.forall_mem_cons.mpr ⟨pw_311, (List.forall_mem_cons.mpr ⟨pw_220, (List.forall_mem_cons.mpr ⟨pw_310, (List.forall_mem_cons.mpr ⟨pw_287, (List.forall_mem_cons.mpr ⟨pw_285, (List.forall_mem_cons.mpr ⟨pw_309, (List.forall_mem_cons.mpr ⟨pw_308, (List.forall_mem_cons.mpr ⟨pw_290, (List.forall_mem_cons.mpr ⟨pw_286, (List.forall_mem_cons.mpr ⟨pw_307, (List.forall_mem_cons.mpr ⟨pw_306, (List.forall_mem_cons.mpr ⟨pw_53, (List.forall_mem_cons.mpr ⟨pw_52, (List.forall_mem_cons.mpr ⟨pw_51, (List.forall_mem_cons.mpr ⟨pw_305, (List.forall_mem_cons.mpr ⟨pw_9, (List.forall_mem_cons.mpr ⟨pw_8, (fun _ h => absurd h List.not_mem_nil)⟩)⟩)⟩)⟩)⟩)⟩)⟩)⟩)⟩)⟩)⟩)⟩)⟩)⟩)⟩)⟩)⟩)⟩)⟩)⟩)⟩)⟩)⟩)⟩)
theorem ch_wsX10_mend_r2 : ∀ w ∈ wsX10_mend_r2, w ∈ lw_tbl := (List.forall_mem_cons.mpr ⟨pw_7, (List.forall_mem_cons.mpr ⟨pw_6, (List.forall_mem_cons.mpr ⟨pw_5, (List.forall_mem_cons.mpr ⟨pw_4, (List.forall_mem_cons.mpr ⟨pw_3, (List.forall_mem_cons.mpr ⟨pw_2, (List.forall_mem_cons.mpr ⟨pw_1, (List.forall_mem_cons.mpr ⟨pw_0, (List.forall_mem_cons.mpr ⟨pw_47, (List.forall_mem_cons.mpr ⟨pw_46, (List.forall_mem_cons.mpr ⟨pw_45, (List.forall_mem_cons.mpr ⟨pw_44, (List.forall_mem_cons.mpr ⟨pw_43, (List.forall_mem_cons.mpr ⟨pw_42, (List.forall_mem_cons.mpr ⟨pw_41, (List.forall_mem_cons.mpr ⟨pw_40, (List.forall_mem_cons.mpr ⟨pw_39, (List.forall_mem_cons.mpr ⟨pw_38, (List.forall_mem_cons.mpr ⟨pw_37, (List.forall_mem_cons.mpr ⟨pw_36, (List.forall_mem_cons.mpr ⟨pw_35, (List.forall_mem_cons.mpr ⟨pw_34, (List.forall_mem_cons.mpr ⟨pw_33, (List.forall_mem_cons.mpr ⟨pw_32, (fun _ h => absurd h List.not_mem_nil)⟩)⟩)⟩)⟩)⟩)⟩)⟩)⟩)⟩)⟩)⟩)⟩)⟩)⟩)⟩)⟩)⟩)⟩)⟩)⟩)⟩)⟩)⟩)⟩)
theorem ch_wsX10_mend_r3 : ∀ w ∈ wsX10_mend_r3, w ∈ lw_tbl := (List.forall_mem_cons.mpr ⟨pw_31, (List.forall_mem_cons.mpr ⟨pw_30, (List.forall_mem_cons.mpr ⟨pw_29, (List.forall_mem_cons.mpr ⟨pw_28, (List.forall_mem_cons.mpr ⟨pw_27, (List.forall_mem_cons.mpr ⟨pw_26, (List.forall_mem_cons.mpr ⟨pw_25, (List.forall_mem_cons.mpr ⟨pw_24, (List.forall_mem_cons.mpr ⟨pw_71, (List.forall_mem_cons.mpr ⟨pw_70, (List.forall_mem_cons.mpr ⟨pw_69, (List.forall_mem_cons.mpr ⟨pw_68, (List.forall_mem_cons.mpr ⟨pw_67, (List.forall_mem_cons.mpr ⟨pw_66, (List.forall_mem_cons.mpr ⟨pw_65, (List.forall_mem_cons.mpr ⟨pw_64, (List.forall_mem_cons.mpr ⟨pw_63, (List.forall_mem_cons.mpr ⟨pw_62, (List.forall_mem_cons.mpr ⟨pw_61, (List.forall_mem_cons.mpr ⟨pw_60, (List.forall_mem_cons.mpr ⟨pw_59, (List.forall_mem_cons.mpr ⟨pw_58, (List.forall_mem_cons.mpr ⟨pw_57, (List.forall_mem_cons.mpr ⟨pw_56, (fun _ h => absurd h List.not_mem_nil)⟩)⟩)⟩)⟩)⟩)⟩)⟩)⟩)⟩)⟩)⟩)⟩)⟩)⟩)⟩)⟩)⟩)⟩)⟩)⟩)⟩)⟩)⟩)⟩)
theorem ch_wsX10_mend_r4 : ∀ w ∈ wsX10_mend_r4, w ∈ lw_tbl := (List.forall_mem_cons.mpr ⟨pw_55, (List.forall_mem_cons.mpr ⟨pw_54, (List.forall_mem_cons.mpr ⟨pw_50, (List.forall_mem_cons.mpr ⟨pw_49, (List.forall_mem_cons.mpr ⟨pw_48, (List.forall_mem_cons.mpr ⟨pw_95, (List.forall_mem_cons.mpr ⟨pw_94, (List.forall_mem_cons.mpr ⟨pw_93, (List.forall_mem_cons.mpr ⟨pw_92, (List.forall_mem_cons.mpr ⟨pw_91, (List.forall_mem_cons.mpr ⟨pw_90, (List.forall_mem_cons.mpr ⟨pw_89, (List.forall_mem_cons.mpr ⟨pw_88, (List.forall_mem_cons.mpr ⟨pw_87, (List.forall_mem_cons.mpr ⟨pw_86, (List.forall_mem_cons.mpr ⟨pw_85, (List.forall_mem_cons.mpr ⟨pw_84, (List.forall_mem_cons.mpr ⟨pw_83, (List.forall_mem_cons.mpr ⟨pw_82, (List.forall_mem_cons.mpr ⟨pw_81, (List.forall_mem_cons.mpr ⟨pw_80, (List.forall_mem_cons.mpr ⟨pw_79, (List.forall_mem_cons.mpr ⟨pw_78, (List.forall_mem_cons.mpr ⟨pw_77, (fun _ h => absurd h List.not_mem_nil)⟩)⟩)⟩)⟩)⟩)⟩)⟩)⟩)⟩)⟩)⟩)⟩)⟩)⟩)⟩)⟩)⟩)⟩)⟩)⟩)⟩)⟩)⟩)⟩)
theorem ch_wsX10_mend_r5 : ∀ w ∈ wsX10_mend_r5, w ∈ lw_tbl := (List.forall_mem_cons.mpr ⟨pw_76, (List.forall_mem_cons.mpr ⟨pw_75, (List.forall_mem_cons.mpr ⟨pw_74, (List.forall_mem_cons.mpr ⟨pw_73, (List.forall_mem_cons.mpr ⟨pw_72, (List.forall_mem_cons.mpr ⟨pw_119, (List.forall_mem_cons.mpr ⟨pw_118, (List.forall_mem_cons.mpr ⟨pw_117, (List.forall_mem_cons.mpr ⟨pw_116, (List.forall_mem_cons.mpr ⟨pw_115, (List.forall_mem_cons.mpr ⟨pw_114, (List.forall_mem_cons.mpr ⟨pw_113, (List.forall_mem_cons.mpr ⟨pw_112, (List.forall_mem_cons.mpr ⟨pw_111, (List.forall_mem_cons.mpr ⟨pw_110, (List.forall_mem_cons.mpr ⟨pw_109, (List.forall_mem_cons.mpr ⟨pw_108, (List.forall_mem_cons.mpr ⟨pw_107, (List.forall_mem_cons.mpr ⟨pw_106, (List.forall_mem_cons.mpr ⟨pw_105, (List.forall_mem_cons.mpr ⟨pw_104, (List.forall_mem_cons.mpr ⟨pw_103, (List.forall_mem_cons.mpr ⟨pw_102, (List.forall_mem_cons.mpr ⟨pw_101, (fun _ h => absurd h List.not_mem_nil)⟩)⟩)⟩)⟩)⟩)⟩)⟩)⟩)⟩)⟩)⟩)⟩)⟩)⟩)⟩)⟩)⟩)⟩)⟩)⟩)⟩)⟩)⟩)⟩)
theorem ch_wsX10_mend_r6 : ∀ w ∈ wsX10_mend_r6, w ∈ lw_tbl := (List.forall_mem_cons.mpr ⟨pw_100, (List.forall_mem_cons.mpr ⟨pw_99, (List.forall_mem_cons.mpr ⟨pw_98, (List.forall_mem_cons.mpr ⟨pw_97, (List.forall_mem_cons.mpr ⟨pw_96, (List.forall_mem_cons.mpr ⟨pw_143, (List.forall_mem_cons.mpr ⟨pw_142, (List.forall_mem_cons.mpr ⟨pw_141, (List.forall_mem_cons.mpr ⟨pw_140, (List.forall_mem_cons.mpr ⟨pw_139, (List.forall_mem_cons.mpr ⟨pw_138, (List.forall_mem_cons.mpr ⟨pw_137, (List.forall_mem_cons.mpr ⟨pw_136, (List.forall_mem_cons.mpr ⟨pw_135, (List.forall_mem_cons.mpr ⟨pw_134, (List.forall_mem_cons.mpr ⟨pw_133, (List.forall_mem_cons.mpr ⟨pw_132, (List.forall_mem_cons.mpr ⟨pw_131, (List.forall_mem_cons.mpr ⟨pw_130, (List.forall_mem_cons.mpr ⟨pw_129, (List.forall_mem_cons.mpr ⟨pw_128, (List.forall_mem_cons.mpr ⟨pw_127, (List.forall_mem_cons.mpr ⟨pw_126, (List.forall_mem_cons.mpr ⟨pw_125, (fun _ h => absurd h List.not_mem_nil)⟩)⟩)⟩)⟩)⟩)⟩)⟩)⟩)⟩)⟩)⟩)⟩)⟩)⟩)⟩)⟩)⟩)⟩)⟩)⟩)⟩)⟩)⟩)⟩)
theorem pw_315 : (.selects RX1 yX1_guardsNeeded yX1_guardsNeeded : Cond) ∈ lw_tbl := List.mem_of_getElem? (i := 1010) (by decide +kernel)
theorem pw_316 : (.instanceMethod yX1_guardsNeeded : Cond) ∈ lw_tbl := List.mem_of_getElem? (i := 1009) (by decide +kernel)
theorem pw_317 : (.methodLink RX2 45 yX1_guardsNeeded : Cond) ∈ lw_tbl := List.mem_of_getElem? (i := 1048) (by decide +kernel)
theorem pw_318 : (.methodLink RX2 101 yX5_put : Cond) ∈ lw_tbl := List.mem_of_getElem? (i := 1047) (by decide +kernel)
theorem pw_319 : (.methodLink RX2 52 yX5_at : Cond) ∈ lw_tbl := List.mem_of_getElem? (i := 1046) (by decide +kernel)
theorem pw_320 : (.fieldLink RX2 98 "NothingJudge$Facts" "marks" "[I" : Cond) ∈ lw_tbl := List.mem_of_getElem? (i := 312) (by decide +kernel)
theorem pw_321 : (.fieldLink RX2 93 "NothingJudge$Scene" "start" "I" : Cond) ∈ lw_tbl := List.mem_of_getElem? (i := 289) (by decide +kernel)
theorem pw_322 : (.fieldLink RX2 89 "NothingJudge$Facts" "scene" "LNothingJudge$Scene;" : Cond) ∈ lw_tbl := List.mem_of_getElem? (i := 308) (by decide +kernel)
set_option maxRecDepth 100000 in
theorem pw_323 : (.code yX2_findCandidates cX2_findCandidates 3 none : Cond) ∈ lw_tbl := List.mem_of_getElem? (i := 1045) rfl
theorem pw_324 : (.selects RX2 yX2_findCandidates yX2_findCandidates : Cond) ∈ lw_tbl := List.mem_of_getElem? (i := 53) (by decide +kernel)
theorem pw_325 : (.instanceMethod yX2_findCandidates : Cond) ∈ lw_tbl := List.mem_of_getElem? (i := 1044) (by decide +kernel)
theorem pw_326 : (.methodLink RX2 39 yX2_findCandidates : Cond) ∈ lw_tbl := List.mem_of_getElem? (i := 1042) (by decide +kernel)
theorem ch_wsX10_mend_r7 : ∀ w ∈ wsX10_mend_r7, w ∈ lw_tbl := (List.forall_mem_cons.mpr ⟨pw_124, (List.forall_mem_cons.mpr ⟨pw_123, (List.forall_mem_cons.mpr ⟨pw_122, (List.forall_mem_cons.mpr ⟨pw_121, (List.forall_mem_cons.mpr ⟨pw_120, (List.forall_mem_cons.mpr ⟨pw_150, (List.forall_mem_cons.mpr ⟨pw_149, (List.forall_mem_cons.mpr ⟨pw_148, (List.forall_mem_cons.mpr ⟨pw_147, (List.forall_mem_cons.mpr ⟨pw_146, (List.forall_mem_cons.mpr ⟨pw_145, (List.forall_mem_cons.mpr ⟨pw_326, (List.forall_mem_cons.mpr ⟨pw_325, (List.forall_mem_cons.mpr ⟨pw_324, (List.forall_mem_cons.mpr ⟨pw_323, (List.forall_mem_cons.mpr ⟨pw_322, (List.forall_mem_cons.mpr ⟨pw_321, (List.forall_mem_cons.mpr ⟨pw_320, (List.forall_mem_cons.mpr ⟨pw_289, (List.forall_mem_cons.mpr ⟨pw_319, (List.forall_mem_cons.mpr ⟨pw_318, (List.forall_mem_cons.mpr ⟨pw_317, (List.forall_mem_cons.mpr ⟨pw_316, (List.forall_mem_cons.mpr ⟨pw_315, (fun _ h => absurd h List.not_mem_nil)⟩)⟩)⟩)⟩)⟩)⟩)⟩)⟩)⟩)⟩)⟩)⟩)⟩)⟩)⟩)⟩)⟩)⟩)⟩)⟩)⟩)⟩)⟩)⟩)
theorem pw_327 : (.selects RX2 yX2_isTooDear yX2_isTooDear : Cond) ∈ lw_tbl := List.mem_of_getElem? (i := 58) (by decide +kernel)
theorem pw_328 : (.instanceMethod yX2_isTooDear : Cond) ∈ lw_tbl := List.mem_of_getElem? (i := 1070) (by decide +kernel)
theorem pw_329 : (.methodLink RX2 85 yX2_isTooDear : Cond) ∈ lw_tbl := List.mem_of_getElem? (i := 1068) (by decide +kernel)
set_option maxRecDepth 100000 in
theorem pw_330 : (.code yX2_nextBelow cX2_nextBelow 6 (some .int) : Cond) ∈ lw_tbl := List.mem_of_getElem? (i := 1067) rfl
theorem pw_331 : (.selects RX2 yX2_nextBelow yX2_nextBelow : Cond) ∈ lw_tbl := List.mem_of_getElem? (i := 57) (by decide +kernel)
theorem pw_332 : (.instanceMethod yX2_nextBelow : Cond) ∈ lw_tbl := List.mem_of_getElem? (i := 1066) (by decide +kernel)
theorem pw_333 : (.methodLink RX2 69 yX2_nextBelow : Cond) ∈ lw_tbl := List.mem_of_getElem? (i := 1064) (by decide +kernel)
set_option maxRecDepth 100000 in
theorem pw_334 : (.code yX2_priceKind cX2_priceKind 1 (some .int) : Cond) ∈ lw_tbl := List.mem_of_getElem? (i := 1063) rfl
theorem pw_335 : (.static yX2_priceKind : Cond) ∈ lw_tbl := List.mem_of_getElem? (i := 1062) (by decide +kernel)
theorem pw_336 : (.methodLink RX2 105 yX2_priceKind : Cond) ∈ lw_tbl := List.mem_of_getElem? (i := 1061) (by decide +kernel)
set_option maxRecDepth 100000 in
theorem pw_337 : (.code yX2_priceOf cX2_priceOf 4 (some .int) : Cond) ∈ lw_tbl := List.mem_of_getElem? (i := 1060) rfl
theorem pw_338 : (.selects RX2 yX2_priceOf yX2_priceOf : Cond) ∈ lw_tbl := List.mem_of_getElem? (i := 56) (by decide +kernel)
theorem pw_339 : (.instanceMethod yX2_priceOf : Cond) ∈ lw_tbl := List.mem_of_getElem? (i := 1059) (by decide +kernel)
theorem pw_340 : (.methodLink RX2 81 yX2_priceOf : Cond) ∈ lw_tbl := List.mem_of_getElem? (i := 1057) (by decide +kernel)
set_option maxRecDepth 100000 in
theorem pw_341 : (.code yX2_consider cX2_consider 4 none : Cond) ∈ lw_tbl := List.mem_of_getElem? (i := 1056) rfl
theorem pw_342 : (.selects RX2 yX2_consider yX2_consider : Cond) ∈ lw_tbl := List.mem_of_getElem? (i := 55) (by decide +kernel)
theorem pw_343 : (.instanceMethod yX2_consider : Cond) ∈ lw_tbl := List.mem_of_getElem? (i := 1055) (by decide +kernel)
theorem pw_344 : (.methodLink RX2 65 yX2_consider : Cond) ∈ lw_tbl := List.mem_of_getElem? (i := 1053) (by decide +kernel)
set_option maxRecDepth 100000 in
theorem pw_345 : (.code yX2_marksOf cX2_marksOf 5 (some .long) : Cond) ∈ lw_tbl := List.mem_of_getElem? (i := 1052) rfl
theorem pw_346 : (.selects RX2 yX2_marksOf yX2_marksOf : Cond) ∈ lw_tbl := List.mem_of_getElem? (i := 54) (by decide +kernel)
theorem pw_347 : (.instanceMethod yX2_marksOf : Cond) ∈ lw_tbl := List.mem_of_getElem? (i := 1051) (by decide +kernel)
theorem pw_348 : (.methodLink RX2 61 yX2_marksOf : Cond) ∈ lw_tbl := List.mem_of_getElem? (i := 1049) (by decide +kernel)
theorem pw_349 : (.fieldLink RX1 89 "NothingJudge$Program" "uses" "I" : Cond) ∈ lw_tbl := List.mem_of_getElem? (i := 200) (by decide +kernel)
set_option maxRecDepth 100000 in
theorem pw_350 : (.code yX1_guardsNeeded cX1_guardsNeeded 3 (some .int) : Cond) ∈ lw_tbl := List.mem_of_getElem? (i := 1011) rfl
theorem ch_wsX10_mend_r8 : ∀ w ∈ wsX10_mend_r8, w ∈ lw_tbl := (List.forall_mem_cons.mpr ⟨pw_350, (List.forall_mem_cons.mpr ⟨pw_349, (List.forall_mem_cons.mpr ⟨pw_348, (List.forall_mem_cons.mpr ⟨pw_347, (List.forall_mem_cons.mpr ⟨pw_346, (List.forall_mem_cons.mpr ⟨pw_345, (List.forall_mem_cons.mpr ⟨pw_344, (List.forall_mem_cons.mpr ⟨pw_343, (List.forall_mem_cons.mpr ⟨pw_342, (List.forall_mem_cons.mpr ⟨pw_341, (List.forall_mem_cons.mpr ⟨pw_340, (List.forall_mem_cons.mpr ⟨pw_339, (List.forall_mem_cons.mpr ⟨pw_338, (List.forall_mem_cons.mpr ⟨pw_337, (List.forall_mem_cons.mpr ⟨pw_336, (List.forall_mem_cons.mpr ⟨pw_335, (List.forall_mem_cons.mpr ⟨pw_334, (List.forall_mem_cons.mpr ⟨pw_333, (List.forall_mem_cons.mpr ⟨pw_332, (List.forall_mem_cons.mpr ⟨pw_331, (List.forall_mem_cons.mpr ⟨pw_330, (List.forall_mem_cons.mpr ⟨pw_329, (List.forall_mem_cons.mpr ⟨pw_328, (List.forall_mem_cons.mpr ⟨pw_327, (fun _ h => absurd h List.not_mem_nil)⟩)⟩)⟩)⟩)⟩)⟩)⟩)⟩)⟩)⟩)⟩)⟩)⟩)⟩)⟩)⟩)⟩)⟩)⟩)⟩)⟩)⟩)⟩)⟩)
set_option maxRecDepth 100000 in
theorem pw_351 : (.code yX2_nameOfMark cX2_nameOfMark 1 (some .int) : Cond) ∈ lw_tbl := List.mem_of_getElem? (i := 1079) rfl
theorem pw_352 : (.static yX2_nameOfMark : Cond) ∈ lw_tbl := List.mem_of_getElem? (i := 1078) (by decide +kernel)
theorem pw_353 : (.methodLink RX2 111 yX2_nameOfMark : Cond) ∈ lw_tbl := List.mem_of_getElem? (i := 1077) (by decide +kernel)
theorem pw_354 : (.fieldLink RX2 108 "NothingJudge$Mender" "heldMarks" "I" : Cond) ∈ lw_tbl := List.mem_of_getElem? (i := 465) (by decide +kernel)
set_option maxRecDepth 100000 in
theorem pw_355 : (.code yX2_nameHeld cX2_nameHeld 2 none : Cond) ∈ lw_tbl := List.mem_of_getElem? (i := 1076) rfl
theorem pw_356 : (.selects RX2 yX2_nameHeld yX2_nameHeld : Cond) ∈ lw_tbl := List.mem_of_getElem? (i := 59) (by decide +kernel)
theorem pw_357 : (.instanceMethod yX2_nameHeld : Cond) ∈ lw_tbl := List.mem_of_getElem? (i := 1075) (by decide +kernel)
theorem pw_358 : (.methodLink RX2 78 yX2_nameHeld : Cond) ∈ lw_tbl := List.mem_of_getElem? (i := 1073) (by decide +kernel)
set_option maxRecDepth 100000 in
theorem pw_359 : (.code yX2_isTooDear cX2_isTooDear 4 (some .boolean) : Cond) ∈ lw_tbl := List.mem_of_getElem? (i := 1071) rfl
theorem ch_wsX10_mend_r9 : ∀ w ∈ wsX10_mend_r9, w ∈ lw_tbl := (List.forall_mem_cons.mpr ⟨pw_359, (List.forall_mem_cons.mpr ⟨pw_358, (List.forall_mem_cons.mpr ⟨pw_357, (List.forall_mem_cons.mpr ⟨pw_356, (List.forall_mem_cons.mpr ⟨pw_355, (List.forall_mem_cons.mpr ⟨pw_354, (List.forall_mem_cons.mpr ⟨pw_288, (List.forall_mem_cons.mpr ⟨pw_353, (List.forall_mem_cons.mpr ⟨pw_352, (List.forall_mem_cons.mpr ⟨pw_351, (fun _ h => absurd h List.not_mem_nil)⟩)⟩)⟩)⟩)⟩)⟩)⟩)⟩)⟩)⟩)
set_option maxRecDepth 100000 in
theorem pw_360 : (.code yX10_mend cX10_mend 1 (some .int) : Cond) ∈ lw_tbl := List.mem_of_getElem? (i := 1036) rfl
set_option maxRecDepth 20000 in
theorem lm_wsX10_mend : ∀ w ∈ wsX10_mend, w ∈ lw_tbl := List.forall_mem_cons.mpr ⟨pw_360, (wL_app (wL_app (wL_app (wL_app (wL_app (wL_app (wL_app ch_wsX10_mend_r1 (wL_app ch_wsX10_mend_r2 (wL_app ch_wsX10_mend_r3 (wL_app ch_wsX10_mend_r4 (wL_app ch_wsX10_mend_r5 (wL_app ch_wsX10_mend_r6 (wL_app ch_wsX10_mend_r7 (wL_app ch_wsX10_mend_r8 ch_wsX10_mend_r9)))))))) wL_wsX100) wL_wsX70) wL_wsX30) wL_wsX20) wL_wsX10) wL_wsX00)⟩
theorem pw_361 : (.selects RX10 yX10_mend yX10_mend : Cond) ∈ lw_tbl := List.mem_of_getElem? (i := 1035) (by decide +kernel)
theorem pw_362 : (.instanceMethod yX10_mend : Cond) ∈ lw_tbl := List.mem_of_getElem? (i := 1034) (by decide +kernel)
theorem pw_363 : (.methodLink RL 67 yX10_mend : Cond) ∈ lw_tbl := List.mem_of_getElem? (i := 1033) (by decide +kernel)
set_option maxRecDepth 20000 in
theorem gW_X10_mend : GoodIn lw_tbl (wsV RL 67 RX10 yX10_mend wsX10_mend) := goodIn_sub (wL_app (List.forall_mem_cons.mpr ⟨pw_363, (List.forall_mem_cons.mpr ⟨pw_362, (List.forall_mem_cons.mpr ⟨pw_361, (List.forall_mem_cons.mpr ⟨pw_14, (fun _ h => absurd h List.not_mem_nil)⟩)⟩)⟩)⟩) lm_wsX10_mend) (by decide +kernel)
theorem pw_364 : (.fieldLink RX10 237 "NothingJudge$Mender" "heldNames" "[I" : Cond) ∈ lw_tbl := List.mem_of_getElem? (i := 456) (by decide +kernel)
theorem pw_365 : (.fieldLink RX10 234 "NothingJudge$Mender" "guards" "I" : Cond) ∈ lw_tbl := List.mem_of_getElem? (i := 464) (by decide +kernel)
theorem pw_366 : (.fieldLink RX10 231 "NothingJudge$Mender" "heldMarks" "I" : Cond) ∈ lw_tbl := List.mem_of_getElem? (i := 466) (by decide +kernel)
set_option maxRecDepth 100000 in
theorem pw_367 : (.code yX10_mended cX10_mended 2 (some .int) : Cond) ∈ lw_tbl := List.mem_of_getElem? (i := 1083) rfl
set_option maxRecDepth 20000 in
theorem lm_wsX10_mended : ∀ w ∈ wsX10_mended, w ∈ lw_tbl := List.forall_mem_cons.mpr ⟨pw_367, (wL_app (wL_app (List.forall_mem_cons.mpr ⟨pw_167, (List.forall_mem_cons.mpr ⟨pw_314, (List.forall_mem_cons.mpr ⟨pw_366, (List.forall_mem_cons.mpr ⟨pw_365, (List.forall_mem_cons.mpr ⟨pw_364, (List.forall_mem_cons.mpr ⟨pw_144, (List.forall_mem_cons.mpr ⟨pw_49, (List.forall_mem_cons.mpr ⟨pw_48, (List.forall_mem_cons.mpr ⟨pw_95, (fun _ h => absurd h List.not_mem_nil)⟩)⟩)⟩)⟩)⟩)⟩)⟩)⟩)⟩) wL_wsX100) wL_wsX20)⟩
theorem pw_368 : (.selects RX10 yX10_mended yX10_mended : Cond) ∈ lw_tbl := List.mem_of_getElem? (i := 1082) (by decide +kernel)
theorem pw_369 : (.instanceMethod yX10_mended : Cond) ∈ lw_tbl := List.mem_of_getElem? (i := 1081) (by decide +kernel)
theorem pw_370 : (.methodLink RL 72 yX10_mended : Cond) ∈ lw_tbl := List.mem_of_getElem? (i := 1080) (by decide +kernel)
set_option maxRecDepth 20000 in
theorem gW_X10_mended : GoodIn lw_tbl (wsV RL 72 RX10 yX10_mended wsX10_mended) := goodIn_sub (wL_app (List.forall_mem_cons.mpr ⟨pw_370, (List.forall_mem_cons.mpr ⟨pw_369, (List.forall_mem_cons.mpr ⟨pw_368, (List.forall_mem_cons.mpr ⟨pw_14, (fun _ h => absurd h List.not_mem_nil)⟩)⟩)⟩)⟩) lm_wsX10_mended) (by decide +kernel)
theorem pw_371 : (.methodLink RX10 129 yX7_outers : Cond) ∈ lw_tbl := List.mem_of_getElem? (i := 811) (by decide +kernel)
theorem pw_372 : (.fieldLink RX10 133 "NothingJudge$Scene" "told" "[I" : Cond) ∈ lw_tbl := List.mem_of_getElem? (i := 293) (by decide +kernel)
theorem ch_wsX10_outer_r1 : ∀ w ∈ wsX10_outer_r1, w ∈ lw_tbl := (List.forall_mem_cons.mpr ⟨pw_23, (List.forall_mem_cons.mpr ⟨pw_372, (List.forall_mem_cons.mpr ⟨pw_371, (List.forall_mem_cons.mpr ⟨pw_61, (List.forall_mem_cons.mpr ⟨pw_60, (List.forall_mem_cons.mpr ⟨pw_59, (List.forall_mem_cons.mpr ⟨pw_58, (List.forall_mem_cons.mpr ⟨pw_57, (List.forall_mem_cons.mpr ⟨pw_56, (List.forall_mem_cons.mpr ⟨pw_55, (List.forall_mem_cons.mpr ⟨pw_54, (List.forall_mem_cons.mpr ⟨pw_53, (List.forall_mem_cons.mpr ⟨pw_52, (List.forall_mem_cons.mpr ⟨pw_51, (List.forall_mem_cons.mpr ⟨pw_50, (List.forall_mem_cons.mpr ⟨pw_49, (List.forall_mem_cons.mpr ⟨pw_48, (List.forall_mem_cons.mpr ⟨pw_95, (List.forall_mem_cons.mpr ⟨pw_94, (List.forall_mem_cons.mpr ⟨pw_67, (List.forall_mem_cons.mpr ⟨pw_66, (List.forall_mem_cons.mpr ⟨pw_65, (List.forall_mem_cons.mpr ⟨pw_64, (List.forall_mem_cons.mpr ⟨pw_63, (fun _ h => absurd h List.not_mem_nil)⟩)⟩)⟩)⟩)⟩)⟩)⟩)⟩)⟩)⟩)⟩)⟩)⟩)⟩)⟩)⟩)⟩)⟩)⟩)⟩)⟩)⟩)⟩)⟩)
theorem pw_373 : (.methodLink RX10 136 yX5_put : Cond) ∈ lw_tbl := List.mem_of_getElem? (i := 818) (by decide +kernel)
theorem ch_wsX10_outer_r2 : ∀ w ∈ wsX10_outer_r2, w ∈ lw_tbl := (List.forall_mem_cons.mpr ⟨pw_373, (List.forall_mem_cons.mpr ⟨pw_87, (List.forall_mem_cons.mpr ⟨pw_86, (List.forall_mem_cons.mpr ⟨pw_158, (List.forall_mem_cons.mpr ⟨pw_157, (List.forall_mem_cons.mpr ⟨pw_156, (List.forall_mem_cons.mpr ⟨pw_14, (List.forall_mem_cons.mpr ⟨pw_155, (List.forall_mem_cons.mpr ⟨pw_12, (List.forall_mem_cons.mpr ⟨pw_170, (List.forall_mem_cons.mpr ⟨pw_169, (List.forall_mem_cons.mpr ⟨pw_168, (List.forall_mem_cons.mpr ⟨pw_167, (List.forall_mem_cons.mpr ⟨pw_166, (fun _ h => absurd h List.not_mem_nil)⟩)⟩)⟩)⟩)⟩)⟩)⟩)⟩)⟩)⟩)⟩)⟩)⟩)⟩)
set_option maxRecDepth 100000 in
theorem pw_374 : (.code yX10_outer cX10_outer 3 (some .boolean) : Cond) ∈ lw_tbl := List.mem_of_getElem? (i := 810) rfl
set_option maxRecDepth 20000 in
theorem lm_wsX10_outer : ∀ w ∈ wsX10_outer, w ∈ lw_tbl := List.forall_mem_cons.mpr ⟨pw_374, (wL_app (wL_app (wL_app (wL_app (wL_app (wL_app (wL_app ch_wsX10_outer_r1 ch_wsX10_outer_r2) wL_wsX100) wL_wsX70) wL_wsX30) wL_wsX10) wL_wsX90) wL_wsX20)⟩
theorem pw_375 : (.selects RX10 yX10_outer yX10_outer : Cond) ∈ lw_tbl := List.mem_of_getElem? (i := 809) (by decide +kernel)
theorem pw_376 : (.instanceMethod yX10_outer : Cond) ∈ lw_tbl := List.mem_of_getElem? (i := 808) (by decide +kernel)
theorem pw_377 : (.methodLink RL 32 yX10_outer : Cond) ∈ lw_tbl := List.mem_of_getElem? (i := 807) (by decide +kernel)
set_option maxRecDepth 20000 in
theorem gW_X10_outer : GoodIn lw_tbl (wsV RL 32 RX10 yX10_outer wsX10_outer) := goodIn_sub (wL_app (List.forall_mem_cons.mpr ⟨pw_377, (List.forall_mem_cons.mpr ⟨pw_376, (List.forall_mem_cons.mpr ⟨pw_375, (List.forall_mem_cons.mpr ⟨pw_14, (fun _ h => absurd h List.not_mem_nil)⟩)⟩)⟩)⟩) lm_wsX10_outer) (by decide +kernel)
theorem pw_378 : (.fieldLink RX10 218 "NothingJudge$Mender" "prices" "[I" : Cond) ∈ lw_tbl := List.mem_of_getElem? (i := 453) (by decide +kernel)
set_option maxRecDepth 100000 in
theorem pw_379 : (.code yX10_price cX10_price 3 (some .boolean) : Cond) ∈ lw_tbl := List.mem_of_getElem? (i := 1032) rfl
set_option maxRecDepth 20000 in
theorem lm_wsX10_price : ∀ w ∈ wsX10_price, w ∈ lw_tbl := List.forall_mem_cons.mpr ⟨pw_379, (wL_app (wL_app (List.forall_mem_cons.mpr ⟨pw_167, (List.forall_mem_cons.mpr ⟨pw_378, (List.forall_mem_cons.mpr ⟨pw_166, (List.forall_mem_cons.mpr ⟨pw_373, (List.forall_mem_cons.mpr ⟨pw_87, (List.forall_mem_cons.mpr ⟨pw_48, (List.forall_mem_cons.mpr ⟨pw_86, (fun _ h => absurd h List.not_mem_nil)⟩)⟩)⟩)⟩)⟩)⟩)⟩) wL_wsX100) wL_wsX20)⟩
theorem pw_380 : (.selects RX10 yX10_price yX10_price : Cond) ∈ lw_tbl := List.mem_of_getElem? (i := 1031) (by decide +kernel)
theorem pw_381 : (.instanceMethod yX10_price : Cond) ∈ lw_tbl := List.mem_of_getElem? (i := 1030) (by decide +kernel)
theorem pw_382 : (.methodLink RL 63 yX10_price : Cond) ∈ lw_tbl := List.mem_of_getElem? (i := 1029) (by decide +kernel)
set_option maxRecDepth 20000 in
theorem gW_X10_price : GoodIn lw_tbl (wsV RL 63 RX10 yX10_price wsX10_price) := goodIn_sub (wL_app (List.forall_mem_cons.mpr ⟨pw_382, (List.forall_mem_cons.mpr ⟨pw_381, (List.forall_mem_cons.mpr ⟨pw_380, (List.forall_mem_cons.mpr ⟨pw_14, (fun _ h => absurd h List.not_mem_nil)⟩)⟩)⟩)⟩) lm_wsX10_price) (by decide +kernel)
set_option maxRecDepth 100000 in
theorem pw_383 : (.code yX10_ran cX10_ran 2 (some .int) : Cond) ∈ lw_tbl := List.mem_of_getElem? (i := 1003) rfl
set_option maxRecDepth 20000 in
theorem lm_wsX10_ran : ∀ w ∈ wsX10_ran, w ∈ lw_tbl := List.forall_mem_cons.mpr ⟨pw_383, (wL_app (List.forall_mem_cons.mpr ⟨pw_218, (fun _ h => absurd h List.not_mem_nil)⟩) wL_wsX100)⟩
theorem pw_384 : (.selects RX10 yX10_ran yX10_ran : Cond) ∈ lw_tbl := List.mem_of_getElem? (i := 1002) (by decide +kernel)
theorem pw_385 : (.instanceMethod yX10_ran : Cond) ∈ lw_tbl := List.mem_of_getElem? (i := 1001) (by decide +kernel)
theorem pw_386 : (.methodLink RL 55 yX10_ran : Cond) ∈ lw_tbl := List.mem_of_getElem? (i := 1000) (by decide +kernel)
set_option maxRecDepth 20000 in
theorem gW_X10_ran : GoodIn lw_tbl (wsV RL 55 RX10 yX10_ran wsX10_ran) := goodIn_sub (wL_app (List.forall_mem_cons.mpr ⟨pw_386, (List.forall_mem_cons.mpr ⟨pw_385, (List.forall_mem_cons.mpr ⟨pw_384, (List.forall_mem_cons.mpr ⟨pw_14, (fun _ h => absurd h List.not_mem_nil)⟩)⟩)⟩)⟩) lm_wsX10_ran) (by decide +kernel)
theorem pw_387 : (.methodLink RX7 50 yX7_outers : Cond) ∈ lw_tbl := List.mem_of_getElem? (i := 924) (by decide +kernel)
set_option maxRecDepth 100000 in
theorem pw_388 : (.code yX7_allows cX7_allows 4 (some .boolean) : Cond) ∈ lw_tbl := List.mem_of_getElem? (i := 923) rfl
theorem pw_389 : (.selects RX7 yX7_allows yX7_allows : Cond) ∈ lw_tbl := List.mem_of_getElem? (i := 922) (by decide +kernel)
theorem pw_390 : (.instanceMethod yX7_allows : Cond) ∈ lw_tbl := List.mem_of_getElem? (i := 921) (by decide +kernel)
theorem pw_391 : (.methodLink RX10 191 yX7_allows : Cond) ∈ lw_tbl := List.mem_of_getElem? (i := 920) (by decide +kernel)
theorem pw_392 : (.fieldLink RX10 207 "NothingJudge$Runner" "anys" "I" : Cond) ∈ lw_tbl := List.mem_of_getElem? (i := 376) (by decide +kernel)
theorem pw_393 : (.fieldLink RX10 204 "NothingJudge$Runner" "things" "I" : Cond) ∈ lw_tbl := List.mem_of_getElem? (i := 373) (by decide +kernel)
theorem pw_394 : (.fieldLink RX10 201 "NothingJudge$Runner" "failedAt" "I" : Cond) ∈ lw_tbl := List.mem_of_getElem? (i := 379) (by decide +kernel)
theorem pw_395 : (.fieldLink RX10 198 "NothingJudge$Runner" "steps" "I" : Cond) ∈ lw_tbl := List.mem_of_getElem? (i := 371) (by decide +kernel)
theorem ch_wsX10_run_r1 : ∀ w ∈ wsX10_run_r1, w ∈ lw_tbl := (List.forall_mem_cons.mpr ⟨pw_23, (List.forall_mem_cons.mpr ⟨pw_226, (List.forall_mem_cons.mpr ⟨pw_218, (List.forall_mem_cons.mpr ⟨pw_395, (List.forall_mem_cons.mpr ⟨pw_394, (List.forall_mem_cons.mpr ⟨pw_393, (List.forall_mem_cons.mpr ⟨pw_392, (List.forall_mem_cons.mpr ⟨pw_391, (List.forall_mem_cons.mpr ⟨pw_390, (List.forall_mem_cons.mpr ⟨pw_389, (List.forall_mem_cons.mpr ⟨pw_59, (List.forall_mem_cons.mpr ⟨pw_388, (List.forall_mem_cons.mpr ⟨pw_57, (List.forall_mem_cons.mpr ⟨pw_55, (List.forall_mem_cons.mpr ⟨pw_160, (List.forall_mem_cons.mpr ⟨pw_94, (List.forall_mem_cons.mpr ⟨pw_67, (List.forall_mem_cons.mpr ⟨pw_66, (List.forall_mem_cons.mpr ⟨pw_65, (List.forall_mem_cons.mpr ⟨pw_64, (List.forall_mem_cons.mpr ⟨pw_63, (List.forall_mem_cons.mpr ⟨pw_387, (List.forall_mem_cons.mpr ⟨pw_61, (List.forall_mem_cons.mpr ⟨pw_60, (fun _ h => absurd h List.not_mem_nil)⟩)⟩)⟩)⟩)⟩)⟩)⟩)⟩)⟩)⟩)⟩)⟩)⟩)⟩)⟩)⟩)⟩)⟩)⟩)⟩)⟩)⟩)⟩)⟩)
set_option maxRecDepth 100000 in
theorem pw_396 : (.code yX6_begin cX6_begin 5 none : Cond) ∈ lw_tbl := List.mem_of_getElem? (i := 932) rfl
theorem pw_397 : (.selects RX6 yX6_begin yX6_begin : Cond) ∈ lw_tbl := List.mem_of_getElem? (i := 36) (by decide +kernel)
theorem pw_398 : (.instanceMethod yX6_begin : Cond) ∈ lw_tbl := List.mem_of_getElem? (i := 931) (by decide +kernel)
theorem pw_399 : (.methodLink RX6 39 yX6_begin : Cond) ∈ lw_tbl := List.mem_of_getElem? (i := 929) (by decide +kernel)
theorem pw_400 : (.fieldLink RX6 48 "NothingJudge$Runner" "ready" "Z" : Cond) ∈ lw_tbl := List.mem_of_getElem? (i := 384) (by decide +kernel)
theorem pw_401 : (.fieldLink RX6 44 "NothingJudge$Runner" "outcome" "I" : Cond) ∈ lw_tbl := List.mem_of_getElem? (i := 380) (by decide +kernel)
theorem pw_402 : (.constant RX6 43 (1000000) : Cond) ∈ lw_tbl := List.mem_of_getElem? (i := 953) (by decide +kernel)
set_option maxRecDepth 100000 in
theorem pw_403 : (.code yX6_go cX6_go 4 (some .int) : Cond) ∈ lw_tbl := List.mem_of_getElem? (i := 928) rfl
theorem pw_404 : (.selects RX6 yX6_go yX6_go : Cond) ∈ lw_tbl := List.mem_of_getElem? (i := 927) (by decide +kernel)
theorem pw_405 : (.instanceMethod yX6_go : Cond) ∈ lw_tbl := List.mem_of_getElem? (i := 926) (by decide +kernel)
theorem pw_406 : (.methodLink RX10 194 yX6_go : Cond) ∈ lw_tbl := List.mem_of_getElem? (i := 925) (by decide +kernel)
theorem ch_wsX10_run_r2 : ∀ w ∈ wsX10_run_r2, w ∈ lw_tbl := (List.forall_mem_cons.mpr ⟨pw_58, (List.forall_mem_cons.mpr ⟨pw_56, (List.forall_mem_cons.mpr ⟨pw_54, (List.forall_mem_cons.mpr ⟨pw_53, (List.forall_mem_cons.mpr ⟨pw_52, (List.forall_mem_cons.mpr ⟨pw_51, (List.forall_mem_cons.mpr ⟨pw_50, (List.forall_mem_cons.mpr ⟨pw_49, (List.forall_mem_cons.mpr ⟨pw_48, (List.forall_mem_cons.mpr ⟨pw_95, (List.forall_mem_cons.mpr ⟨pw_406, (List.forall_mem_cons.mpr ⟨pw_405, (List.forall_mem_cons.mpr ⟨pw_404, (List.forall_mem_cons.mpr ⟨pw_227, (List.forall_mem_cons.mpr ⟨pw_403, (List.forall_mem_cons.mpr ⟨pw_402, (List.forall_mem_cons.mpr ⟨pw_401, (List.forall_mem_cons.mpr ⟨pw_400, (List.forall_mem_cons.mpr ⟨pw_399, (List.forall_mem_cons.mpr ⟨pw_398, (List.forall_mem_cons.mpr ⟨pw_397, (List.forall_mem_cons.mpr ⟨pw_396, (List.forall_mem_cons.mpr ⟨pw_277, (List.forall_mem_cons.mpr ⟨pw_276, (fun _ h => absurd h List.not_mem_nil)⟩)⟩)⟩)⟩)⟩)⟩)⟩)⟩)⟩)⟩)⟩)⟩)⟩)⟩)⟩)⟩)⟩)⟩)⟩)⟩)⟩)⟩)⟩)⟩)
theorem pw_407 : (.methodLink RX6 86 yX3_parameter : Cond) ∈ lw_tbl := List.mem_of_getElem? (i := 939) (by decide +kernel)
theorem pw_408 : (.methodLink RX6 79 yX7_outers : Cond) ∈ lw_tbl := List.mem_of_getElem? (i := 938) (by decide +kernel)
theorem pw_409 : (.methodLink RX6 151 yX5_put : Cond) ∈ lw_tbl := List.mem_of_getElem? (i := 937) (by decide +kernel)
set_option maxRecDepth 100000 in
theorem pw_410 : (.code yX6_clearNames cX6_clearNames 2 none : Cond) ∈ lw_tbl := List.mem_of_getElem? (i := 936) rfl
theorem pw_411 : (.selects RX6 yX6_clearNames yX6_clearNames : Cond) ∈ lw_tbl := List.mem_of_getElem? (i := 37) (by decide +kernel)
theorem pw_412 : (.instanceMethod yX6_clearNames : Cond) ∈ lw_tbl := List.mem_of_getElem? (i := 935) (by decide +kernel)
theorem pw_413 : (.methodLink RX6 76 yX6_clearNames : Cond) ∈ lw_tbl := List.mem_of_getElem? (i := 933) (by decide +kernel)
theorem pw_414 : (.fieldLink RX6 105 "NothingJudge$Runner" "pc" "I" : Cond) ∈ lw_tbl := List.mem_of_getElem? (i := 381) (by decide +kernel)
theorem pw_415 : (.fieldLink RX6 96 "NothingJudge$Program" "opening" "[I" : Cond) ∈ lw_tbl := List.mem_of_getElem? (i := 178) (by decide +kernel)
theorem pw_416 : (.fieldLink RX6 83 "NothingJudge$Scene" "start" "I" : Cond) ∈ lw_tbl := List.mem_of_getElem? (i := 287) (by decide +kernel)
theorem pw_417 : (.fieldLink RX6 73 "NothingJudge$Runner" "depth" "I" : Cond) ∈ lw_tbl := List.mem_of_getElem? (i := 382) (by decide +kernel)
theorem pw_418 : (.fieldLink RX6 70 "NothingJudge$Runner" "failedAt" "I" : Cond) ∈ lw_tbl := List.mem_of_getElem? (i := 378) (by decide +kernel)
theorem pw_419 : (.fieldLink RX6 67 "NothingJudge$Runner" "anys" "I" : Cond) ∈ lw_tbl := List.mem_of_getElem? (i := 374) (by decide +kernel)
theorem pw_420 : (.fieldLink RX6 64 "NothingJudge$Runner" "things" "I" : Cond) ∈ lw_tbl := List.mem_of_getElem? (i := 372) (by decide +kernel)
theorem pw_421 : (.fieldLink RX6 61 "NothingJudge$Runner" "steps" "I" : Cond) ∈ lw_tbl := List.mem_of_getElem? (i := 370) (by decide +kernel)
theorem pw_422 : (.fieldLink RX6 58 "NothingJudge$Runner" "chosen" "I" : Cond) ∈ lw_tbl := List.mem_of_getElem? (i := 369) (by decide +kernel)
theorem ch_wsX10_run_r3 : ∀ w ∈ wsX10_run_r3, w ∈ lw_tbl := (List.forall_mem_cons.mpr ⟨pw_275, (List.forall_mem_cons.mpr ⟨pw_274, (List.forall_mem_cons.mpr ⟨pw_273, (List.forall_mem_cons.mpr ⟨pw_422, (List.forall_mem_cons.mpr ⟨pw_421, (List.forall_mem_cons.mpr ⟨pw_420, (List.forall_mem_cons.mpr ⟨pw_419, (List.forall_mem_cons.mpr ⟨pw_418, (List.forall_mem_cons.mpr ⟨pw_417, (List.forall_mem_cons.mpr ⟨pw_416, (List.forall_mem_cons.mpr ⟨pw_415, (List.forall_mem_cons.mpr ⟨pw_414, (List.forall_mem_cons.mpr ⟨pw_413, (List.forall_mem_cons.mpr ⟨pw_412, (List.forall_mem_cons.mpr ⟨pw_411, (List.forall_mem_cons.mpr ⟨pw_410, (List.forall_mem_cons.mpr ⟨pw_280, (List.forall_mem_cons.mpr ⟨pw_409, (List.forall_mem_cons.mpr ⟨pw_87, (List.forall_mem_cons.mpr ⟨pw_86, (List.forall_mem_cons.mpr ⟨pw_408, (List.forall_mem_cons.mpr ⟨pw_407, (List.forall_mem_cons.mpr ⟨pw_77, (List.forall_mem_cons.mpr ⟨pw_76, (fun _ h => absurd h List.not_mem_nil)⟩)⟩)⟩)⟩)⟩)⟩)⟩)⟩)⟩)⟩)⟩)⟩)⟩)⟩)⟩)⟩)⟩)⟩)⟩)⟩)⟩)⟩)⟩)⟩)
theorem pw_423 : (.methodLink RX6 110 yX0_get : Cond) ∈ lw_tbl := List.mem_of_getElem? (i := 958) (by decide +kernel)
theorem pw_424 : (.fieldLink RX6 136 "NothingJudge$Runner" "value" "I" : Cond) ∈ lw_tbl := List.mem_of_getElem? (i := 383) (by decide +kernel)
set_option maxRecDepth 100000 in
theorem pw_425 : (.code yX6_finish cX6_finish 3 none : Cond) ∈ lw_tbl := List.mem_of_getElem? (i := 957) rfl
theorem pw_426 : (.selects RX6 yX6_finish yX6_finish : Cond) ∈ lw_tbl := List.mem_of_getElem? (i := 41) (by decide +kernel)
theorem pw_427 : (.instanceMethod yX6_finish : Cond) ∈ lw_tbl := List.mem_of_getElem? (i := 956) (by decide +kernel)
theorem pw_428 : (.methodLink RX6 52 yX6_finish : Cond) ∈ lw_tbl := List.mem_of_getElem? (i := 954) (by decide +kernel)
theorem pw_429 : (.methodLink RX6 99 yX5_at : Cond) ∈ lw_tbl := List.mem_of_getElem? (i := 952) (by decide +kernel)
set_option maxRecDepth 100000 in
theorem pw_430 : (.code yX6_setName cX6_setName 3 none : Cond) ∈ lw_tbl := List.mem_of_getElem? (i := 951) rfl
theorem pw_431 : (.selects RX6 yX6_setName yX6_setName : Cond) ∈ lw_tbl := List.mem_of_getElem? (i := 40) (by decide +kernel)
theorem pw_432 : (.instanceMethod yX6_setName : Cond) ∈ lw_tbl := List.mem_of_getElem? (i := 950) (by decide +kernel)
theorem pw_433 : (.methodLink RX6 93 yX6_setName : Cond) ∈ lw_tbl := List.mem_of_getElem? (i := 948) (by decide +kernel)
set_option maxRecDepth 100000 in
theorem pw_434 : (.code yX6_make cX6_make 3 (some .int) : Cond) ∈ lw_tbl := List.mem_of_getElem? (i := 947) rfl
theorem pw_435 : (.selects RX6 yX6_make yX6_make : Cond) ∈ lw_tbl := List.mem_of_getElem? (i := 39) (by decide +kernel)
theorem pw_436 : (.instanceMethod yX6_make : Cond) ∈ lw_tbl := List.mem_of_getElem? (i := 946) (by decide +kernel)
theorem pw_437 : (.methodLink RX6 139 yX6_make : Cond) ∈ lw_tbl := List.mem_of_getElem? (i := 944) (by decide +kernel)
set_option maxRecDepth 100000 in
theorem pw_438 : (.code yX6_makeLoop cX6_makeLoop 1 (some .int) : Cond) ∈ lw_tbl := List.mem_of_getElem? (i := 943) rfl
theorem pw_439 : (.selects RX6 yX6_makeLoop yX6_makeLoop : Cond) ∈ lw_tbl := List.mem_of_getElem? (i := 38) (by decide +kernel)
theorem pw_440 : (.instanceMethod yX6_makeLoop : Cond) ∈ lw_tbl := List.mem_of_getElem? (i := 942) (by decide +kernel)
theorem pw_441 : (.methodLink RX6 90 yX6_makeLoop : Cond) ∈ lw_tbl := List.mem_of_getElem? (i := 940) (by decide +kernel)
theorem ch_wsX10_run_r4 : ∀ w ∈ wsX10_run_r4, w ∈ lw_tbl := (List.forall_mem_cons.mpr ⟨pw_75, (List.forall_mem_cons.mpr ⟨pw_74, (List.forall_mem_cons.mpr ⟨pw_73, (List.forall_mem_cons.mpr ⟨pw_441, (List.forall_mem_cons.mpr ⟨pw_440, (List.forall_mem_cons.mpr ⟨pw_439, (List.forall_mem_cons.mpr ⟨pw_438, (List.forall_mem_cons.mpr ⟨pw_437, (List.forall_mem_cons.mpr ⟨pw_436, (List.forall_mem_cons.mpr ⟨pw_435, (List.forall_mem_cons.mpr ⟨pw_434, (List.forall_mem_cons.mpr ⟨pw_278, (List.forall_mem_cons.mpr ⟨pw_433, (List.forall_mem_cons.mpr ⟨pw_432, (List.forall_mem_cons.mpr ⟨pw_431, (List.forall_mem_cons.mpr ⟨pw_430, (List.forall_mem_cons.mpr ⟨pw_429, (List.forall_mem_cons.mpr ⟨pw_428, (List.forall_mem_cons.mpr ⟨pw_427, (List.forall_mem_cons.mpr ⟨pw_426, (List.forall_mem_cons.mpr ⟨pw_425, (List.forall_mem_cons.mpr ⟨pw_424, (List.forall_mem_cons.mpr ⟨pw_423, (List.forall_mem_cons.mpr ⟨pw_106, (fun _ h => absurd h List.not_mem_nil)⟩)⟩)⟩)⟩)⟩)⟩)⟩)⟩)⟩)⟩)⟩)⟩)⟩)⟩)⟩)⟩)⟩)⟩)⟩)⟩)⟩)⟩)⟩)⟩)
theorem pw_442 : (.instanceMethod yX6_holds : Cond) ∈ lw_tbl := List.mem_of_getElem? (i := 977) (by decide +kernel)
theorem pw_443 : (.methodLink RX6 117 yX6_holds : Cond) ∈ lw_tbl := List.mem_of_getElem? (i := 975) (by decide +kernel)
set_option maxRecDepth 100000 in
theorem pw_444 : (.code yX6_step cX6_step 2 none : Cond) ∈ lw_tbl := List.mem_of_getElem? (i := 974) rfl
theorem pw_445 : (.selects RX6 yX6_step yX6_step : Cond) ∈ lw_tbl := List.mem_of_getElem? (i := 45) (by decide +kernel)
theorem pw_446 : (.instanceMethod yX6_step : Cond) ∈ lw_tbl := List.mem_of_getElem? (i := 973) (by decide +kernel)
theorem pw_447 : (.methodLink RX6 55 yX6_step : Cond) ∈ lw_tbl := List.mem_of_getElem? (i := 971) (by decide +kernel)
set_option maxRecDepth 100000 in
theorem pw_448 : (.code yX6_store cX6_store 2 none : Cond) ∈ lw_tbl := List.mem_of_getElem? (i := 970) rfl
theorem pw_449 : (.selects RX6 yX6_store yX6_store : Cond) ∈ lw_tbl := List.mem_of_getElem? (i := 44) (by decide +kernel)
theorem pw_450 : (.instanceMethod yX6_store : Cond) ∈ lw_tbl := List.mem_of_getElem? (i := 969) (by decide +kernel)
theorem pw_451 : (.methodLink RX6 148 yX6_store : Cond) ∈ lw_tbl := List.mem_of_getElem? (i := 967) (by decide +kernel)
set_option maxRecDepth 100000 in
theorem pw_452 : (.code yX6_nameOf cX6_nameOf 2 (some .int) : Cond) ∈ lw_tbl := List.mem_of_getElem? (i := 966) rfl
theorem pw_453 : (.selects RX6 yX6_nameOf yX6_nameOf : Cond) ∈ lw_tbl := List.mem_of_getElem? (i := 43) (by decide +kernel)
theorem pw_454 : (.instanceMethod yX6_nameOf : Cond) ∈ lw_tbl := List.mem_of_getElem? (i := 965) (by decide +kernel)
theorem pw_455 : (.methodLink RX6 127 yX6_nameOf : Cond) ∈ lw_tbl := List.mem_of_getElem? (i := 963) (by decide +kernel)
set_option maxRecDepth 100000 in
theorem pw_456 : (.code yX6_leave cX6_leave 2 none : Cond) ∈ lw_tbl := List.mem_of_getElem? (i := 962) rfl
theorem pw_457 : (.selects RX6 yX6_leave yX6_leave : Cond) ∈ lw_tbl := List.mem_of_getElem? (i := 42) (by decide +kernel)
theorem pw_458 : (.instanceMethod yX6_leave : Cond) ∈ lw_tbl := List.mem_of_getElem? (i := 961) (by decide +kernel)
theorem pw_459 : (.methodLink RX6 113 yX6_leave : Cond) ∈ lw_tbl := List.mem_of_getElem? (i := 959) (by decide +kernel)
theorem ch_wsX10_run_r5 : ∀ w ∈ wsX10_run_r5, w ∈ lw_tbl := (List.forall_mem_cons.mpr ⟨pw_105, (List.forall_mem_cons.mpr ⟨pw_104, (List.forall_mem_cons.mpr ⟨pw_103, (List.forall_mem_cons.mpr ⟨pw_102, (List.forall_mem_cons.mpr ⟨pw_101, (List.forall_mem_cons.mpr ⟨pw_459, (List.forall_mem_cons.mpr ⟨pw_458, (List.forall_mem_cons.mpr ⟨pw_457, (List.forall_mem_cons.mpr ⟨pw_456, (List.forall_mem_cons.mpr ⟨pw_279, (List.forall_mem_cons.mpr ⟨pw_455, (List.forall_mem_cons.mpr ⟨pw_454, (List.forall_mem_cons.mpr ⟨pw_453, (List.forall_mem_cons.mpr ⟨pw_452, (List.forall_mem_cons.mpr ⟨pw_451, (List.forall_mem_cons.mpr ⟨pw_450, (List.forall_mem_cons.mpr ⟨pw_449, (List.forall_mem_cons.mpr ⟨pw_448, (List.forall_mem_cons.mpr ⟨pw_447, (List.forall_mem_cons.mpr ⟨pw_446, (List.forall_mem_cons.mpr ⟨pw_445, (List.forall_mem_cons.mpr ⟨pw_444, (List.forall_mem_cons.mpr ⟨pw_443, (List.forall_mem_cons.mpr ⟨pw_442, (fun _ h => absurd h List.not_mem_nil)⟩)⟩)⟩)⟩)⟩)⟩)⟩)⟩)⟩)⟩)⟩)⟩)⟩)⟩)⟩)⟩)⟩)⟩)⟩)⟩)⟩)⟩)⟩)⟩)
theorem pw_460 : (.methodLink RX6 155 yX0_arguments : Cond) ∈ lw_tbl := List.mem_of_getElem? (i := 998) (by decide +kernel)
set_option maxRecDepth 100000 in
theorem pw_461 : (.code yX6_enter cX6_enter 5 none : Cond) ∈ lw_tbl := List.mem_of_getElem? (i := 997) rfl
theorem pw_462 : (.selects RX6 yX6_enter yX6_enter : Cond) ∈ lw_tbl := List.mem_of_getElem? (i := 50) (by decide +kernel)
theorem pw_463 : (.instanceMethod yX6_enter : Cond) ∈ lw_tbl := List.mem_of_getElem? (i := 996) (by decide +kernel)
theorem pw_464 : (.methodLink RX6 145 yX6_enter : Cond) ∈ lw_tbl := List.mem_of_getElem? (i := 994) (by decide +kernel)
set_option maxRecDepth 100000 in
theorem pw_465 : (.code yX6_fieldOf cX6_fieldOf 3 (some .int) : Cond) ∈ lw_tbl := List.mem_of_getElem? (i := 993) rfl
theorem pw_466 : (.selects RX6 yX6_fieldOf yX6_fieldOf : Cond) ∈ lw_tbl := List.mem_of_getElem? (i := 49) (by decide +kernel)
theorem pw_467 : (.instanceMethod yX6_fieldOf : Cond) ∈ lw_tbl := List.mem_of_getElem? (i := 992) (by decide +kernel)
theorem pw_468 : (.methodLink RX6 142 yX6_fieldOf : Cond) ∈ lw_tbl := List.mem_of_getElem? (i := 990) (by decide +kernel)
set_option maxRecDepth 100000 in
theorem pw_469 : (.code yX6_work cX6_work 5 none : Cond) ∈ lw_tbl := List.mem_of_getElem? (i := 989) rfl
theorem pw_470 : (.selects RX6 yX6_work yX6_work : Cond) ∈ lw_tbl := List.mem_of_getElem? (i := 48) (by decide +kernel)
theorem pw_471 : (.instanceMethod yX6_work : Cond) ∈ lw_tbl := List.mem_of_getElem? (i := 988) (by decide +kernel)
theorem pw_472 : (.methodLink RX6 121 yX6_work : Cond) ∈ lw_tbl := List.mem_of_getElem? (i := 986) (by decide +kernel)
set_option maxRecDepth 100000 in
theorem pw_473 : (.code yJ9_floorMod_7cf53 cJ9_floorMod_7cf53 3 (some .int) : Cond) ∈ lw_tbl := List.mem_of_getElem? (i := 985) rfl
theorem pw_474 : (.static yJ9_floorMod_7cf53 : Cond) ∈ lw_tbl := List.mem_of_getElem? (i := 984) (by decide +kernel)
theorem pw_475 : (.methodLink RX6 131 yJ9_floorMod_7cf53 : Cond) ∈ lw_tbl := List.mem_of_getElem? (i := 983) (by decide +kernel)
set_option maxRecDepth 100000 in
theorem pw_476 : (.code yX6_choose cX6_choose 2 (some .boolean) : Cond) ∈ lw_tbl := List.mem_of_getElem? (i := 982) rfl
theorem pw_477 : (.selects RX6 yX6_choose yX6_choose : Cond) ∈ lw_tbl := List.mem_of_getElem? (i := 47) (by decide +kernel)
theorem pw_478 : (.instanceMethod yX6_choose : Cond) ∈ lw_tbl := List.mem_of_getElem? (i := 981) (by decide +kernel)
theorem pw_479 : (.methodLink RX6 124 yX6_choose : Cond) ∈ lw_tbl := List.mem_of_getElem? (i := 979) (by decide +kernel)
set_option maxRecDepth 100000 in
theorem pw_480 : (.code yX6_holds cX6_holds 3 (some .boolean) : Cond) ∈ lw_tbl := List.mem_of_getElem? (i := 978) rfl
theorem pw_481 : (.selects RX6 yX6_holds yX6_holds : Cond) ∈ lw_tbl := List.mem_of_getElem? (i := 46) (by decide +kernel)
theorem ch_wsX10_run_r6 : ∀ w ∈ wsX10_run_r6, w ∈ lw_tbl := (List.forall_mem_cons.mpr ⟨pw_481, (List.forall_mem_cons.mpr ⟨pw_480, (List.forall_mem_cons.mpr ⟨pw_479, (List.forall_mem_cons.mpr ⟨pw_478, (List.forall_mem_cons.mpr ⟨pw_477, (List.forall_mem_cons.mpr ⟨pw_476, (List.forall_mem_cons.mpr ⟨pw_475, (List.forall_mem_cons.mpr ⟨pw_474, (List.forall_mem_cons.mpr ⟨pw_52, (List.forall_mem_cons.mpr ⟨pw_473, (List.forall_mem_cons.mpr ⟨pw_472, (List.forall_mem_cons.mpr ⟨pw_471, (List.forall_mem_cons.mpr ⟨pw_470, (List.forall_mem_cons.mpr ⟨pw_469, (List.forall_mem_cons.mpr ⟨pw_468, (List.forall_mem_cons.mpr ⟨pw_467, (List.forall_mem_cons.mpr ⟨pw_466, (List.forall_mem_cons.mpr ⟨pw_465, (List.forall_mem_cons.mpr ⟨pw_464, (List.forall_mem_cons.mpr ⟨pw_463, (List.forall_mem_cons.mpr ⟨pw_462, (List.forall_mem_cons.mpr ⟨pw_461, (List.forall_mem_cons.mpr ⟨pw_460, (List.forall_mem_cons.mpr ⟨pw_125, (fun _ h => absurd h List.not_mem_nil)⟩)⟩)⟩)⟩)⟩)⟩)⟩)⟩)⟩)⟩)⟩)⟩)⟩)⟩)⟩)⟩)⟩)⟩)⟩)⟩)⟩)⟩)⟩)⟩)
theorem pw_482 : (.methodLink RX6 158 yX0_argument : Cond) ∈ lw_tbl := List.mem_of_getElem? (i := 999) (by decide +kernel)
theorem ch_wsX10_run_r7 : ∀ w ∈ wsX10_run_r7, w ∈ lw_tbl := (List.forall_mem_cons.mpr ⟨pw_124, (List.forall_mem_cons.mpr ⟨pw_123, (List.forall_mem_cons.mpr ⟨pw_122, (List.forall_mem_cons.mpr ⟨pw_482, (List.forall_mem_cons.mpr ⟨pw_120, (List.forall_mem_cons.mpr ⟨pw_150, (List.forall_mem_cons.mpr ⟨pw_149, (List.forall_mem_cons.mpr ⟨pw_373, (fun _ h => absurd h List.not_mem_nil)⟩)⟩)⟩)⟩)⟩)⟩)⟩)⟩)
set_option maxRecDepth 100000 in
theorem pw_483 : (.code yX10_run cX10_run 4 (some .int) : Cond) ∈ lw_tbl := List.mem_of_getElem? (i := 919) rfl
set_option maxRecDepth 20000 in
theorem lm_wsX10_run : ∀ w ∈ wsX10_run, w ∈ lw_tbl := List.forall_mem_cons.mpr ⟨pw_483, (wL_app (wL_app (wL_app (wL_app (wL_app (wL_app ch_wsX10_run_r1 (wL_app ch_wsX10_run_r2 (wL_app ch_wsX10_run_r3 (wL_app ch_wsX10_run_r4 (wL_app ch_wsX10_run_r5 (wL_app ch_wsX10_run_r6 ch_wsX10_run_r7)))))) wL_wsX100) wL_wsX60) wL_wsX70) wL_wsX30) wL_wsX00)⟩
theorem pw_484 : (.selects RX10 yX10_run yX10_run : Cond) ∈ lw_tbl := List.mem_of_getElem? (i := 918) (by decide +kernel)
theorem pw_485 : (.instanceMethod yX10_run : Cond) ∈ lw_tbl := List.mem_of_getElem? (i := 917) (by decide +kernel)
theorem pw_486 : (.methodLink RL 51 yX10_run : Cond) ∈ lw_tbl := List.mem_of_getElem? (i := 916) (by decide +kernel)
set_option maxRecDepth 20000 in
theorem gW_X10_run : GoodIn lw_tbl (wsV RL 51 RX10 yX10_run wsX10_run) := goodIn_sub (wL_app (List.forall_mem_cons.mpr ⟨pw_486, (List.forall_mem_cons.mpr ⟨pw_485, (List.forall_mem_cons.mpr ⟨pw_484, (List.forall_mem_cons.mpr ⟨pw_14, (fun _ h => absurd h List.not_mem_nil)⟩)⟩)⟩)⟩) lm_wsX10_run) (by decide +kernel)
theorem pw_487 : (.fieldLink RX10 188 "NothingJudge$Program" "testPlace" "[I" : Cond) ∈ lw_tbl := List.mem_of_getElem? (i := 195) (by decide +kernel)
theorem pw_488 : (.fieldLink RX10 185 "NothingJudge$Program" "testOwner" "[I" : Cond) ∈ lw_tbl := List.mem_of_getElem? (i := 193) (by decide +kernel)
theorem pw_489 : (.fieldLink RX10 179 "NothingJudge$Facts" "tested" "[I" : Cond) ∈ lw_tbl := List.mem_of_getElem? (i := 317) (by decide +kernel)
theorem ch_wsX10_test_r1 : ∀ w ∈ wsX10_test_r1, w ∈ lw_tbl := (List.forall_mem_cons.mpr ⟨pw_23, (List.forall_mem_cons.mpr ⟨pw_22, (List.forall_mem_cons.mpr ⟨pw_19, (List.forall_mem_cons.mpr ⟨pw_12, (List.forall_mem_cons.mpr ⟨pw_489, (List.forall_mem_cons.mpr ⟨pw_488, (List.forall_mem_cons.mpr ⟨pw_487, (List.forall_mem_cons.mpr ⟨pw_10, (List.forall_mem_cons.mpr ⟨pw_9, (List.forall_mem_cons.mpr ⟨pw_8, (List.forall_mem_cons.mpr ⟨pw_7, (List.forall_mem_cons.mpr ⟨pw_6, (List.forall_mem_cons.mpr ⟨pw_5, (List.forall_mem_cons.mpr ⟨pw_4, (List.forall_mem_cons.mpr ⟨pw_3, (List.forall_mem_cons.mpr ⟨pw_2, (List.forall_mem_cons.mpr ⟨pw_1, (List.forall_mem_cons.mpr ⟨pw_0, (List.forall_mem_cons.mpr ⟨pw_47, (List.forall_mem_cons.mpr ⟨pw_46, (List.forall_mem_cons.mpr ⟨pw_45, (List.forall_mem_cons.mpr ⟨pw_44, (List.forall_mem_cons.mpr ⟨pw_43, (List.forall_mem_cons.mpr ⟨pw_42, (fun _ h => absurd h List.not_mem_nil)⟩)⟩)⟩)⟩)⟩)⟩)⟩)⟩)⟩)⟩)⟩)⟩)⟩)⟩)⟩)⟩)⟩)⟩)⟩)⟩)⟩)⟩)⟩)⟩)
theorem ch_wsX10_test_r2 : ∀ w ∈ wsX10_test_r2, w ∈ lw_tbl := (List.forall_mem_cons.mpr ⟨pw_41, (List.forall_mem_cons.mpr ⟨pw_40, (List.forall_mem_cons.mpr ⟨pw_39, (List.forall_mem_cons.mpr ⟨pw_38, (List.forall_mem_cons.mpr ⟨pw_37, (List.forall_mem_cons.mpr ⟨pw_36, (List.forall_mem_cons.mpr ⟨pw_35, (List.forall_mem_cons.mpr ⟨pw_34, (List.forall_mem_cons.mpr ⟨pw_33, (List.forall_mem_cons.mpr ⟨pw_32, (List.forall_mem_cons.mpr ⟨pw_31, (List.forall_mem_cons.mpr ⟨pw_30, (List.forall_mem_cons.mpr ⟨pw_29, (List.forall_mem_cons.mpr ⟨pw_28, (List.forall_mem_cons.mpr ⟨pw_27, (List.forall_mem_cons.mpr ⟨pw_26, (List.forall_mem_cons.mpr ⟨pw_25, (List.forall_mem_cons.mpr ⟨pw_24, (List.forall_mem_cons.mpr ⟨pw_71, (List.forall_mem_cons.mpr ⟨pw_70, (List.forall_mem_cons.mpr ⟨pw_69, (List.forall_mem_cons.mpr ⟨pw_68, (List.forall_mem_cons.mpr ⟨pw_67, (List.forall_mem_cons.mpr ⟨pw_66, (fun _ h => absurd h List.not_mem_nil)⟩)⟩)⟩)⟩)⟩)⟩)⟩)⟩)⟩)⟩)⟩)⟩)⟩)⟩)⟩)⟩)⟩)⟩)⟩)⟩)⟩)⟩)⟩)⟩)
theorem ch_wsX10_test_r3 : ∀ w ∈ wsX10_test_r3, w ∈ lw_tbl := (List.forall_mem_cons.mpr ⟨pw_65, (List.forall_mem_cons.mpr ⟨pw_64, (List.forall_mem_cons.mpr ⟨pw_63, (List.forall_mem_cons.mpr ⟨pw_62, (List.forall_mem_cons.mpr ⟨pw_61, (List.forall_mem_cons.mpr ⟨pw_60, (List.forall_mem_cons.mpr ⟨pw_59, (List.forall_mem_cons.mpr ⟨pw_58, (List.forall_mem_cons.mpr ⟨pw_57, (List.forall_mem_cons.mpr ⟨pw_56, (List.forall_mem_cons.mpr ⟨pw_55, (List.forall_mem_cons.mpr ⟨pw_54, (List.forall_mem_cons.mpr ⟨pw_53, (List.forall_mem_cons.mpr ⟨pw_52, (List.forall_mem_cons.mpr ⟨pw_51, (List.forall_mem_cons.mpr ⟨pw_50, (List.forall_mem_cons.mpr ⟨pw_49, (List.forall_mem_cons.mpr ⟨pw_48, (List.forall_mem_cons.mpr ⟨pw_95, (List.forall_mem_cons.mpr ⟨pw_94, (List.forall_mem_cons.mpr ⟨pw_93, (List.forall_mem_cons.mpr ⟨pw_92, (List.forall_mem_cons.mpr ⟨pw_91, (List.forall_mem_cons.mpr ⟨pw_90, (fun _ h => absurd h List.not_mem_nil)⟩)⟩)⟩)⟩)⟩)⟩)⟩)⟩)⟩)⟩)⟩)⟩)⟩)⟩)⟩)⟩)⟩)⟩)⟩)⟩)⟩)⟩)⟩)⟩)
theorem ch_wsX10_test_r4 : ∀ w ∈ wsX10_test_r4, w ∈ lw_tbl := (List.forall_mem_cons.mpr ⟨pw_89, (List.forall_mem_cons.mpr ⟨pw_88, (List.forall_mem_cons.mpr ⟨pw_87, (List.forall_mem_cons.mpr ⟨pw_86, (List.forall_mem_cons.mpr ⟨pw_85, (List.forall_mem_cons.mpr ⟨pw_84, (List.forall_mem_cons.mpr ⟨pw_83, (List.forall_mem_cons.mpr ⟨pw_82, (List.forall_mem_cons.mpr ⟨pw_81, (List.forall_mem_cons.mpr ⟨pw_80, (List.forall_mem_cons.mpr ⟨pw_79, (List.forall_mem_cons.mpr ⟨pw_78, (List.forall_mem_cons.mpr ⟨pw_77, (List.forall_mem_cons.mpr ⟨pw_76, (List.forall_mem_cons.mpr ⟨pw_75, (List.forall_mem_cons.mpr ⟨pw_74, (List.forall_mem_cons.mpr ⟨pw_73, (List.forall_mem_cons.mpr ⟨pw_72, (List.forall_mem_cons.mpr ⟨pw_119, (List.forall_mem_cons.mpr ⟨pw_118, (List.forall_mem_cons.mpr ⟨pw_117, (List.forall_mem_cons.mpr ⟨pw_116, (List.forall_mem_cons.mpr ⟨pw_115, (List.forall_mem_cons.mpr ⟨pw_114, (fun _ h => absurd h List.not_mem_nil)⟩)⟩)⟩)⟩)⟩)⟩)⟩)⟩)⟩)⟩)⟩)⟩)⟩)⟩)⟩)⟩)⟩)⟩)⟩)⟩)⟩)⟩)⟩)⟩)
theorem ch_wsX10_test_r5 : ∀ w ∈ wsX10_test_r5, w ∈ lw_tbl := (List.forall_mem_cons.mpr ⟨pw_113, (List.forall_mem_cons.mpr ⟨pw_112, (List.forall_mem_cons.mpr ⟨pw_111, (List.forall_mem_cons.mpr ⟨pw_110, (List.forall_mem_cons.mpr ⟨pw_109, (List.forall_mem_cons.mpr ⟨pw_108, (List.forall_mem_cons.mpr ⟨pw_107, (List.forall_mem_cons.mpr ⟨pw_106, (List.forall_mem_cons.mpr ⟨pw_105, (List.forall_mem_cons.mpr ⟨pw_104, (List.forall_mem_cons.mpr ⟨pw_103, (List.forall_mem_cons.mpr ⟨pw_102, (List.forall_mem_cons.mpr ⟨pw_101, (List.forall_mem_cons.mpr ⟨pw_100, (List.forall_mem_cons.mpr ⟨pw_99, (List.forall_mem_cons.mpr ⟨pw_98, (List.forall_mem_cons.mpr ⟨pw_97, (List.forall_mem_cons.mpr ⟨pw_96, (List.forall_mem_cons.mpr ⟨pw_143, (List.forall_mem_cons.mpr ⟨pw_142, (List.forall_mem_cons.mpr ⟨pw_141, (List.forall_mem_cons.mpr ⟨pw_140, (List.forall_mem_cons.mpr ⟨pw_139, (List.forall_mem_cons.mpr ⟨pw_138, (fun _ h => absurd h List.not_mem_nil)⟩)⟩)⟩)⟩)⟩)⟩)⟩)⟩)⟩)⟩)⟩)⟩)⟩)⟩)⟩)⟩)⟩)⟩)⟩)⟩)⟩)⟩)⟩)⟩)
theorem ch_wsX10_test_r6 : ∀ w ∈ wsX10_test_r6, w ∈ lw_tbl := (List.forall_mem_cons.mpr ⟨pw_137, (List.forall_mem_cons.mpr ⟨pw_136, (List.forall_mem_cons.mpr ⟨pw_135, (List.forall_mem_cons.mpr ⟨pw_134, (List.forall_mem_cons.mpr ⟨pw_133, (List.forall_mem_cons.mpr ⟨pw_132, (List.forall_mem_cons.mpr ⟨pw_131, (List.forall_mem_cons.mpr ⟨pw_130, (List.forall_mem_cons.mpr ⟨pw_129, (List.forall_mem_cons.mpr ⟨pw_128, (List.forall_mem_cons.mpr ⟨pw_127, (List.forall_mem_cons.mpr ⟨pw_126, (List.forall_mem_cons.mpr ⟨pw_125, (List.forall_mem_cons.mpr ⟨pw_124, (List.forall_mem_cons.mpr ⟨pw_123, (List.forall_mem_cons.mpr ⟨pw_122, (List.forall_mem_cons.mpr ⟨pw_121, (List.forall_mem_cons.mpr ⟨pw_120, (List.forall_mem_cons.mpr ⟨pw_150, (List.forall_mem_cons.mpr ⟨pw_149, (List.forall_mem_cons.mpr ⟨pw_148, (List.forall_mem_cons.mpr ⟨pw_147, (List.forall_mem_cons.mpr ⟨pw_146, (List.forall_mem_cons.mpr ⟨pw_145, (fun _ h => absurd h List.not_mem_nil)⟩)⟩)⟩)⟩)⟩)⟩)⟩)⟩)⟩)⟩)⟩)⟩)⟩)⟩)⟩)⟩)⟩)⟩)⟩)⟩)⟩)⟩)⟩)⟩)
set_option maxRecDepth 100000 in
theorem pw_490 : (.code yX10_verdictOfTest cX10_verdictOfTest 1 (some .int) : Cond) ∈ lw_tbl := List.mem_of_getElem? (i := 915) rfl
theorem pw_491 : (.static yX10_verdictOfTest : Cond) ∈ lw_tbl := List.mem_of_getElem? (i := 914) (by decide +kernel)
theorem pw_492 : (.methodLink RX10 182 yX10_verdictOfTest : Cond) ∈ lw_tbl := List.mem_of_getElem? (i := 913) (by decide +kernel)
theorem ch_wsX10_test_r7 : ∀ w ∈ wsX10_test_r7, w ∈ lw_tbl := (List.forall_mem_cons.mpr ⟨pw_144, (List.forall_mem_cons.mpr ⟨pw_492, (List.forall_mem_cons.mpr ⟨pw_491, (List.forall_mem_cons.mpr ⟨pw_14, (List.forall_mem_cons.mpr ⟨pw_490, (fun _ h => absurd h List.not_mem_nil)⟩)⟩)⟩)⟩)⟩)
set_option maxRecDepth 100000 in
theorem pw_493 : (.code yX10_test cX10_test 4 (some .int) : Cond) ∈ lw_tbl := List.mem_of_getElem? (i := 912) rfl
set_option maxRecDepth 20000 in
theorem lm_wsX10_test : ∀ w ∈ wsX10_test, w ∈ lw_tbl := List.forall_mem_cons.mpr ⟨pw_493, (wL_app (wL_app (wL_app (wL_app (wL_app (wL_app ch_wsX10_test_r1 (wL_app ch_wsX10_test_r2 (wL_app ch_wsX10_test_r3 (wL_app ch_wsX10_test_r4 (wL_app ch_wsX10_test_r5 (wL_app ch_wsX10_test_r6 ch_wsX10_test_r7)))))) wL_wsX100) wL_wsX70) wL_wsX30) wL_wsX10) wL_wsX00)⟩
theorem pw_494 : (.selects RX10 yX10_test yX10_test : Cond) ∈ lw_tbl := List.mem_of_getElem? (i := 911) (by decide +kernel)
theorem pw_495 : (.instanceMethod yX10_test : Cond) ∈ lw_tbl := List.mem_of_getElem? (i := 910) (by decide +kernel)
theorem pw_496 : (.methodLink RL 47 yX10_test : Cond) ∈ lw_tbl := List.mem_of_getElem? (i := 909) (by decide +kernel)
set_option maxRecDepth 20000 in
theorem gW_X10_test : GoodIn lw_tbl (wsV RL 47 RX10 yX10_test wsX10_test) := goodIn_sub (wL_app (List.forall_mem_cons.mpr ⟨pw_496, (List.forall_mem_cons.mpr ⟨pw_495, (List.forall_mem_cons.mpr ⟨pw_494, (List.forall_mem_cons.mpr ⟨pw_14, (fun _ h => absurd h List.not_mem_nil)⟩)⟩)⟩)⟩) lm_wsX10_test) (by decide +kernel)
theorem pw_497 : (.fieldLink RX8 25 "NothingJudge$Tokens" "length" "I" : Cond) ∈ lw_tbl := List.mem_of_getElem? (i := 141) (by decide +kernel)
theorem pw_498 : (.methodLink RX8 19 Lib.Math.min.name : Cond) ∈ lw_tbl := List.mem_of_getElem? (i := 544) (by decide +kernel)
theorem pw_499 : (.fieldLink RX8 15 "NothingJudge$Tokens" "size" "I" : Cond) ∈ lw_tbl := List.mem_of_getElem? (i := 140) (by decide +kernel)
set_option maxRecDepth 100000 in
theorem pw_500 : (.code yX8_scan cX8_scan 6 none : Cond) ∈ lw_tbl := List.mem_of_getElem? (i := 543) rfl
theorem pw_501 : (.selects RX8 yX8_scan yX8_scan : Cond) ∈ lw_tbl := List.mem_of_getElem? (i := 542) (by decide +kernel)
theorem pw_502 : (.instanceMethod yX8_scan : Cond) ∈ lw_tbl := List.mem_of_getElem? (i := 541) (by decide +kernel)
theorem pw_503 : (.methodLink RX10 94 yX8_scan : Cond) ∈ lw_tbl := List.mem_of_getElem? (i := 540) (by decide +kernel)
theorem pw_504 : (.fieldLink RX10 113 "NothingJudge$Program" "first" "I" : Cond) ∈ lw_tbl := List.mem_of_getElem? (i := 207) (by decide +kernel)
theorem pw_505 : (.fieldLink RX10 107 "NothingJudge$Reader" "wrongPlace" "I" : Cond) ∈ lw_tbl := List.mem_of_getElem? (i := 254) (by decide +kernel)
theorem pw_506 : (.fieldLink RX10 101 "NothingJudge$Reader" "wrong" "I" : Cond) ∈ lw_tbl := List.mem_of_getElem? (i := 252) (by decide +kernel)
theorem ch_wsX10_text_r1 : ∀ w ∈ wsX10_text_r1, w ∈ lw_tbl := (List.forall_mem_cons.mpr ⟨pw_186, (List.forall_mem_cons.mpr ⟨pw_202, (List.forall_mem_cons.mpr ⟨pw_181, (List.forall_mem_cons.mpr ⟨pw_195, (List.forall_mem_cons.mpr ⟨pw_199, (List.forall_mem_cons.mpr ⟨pw_506, (List.forall_mem_cons.mpr ⟨pw_176, (List.forall_mem_cons.mpr ⟨pw_505, (List.forall_mem_cons.mpr ⟨pw_175, (List.forall_mem_cons.mpr ⟨pw_23, (List.forall_mem_cons.mpr ⟨pw_22, (List.forall_mem_cons.mpr ⟨pw_504, (List.forall_mem_cons.mpr ⟨pw_21, (List.forall_mem_cons.mpr ⟨pw_503, (List.forall_mem_cons.mpr ⟨pw_502, (List.forall_mem_cons.mpr ⟨pw_501, (List.forall_mem_cons.mpr ⟨pw_203, (List.forall_mem_cons.mpr ⟨pw_500, (List.forall_mem_cons.mpr ⟨pw_499, (List.forall_mem_cons.mpr ⟨pw_498, (List.forall_mem_cons.mpr ⟨pw_53, (List.forall_mem_cons.mpr ⟨pw_52, (List.forall_mem_cons.mpr ⟨pw_51, (List.forall_mem_cons.mpr ⟨pw_497, (fun _ h => absurd h List.not_mem_nil)⟩)⟩)⟩)⟩)⟩)⟩)⟩)⟩)⟩)⟩)⟩)⟩)⟩)⟩)⟩)⟩)⟩)⟩)⟩)⟩)⟩)⟩)⟩)⟩)
theorem pw_507 : (.instanceMethod yJ0_coder_7d493 : Cond) ∈ lw_tbl := List.mem_of_getElem? (i := 566) (by decide +kernel)
theorem pw_508 : (.methodLink RJ0 335 yJ0_coder_7d493 : Cond) ∈ lw_tbl := List.mem_of_getElem? (i := 565) (by decide +kernel)
theorem pw_509 : (.fieldLink RJ0 9 "java/lang/String" "value" "[B" : Cond) ∈ lw_tbl := List.mem_of_getElem? (i := 1565) (by decide +kernel)
set_option maxRecDepth 100000 in
theorem pw_510 : (.code yJ0_length_8abf5 cJ0_length_8abf5 1 (some .int) : Cond) ∈ lw_tbl := List.mem_of_getElem? (i := 564) rfl
theorem pw_511 : (.initialized RJ0 : Cond) ∈ lw_tbl := List.mem_of_getElem? (i := 119) (by decide +kernel)
theorem pw_512 : (.selects RJ0 yJ0_length_8abf5 yJ0_length_8abf5 : Cond) ∈ lw_tbl := List.mem_of_getElem? (i := 563) (by decide +kernel)
theorem pw_513 : (.instanceMethod yJ0_length_8abf5 : Cond) ∈ lw_tbl := List.mem_of_getElem? (i := 562) (by decide +kernel)
theorem pw_514 : (.methodLink RX8 79 yJ0_length_8abf5 : Cond) ∈ lw_tbl := List.mem_of_getElem? (i := 561) (by decide +kernel)
set_option maxRecDepth 100000 in
theorem pw_515 : (.code yX8_spells cX8_spells 4 (some .boolean) : Cond) ∈ lw_tbl := List.mem_of_getElem? (i := 560) rfl
theorem pw_516 : (.static yX8_spells : Cond) ∈ lw_tbl := List.mem_of_getElem? (i := 559) (by decide +kernel)
theorem pw_517 : (.methodLink RX8 59 yX8_spells : Cond) ∈ lw_tbl := List.mem_of_getElem? (i := 558) (by decide +kernel)
set_option maxRecDepth 100000 in
theorem pw_518 : (.code yX8_kindOfWord cX8_kindOfWord 3 (some .int) : Cond) ∈ lw_tbl := List.mem_of_getElem? (i := 556) rfl
theorem pw_519 : (.static yX8_kindOfWord : Cond) ∈ lw_tbl := List.mem_of_getElem? (i := 555) (by decide +kernel)
theorem pw_520 : (.methodLink RX8 36 yX8_kindOfWord : Cond) ∈ lw_tbl := List.mem_of_getElem? (i := 554) (by decide +kernel)
set_option maxRecDepth 100000 in
theorem pw_521 : (.code yX8_endOfWord cX8_endOfWord 4 (some .int) : Cond) ∈ lw_tbl := List.mem_of_getElem? (i := 553) rfl
theorem pw_522 : (.selects RX8 yX8_endOfWord yX8_endOfWord : Cond) ∈ lw_tbl := List.mem_of_getElem? (i := 1) (by decide +kernel)
theorem pw_523 : (.instanceMethod yX8_endOfWord : Cond) ∈ lw_tbl := List.mem_of_getElem? (i := 552) (by decide +kernel)
theorem pw_524 : (.methodLink RX8 32 yX8_endOfWord : Cond) ∈ lw_tbl := List.mem_of_getElem? (i := 550) (by decide +kernel)
set_option maxRecDepth 100000 in
theorem pw_525 : (.code yX8_isSmall cX8_isSmall 1 (some .boolean) : Cond) ∈ lw_tbl := List.mem_of_getElem? (i := 549) rfl
theorem pw_526 : (.static yX8_isSmall : Cond) ∈ lw_tbl := List.mem_of_getElem? (i := 548) (by decide +kernel)
theorem pw_527 : (.methodLink RX8 28 yX8_isSmall : Cond) ∈ lw_tbl := List.mem_of_getElem? (i := 547) (by decide +kernel)
set_option maxRecDepth 100000 in
theorem pw_528 : (.code Lib.Math.max.name Lib.Math.max.code 2 (some .int) : Cond) ∈ lw_tbl := List.mem_of_getElem? (i := 626) rfl
theorem pw_529 : (.static Lib.Math.max.name : Cond) ∈ lw_tbl := List.mem_of_getElem? (i := 625) (by decide +kernel)
theorem pw_530 : (.methodLink RX8 44 Lib.Math.max.name : Cond) ∈ lw_tbl := List.mem_of_getElem? (i := 624) (by decide +kernel)
theorem ch_wsX10_text_r2 : ∀ w ∈ wsX10_text_r2, w ∈ lw_tbl := (List.forall_mem_cons.mpr ⟨pw_530, (List.forall_mem_cons.mpr ⟨pw_529, (List.forall_mem_cons.mpr ⟨pw_528, (List.forall_mem_cons.mpr ⟨pw_527, (List.forall_mem_cons.mpr ⟨pw_526, (List.forall_mem_cons.mpr ⟨pw_525, (List.forall_mem_cons.mpr ⟨pw_524, (List.forall_mem_cons.mpr ⟨pw_523, (List.forall_mem_cons.mpr ⟨pw_522, (List.forall_mem_cons.mpr ⟨pw_521, (List.forall_mem_cons.mpr ⟨pw_520, (List.forall_mem_cons.mpr ⟨pw_519, (List.forall_mem_cons.mpr ⟨pw_518, (List.forall_mem_cons.mpr ⟨pw_517, (List.forall_mem_cons.mpr ⟨pw_516, (List.forall_mem_cons.mpr ⟨pw_515, (List.forall_mem_cons.mpr ⟨pw_514, (List.forall_mem_cons.mpr ⟨pw_513, (List.forall_mem_cons.mpr ⟨pw_512, (List.forall_mem_cons.mpr ⟨pw_511, (List.forall_mem_cons.mpr ⟨pw_510, (List.forall_mem_cons.mpr ⟨pw_509, (List.forall_mem_cons.mpr ⟨pw_508, (List.forall_mem_cons.mpr ⟨pw_507, (fun _ h => absurd h List.not_mem_nil)⟩)⟩)⟩)⟩)⟩)⟩)⟩)⟩)⟩)⟩)⟩)⟩)⟩)⟩)⟩)⟩)⟩)⟩)⟩)⟩)⟩)⟩)⟩)⟩)
set_option maxRecDepth 100000 in
theorem pw_531 : (.code yJ3_checkIndex_8e157 cJ3_checkIndex_8e157 3 (some .int) : Cond) ∈ lw_tbl := List.mem_of_getElem? (i := 589) rfl
theorem pw_532 : (.initialized RJ3 : Cond) ∈ lw_tbl := List.mem_of_getElem? (i := 121) (by decide +kernel)
theorem pw_533 : (.static yJ3_checkIndex_8e157 : Cond) ∈ lw_tbl := List.mem_of_getElem? (i := 588) (by decide +kernel)
theorem pw_534 : (.methodLink RJ0 1059 yJ3_checkIndex_8e157 : Cond) ∈ lw_tbl := List.mem_of_getElem? (i := 587) (by decide +kernel)
theorem pw_535 : (.fieldLink RJ0 1053 "jdk/internal/util/Preconditions" "SIOOBE_FORMATTER" "Ljava/util/function/BiFunction;" : Cond) ∈ lw_tbl := List.mem_of_getElem? (i := 585) (by decide +kernel)
set_option maxRecDepth 100000 in
theorem pw_536 : (.code yJ0_checkIndex_df160 cJ0_checkIndex_df160 2 none : Cond) ∈ lw_tbl := List.mem_of_getElem? (i := 584) rfl
theorem pw_537 : (.static yJ0_checkIndex_df160 : Cond) ∈ lw_tbl := List.mem_of_getElem? (i := 583) (by decide +kernel)
theorem pw_538 : (.methodLink RJ1 9 yJ0_checkIndex_df160 : Cond) ∈ lw_tbl := List.mem_of_getElem? (i := 582) (by decide +kernel)
set_option maxRecDepth 100000 in
theorem pw_539 : (.code yJ1_charAt_3b067 cJ1_charAt_3b067 2 (some .char) : Cond) ∈ lw_tbl := List.mem_of_getElem? (i := 581) rfl
theorem pw_540 : (.initialized RJ1 : Cond) ∈ lw_tbl := List.mem_of_getElem? (i := 120) (by decide +kernel)
theorem pw_541 : (.static yJ1_charAt_3b067 : Cond) ∈ lw_tbl := List.mem_of_getElem? (i := 580) (by decide +kernel)
theorem pw_542 : (.methodLink RJ0 495 yJ1_charAt_3b067 : Cond) ∈ lw_tbl := List.mem_of_getElem? (i := 579) (by decide +kernel)
set_option maxRecDepth 100000 in
theorem pw_543 : (.code yJ0_isLatin1_aae02 cJ0_isLatin1_aae02 1 (some .boolean) : Cond) ∈ lw_tbl := List.mem_of_getElem? (i := 578) rfl
theorem pw_544 : (.selects RJ0 yJ0_isLatin1_aae02 yJ0_isLatin1_aae02 : Cond) ∈ lw_tbl := List.mem_of_getElem? (i := 577) (by decide +kernel)
theorem pw_545 : (.instanceMethod yJ0_isLatin1_aae02 : Cond) ∈ lw_tbl := List.mem_of_getElem? (i := 576) (by decide +kernel)
theorem pw_546 : (.methodLink RJ0 492 yJ0_isLatin1_aae02 : Cond) ∈ lw_tbl := List.mem_of_getElem? (i := 575) (by decide +kernel)
set_option maxRecDepth 100000 in
theorem pw_547 : (.code yJ0_charAt_5068e cJ0_charAt_5068e 2 (some .char) : Cond) ∈ lw_tbl := List.mem_of_getElem? (i := 574) rfl
theorem pw_548 : (.selects RJ0 yJ0_charAt_5068e yJ0_charAt_5068e : Cond) ∈ lw_tbl := List.mem_of_getElem? (i := 573) (by decide +kernel)
theorem pw_549 : (.instanceMethod yJ0_charAt_5068e : Cond) ∈ lw_tbl := List.mem_of_getElem? (i := 572) (by decide +kernel)
theorem pw_550 : (.methodLink RX8 84 yJ0_charAt_5068e : Cond) ∈ lw_tbl := List.mem_of_getElem? (i := 571) (by decide +kernel)
theorem pw_551 : (.fieldLink RJ0 15 "java/lang/String" "coder" "B" : Cond) ∈ lw_tbl := List.mem_of_getElem? (i := 1566) (by decide +kernel)
theorem pw_552 : (.fieldLink RJ0 38 "java/lang/String" "COMPACT_STRINGS" "Z" : Cond) ∈ lw_tbl := List.mem_of_getElem? (i := 569) (by decide +kernel)
set_option maxRecDepth 100000 in
theorem pw_553 : (.code yJ0_coder_7d493 cJ0_coder_7d493 1 (some .byte) : Cond) ∈ lw_tbl := List.mem_of_getElem? (i := 568) rfl
theorem pw_554 : (.selects RJ0 yJ0_coder_7d493 yJ0_coder_7d493 : Cond) ∈ lw_tbl := List.mem_of_getElem? (i := 567) (by decide +kernel)
theorem ch_wsX10_text_r3 : ∀ w ∈ wsX10_text_r3, w ∈ lw_tbl := (List.forall_mem_cons.mpr ⟨pw_554, (List.forall_mem_cons.mpr ⟨pw_553, (List.forall_mem_cons.mpr ⟨pw_552, (List.forall_mem_cons.mpr ⟨pw_551, (List.forall_mem_cons.mpr ⟨pw_550, (List.forall_mem_cons.mpr ⟨pw_549, (List.forall_mem_cons.mpr ⟨pw_548, (List.forall_mem_cons.mpr ⟨pw_547, (List.forall_mem_cons.mpr ⟨pw_546, (List.forall_mem_cons.mpr ⟨pw_545, (List.forall_mem_cons.mpr ⟨pw_544, (List.forall_mem_cons.mpr ⟨pw_543, (List.forall_mem_cons.mpr ⟨pw_542, (List.forall_mem_cons.mpr ⟨pw_541, (List.forall_mem_cons.mpr ⟨pw_540, (List.forall_mem_cons.mpr ⟨pw_539, (List.forall_mem_cons.mpr ⟨pw_538, (List.forall_mem_cons.mpr ⟨pw_537, (List.forall_mem_cons.mpr ⟨pw_536, (List.forall_mem_cons.mpr ⟨pw_535, (List.forall_mem_cons.mpr ⟨pw_534, (List.forall_mem_cons.mpr ⟨pw_533, (List.forall_mem_cons.mpr ⟨pw_532, (List.forall_mem_cons.mpr ⟨pw_531, (fun _ h => absurd h List.not_mem_nil)⟩)⟩)⟩)⟩)⟩)⟩)⟩)⟩)⟩)⟩)⟩)⟩)⟩)⟩)⟩)⟩)⟩)⟩)⟩)⟩)⟩)⟩)⟩)⟩)
theorem pw_555 : (.methodLink RX8 51 yX5_put : Cond) ∈ lw_tbl := List.mem_of_getElem? (i := 621) (by decide +kernel)
set_option maxRecDepth 100000 in
theorem pw_556 : (.code yX8_add cX8_add 4 none : Cond) ∈ lw_tbl := List.mem_of_getElem? (i := 620) rfl
theorem pw_557 : (.selects RX8 yX8_add yX8_add : Cond) ∈ lw_tbl := List.mem_of_getElem? (i := 2) (by decide +kernel)
theorem pw_558 : (.instanceMethod yX8_add : Cond) ∈ lw_tbl := List.mem_of_getElem? (i := 619) (by decide +kernel)
theorem pw_559 : (.methodLink RX8 40 yX8_add : Cond) ∈ lw_tbl := List.mem_of_getElem? (i := 617) (by decide +kernel)
theorem pw_560 : (.fieldLink RJ2 63 "java/lang/StringUTF16" "LO_BYTE_SHIFT" "I" : Cond) ∈ lw_tbl := List.mem_of_getElem? (i := 607) (by decide +kernel)
theorem pw_561 : (.fieldLink RJ2 59 "java/lang/StringUTF16" "HI_BYTE_SHIFT" "I" : Cond) ∈ lw_tbl := List.mem_of_getElem? (i := 605) (by decide +kernel)
theorem pw_562 : (.fieldLink RJ2 44 "java/lang/StringUTF16" "$assertionsDisabled" "Z" : Cond) ∈ lw_tbl := List.mem_of_getElem? (i := 603) (by decide +kernel)
set_option maxRecDepth 100000 in
theorem pw_563 : (.code yJ2_getChar_3b067 cJ2_getChar_3b067 2 (some .char) : Cond) ∈ lw_tbl := List.mem_of_getElem? (i := 602) rfl
theorem pw_564 : (.static yJ2_getChar_3b067 : Cond) ∈ lw_tbl := List.mem_of_getElem? (i := 601) (by decide +kernel)
theorem pw_565 : (.methodLink RJ2 71 yJ2_getChar_3b067 : Cond) ∈ lw_tbl := List.mem_of_getElem? (i := 600) (by decide +kernel)
theorem pw_566 : (.methodLink RJ2 414 yJ0_checkIndex_df160 : Cond) ∈ lw_tbl := List.mem_of_getElem? (i := 599) (by decide +kernel)
set_option maxRecDepth 100000 in
theorem pw_567 : (.code yJ2_length_9d52b cJ2_length_9d52b 1 (some .int) : Cond) ∈ lw_tbl := List.mem_of_getElem? (i := 598) rfl
theorem pw_568 : (.static yJ2_length_9d52b : Cond) ∈ lw_tbl := List.mem_of_getElem? (i := 597) (by decide +kernel)
theorem pw_569 : (.methodLink RJ2 48 yJ2_length_9d52b : Cond) ∈ lw_tbl := List.mem_of_getElem? (i := 596) (by decide +kernel)
set_option maxRecDepth 100000 in
theorem pw_570 : (.code yJ2_checkIndex_2214a cJ2_checkIndex_2214a 2 none : Cond) ∈ lw_tbl := List.mem_of_getElem? (i := 595) rfl
theorem pw_571 : (.static yJ2_checkIndex_2214a : Cond) ∈ lw_tbl := List.mem_of_getElem? (i := 594) (by decide +kernel)
theorem pw_572 : (.methodLink RJ2 67 yJ2_checkIndex_2214a : Cond) ∈ lw_tbl := List.mem_of_getElem? (i := 593) (by decide +kernel)
set_option maxRecDepth 100000 in
theorem pw_573 : (.code yJ2_charAt_3b067 cJ2_charAt_3b067 2 (some .char) : Cond) ∈ lw_tbl := List.mem_of_getElem? (i := 592) rfl
theorem pw_574 : (.initialized RJ2 : Cond) ∈ lw_tbl := List.mem_of_getElem? (i := 122) (by decide +kernel)
theorem pw_575 : (.static yJ2_charAt_3b067 : Cond) ∈ lw_tbl := List.mem_of_getElem? (i := 591) (by decide +kernel)
theorem pw_576 : (.methodLink RJ0 498 yJ2_charAt_3b067 : Cond) ∈ lw_tbl := List.mem_of_getElem? (i := 590) (by decide +kernel)
theorem ch_wsX10_text_r4 : ∀ w ∈ wsX10_text_r4, w ∈ lw_tbl := (List.forall_mem_cons.mpr ⟨pw_576, (List.forall_mem_cons.mpr ⟨pw_575, (List.forall_mem_cons.mpr ⟨pw_574, (List.forall_mem_cons.mpr ⟨pw_573, (List.forall_mem_cons.mpr ⟨pw_572, (List.forall_mem_cons.mpr ⟨pw_571, (List.forall_mem_cons.mpr ⟨pw_570, (List.forall_mem_cons.mpr ⟨pw_569, (List.forall_mem_cons.mpr ⟨pw_568, (List.forall_mem_cons.mpr ⟨pw_567, (List.forall_mem_cons.mpr ⟨pw_566, (List.forall_mem_cons.mpr ⟨pw_565, (List.forall_mem_cons.mpr ⟨pw_564, (List.forall_mem_cons.mpr ⟨pw_563, (List.forall_mem_cons.mpr ⟨pw_562, (List.forall_mem_cons.mpr ⟨pw_561, (List.forall_mem_cons.mpr ⟨pw_560, (List.forall_mem_cons.mpr ⟨pw_559, (List.forall_mem_cons.mpr ⟨pw_558, (List.forall_mem_cons.mpr ⟨pw_557, (List.forall_mem_cons.mpr ⟨pw_556, (List.forall_mem_cons.mpr ⟨pw_214, (List.forall_mem_cons.mpr ⟨pw_555, (List.forall_mem_cons.mpr ⟨pw_87, (fun _ h => absurd h List.not_mem_nil)⟩)⟩)⟩)⟩)⟩)⟩)⟩)⟩)⟩)⟩)⟩)⟩)⟩)⟩)⟩)⟩)⟩)⟩)⟩)⟩)⟩)⟩)⟩)⟩)
theorem pw_577 : (.fieldLink RX3 47 "NothingJudge$Code" "size" "I" : Cond) ∈ lw_tbl := List.mem_of_getElem? (i := 165) (by decide +kernel)
set_option maxRecDepth 100000 in
theorem pw_578 : (.code yX3_clear cX3_clear 1 none : Cond) ∈ lw_tbl := List.mem_of_getElem? (i := 637) rfl
theorem pw_579 : (.selects RX3 yX3_clear yX3_clear : Cond) ∈ lw_tbl := List.mem_of_getElem? (i := 636) (by decide +kernel)
theorem pw_580 : (.instanceMethod yX3_clear : Cond) ∈ lw_tbl := List.mem_of_getElem? (i := 635) (by decide +kernel)
theorem pw_581 : (.methodLink RX4 37 yX3_clear : Cond) ∈ lw_tbl := List.mem_of_getElem? (i := 634) (by decide +kernel)
theorem pw_582 : (.fieldLink RX4 46 "NothingJudge$Reader" "wrong" "I" : Cond) ∈ lw_tbl := List.mem_of_getElem? (i := 251) (by decide +kernel)
theorem pw_583 : (.fieldLink RX4 43 "NothingJudge$Reader" "open" "I" : Cond) ∈ lw_tbl := List.mem_of_getElem? (i := 249) (by decide +kernel)
theorem pw_584 : (.fieldLink RX4 40 "NothingJudge$Reader" "next" "I" : Cond) ∈ lw_tbl := List.mem_of_getElem? (i := 248) (by decide +kernel)
set_option maxRecDepth 100000 in
theorem pw_585 : (.code yX4_readInto cX4_readInto 3 none : Cond) ∈ lw_tbl := List.mem_of_getElem? (i := 633) rfl
theorem pw_586 : (.selects RX4 yX4_readInto yX4_readInto : Cond) ∈ lw_tbl := List.mem_of_getElem? (i := 632) (by decide +kernel)
theorem pw_587 : (.instanceMethod yX4_readInto : Cond) ∈ lw_tbl := List.mem_of_getElem? (i := 631) (by decide +kernel)
theorem pw_588 : (.methodLink RX10 98 yX4_readInto : Cond) ∈ lw_tbl := List.mem_of_getElem? (i := 630) (by decide +kernel)
set_option maxRecDepth 100000 in
theorem pw_589 : (.code yX8_kindOfSign cX8_kindOfSign 1 (some .int) : Cond) ∈ lw_tbl := List.mem_of_getElem? (i := 629) rfl
theorem pw_590 : (.static yX8_kindOfSign : Cond) ∈ lw_tbl := List.mem_of_getElem? (i := 628) (by decide +kernel)
theorem pw_591 : (.methodLink RX8 47 yX8_kindOfSign : Cond) ∈ lw_tbl := List.mem_of_getElem? (i := 627) (by decide +kernel)
theorem ch_wsX10_text_r5 : ∀ w ∈ wsX10_text_r5, w ∈ lw_tbl := (List.forall_mem_cons.mpr ⟨pw_48, (List.forall_mem_cons.mpr ⟨pw_86, (List.forall_mem_cons.mpr ⟨pw_591, (List.forall_mem_cons.mpr ⟨pw_590, (List.forall_mem_cons.mpr ⟨pw_589, (List.forall_mem_cons.mpr ⟨pw_588, (List.forall_mem_cons.mpr ⟨pw_587, (List.forall_mem_cons.mpr ⟨pw_586, (List.forall_mem_cons.mpr ⟨pw_196, (List.forall_mem_cons.mpr ⟨pw_585, (List.forall_mem_cons.mpr ⟨pw_262, (List.forall_mem_cons.mpr ⟨pw_261, (List.forall_mem_cons.mpr ⟨pw_260, (List.forall_mem_cons.mpr ⟨pw_584, (List.forall_mem_cons.mpr ⟨pw_583, (List.forall_mem_cons.mpr ⟨pw_582, (List.forall_mem_cons.mpr ⟨pw_231, (List.forall_mem_cons.mpr ⟨pw_581, (List.forall_mem_cons.mpr ⟨pw_580, (List.forall_mem_cons.mpr ⟨pw_579, (List.forall_mem_cons.mpr ⟨pw_65, (List.forall_mem_cons.mpr ⟨pw_578, (List.forall_mem_cons.mpr ⟨pw_249, (List.forall_mem_cons.mpr ⟨pw_577, (fun _ h => absurd h List.not_mem_nil)⟩)⟩)⟩)⟩)⟩)⟩)⟩)⟩)⟩)⟩)⟩)⟩)⟩)⟩)⟩)⟩)⟩)⟩)⟩)⟩)⟩)⟩)⟩)⟩)
theorem pw_592 : (.methodLink RX4 72 yX8_placeAt : Cond) ∈ lw_tbl := List.mem_of_getElem? (i := 654) (by decide +kernel)
set_option maxRecDepth 100000 in
theorem pw_593 : (.code yX4_take cX4_take 2 (some .boolean) : Cond) ∈ lw_tbl := List.mem_of_getElem? (i := 653) rfl
theorem pw_594 : (.selects RX4 yX4_take yX4_take : Cond) ∈ lw_tbl := List.mem_of_getElem? (i := 5) (by decide +kernel)
theorem pw_595 : (.instanceMethod yX4_take : Cond) ∈ lw_tbl := List.mem_of_getElem? (i := 652) (by decide +kernel)
theorem pw_596 : (.methodLink RX4 79 yX4_take : Cond) ∈ lw_tbl := List.mem_of_getElem? (i := 650) (by decide +kernel)
theorem pw_597 : (.fieldLink RX4 85 "NothingJudge$Reader" "letter" "I" : Cond) ∈ lw_tbl := List.mem_of_getElem? (i := 250) (by decide +kernel)
set_option maxRecDepth 100000 in
theorem pw_598 : (.code yX4_readHead cX4_readHead 2 (some .boolean) : Cond) ∈ lw_tbl := List.mem_of_getElem? (i := 649) rfl
theorem pw_599 : (.selects RX4 yX4_readHead yX4_readHead : Cond) ∈ lw_tbl := List.mem_of_getElem? (i := 4) (by decide +kernel)
theorem pw_600 : (.instanceMethod yX4_readHead : Cond) ∈ lw_tbl := List.mem_of_getElem? (i := 648) (by decide +kernel)
theorem pw_601 : (.methodLink RX4 55 yX4_readHead : Cond) ∈ lw_tbl := List.mem_of_getElem? (i := 646) (by decide +kernel)
set_option maxRecDepth 100000 in
theorem pw_602 : (.code yX8_kindAt cX8_kindAt 2 (some .int) : Cond) ∈ lw_tbl := List.mem_of_getElem? (i := 645) rfl
theorem pw_603 : (.selects RX8 yX8_kindAt yX8_kindAt : Cond) ∈ lw_tbl := List.mem_of_getElem? (i := 644) (by decide +kernel)
theorem pw_604 : (.instanceMethod yX8_kindAt : Cond) ∈ lw_tbl := List.mem_of_getElem? (i := 643) (by decide +kernel)
theorem pw_605 : (.methodLink RX4 68 yX8_kindAt : Cond) ∈ lw_tbl := List.mem_of_getElem? (i := 642) (by decide +kernel)
set_option maxRecDepth 100000 in
theorem pw_606 : (.code yX4_seen cX4_seen 2 (some .boolean) : Cond) ∈ lw_tbl := List.mem_of_getElem? (i := 641) rfl
theorem pw_607 : (.selects RX4 yX4_seen yX4_seen : Cond) ∈ lw_tbl := List.mem_of_getElem? (i := 3) (by decide +kernel)
theorem pw_608 : (.instanceMethod yX4_seen : Cond) ∈ lw_tbl := List.mem_of_getElem? (i := 640) (by decide +kernel)
theorem pw_609 : (.methodLink RX4 51 yX4_seen : Cond) ∈ lw_tbl := List.mem_of_getElem? (i := 638) (by decide +kernel)
theorem pw_610 : (.fieldLink RX3 59 "NothingJudge$Program" "tests" "I" : Cond) ∈ lw_tbl := List.mem_of_getElem? (i := 203) (by decide +kernel)
theorem pw_611 : (.fieldLink RX3 56 "NothingJudge$Program" "uses" "I" : Cond) ∈ lw_tbl := List.mem_of_getElem? (i := 199) (by decide +kernel)
theorem pw_612 : (.fieldLink RX3 53 "NothingJudge$Program" "routines" "I" : Cond) ∈ lw_tbl := List.mem_of_getElem? (i := 197) (by decide +kernel)
theorem ch_wsX10_text_r6 : ∀ w ∈ wsX10_text_r6, w ∈ lw_tbl := (List.forall_mem_cons.mpr ⟨pw_63, (List.forall_mem_cons.mpr ⟨pw_612, (List.forall_mem_cons.mpr ⟨pw_611, (List.forall_mem_cons.mpr ⟨pw_610, (List.forall_mem_cons.mpr ⟨pw_241, (List.forall_mem_cons.mpr ⟨pw_609, (List.forall_mem_cons.mpr ⟨pw_608, (List.forall_mem_cons.mpr ⟨pw_607, (List.forall_mem_cons.mpr ⟨pw_606, (List.forall_mem_cons.mpr ⟨pw_230, (List.forall_mem_cons.mpr ⟨pw_605, (List.forall_mem_cons.mpr ⟨pw_604, (List.forall_mem_cons.mpr ⟨pw_603, (List.forall_mem_cons.mpr ⟨pw_602, (List.forall_mem_cons.mpr ⟨pw_601, (List.forall_mem_cons.mpr ⟨pw_600, (List.forall_mem_cons.mpr ⟨pw_599, (List.forall_mem_cons.mpr ⟨pw_598, (List.forall_mem_cons.mpr ⟨pw_597, (List.forall_mem_cons.mpr ⟨pw_596, (List.forall_mem_cons.mpr ⟨pw_595, (List.forall_mem_cons.mpr ⟨pw_594, (List.forall_mem_cons.mpr ⟨pw_593, (List.forall_mem_cons.mpr ⟨pw_592, (fun _ h => absurd h List.not_mem_nil)⟩)⟩)⟩)⟩)⟩)⟩)⟩)⟩)⟩)⟩)⟩)⟩)⟩)⟩)⟩)⟩)⟩)⟩)⟩)⟩)⟩)⟩)⟩)⟩)
theorem pw_613 : (.instanceMethod yX4_readParameters : Cond) ∈ lw_tbl := List.mem_of_getElem? (i := 677) (by decide +kernel)
theorem pw_614 : (.methodLink RX4 95 yX4_readParameters : Cond) ∈ lw_tbl := List.mem_of_getElem? (i := 675) (by decide +kernel)
theorem pw_615 : (.methodLink RX3 62 yX5_put : Cond) ∈ lw_tbl := List.mem_of_getElem? (i := 674) (by decide +kernel)
set_option maxRecDepth 100000 in
theorem pw_616 : (.code yX3_addRoutine cX3_addRoutine 2 none : Cond) ∈ lw_tbl := List.mem_of_getElem? (i := 673) rfl
theorem pw_617 : (.selects RX3 yX3_addRoutine yX3_addRoutine : Cond) ∈ lw_tbl := List.mem_of_getElem? (i := 672) (by decide +kernel)
theorem pw_618 : (.instanceMethod yX3_addRoutine : Cond) ∈ lw_tbl := List.mem_of_getElem? (i := 671) (by decide +kernel)
theorem pw_619 : (.methodLink RX4 91 yX3_addRoutine : Cond) ∈ lw_tbl := List.mem_of_getElem? (i := 670) (by decide +kernel)
theorem pw_620 : (.methodLink RX4 88 yX3_has : Cond) ∈ lw_tbl := List.mem_of_getElem? (i := 666) (by decide +kernel)
set_option maxRecDepth 100000 in
theorem pw_621 : (.code yX8_letterAt cX8_letterAt 2 (some .int) : Cond) ∈ lw_tbl := List.mem_of_getElem? (i := 665) rfl
theorem pw_622 : (.selects RX8 yX8_letterAt yX8_letterAt : Cond) ∈ lw_tbl := List.mem_of_getElem? (i := 664) (by decide +kernel)
theorem pw_623 : (.instanceMethod yX8_letterAt : Cond) ∈ lw_tbl := List.mem_of_getElem? (i := 663) (by decide +kernel)
theorem pw_624 : (.methodLink RX4 82 yX8_letterAt : Cond) ∈ lw_tbl := List.mem_of_getElem? (i := 662) (by decide +kernel)
set_option maxRecDepth 100000 in
theorem pw_625 : (.code yX4_refuse cX4_refuse 3 (some .boolean) : Cond) ∈ lw_tbl := List.mem_of_getElem? (i := 661) rfl
theorem pw_626 : (.selects RX4 yX4_refuse yX4_refuse : Cond) ∈ lw_tbl := List.mem_of_getElem? (i := 6) (by decide +kernel)
theorem pw_627 : (.instanceMethod yX4_refuse : Cond) ∈ lw_tbl := List.mem_of_getElem? (i := 660) (by decide +kernel)
theorem pw_628 : (.methodLink RX4 75 yX4_refuse : Cond) ∈ lw_tbl := List.mem_of_getElem? (i := 658) (by decide +kernel)
set_option maxRecDepth 100000 in
theorem pw_629 : (.code yX8_placeAt cX8_placeAt 2 (some .int) : Cond) ∈ lw_tbl := List.mem_of_getElem? (i := 657) rfl
theorem pw_630 : (.selects RX8 yX8_placeAt yX8_placeAt : Cond) ∈ lw_tbl := List.mem_of_getElem? (i := 656) (by decide +kernel)
theorem pw_631 : (.instanceMethod yX8_placeAt : Cond) ∈ lw_tbl := List.mem_of_getElem? (i := 655) (by decide +kernel)
theorem ch_wsX10_text_r7 : ∀ w ∈ wsX10_text_r7, w ∈ lw_tbl := (List.forall_mem_cons.mpr ⟨pw_631, (List.forall_mem_cons.mpr ⟨pw_630, (List.forall_mem_cons.mpr ⟨pw_629, (List.forall_mem_cons.mpr ⟨pw_628, (List.forall_mem_cons.mpr ⟨pw_627, (List.forall_mem_cons.mpr ⟨pw_626, (List.forall_mem_cons.mpr ⟨pw_625, (List.forall_mem_cons.mpr ⟨pw_624, (List.forall_mem_cons.mpr ⟨pw_623, (List.forall_mem_cons.mpr ⟨pw_622, (List.forall_mem_cons.mpr ⟨pw_621, (List.forall_mem_cons.mpr ⟨pw_620, (List.forall_mem_cons.mpr ⟨pw_67, (List.forall_mem_cons.mpr ⟨pw_66, (List.forall_mem_cons.mpr ⟨pw_64, (List.forall_mem_cons.mpr ⟨pw_619, (List.forall_mem_cons.mpr ⟨pw_618, (List.forall_mem_cons.mpr ⟨pw_617, (List.forall_mem_cons.mpr ⟨pw_616, (List.forall_mem_cons.mpr ⟨pw_248, (List.forall_mem_cons.mpr ⟨pw_247, (List.forall_mem_cons.mpr ⟨pw_615, (List.forall_mem_cons.mpr ⟨pw_614, (List.forall_mem_cons.mpr ⟨pw_613, (fun _ h => absurd h List.not_mem_nil)⟩)⟩)⟩)⟩)⟩)⟩)⟩)⟩)⟩)⟩)⟩)⟩)⟩)⟩)⟩)⟩)⟩)⟩)⟩)⟩)⟩)⟩)⟩)⟩)
set_option maxRecDepth 100000 in
theorem pw_632 : (.code yX4_openBlock cX4_openBlock 4 (some .boolean) : Cond) ∈ lw_tbl := List.mem_of_getElem? (i := 697) rfl
theorem pw_633 : (.selects RX4 yX4_openBlock yX4_openBlock : Cond) ∈ lw_tbl := List.mem_of_getElem? (i := 8) (by decide +kernel)
theorem pw_634 : (.instanceMethod yX4_openBlock : Cond) ∈ lw_tbl := List.mem_of_getElem? (i := 696) (by decide +kernel)
theorem pw_635 : (.methodLink RX4 98 yX4_openBlock : Cond) ∈ lw_tbl := List.mem_of_getElem? (i := 694) (by decide +kernel)
set_option maxRecDepth 100000 in
theorem pw_636 : (.code yX3_addParameter cX3_addParameter 4 none : Cond) ∈ lw_tbl := List.mem_of_getElem? (i := 693) rfl
theorem pw_637 : (.selects RX3 yX3_addParameter yX3_addParameter : Cond) ∈ lw_tbl := List.mem_of_getElem? (i := 692) (by decide +kernel)
theorem pw_638 : (.instanceMethod yX3_addParameter : Cond) ∈ lw_tbl := List.mem_of_getElem? (i := 691) (by decide +kernel)
theorem pw_639 : (.methodLink RX4 104 yX3_addParameter : Cond) ∈ lw_tbl := List.mem_of_getElem? (i := 690) (by decide +kernel)
theorem pw_640 : (.methodLink RX3 72 yX3_parameter : Cond) ∈ lw_tbl := List.mem_of_getElem? (i := 686) (by decide +kernel)
set_option maxRecDepth 100000 in
theorem pw_641 : (.code yX3_hasParameter cX3_hasParameter 4 (some .boolean) : Cond) ∈ lw_tbl := List.mem_of_getElem? (i := 682) rfl
theorem pw_642 : (.selects RX3 yX3_hasParameter yX3_hasParameter : Cond) ∈ lw_tbl := List.mem_of_getElem? (i := 681) (by decide +kernel)
theorem pw_643 : (.instanceMethod yX3_hasParameter : Cond) ∈ lw_tbl := List.mem_of_getElem? (i := 680) (by decide +kernel)
theorem pw_644 : (.methodLink RX4 101 yX3_hasParameter : Cond) ∈ lw_tbl := List.mem_of_getElem? (i := 679) (by decide +kernel)
set_option maxRecDepth 100000 in
theorem pw_645 : (.code yX4_readParameters cX4_readParameters 4 (some .boolean) : Cond) ∈ lw_tbl := List.mem_of_getElem? (i := 678) rfl
theorem pw_646 : (.selects RX4 yX4_readParameters yX4_readParameters : Cond) ∈ lw_tbl := List.mem_of_getElem? (i := 7) (by decide +kernel)
theorem ch_wsX10_text_r8 : ∀ w ∈ wsX10_text_r8, w ∈ lw_tbl := (List.forall_mem_cons.mpr ⟨pw_646, (List.forall_mem_cons.mpr ⟨pw_645, (List.forall_mem_cons.mpr ⟨pw_644, (List.forall_mem_cons.mpr ⟨pw_643, (List.forall_mem_cons.mpr ⟨pw_642, (List.forall_mem_cons.mpr ⟨pw_641, (List.forall_mem_cons.mpr ⟨pw_73, (List.forall_mem_cons.mpr ⟨pw_49, (List.forall_mem_cons.mpr ⟨pw_95, (List.forall_mem_cons.mpr ⟨pw_640, (List.forall_mem_cons.mpr ⟨pw_77, (List.forall_mem_cons.mpr ⟨pw_76, (List.forall_mem_cons.mpr ⟨pw_75, (List.forall_mem_cons.mpr ⟨pw_74, (List.forall_mem_cons.mpr ⟨pw_639, (List.forall_mem_cons.mpr ⟨pw_638, (List.forall_mem_cons.mpr ⟨pw_637, (List.forall_mem_cons.mpr ⟨pw_636, (List.forall_mem_cons.mpr ⟨pw_635, (List.forall_mem_cons.mpr ⟨pw_634, (List.forall_mem_cons.mpr ⟨pw_633, (List.forall_mem_cons.mpr ⟨pw_632, (List.forall_mem_cons.mpr ⟨pw_233, (List.forall_mem_cons.mpr ⟨pw_232, (fun _ h => absurd h List.not_mem_nil)⟩)⟩)⟩)⟩)⟩)⟩)⟩)⟩)⟩)⟩)⟩)⟩)⟩)⟩)⟩)⟩)⟩)⟩)⟩)⟩)⟩)⟩)⟩)⟩)
theorem pw_647 : (.methodLink RX4 62 yX4_readStatement : Cond) ∈ lw_tbl := List.mem_of_getElem? (i := 717) (by decide +kernel)
set_option maxRecDepth 100000 in
theorem pw_648 : (.code yX4_closeIf cX4_closeIf 3 none : Cond) ∈ lw_tbl := List.mem_of_getElem? (i := 716) rfl
theorem pw_649 : (.selects RX4 yX4_closeIf yX4_closeIf : Cond) ∈ lw_tbl := List.mem_of_getElem? (i := 10) (by decide +kernel)
theorem pw_650 : (.instanceMethod yX4_closeIf : Cond) ∈ lw_tbl := List.mem_of_getElem? (i := 715) (by decide +kernel)
theorem pw_651 : (.methodLink RX4 131 yX4_closeIf : Cond) ∈ lw_tbl := List.mem_of_getElem? (i := 713) (by decide +kernel)
theorem pw_652 : (.methodLink RX4 124 yX0_set : Cond) ∈ lw_tbl := List.mem_of_getElem? (i := 712) (by decide +kernel)
set_option maxRecDepth 100000 in
theorem pw_653 : (.code yX0_set cX0_set 5 none : Cond) ∈ lw_tbl := List.mem_of_getElem? (i := 711) rfl
theorem pw_654 : (.selects RX0 yX0_set yX0_set : Cond) ∈ lw_tbl := List.mem_of_getElem? (i := 710) (by decide +kernel)
theorem pw_655 : (.instanceMethod yX0_set : Cond) ∈ lw_tbl := List.mem_of_getElem? (i := 709) (by decide +kernel)
theorem pw_656 : (.methodLink RX0 19 yX0_set : Cond) ∈ lw_tbl := List.mem_of_getElem? (i := 708) (by decide +kernel)
set_option maxRecDepth 100000 in
theorem pw_657 : (.code yX0_add cX0_add 5 (some .int) : Cond) ∈ lw_tbl := List.mem_of_getElem? (i := 707) rfl
theorem pw_658 : (.selects RX0 yX0_add yX0_add : Cond) ∈ lw_tbl := List.mem_of_getElem? (i := 706) (by decide +kernel)
theorem pw_659 : (.instanceMethod yX0_add : Cond) ∈ lw_tbl := List.mem_of_getElem? (i := 705) (by decide +kernel)
theorem pw_660 : (.methodLink RX4 120 yX0_add : Cond) ∈ lw_tbl := List.mem_of_getElem? (i := 704) (by decide +kernel)
theorem pw_661 : (.methodLink RX4 114 yX5_at : Cond) ∈ lw_tbl := List.mem_of_getElem? (i := 703) (by decide +kernel)
theorem pw_662 : (.fieldLink RX4 128 "NothingJudge$Code" "size" "I" : Cond) ∈ lw_tbl := List.mem_of_getElem? (i := 167) (by decide +kernel)
set_option maxRecDepth 100000 in
theorem pw_663 : (.code yX4_closeBlock cX4_closeBlock 2 none : Cond) ∈ lw_tbl := List.mem_of_getElem? (i := 702) rfl
theorem pw_664 : (.selects RX4 yX4_closeBlock yX4_closeBlock : Cond) ∈ lw_tbl := List.mem_of_getElem? (i := 9) (by decide +kernel)
theorem pw_665 : (.instanceMethod yX4_closeBlock : Cond) ∈ lw_tbl := List.mem_of_getElem? (i := 701) (by decide +kernel)
theorem pw_666 : (.methodLink RX4 59 yX4_closeBlock : Cond) ∈ lw_tbl := List.mem_of_getElem? (i := 699) (by decide +kernel)
theorem pw_667 : (.methodLink RX4 108 yX5_put : Cond) ∈ lw_tbl := List.mem_of_getElem? (i := 698) (by decide +kernel)
theorem ch_wsX10_text_r9 : ∀ w ∈ wsX10_text_r9, w ∈ lw_tbl := (List.forall_mem_cons.mpr ⟨pw_667, (List.forall_mem_cons.mpr ⟨pw_666, (List.forall_mem_cons.mpr ⟨pw_665, (List.forall_mem_cons.mpr ⟨pw_664, (List.forall_mem_cons.mpr ⟨pw_663, (List.forall_mem_cons.mpr ⟨pw_662, (List.forall_mem_cons.mpr ⟨pw_661, (List.forall_mem_cons.mpr ⟨pw_660, (List.forall_mem_cons.mpr ⟨pw_659, (List.forall_mem_cons.mpr ⟨pw_658, (List.forall_mem_cons.mpr ⟨pw_104, (List.forall_mem_cons.mpr ⟨pw_657, (List.forall_mem_cons.mpr ⟨pw_102, (List.forall_mem_cons.mpr ⟨pw_656, (List.forall_mem_cons.mpr ⟨pw_655, (List.forall_mem_cons.mpr ⟨pw_654, (List.forall_mem_cons.mpr ⟨pw_653, (List.forall_mem_cons.mpr ⟨pw_101, (List.forall_mem_cons.mpr ⟨pw_652, (List.forall_mem_cons.mpr ⟨pw_651, (List.forall_mem_cons.mpr ⟨pw_650, (List.forall_mem_cons.mpr ⟨pw_649, (List.forall_mem_cons.mpr ⟨pw_648, (List.forall_mem_cons.mpr ⟨pw_647, (fun _ h => absurd h List.not_mem_nil)⟩)⟩)⟩)⟩)⟩)⟩)⟩)⟩)⟩)⟩)⟩)⟩)⟩)⟩)⟩)⟩)⟩)⟩)⟩)⟩)⟩)⟩)⟩)⟩)
theorem pw_668 : (.methodLink RX4 153 yX4_readValue : Cond) ∈ lw_tbl := List.mem_of_getElem? (i := 737) (by decide +kernel)
set_option maxRecDepth 100000 in
theorem pw_669 : (.code yX4_readField cX4_readField 4 (some .boolean) : Cond) ∈ lw_tbl := List.mem_of_getElem? (i := 736) rfl
theorem pw_670 : (.selects RX4 yX4_readField yX4_readField : Cond) ∈ lw_tbl := List.mem_of_getElem? (i := 14) (by decide +kernel)
theorem pw_671 : (.instanceMethod yX4_readField : Cond) ∈ lw_tbl := List.mem_of_getElem? (i := 735) (by decide +kernel)
theorem pw_672 : (.methodLink RX4 150 yX4_readField : Cond) ∈ lw_tbl := List.mem_of_getElem? (i := 733) (by decide +kernel)
set_option maxRecDepth 100000 in
theorem pw_673 : (.code yX3_addUse cX3_addUse 5 (some .int) : Cond) ∈ lw_tbl := List.mem_of_getElem? (i := 732) rfl
theorem pw_674 : (.selects RX3 yX3_addUse yX3_addUse : Cond) ∈ lw_tbl := List.mem_of_getElem? (i := 731) (by decide +kernel)
theorem pw_675 : (.instanceMethod yX3_addUse : Cond) ∈ lw_tbl := List.mem_of_getElem? (i := 730) (by decide +kernel)
theorem pw_676 : (.methodLink RX4 159 yX3_addUse : Cond) ∈ lw_tbl := List.mem_of_getElem? (i := 729) (by decide +kernel)
theorem pw_677 : (.fieldLink RX4 156 "NothingJudge$Program" "uses" "I" : Cond) ∈ lw_tbl := List.mem_of_getElem? (i := 202) (by decide +kernel)
set_option maxRecDepth 100000 in
theorem pw_678 : (.code yX4_readUse cX4_readUse 4 (some .boolean) : Cond) ∈ lw_tbl := List.mem_of_getElem? (i := 728) rfl
theorem pw_679 : (.selects RX4 yX4_readUse yX4_readUse : Cond) ∈ lw_tbl := List.mem_of_getElem? (i := 13) (by decide +kernel)
theorem pw_680 : (.instanceMethod yX4_readUse : Cond) ∈ lw_tbl := List.mem_of_getElem? (i := 727) (by decide +kernel)
theorem pw_681 : (.methodLink RX4 146 yX4_readUse : Cond) ∈ lw_tbl := List.mem_of_getElem? (i := 725) (by decide +kernel)
set_option maxRecDepth 100000 in
theorem pw_682 : (.code yX4_readPut cX4_readPut 3 (some .boolean) : Cond) ∈ lw_tbl := List.mem_of_getElem? (i := 724) rfl
theorem pw_683 : (.selects RX4 yX4_readPut yX4_readPut : Cond) ∈ lw_tbl := List.mem_of_getElem? (i := 12) (by decide +kernel)
theorem pw_684 : (.instanceMethod yX4_readPut : Cond) ∈ lw_tbl := List.mem_of_getElem? (i := 723) (by decide +kernel)
theorem pw_685 : (.methodLink RX4 134 yX4_readPut : Cond) ∈ lw_tbl := List.mem_of_getElem? (i := 721) (by decide +kernel)
set_option maxRecDepth 100000 in
theorem pw_686 : (.code yX4_readStatement cX4_readStatement 1 (some .boolean) : Cond) ∈ lw_tbl := List.mem_of_getElem? (i := 720) rfl
theorem pw_687 : (.selects RX4 yX4_readStatement yX4_readStatement : Cond) ∈ lw_tbl := List.mem_of_getElem? (i := 11) (by decide +kernel)
theorem pw_688 : (.instanceMethod yX4_readStatement : Cond) ∈ lw_tbl := List.mem_of_getElem? (i := 719) (by decide +kernel)
theorem ch_wsX10_text_r10 : ∀ w ∈ wsX10_text_r10, w ∈ lw_tbl := (List.forall_mem_cons.mpr ⟨pw_688, (List.forall_mem_cons.mpr ⟨pw_687, (List.forall_mem_cons.mpr ⟨pw_686, (List.forall_mem_cons.mpr ⟨pw_685, (List.forall_mem_cons.mpr ⟨pw_684, (List.forall_mem_cons.mpr ⟨pw_683, (List.forall_mem_cons.mpr ⟨pw_682, (List.forall_mem_cons.mpr ⟨pw_681, (List.forall_mem_cons.mpr ⟨pw_680, (List.forall_mem_cons.mpr ⟨pw_679, (List.forall_mem_cons.mpr ⟨pw_678, (List.forall_mem_cons.mpr ⟨pw_677, (List.forall_mem_cons.mpr ⟨pw_676, (List.forall_mem_cons.mpr ⟨pw_675, (List.forall_mem_cons.mpr ⟨pw_674, (List.forall_mem_cons.mpr ⟨pw_673, (List.forall_mem_cons.mpr ⟨pw_246, (List.forall_mem_cons.mpr ⟨pw_245, (List.forall_mem_cons.mpr ⟨pw_244, (List.forall_mem_cons.mpr ⟨pw_672, (List.forall_mem_cons.mpr ⟨pw_671, (List.forall_mem_cons.mpr ⟨pw_670, (List.forall_mem_cons.mpr ⟨pw_669, (List.forall_mem_cons.mpr ⟨pw_668, (fun _ h => absurd h List.not_mem_nil)⟩)⟩)⟩)⟩)⟩)⟩)⟩)⟩)⟩)⟩)⟩)⟩)⟩)⟩)⟩)⟩)⟩)⟩)⟩)⟩)⟩)⟩)⟩)⟩)
theorem pw_689 : (.constant RX0 27 (1048576) : Cond) ∈ lw_tbl := List.mem_of_getElem? (i := 761) (by decide +kernel)
set_option maxRecDepth 100000 in
theorem pw_690 : (.code yX0_addArgument cX0_addArgument 5 none : Cond) ∈ lw_tbl := List.mem_of_getElem? (i := 756) rfl
theorem pw_691 : (.selects RX0 yX0_addArgument yX0_addArgument : Cond) ∈ lw_tbl := List.mem_of_getElem? (i := 755) (by decide +kernel)
theorem pw_692 : (.instanceMethod yX0_addArgument : Cond) ∈ lw_tbl := List.mem_of_getElem? (i := 754) (by decide +kernel)
theorem pw_693 : (.methodLink RX4 178 yX0_addArgument : Cond) ∈ lw_tbl := List.mem_of_getElem? (i := 753) (by decide +kernel)
set_option maxRecDepth 100000 in
theorem pw_694 : (.code yX4_readCall cX4_readCall 4 (some .boolean) : Cond) ∈ lw_tbl := List.mem_of_getElem? (i := 752) rfl
theorem pw_695 : (.selects RX4 yX4_readCall yX4_readCall : Cond) ∈ lw_tbl := List.mem_of_getElem? (i := 18) (by decide +kernel)
theorem pw_696 : (.instanceMethod yX4_readCall : Cond) ∈ lw_tbl := List.mem_of_getElem? (i := 751) (by decide +kernel)
theorem pw_697 : (.methodLink RX4 137 yX4_readCall : Cond) ∈ lw_tbl := List.mem_of_getElem? (i := 749) (by decide +kernel)
set_option maxRecDepth 100000 in
theorem pw_698 : (.code yX4_readNameOrField cX4_readNameOrField 3 (some .boolean) : Cond) ∈ lw_tbl := List.mem_of_getElem? (i := 748) rfl
theorem pw_699 : (.selects RX4 yX4_readNameOrField yX4_readNameOrField : Cond) ∈ lw_tbl := List.mem_of_getElem? (i := 17) (by decide +kernel)
theorem pw_700 : (.instanceMethod yX4_readNameOrField : Cond) ∈ lw_tbl := List.mem_of_getElem? (i := 747) (by decide +kernel)
theorem pw_701 : (.methodLink RX4 175 yX4_readNameOrField : Cond) ∈ lw_tbl := List.mem_of_getElem? (i := 745) (by decide +kernel)
set_option maxRecDepth 100000 in
theorem pw_702 : (.code yX4_readName cX4_readName 3 (some .boolean) : Cond) ∈ lw_tbl := List.mem_of_getElem? (i := 744) rfl
theorem pw_703 : (.selects RX4 yX4_readName yX4_readName : Cond) ∈ lw_tbl := List.mem_of_getElem? (i := 16) (by decide +kernel)
theorem pw_704 : (.instanceMethod yX4_readName : Cond) ∈ lw_tbl := List.mem_of_getElem? (i := 743) (by decide +kernel)
theorem pw_705 : (.methodLink RX4 172 yX4_readName : Cond) ∈ lw_tbl := List.mem_of_getElem? (i := 741) (by decide +kernel)
set_option maxRecDepth 100000 in
theorem pw_706 : (.code yX4_readValue cX4_readValue 2 (some .boolean) : Cond) ∈ lw_tbl := List.mem_of_getElem? (i := 740) rfl
theorem pw_707 : (.selects RX4 yX4_readValue yX4_readValue : Cond) ∈ lw_tbl := List.mem_of_getElem? (i := 15) (by decide +kernel)
theorem pw_708 : (.instanceMethod yX4_readValue : Cond) ∈ lw_tbl := List.mem_of_getElem? (i := 739) (by decide +kernel)
theorem ch_wsX10_text_r11 : ∀ w ∈ wsX10_text_r11, w ∈ lw_tbl := (List.forall_mem_cons.mpr ⟨pw_708, (List.forall_mem_cons.mpr ⟨pw_707, (List.forall_mem_cons.mpr ⟨pw_706, (List.forall_mem_cons.mpr ⟨pw_705, (List.forall_mem_cons.mpr ⟨pw_704, (List.forall_mem_cons.mpr ⟨pw_703, (List.forall_mem_cons.mpr ⟨pw_702, (List.forall_mem_cons.mpr ⟨pw_701, (List.forall_mem_cons.mpr ⟨pw_700, (List.forall_mem_cons.mpr ⟨pw_699, (List.forall_mem_cons.mpr ⟨pw_698, (List.forall_mem_cons.mpr ⟨pw_697, (List.forall_mem_cons.mpr ⟨pw_696, (List.forall_mem_cons.mpr ⟨pw_695, (List.forall_mem_cons.mpr ⟨pw_694, (List.forall_mem_cons.mpr ⟨pw_693, (List.forall_mem_cons.mpr ⟨pw_692, (List.forall_mem_cons.mpr ⟨pw_691, (List.forall_mem_cons.mpr ⟨pw_690, (List.forall_mem_cons.mpr ⟨pw_689, (List.forall_mem_cons.mpr ⟨pw_122, (List.forall_mem_cons.mpr ⟨pw_106, (List.forall_mem_cons.mpr ⟨pw_105, (List.forall_mem_cons.mpr ⟨pw_103, (fun _ h => absurd h List.not_mem_nil)⟩)⟩)⟩)⟩)⟩)⟩)⟩)⟩)⟩)⟩)⟩)⟩)⟩)⟩)⟩)⟩)⟩)⟩)⟩)⟩)⟩)⟩)⟩)⟩)
theorem pw_709 : (.fieldLink RX4 184 "NothingJudge$Program" "arity" "[I" : Cond) ∈ lw_tbl := List.mem_of_getElem? (i := 184) (by decide +kernel)
set_option maxRecDepth 100000 in
theorem pw_710 : (.code yX4_checkCalls cX4_checkCalls 3 none : Cond) ∈ lw_tbl := List.mem_of_getElem? (i := 781) rfl
theorem pw_711 : (.selects RX4 yX4_checkCalls yX4_checkCalls : Cond) ∈ lw_tbl := List.mem_of_getElem? (i := 22) (by decide +kernel)
theorem pw_712 : (.instanceMethod yX4_checkCalls : Cond) ∈ lw_tbl := List.mem_of_getElem? (i := 780) (by decide +kernel)
theorem pw_713 : (.methodLink RX4 65 yX4_checkCalls : Cond) ∈ lw_tbl := List.mem_of_getElem? (i := 778) (by decide +kernel)
set_option maxRecDepth 100000 in
theorem pw_714 : (.code yX4_readComparison cX4_readComparison 3 (some .boolean) : Cond) ∈ lw_tbl := List.mem_of_getElem? (i := 777) rfl
theorem pw_715 : (.selects RX4 yX4_readComparison yX4_readComparison : Cond) ∈ lw_tbl := List.mem_of_getElem? (i := 21) (by decide +kernel)
theorem pw_716 : (.instanceMethod yX4_readComparison : Cond) ∈ lw_tbl := List.mem_of_getElem? (i := 776) (by decide +kernel)
theorem pw_717 : (.methodLink RX4 169 yX4_readComparison : Cond) ∈ lw_tbl := List.mem_of_getElem? (i := 774) (by decide +kernel)
set_option maxRecDepth 100000 in
theorem pw_718 : (.code yX3_addTest cX3_addTest 4 (some .int) : Cond) ∈ lw_tbl := List.mem_of_getElem? (i := 773) rfl
theorem pw_719 : (.selects RX3 yX3_addTest yX3_addTest : Cond) ∈ lw_tbl := List.mem_of_getElem? (i := 772) (by decide +kernel)
theorem pw_720 : (.instanceMethod yX3_addTest : Cond) ∈ lw_tbl := List.mem_of_getElem? (i := 771) (by decide +kernel)
theorem pw_721 : (.methodLink RX4 166 yX3_addTest : Cond) ∈ lw_tbl := List.mem_of_getElem? (i := 770) (by decide +kernel)
theorem pw_722 : (.fieldLink RX4 163 "NothingJudge$Program" "tests" "I" : Cond) ∈ lw_tbl := List.mem_of_getElem? (i := 205) (by decide +kernel)
set_option maxRecDepth 100000 in
theorem pw_723 : (.code yX4_readBranch cX4_readBranch 5 (some .boolean) : Cond) ∈ lw_tbl := List.mem_of_getElem? (i := 769) rfl
theorem pw_724 : (.selects RX4 yX4_readBranch yX4_readBranch : Cond) ∈ lw_tbl := List.mem_of_getElem? (i := 20) (by decide +kernel)
theorem pw_725 : (.instanceMethod yX4_readBranch : Cond) ∈ lw_tbl := List.mem_of_getElem? (i := 768) (by decide +kernel)
theorem pw_726 : (.methodLink RX4 143 yX4_readBranch : Cond) ∈ lw_tbl := List.mem_of_getElem? (i := 766) (by decide +kernel)
set_option maxRecDepth 100000 in
theorem pw_727 : (.code yX4_readReturn cX4_readReturn 2 (some .boolean) : Cond) ∈ lw_tbl := List.mem_of_getElem? (i := 765) rfl
theorem pw_728 : (.selects RX4 yX4_readReturn yX4_readReturn : Cond) ∈ lw_tbl := List.mem_of_getElem? (i := 19) (by decide +kernel)
theorem pw_729 : (.instanceMethod yX4_readReturn : Cond) ∈ lw_tbl := List.mem_of_getElem? (i := 764) (by decide +kernel)
theorem pw_730 : (.methodLink RX4 140 yX4_readReturn : Cond) ∈ lw_tbl := List.mem_of_getElem? (i := 762) (by decide +kernel)
theorem ch_wsX10_text_r12 : ∀ w ∈ wsX10_text_r12, w ∈ lw_tbl := (List.forall_mem_cons.mpr ⟨pw_730, (List.forall_mem_cons.mpr ⟨pw_729, (List.forall_mem_cons.mpr ⟨pw_728, (List.forall_mem_cons.mpr ⟨pw_727, (List.forall_mem_cons.mpr ⟨pw_726, (List.forall_mem_cons.mpr ⟨pw_725, (List.forall_mem_cons.mpr ⟨pw_724, (List.forall_mem_cons.mpr ⟨pw_723, (List.forall_mem_cons.mpr ⟨pw_722, (List.forall_mem_cons.mpr ⟨pw_721, (List.forall_mem_cons.mpr ⟨pw_720, (List.forall_mem_cons.mpr ⟨pw_719, (List.forall_mem_cons.mpr ⟨pw_718, (List.forall_mem_cons.mpr ⟨pw_243, (List.forall_mem_cons.mpr ⟨pw_242, (List.forall_mem_cons.mpr ⟨pw_717, (List.forall_mem_cons.mpr ⟨pw_716, (List.forall_mem_cons.mpr ⟨pw_715, (List.forall_mem_cons.mpr ⟨pw_714, (List.forall_mem_cons.mpr ⟨pw_713, (List.forall_mem_cons.mpr ⟨pw_712, (List.forall_mem_cons.mpr ⟨pw_711, (List.forall_mem_cons.mpr ⟨pw_710, (List.forall_mem_cons.mpr ⟨pw_709, (fun _ h => absurd h List.not_mem_nil)⟩)⟩)⟩)⟩)⟩)⟩)⟩)⟩)⟩)⟩)⟩)⟩)⟩)⟩)⟩)⟩)⟩)⟩)⟩)⟩)⟩)⟩)⟩)⟩)
theorem pw_731 : (.methodLink RX4 187 yX0_arguments : Cond) ∈ lw_tbl := List.mem_of_getElem? (i := 783) (by decide +kernel)
theorem pw_732 : (.methodLink RX4 181 yX0_get : Cond) ∈ lw_tbl := List.mem_of_getElem? (i := 782) (by decide +kernel)
theorem ch_wsX10_text_r13 : ∀ w ∈ wsX10_text_r13, w ∈ lw_tbl := (List.forall_mem_cons.mpr ⟨pw_732, (List.forall_mem_cons.mpr ⟨pw_731, (List.forall_mem_cons.mpr ⟨pw_125, (List.forall_mem_cons.mpr ⟨pw_124, (List.forall_mem_cons.mpr ⟨pw_123, (List.forall_mem_cons.mpr ⟨pw_164, (List.forall_mem_cons.mpr ⟨pw_163, (List.forall_mem_cons.mpr ⟨pw_162, (List.forall_mem_cons.mpr ⟨pw_59, (List.forall_mem_cons.mpr ⟨pw_161, (List.forall_mem_cons.mpr ⟨pw_55, (List.forall_mem_cons.mpr ⟨pw_160, (List.forall_mem_cons.mpr ⟨pw_159, (List.forall_mem_cons.mpr ⟨pw_28, (List.forall_mem_cons.mpr ⟨pw_31, (List.forall_mem_cons.mpr ⟨pw_27, (List.forall_mem_cons.mpr ⟨pw_158, (List.forall_mem_cons.mpr ⟨pw_157, (List.forall_mem_cons.mpr ⟨pw_156, (List.forall_mem_cons.mpr ⟨pw_14, (List.forall_mem_cons.mpr ⟨pw_155, (List.forall_mem_cons.mpr ⟨pw_12, (List.forall_mem_cons.mpr ⟨pw_170, (List.forall_mem_cons.mpr ⟨pw_169, (fun _ h => absurd h List.not_mem_nil)⟩)⟩)⟩)⟩)⟩)⟩)⟩)⟩)⟩)⟩)⟩)⟩)⟩)⟩)⟩)⟩)⟩)⟩)⟩)⟩)⟩)⟩)⟩)⟩)
theorem ch_wsX10_text_r14 : ∀ w ∈ wsX10_text_r14, w ∈ lw_tbl := (List.forall_mem_cons.mpr ⟨pw_168, (List.forall_mem_cons.mpr ⟨pw_167, (List.forall_mem_cons.mpr ⟨pw_166, (fun _ h => absurd h List.not_mem_nil)⟩)⟩)⟩)
set_option maxRecDepth 100000 in
theorem pw_733 : (.code yX10_text cX10_text 3 (some .int) : Cond) ∈ lw_tbl := List.mem_of_getElem? (i := 539) rfl
set_option maxRecDepth 20000 in
theorem lm_wsX10_text : ∀ w ∈ wsX10_text, w ∈ lw_tbl := List.forall_mem_cons.mpr ⟨pw_733, (wL_app (wL_app (wL_app (wL_app (wL_app (wL_app (wL_app (wL_app (wL_app (wL_app ch_wsX10_text_r1 (wL_app ch_wsX10_text_r2 (wL_app ch_wsX10_text_r3 (wL_app ch_wsX10_text_r4 (wL_app ch_wsX10_text_r5 (wL_app ch_wsX10_text_r6 (wL_app ch_wsX10_text_r7 (wL_app ch_wsX10_text_r8 (wL_app ch_wsX10_text_r9 (wL_app ch_wsX10_text_r10 (wL_app ch_wsX10_text_r11 (wL_app ch_wsX10_text_r12 (wL_app ch_wsX10_text_r13 ch_wsX10_text_r14))))))))))))) wL_wsX100) wL_wsX40) wL_wsX70) wL_wsX30) wL_wsX80) wL_wsX00) wL_wsX10) wL_wsX90) wL_wsX20)⟩
theorem pw_734 : (.selects RX10 yX10_text yX10_text : Cond) ∈ lw_tbl := List.mem_of_getElem? (i := 538) (by decide +kernel)
theorem pw_735 : (.instanceMethod yX10_text : Cond) ∈ lw_tbl := List.mem_of_getElem? (i := 537) (by decide +kernel)
theorem pw_736 : (.methodLink RL 18 yX10_text : Cond) ∈ lw_tbl := List.mem_of_getElem? (i := 536) (by decide +kernel)
set_option maxRecDepth 20000 in
theorem gW_X10_text : GoodIn lw_tbl (wsV RL 18 RX10 yX10_text wsX10_text) := goodIn_sub (wL_app (List.forall_mem_cons.mpr ⟨pw_736, (List.forall_mem_cons.mpr ⟨pw_735, (List.forall_mem_cons.mpr ⟨pw_734, (List.forall_mem_cons.mpr ⟨pw_14, (fun _ h => absurd h List.not_mem_nil)⟩)⟩)⟩)⟩) lm_wsX10_text) (by decide +kernel)
theorem pw_737 : (.fieldLink RX10 216 "NothingJudge$Trials" "first" "[I" : Cond) ∈ lw_tbl := List.mem_of_getElem? (i := 427) (by decide +kernel)
theorem ch_wsX10_tries_r1 : ∀ w ∈ wsX10_tries_r1, w ∈ lw_tbl := (List.forall_mem_cons.mpr ⟨pw_23, (List.forall_mem_cons.mpr ⟨pw_22, (List.forall_mem_cons.mpr ⟨pw_20, (List.forall_mem_cons.mpr ⟨pw_12, (List.forall_mem_cons.mpr ⟨pw_169, (List.forall_mem_cons.mpr ⟨pw_737, (List.forall_mem_cons.mpr ⟨pw_10, (List.forall_mem_cons.mpr ⟨pw_9, (List.forall_mem_cons.mpr ⟨pw_8, (List.forall_mem_cons.mpr ⟨pw_7, (List.forall_mem_cons.mpr ⟨pw_6, (List.forall_mem_cons.mpr ⟨pw_5, (List.forall_mem_cons.mpr ⟨pw_4, (List.forall_mem_cons.mpr ⟨pw_3, (List.forall_mem_cons.mpr ⟨pw_2, (List.forall_mem_cons.mpr ⟨pw_1, (List.forall_mem_cons.mpr ⟨pw_0, (List.forall_mem_cons.mpr ⟨pw_47, (List.forall_mem_cons.mpr ⟨pw_46, (List.forall_mem_cons.mpr ⟨pw_45, (List.forall_mem_cons.mpr ⟨pw_44, (List.forall_mem_cons.mpr ⟨pw_43, (List.forall_mem_cons.mpr ⟨pw_42, (List.forall_mem_cons.mpr ⟨pw_41, (fun _ h => absurd h List.not_mem_nil)⟩)⟩)⟩)⟩)⟩)⟩)⟩)⟩)⟩)⟩)⟩)⟩)⟩)⟩)⟩)⟩)⟩)⟩)⟩)⟩)⟩)⟩)⟩)⟩)
theorem ch_wsX10_tries_r2 : ∀ w ∈ wsX10_tries_r2, w ∈ lw_tbl := (List.forall_mem_cons.mpr ⟨pw_40, (List.forall_mem_cons.mpr ⟨pw_39, (List.forall_mem_cons.mpr ⟨pw_38, (List.forall_mem_cons.mpr ⟨pw_37, (List.forall_mem_cons.mpr ⟨pw_36, (List.forall_mem_cons.mpr ⟨pw_35, (List.forall_mem_cons.mpr ⟨pw_34, (List.forall_mem_cons.mpr ⟨pw_33, (List.forall_mem_cons.mpr ⟨pw_32, (List.forall_mem_cons.mpr ⟨pw_31, (List.forall_mem_cons.mpr ⟨pw_30, (List.forall_mem_cons.mpr ⟨pw_29, (List.forall_mem_cons.mpr ⟨pw_28, (List.forall_mem_cons.mpr ⟨pw_27, (List.forall_mem_cons.mpr ⟨pw_26, (List.forall_mem_cons.mpr ⟨pw_25, (List.forall_mem_cons.mpr ⟨pw_24, (List.forall_mem_cons.mpr ⟨pw_71, (List.forall_mem_cons.mpr ⟨pw_70, (List.forall_mem_cons.mpr ⟨pw_69, (List.forall_mem_cons.mpr ⟨pw_68, (List.forall_mem_cons.mpr ⟨pw_67, (List.forall_mem_cons.mpr ⟨pw_66, (List.forall_mem_cons.mpr ⟨pw_65, (fun _ h => absurd h List.not_mem_nil)⟩)⟩)⟩)⟩)⟩)⟩)⟩)⟩)⟩)⟩)⟩)⟩)⟩)⟩)⟩)⟩)⟩)⟩)⟩)⟩)⟩)⟩)⟩)⟩)
theorem ch_wsX10_tries_r3 : ∀ w ∈ wsX10_tries_r3, w ∈ lw_tbl := (List.forall_mem_cons.mpr ⟨pw_64, (List.forall_mem_cons.mpr ⟨pw_63, (List.forall_mem_cons.mpr ⟨pw_62, (List.forall_mem_cons.mpr ⟨pw_61, (List.forall_mem_cons.mpr ⟨pw_60, (List.forall_mem_cons.mpr ⟨pw_59, (List.forall_mem_cons.mpr ⟨pw_58, (List.forall_mem_cons.mpr ⟨pw_57, (List.forall_mem_cons.mpr ⟨pw_56, (List.forall_mem_cons.mpr ⟨pw_55, (List.forall_mem_cons.mpr ⟨pw_54, (List.forall_mem_cons.mpr ⟨pw_53, (List.forall_mem_cons.mpr ⟨pw_52, (List.forall_mem_cons.mpr ⟨pw_51, (List.forall_mem_cons.mpr ⟨pw_50, (List.forall_mem_cons.mpr ⟨pw_49, (List.forall_mem_cons.mpr ⟨pw_48, (List.forall_mem_cons.mpr ⟨pw_95, (List.forall_mem_cons.mpr ⟨pw_94, (List.forall_mem_cons.mpr ⟨pw_93, (List.forall_mem_cons.mpr ⟨pw_92, (List.forall_mem_cons.mpr ⟨pw_91, (List.forall_mem_cons.mpr ⟨pw_90, (List.forall_mem_cons.mpr ⟨pw_89, (fun _ h => absurd h List.not_mem_nil)⟩)⟩)⟩)⟩)⟩)⟩)⟩)⟩)⟩)⟩)⟩)⟩)⟩)⟩)⟩)⟩)⟩)⟩)⟩)⟩)⟩)⟩)⟩)⟩)
theorem ch_wsX10_tries_r4 : ∀ w ∈ wsX10_tries_r4, w ∈ lw_tbl := (List.forall_mem_cons.mpr ⟨pw_88, (List.forall_mem_cons.mpr ⟨pw_87, (List.forall_mem_cons.mpr ⟨pw_86, (List.forall_mem_cons.mpr ⟨pw_85, (List.forall_mem_cons.mpr ⟨pw_84, (List.forall_mem_cons.mpr ⟨pw_83, (List.forall_mem_cons.mpr ⟨pw_82, (List.forall_mem_cons.mpr ⟨pw_81, (List.forall_mem_cons.mpr ⟨pw_80, (List.forall_mem_cons.mpr ⟨pw_79, (List.forall_mem_cons.mpr ⟨pw_78, (List.forall_mem_cons.mpr ⟨pw_77, (List.forall_mem_cons.mpr ⟨pw_76, (List.forall_mem_cons.mpr ⟨pw_75, (List.forall_mem_cons.mpr ⟨pw_74, (List.forall_mem_cons.mpr ⟨pw_73, (List.forall_mem_cons.mpr ⟨pw_72, (List.forall_mem_cons.mpr ⟨pw_119, (List.forall_mem_cons.mpr ⟨pw_118, (List.forall_mem_cons.mpr ⟨pw_117, (List.forall_mem_cons.mpr ⟨pw_116, (List.forall_mem_cons.mpr ⟨pw_115, (List.forall_mem_cons.mpr ⟨pw_114, (List.forall_mem_cons.mpr ⟨pw_113, (fun _ h => absurd h List.not_mem_nil)⟩)⟩)⟩)⟩)⟩)⟩)⟩)⟩)⟩)⟩)⟩)⟩)⟩)⟩)⟩)⟩)⟩)⟩)⟩)⟩)⟩)⟩)⟩)⟩)
theorem ch_wsX10_tries_r5 : ∀ w ∈ wsX10_tries_r5, w ∈ lw_tbl := (List.forall_mem_cons.mpr ⟨pw_112, (List.forall_mem_cons.mpr ⟨pw_111, (List.forall_mem_cons.mpr ⟨pw_110, (List.forall_mem_cons.mpr ⟨pw_109, (List.forall_mem_cons.mpr ⟨pw_108, (List.forall_mem_cons.mpr ⟨pw_107, (List.forall_mem_cons.mpr ⟨pw_106, (List.forall_mem_cons.mpr ⟨pw_105, (List.forall_mem_cons.mpr ⟨pw_104, (List.forall_mem_cons.mpr ⟨pw_103, (List.forall_mem_cons.mpr ⟨pw_102, (List.forall_mem_cons.mpr ⟨pw_101, (List.forall_mem_cons.mpr ⟨pw_100, (List.forall_mem_cons.mpr ⟨pw_99, (List.forall_mem_cons.mpr ⟨pw_98, (List.forall_mem_cons.mpr ⟨pw_97, (List.forall_mem_cons.mpr ⟨pw_96, (List.forall_mem_cons.mpr ⟨pw_143, (List.forall_mem_cons.mpr ⟨pw_142, (List.forall_mem_cons.mpr ⟨pw_141, (List.forall_mem_cons.mpr ⟨pw_140, (List.forall_mem_cons.mpr ⟨pw_139, (List.forall_mem_cons.mpr ⟨pw_138, (List.forall_mem_cons.mpr ⟨pw_137, (fun _ h => absurd h List.not_mem_nil)⟩)⟩)⟩)⟩)⟩)⟩)⟩)⟩)⟩)⟩)⟩)⟩)⟩)⟩)⟩)⟩)⟩)⟩)⟩)⟩)⟩)⟩)⟩)⟩)
theorem pw_738 : (.methodLink RX10 210 yX1_guardsNeeded : Cond) ∈ lw_tbl := List.mem_of_getElem? (i := 1008) (by decide +kernel)
theorem ch_wsX10_tries_r6 : ∀ w ∈ wsX10_tries_r6, w ∈ lw_tbl := (List.forall_mem_cons.mpr ⟨pw_136, (List.forall_mem_cons.mpr ⟨pw_135, (List.forall_mem_cons.mpr ⟨pw_134, (List.forall_mem_cons.mpr ⟨pw_133, (List.forall_mem_cons.mpr ⟨pw_132, (List.forall_mem_cons.mpr ⟨pw_131, (List.forall_mem_cons.mpr ⟨pw_130, (List.forall_mem_cons.mpr ⟨pw_129, (List.forall_mem_cons.mpr ⟨pw_128, (List.forall_mem_cons.mpr ⟨pw_127, (List.forall_mem_cons.mpr ⟨pw_126, (List.forall_mem_cons.mpr ⟨pw_125, (List.forall_mem_cons.mpr ⟨pw_124, (List.forall_mem_cons.mpr ⟨pw_123, (List.forall_mem_cons.mpr ⟨pw_122, (List.forall_mem_cons.mpr ⟨pw_121, (List.forall_mem_cons.mpr ⟨pw_120, (List.forall_mem_cons.mpr ⟨pw_150, (List.forall_mem_cons.mpr ⟨pw_149, (List.forall_mem_cons.mpr ⟨pw_148, (List.forall_mem_cons.mpr ⟨pw_147, (List.forall_mem_cons.mpr ⟨pw_146, (List.forall_mem_cons.mpr ⟨pw_145, (List.forall_mem_cons.mpr ⟨pw_738, (fun _ h => absurd h List.not_mem_nil)⟩)⟩)⟩)⟩)⟩)⟩)⟩)⟩)⟩)⟩)⟩)⟩)⟩)⟩)⟩)⟩)⟩)⟩)⟩)⟩)⟩)⟩)⟩)⟩)
theorem pw_739 : (.methodLink RX9 52 yX6_go : Cond) ∈ lw_tbl := List.mem_of_getElem? (i := 1019) (by decide +kernel)
theorem pw_740 : (.methodLink RX9 46 yX7_allows : Cond) ∈ lw_tbl := List.mem_of_getElem? (i := 1018) (by decide +kernel)
theorem pw_741 : (.methodLink RX9 40 yX5_at : Cond) ∈ lw_tbl := List.mem_of_getElem? (i := 1017) (by decide +kernel)
theorem pw_742 : (.methodLink RX9 34 yJ7_fill_53178 : Cond) ∈ lw_tbl := List.mem_of_getElem? (i := 1016) (by decide +kernel)
theorem pw_743 : (.fieldLink RX9 30 "NothingJudge$Trials" "missing" "I" : Cond) ∈ lw_tbl := List.mem_of_getElem? (i := 431) (by decide +kernel)
set_option maxRecDepth 100000 in
theorem pw_744 : (.code yX9_fill cX9_fill 5 none : Cond) ∈ lw_tbl := List.mem_of_getElem? (i := 1015) rfl
theorem pw_745 : (.selects RX9 yX9_fill yX9_fill : Cond) ∈ lw_tbl := List.mem_of_getElem? (i := 1014) (by decide +kernel)
theorem pw_746 : (.instanceMethod yX9_fill : Cond) ∈ lw_tbl := List.mem_of_getElem? (i := 1013) (by decide +kernel)
theorem pw_747 : (.methodLink RX10 213 yX9_fill : Cond) ∈ lw_tbl := List.mem_of_getElem? (i := 1012) (by decide +kernel)
theorem ch_wsX10_tries_r7 : ∀ w ∈ wsX10_tries_r7, w ∈ lw_tbl := (List.forall_mem_cons.mpr ⟨pw_316, (List.forall_mem_cons.mpr ⟨pw_315, (List.forall_mem_cons.mpr ⟨pw_350, (List.forall_mem_cons.mpr ⟨pw_349, (List.forall_mem_cons.mpr ⟨pw_747, (List.forall_mem_cons.mpr ⟨pw_746, (List.forall_mem_cons.mpr ⟨pw_745, (List.forall_mem_cons.mpr ⟨pw_223, (List.forall_mem_cons.mpr ⟨pw_744, (List.forall_mem_cons.mpr ⟨pw_266, (List.forall_mem_cons.mpr ⟨pw_743, (List.forall_mem_cons.mpr ⟨pw_268, (List.forall_mem_cons.mpr ⟨pw_267, (List.forall_mem_cons.mpr ⟨pw_265, (List.forall_mem_cons.mpr ⟨pw_264, (List.forall_mem_cons.mpr ⟨pw_742, (List.forall_mem_cons.mpr ⟨pw_741, (List.forall_mem_cons.mpr ⟨pw_740, (List.forall_mem_cons.mpr ⟨pw_390, (List.forall_mem_cons.mpr ⟨pw_389, (List.forall_mem_cons.mpr ⟨pw_388, (List.forall_mem_cons.mpr ⟨pw_160, (List.forall_mem_cons.mpr ⟨pw_387, (List.forall_mem_cons.mpr ⟨pw_739, (fun _ h => absurd h List.not_mem_nil)⟩)⟩)⟩)⟩)⟩)⟩)⟩)⟩)⟩)⟩)⟩)⟩)⟩)⟩)⟩)⟩)⟩)⟩)⟩)⟩)⟩)⟩)⟩)⟩)
theorem ch_wsX10_tries_r8 : ∀ w ∈ wsX10_tries_r8, w ∈ lw_tbl := (List.forall_mem_cons.mpr ⟨pw_405, (List.forall_mem_cons.mpr ⟨pw_404, (List.forall_mem_cons.mpr ⟨pw_227, (List.forall_mem_cons.mpr ⟨pw_403, (List.forall_mem_cons.mpr ⟨pw_402, (List.forall_mem_cons.mpr ⟨pw_401, (List.forall_mem_cons.mpr ⟨pw_400, (List.forall_mem_cons.mpr ⟨pw_399, (List.forall_mem_cons.mpr ⟨pw_398, (List.forall_mem_cons.mpr ⟨pw_397, (List.forall_mem_cons.mpr ⟨pw_396, (List.forall_mem_cons.mpr ⟨pw_277, (List.forall_mem_cons.mpr ⟨pw_276, (List.forall_mem_cons.mpr ⟨pw_275, (List.forall_mem_cons.mpr ⟨pw_274, (List.forall_mem_cons.mpr ⟨pw_273, (List.forall_mem_cons.mpr ⟨pw_422, (List.forall_mem_cons.mpr ⟨pw_421, (List.forall_mem_cons.mpr ⟨pw_420, (List.forall_mem_cons.mpr ⟨pw_419, (List.forall_mem_cons.mpr ⟨pw_418, (List.forall_mem_cons.mpr ⟨pw_417, (List.forall_mem_cons.mpr ⟨pw_416, (List.forall_mem_cons.mpr ⟨pw_415, (fun _ h => absurd h List.not_mem_nil)⟩)⟩)⟩)⟩)⟩)⟩)⟩)⟩)⟩)⟩)⟩)⟩)⟩)⟩)⟩)⟩)⟩)⟩)⟩)⟩)⟩)⟩)⟩)⟩)
theorem ch_wsX10_tries_r9 : ∀ w ∈ wsX10_tries_r9, w ∈ lw_tbl := (List.forall_mem_cons.mpr ⟨pw_414, (List.forall_mem_cons.mpr ⟨pw_413, (List.forall_mem_cons.mpr ⟨pw_412, (List.forall_mem_cons.mpr ⟨pw_411, (List.forall_mem_cons.mpr ⟨pw_410, (List.forall_mem_cons.mpr ⟨pw_280, (List.forall_mem_cons.mpr ⟨pw_409, (List.forall_mem_cons.mpr ⟨pw_408, (List.forall_mem_cons.mpr ⟨pw_407, (List.forall_mem_cons.mpr ⟨pw_441, (List.forall_mem_cons.mpr ⟨pw_440, (List.forall_mem_cons.mpr ⟨pw_439, (List.forall_mem_cons.mpr ⟨pw_438, (List.forall_mem_cons.mpr ⟨pw_437, (List.forall_mem_cons.mpr ⟨pw_436, (List.forall_mem_cons.mpr ⟨pw_435, (List.forall_mem_cons.mpr ⟨pw_434, (List.forall_mem_cons.mpr ⟨pw_278, (List.forall_mem_cons.mpr ⟨pw_433, (List.forall_mem_cons.mpr ⟨pw_432, (List.forall_mem_cons.mpr ⟨pw_431, (List.forall_mem_cons.mpr ⟨pw_430, (List.forall_mem_cons.mpr ⟨pw_429, (List.forall_mem_cons.mpr ⟨pw_428, (fun _ h => absurd h List.not_mem_nil)⟩)⟩)⟩)⟩)⟩)⟩)⟩)⟩)⟩)⟩)⟩)⟩)⟩)⟩)⟩)⟩)⟩)⟩)⟩)⟩)⟩)⟩)⟩)⟩)
theorem ch_wsX10_tries_r10 : ∀ w ∈ wsX10_tries_r10, w ∈ lw_tbl := (List.forall_mem_cons.mpr ⟨pw_427, (List.forall_mem_cons.mpr ⟨pw_426, (List.forall_mem_cons.mpr ⟨pw_425, (List.forall_mem_cons.mpr ⟨pw_424, (List.forall_mem_cons.mpr ⟨pw_423, (List.forall_mem_cons.mpr ⟨pw_459, (List.forall_mem_cons.mpr ⟨pw_458, (List.forall_mem_cons.mpr ⟨pw_457, (List.forall_mem_cons.mpr ⟨pw_456, (List.forall_mem_cons.mpr ⟨pw_279, (List.forall_mem_cons.mpr ⟨pw_455, (List.forall_mem_cons.mpr ⟨pw_454, (List.forall_mem_cons.mpr ⟨pw_453, (List.forall_mem_cons.mpr ⟨pw_452, (List.forall_mem_cons.mpr ⟨pw_451, (List.forall_mem_cons.mpr ⟨pw_450, (List.forall_mem_cons.mpr ⟨pw_449, (List.forall_mem_cons.mpr ⟨pw_448, (List.forall_mem_cons.mpr ⟨pw_447, (List.forall_mem_cons.mpr ⟨pw_446, (List.forall_mem_cons.mpr ⟨pw_445, (List.forall_mem_cons.mpr ⟨pw_444, (List.forall_mem_cons.mpr ⟨pw_443, (List.forall_mem_cons.mpr ⟨pw_442, (fun _ h => absurd h List.not_mem_nil)⟩)⟩)⟩)⟩)⟩)⟩)⟩)⟩)⟩)⟩)⟩)⟩)⟩)⟩)⟩)⟩)⟩)⟩)⟩)⟩)⟩)⟩)⟩)⟩)
theorem ch_wsX10_tries_r11 : ∀ w ∈ wsX10_tries_r11, w ∈ lw_tbl := (List.forall_mem_cons.mpr ⟨pw_481, (List.forall_mem_cons.mpr ⟨pw_480, (List.forall_mem_cons.mpr ⟨pw_479, (List.forall_mem_cons.mpr ⟨pw_478, (List.forall_mem_cons.mpr ⟨pw_477, (List.forall_mem_cons.mpr ⟨pw_476, (List.forall_mem_cons.mpr ⟨pw_475, (List.forall_mem_cons.mpr ⟨pw_474, (List.forall_mem_cons.mpr ⟨pw_52, (List.forall_mem_cons.mpr ⟨pw_473, (List.forall_mem_cons.mpr ⟨pw_472, (List.forall_mem_cons.mpr ⟨pw_471, (List.forall_mem_cons.mpr ⟨pw_470, (List.forall_mem_cons.mpr ⟨pw_469, (List.forall_mem_cons.mpr ⟨pw_468, (List.forall_mem_cons.mpr ⟨pw_467, (List.forall_mem_cons.mpr ⟨pw_466, (List.forall_mem_cons.mpr ⟨pw_465, (List.forall_mem_cons.mpr ⟨pw_464, (List.forall_mem_cons.mpr ⟨pw_463, (List.forall_mem_cons.mpr ⟨pw_462, (List.forall_mem_cons.mpr ⟨pw_461, (List.forall_mem_cons.mpr ⟨pw_460, (List.forall_mem_cons.mpr ⟨pw_482, (fun _ h => absurd h List.not_mem_nil)⟩)⟩)⟩)⟩)⟩)⟩)⟩)⟩)⟩)⟩)⟩)⟩)⟩)⟩)⟩)⟩)⟩)⟩)⟩)⟩)⟩)⟩)⟩)⟩)
theorem pw_748 : (.fieldLink RX9 72 "NothingJudge$Runner" "anys" "I" : Cond) ∈ lw_tbl := List.mem_of_getElem? (i := 375) (by decide +kernel)
set_option maxRecDepth 100000 in
theorem pw_749 : (.code yX9_skipTheSame cX9_skipTheSame 4 none : Cond) ∈ lw_tbl := List.mem_of_getElem? (i := 1028) rfl
theorem pw_750 : (.selects RX9 yX9_skipTheSame yX9_skipTheSame : Cond) ∈ lw_tbl := List.mem_of_getElem? (i := 52) (by decide +kernel)
theorem pw_751 : (.instanceMethod yX9_skipTheSame : Cond) ∈ lw_tbl := List.mem_of_getElem? (i := 1027) (by decide +kernel)
theorem pw_752 : (.methodLink RX9 62 yX9_skipTheSame : Cond) ∈ lw_tbl := List.mem_of_getElem? (i := 1025) (by decide +kernel)
theorem pw_753 : (.methodLink RX9 68 yX5_put : Cond) ∈ lw_tbl := List.mem_of_getElem? (i := 1024) (by decide +kernel)
theorem pw_754 : (.fieldLink RX9 65 "NothingJudge$Runner" "failedAt" "I" : Cond) ∈ lw_tbl := List.mem_of_getElem? (i := 377) (by decide +kernel)
set_option maxRecDepth 100000 in
theorem pw_755 : (.code yX9_noteFailure cX9_noteFailure 4 none : Cond) ∈ lw_tbl := List.mem_of_getElem? (i := 1023) rfl
theorem pw_756 : (.selects RX9 yX9_noteFailure yX9_noteFailure : Cond) ∈ lw_tbl := List.mem_of_getElem? (i := 51) (by decide +kernel)
theorem pw_757 : (.instanceMethod yX9_noteFailure : Cond) ∈ lw_tbl := List.mem_of_getElem? (i := 1022) (by decide +kernel)
theorem pw_758 : (.methodLink RX9 58 yX9_noteFailure : Cond) ∈ lw_tbl := List.mem_of_getElem? (i := 1020) (by decide +kernel)
theorem ch_wsX10_tries_r12 : ∀ w ∈ wsX10_tries_r12, w ∈ lw_tbl := (List.forall_mem_cons.mpr ⟨pw_758, (List.forall_mem_cons.mpr ⟨pw_757, (List.forall_mem_cons.mpr ⟨pw_756, (List.forall_mem_cons.mpr ⟨pw_755, (List.forall_mem_cons.mpr ⟨pw_754, (List.forall_mem_cons.mpr ⟨pw_753, (List.forall_mem_cons.mpr ⟨pw_752, (List.forall_mem_cons.mpr ⟨pw_751, (List.forall_mem_cons.mpr ⟨pw_750, (List.forall_mem_cons.mpr ⟨pw_749, (List.forall_mem_cons.mpr ⟨pw_748, (List.forall_mem_cons.mpr ⟨pw_144, (fun _ h => absurd h List.not_mem_nil)⟩)⟩)⟩)⟩)⟩)⟩)⟩)⟩)⟩)⟩)⟩)⟩)
set_option maxRecDepth 100000 in
theorem pw_759 : (.code yX10_tries cX10_tries 2 (some .int) : Cond) ∈ lw_tbl := List.mem_of_getElem? (i := 1007) rfl
set_option maxRecDepth 20000 in
theorem lm_wsX10_tries : ∀ w ∈ wsX10_tries, w ∈ lw_tbl := List.forall_mem_cons.mpr ⟨pw_759, (wL_app (wL_app (wL_app (wL_app (wL_app (wL_app (wL_app (wL_app ch_wsX10_tries_r1 (wL_app ch_wsX10_tries_r2 (wL_app ch_wsX10_tries_r3 (wL_app ch_wsX10_tries_r4 (wL_app ch_wsX10_tries_r5 (wL_app ch_wsX10_tries_r6 (wL_app ch_wsX10_tries_r7 (wL_app ch_wsX10_tries_r8 (wL_app ch_wsX10_tries_r9 (wL_app ch_wsX10_tries_r10 (wL_app ch_wsX10_tries_r11 ch_wsX10_tries_r12))))))))))) wL_wsX100) wL_wsX70) wL_wsX30) wL_wsX90) wL_wsX10) wL_wsX00) wL_wsX60)⟩
theorem pw_760 : (.selects RX10 yX10_tries yX10_tries : Cond) ∈ lw_tbl := List.mem_of_getElem? (i := 1006) (by decide +kernel)
theorem pw_761 : (.instanceMethod yX10_tries : Cond) ∈ lw_tbl := List.mem_of_getElem? (i := 1005) (by decide +kernel)
theorem pw_762 : (.methodLink RL 59 yX10_tries : Cond) ∈ lw_tbl := List.mem_of_getElem? (i := 1004) (by decide +kernel)
set_option maxRecDepth 20000 in
theorem gW_X10_tries : GoodIn lw_tbl (wsV RL 59 RX10 yX10_tries wsX10_tries) := goodIn_sub (wL_app (List.forall_mem_cons.mpr ⟨pw_762, (List.forall_mem_cons.mpr ⟨pw_761, (List.forall_mem_cons.mpr ⟨pw_760, (List.forall_mem_cons.mpr ⟨pw_14, (fun _ h => absurd h List.not_mem_nil)⟩)⟩)⟩)⟩) lm_wsX10_tries) (by decide +kernel)
theorem pw_763 : (.fieldLink RX10 173 "NothingJudge$Program" "useName" "[I" : Cond) ∈ lw_tbl := List.mem_of_getElem? (i := 191) (by decide +kernel)
theorem pw_764 : (.fieldLink RX10 170 "NothingJudge$Program" "usePlace" "[I" : Cond) ∈ lw_tbl := List.mem_of_getElem? (i := 189) (by decide +kernel)
theorem pw_765 : (.fieldLink RX10 167 "NothingJudge$Program" "useOwner" "[I" : Cond) ∈ lw_tbl := List.mem_of_getElem? (i := 187) (by decide +kernel)
theorem ch_wsX10_use_r1 : ∀ w ∈ wsX10_use_r1, w ∈ lw_tbl := (List.forall_mem_cons.mpr ⟨pw_23, (List.forall_mem_cons.mpr ⟨pw_22, (List.forall_mem_cons.mpr ⟨pw_20, (List.forall_mem_cons.mpr ⟨pw_12, (List.forall_mem_cons.mpr ⟨pw_11, (List.forall_mem_cons.mpr ⟨pw_765, (List.forall_mem_cons.mpr ⟨pw_764, (List.forall_mem_cons.mpr ⟨pw_763, (List.forall_mem_cons.mpr ⟨pw_10, (List.forall_mem_cons.mpr ⟨pw_9, (List.forall_mem_cons.mpr ⟨pw_8, (List.forall_mem_cons.mpr ⟨pw_7, (List.forall_mem_cons.mpr ⟨pw_6, (List.forall_mem_cons.mpr ⟨pw_5, (List.forall_mem_cons.mpr ⟨pw_4, (List.forall_mem_cons.mpr ⟨pw_3, (List.forall_mem_cons.mpr ⟨pw_2, (List.forall_mem_cons.mpr ⟨pw_1, (List.forall_mem_cons.mpr ⟨pw_0, (List.forall_mem_cons.mpr ⟨pw_47, (List.forall_mem_cons.mpr ⟨pw_46, (List.forall_mem_cons.mpr ⟨pw_45, (List.forall_mem_cons.mpr ⟨pw_44, (List.forall_mem_cons.mpr ⟨pw_43, (fun _ h => absurd h List.not_mem_nil)⟩)⟩)⟩)⟩)⟩)⟩)⟩)⟩)⟩)⟩)⟩)⟩)⟩)⟩)⟩)⟩)⟩)⟩)⟩)⟩)⟩)⟩)⟩)⟩)
theorem ch_wsX10_use_r2 : ∀ w ∈ wsX10_use_r2, w ∈ lw_tbl := (List.forall_mem_cons.mpr ⟨pw_42, (List.forall_mem_cons.mpr ⟨pw_41, (List.forall_mem_cons.mpr ⟨pw_40, (List.forall_mem_cons.mpr ⟨pw_39, (List.forall_mem_cons.mpr ⟨pw_38, (List.forall_mem_cons.mpr ⟨pw_37, (List.forall_mem_cons.mpr ⟨pw_36, (List.forall_mem_cons.mpr ⟨pw_35, (List.forall_mem_cons.mpr ⟨pw_34, (List.forall_mem_cons.mpr ⟨pw_33, (List.forall_mem_cons.mpr ⟨pw_32, (List.forall_mem_cons.mpr ⟨pw_31, (List.forall_mem_cons.mpr ⟨pw_30, (List.forall_mem_cons.mpr ⟨pw_29, (List.forall_mem_cons.mpr ⟨pw_28, (List.forall_mem_cons.mpr ⟨pw_27, (List.forall_mem_cons.mpr ⟨pw_26, (List.forall_mem_cons.mpr ⟨pw_25, (List.forall_mem_cons.mpr ⟨pw_24, (List.forall_mem_cons.mpr ⟨pw_71, (List.forall_mem_cons.mpr ⟨pw_70, (List.forall_mem_cons.mpr ⟨pw_69, (List.forall_mem_cons.mpr ⟨pw_68, (List.forall_mem_cons.mpr ⟨pw_67, (fun _ h => absurd h List.not_mem_nil)⟩)⟩)⟩)⟩)⟩)⟩)⟩)⟩)⟩)⟩)⟩)⟩)⟩)⟩)⟩)⟩)⟩)⟩)⟩)⟩)⟩)⟩)⟩)⟩)
theorem ch_wsX10_use_r3 : ∀ w ∈ wsX10_use_r3, w ∈ lw_tbl := (List.forall_mem_cons.mpr ⟨pw_66, (List.forall_mem_cons.mpr ⟨pw_65, (List.forall_mem_cons.mpr ⟨pw_64, (List.forall_mem_cons.mpr ⟨pw_63, (List.forall_mem_cons.mpr ⟨pw_62, (List.forall_mem_cons.mpr ⟨pw_61, (List.forall_mem_cons.mpr ⟨pw_60, (List.forall_mem_cons.mpr ⟨pw_59, (List.forall_mem_cons.mpr ⟨pw_58, (List.forall_mem_cons.mpr ⟨pw_57, (List.forall_mem_cons.mpr ⟨pw_56, (List.forall_mem_cons.mpr ⟨pw_55, (List.forall_mem_cons.mpr ⟨pw_54, (List.forall_mem_cons.mpr ⟨pw_53, (List.forall_mem_cons.mpr ⟨pw_52, (List.forall_mem_cons.mpr ⟨pw_51, (List.forall_mem_cons.mpr ⟨pw_50, (List.forall_mem_cons.mpr ⟨pw_49, (List.forall_mem_cons.mpr ⟨pw_48, (List.forall_mem_cons.mpr ⟨pw_95, (List.forall_mem_cons.mpr ⟨pw_94, (List.forall_mem_cons.mpr ⟨pw_93, (List.forall_mem_cons.mpr ⟨pw_92, (List.forall_mem_cons.mpr ⟨pw_91, (fun _ h => absurd h List.not_mem_nil)⟩)⟩)⟩)⟩)⟩)⟩)⟩)⟩)⟩)⟩)⟩)⟩)⟩)⟩)⟩)⟩)⟩)⟩)⟩)⟩)⟩)⟩)⟩)⟩)
theorem ch_wsX10_use_r4 : ∀ w ∈ wsX10_use_r4, w ∈ lw_tbl := (List.forall_mem_cons.mpr ⟨pw_90, (List.forall_mem_cons.mpr ⟨pw_89, (List.forall_mem_cons.mpr ⟨pw_88, (List.forall_mem_cons.mpr ⟨pw_87, (List.forall_mem_cons.mpr ⟨pw_86, (List.forall_mem_cons.mpr ⟨pw_85, (List.forall_mem_cons.mpr ⟨pw_84, (List.forall_mem_cons.mpr ⟨pw_83, (List.forall_mem_cons.mpr ⟨pw_82, (List.forall_mem_cons.mpr ⟨pw_81, (List.forall_mem_cons.mpr ⟨pw_80, (List.forall_mem_cons.mpr ⟨pw_79, (List.forall_mem_cons.mpr ⟨pw_78, (List.forall_mem_cons.mpr ⟨pw_77, (List.forall_mem_cons.mpr ⟨pw_76, (List.forall_mem_cons.mpr ⟨pw_75, (List.forall_mem_cons.mpr ⟨pw_74, (List.forall_mem_cons.mpr ⟨pw_73, (List.forall_mem_cons.mpr ⟨pw_72, (List.forall_mem_cons.mpr ⟨pw_119, (List.forall_mem_cons.mpr ⟨pw_118, (List.forall_mem_cons.mpr ⟨pw_117, (List.forall_mem_cons.mpr ⟨pw_116, (List.forall_mem_cons.mpr ⟨pw_115, (fun _ h => absurd h List.not_mem_nil)⟩)⟩)⟩)⟩)⟩)⟩)⟩)⟩)⟩)⟩)⟩)⟩)⟩)⟩)⟩)⟩)⟩)⟩)⟩)⟩)⟩)⟩)⟩)⟩)
theorem ch_wsX10_use_r5 : ∀ w ∈ wsX10_use_r5, w ∈ lw_tbl := (List.forall_mem_cons.mpr ⟨pw_114, (List.forall_mem_cons.mpr ⟨pw_113, (List.forall_mem_cons.mpr ⟨pw_112, (List.forall_mem_cons.mpr ⟨pw_111, (List.forall_mem_cons.mpr ⟨pw_110, (List.forall_mem_cons.mpr ⟨pw_109, (List.forall_mem_cons.mpr ⟨pw_108, (List.forall_mem_cons.mpr ⟨pw_107, (List.forall_mem_cons.mpr ⟨pw_106, (List.forall_mem_cons.mpr ⟨pw_105, (List.forall_mem_cons.mpr ⟨pw_104, (List.forall_mem_cons.mpr ⟨pw_103, (List.forall_mem_cons.mpr ⟨pw_102, (List.forall_mem_cons.mpr ⟨pw_101, (List.forall_mem_cons.mpr ⟨pw_100, (List.forall_mem_cons.mpr ⟨pw_99, (List.forall_mem_cons.mpr ⟨pw_98, (List.forall_mem_cons.mpr ⟨pw_97, (List.forall_mem_cons.mpr ⟨pw_96, (List.forall_mem_cons.mpr ⟨pw_143, (List.forall_mem_cons.mpr ⟨pw_142, (List.forall_mem_cons.mpr ⟨pw_141, (List.forall_mem_cons.mpr ⟨pw_140, (List.forall_mem_cons.mpr ⟨pw_139, (fun _ h => absurd h List.not_mem_nil)⟩)⟩)⟩)⟩)⟩)⟩)⟩)⟩)⟩)⟩)⟩)⟩)⟩)⟩)⟩)⟩)⟩)⟩)⟩)⟩)⟩)⟩)⟩)⟩)
theorem ch_wsX10_use_r6 : ∀ w ∈ wsX10_use_r6, w ∈ lw_tbl := (List.forall_mem_cons.mpr ⟨pw_138, (List.forall_mem_cons.mpr ⟨pw_137, (List.forall_mem_cons.mpr ⟨pw_136, (List.forall_mem_cons.mpr ⟨pw_135, (List.forall_mem_cons.mpr ⟨pw_134, (List.forall_mem_cons.mpr ⟨pw_133, (List.forall_mem_cons.mpr ⟨pw_132, (List.forall_mem_cons.mpr ⟨pw_131, (List.forall_mem_cons.mpr ⟨pw_130, (List.forall_mem_cons.mpr ⟨pw_129, (List.forall_mem_cons.mpr ⟨pw_128, (List.forall_mem_cons.mpr ⟨pw_127, (List.forall_mem_cons.mpr ⟨pw_126, (List.forall_mem_cons.mpr ⟨pw_125, (List.forall_mem_cons.mpr ⟨pw_124, (List.forall_mem_cons.mpr ⟨pw_123, (List.forall_mem_cons.mpr ⟨pw_122, (List.forall_mem_cons.mpr ⟨pw_121, (List.forall_mem_cons.mpr ⟨pw_120, (List.forall_mem_cons.mpr ⟨pw_150, (List.forall_mem_cons.mpr ⟨pw_149, (List.forall_mem_cons.mpr ⟨pw_148, (List.forall_mem_cons.mpr ⟨pw_147, (List.forall_mem_cons.mpr ⟨pw_146, (fun _ h => absurd h List.not_mem_nil)⟩)⟩)⟩)⟩)⟩)⟩)⟩)⟩)⟩)⟩)⟩)⟩)⟩)⟩)⟩)⟩)⟩)⟩)⟩)⟩)⟩)⟩)⟩)⟩)
set_option maxRecDepth 100000 in
theorem pw_766 : (.code yX10_verdictOfUse cX10_verdictOfUse 1 (some .int) : Cond) ∈ lw_tbl := List.mem_of_getElem? (i := 908) rfl
theorem pw_767 : (.static yX10_verdictOfUse : Cond) ∈ lw_tbl := List.mem_of_getElem? (i := 907) (by decide +kernel)
theorem pw_768 : (.methodLink RX10 163 yX10_verdictOfUse : Cond) ∈ lw_tbl := List.mem_of_getElem? (i := 906) (by decide +kernel)
theorem ch_wsX10_use_r7 : ∀ w ∈ wsX10_use_r7, w ∈ lw_tbl := (List.forall_mem_cons.mpr ⟨pw_145, (List.forall_mem_cons.mpr ⟨pw_144, (List.forall_mem_cons.mpr ⟨pw_768, (List.forall_mem_cons.mpr ⟨pw_767, (List.forall_mem_cons.mpr ⟨pw_14, (List.forall_mem_cons.mpr ⟨pw_766, (fun _ h => absurd h List.not_mem_nil)⟩)⟩)⟩)⟩)⟩)⟩)
set_option maxRecDepth 100000 in
theorem pw_769 : (.code yX10_use cX10_use 4 (some .int) : Cond) ∈ lw_tbl := List.mem_of_getElem? (i := 905) rfl
set_option maxRecDepth 20000 in
theorem lm_wsX10_use : ∀ w ∈ wsX10_use, w ∈ lw_tbl := List.forall_mem_cons.mpr ⟨pw_769, (wL_app (wL_app (wL_app (wL_app (wL_app (wL_app ch_wsX10_use_r1 (wL_app ch_wsX10_use_r2 (wL_app ch_wsX10_use_r3 (wL_app ch_wsX10_use_r4 (wL_app ch_wsX10_use_r5 (wL_app ch_wsX10_use_r6 ch_wsX10_use_r7)))))) wL_wsX100) wL_wsX70) wL_wsX30) wL_wsX10) wL_wsX00)⟩
theorem pw_770 : (.selects RX10 yX10_use yX10_use : Cond) ∈ lw_tbl := List.mem_of_getElem? (i := 904) (by decide +kernel)
theorem pw_771 : (.instanceMethod yX10_use : Cond) ∈ lw_tbl := List.mem_of_getElem? (i := 903) (by decide +kernel)
theorem pw_772 : (.methodLink RL 42 yX10_use : Cond) ∈ lw_tbl := List.mem_of_getElem? (i := 902) (by decide +kernel)
set_option maxRecDepth 20000 in
theorem gW_X10_use : GoodIn lw_tbl (wsV RL 42 RX10 yX10_use wsX10_use) := goodIn_sub (wL_app (List.forall_mem_cons.mpr ⟨pw_772, (List.forall_mem_cons.mpr ⟨pw_771, (List.forall_mem_cons.mpr ⟨pw_770, (List.forall_mem_cons.mpr ⟨pw_14, (fun _ h => absurd h List.not_mem_nil)⟩)⟩)⟩)⟩) lm_wsX10_use) (by decide +kernel)
theorem pw_773 : (.selects RX11 yX11_puts yX11_puts : Cond) ∈ lw_tbl := List.mem_of_getElem? (i := 86) (by decide +kernel)
theorem pw_774 : (.instanceMethod yX11_puts : Cond) ∈ lw_tbl := List.mem_of_getElem? (i := 1436) (by decide +kernel)
theorem pw_775 : (.methodLink RX11 275 yX11_puts : Cond) ∈ lw_tbl := List.mem_of_getElem? (i := 1434) (by decide +kernel)
theorem pw_776 : (.fieldLink RX11 86 "NothingJudgeModel" "outers" "[I" : Cond) ∈ lw_tbl := List.mem_of_getElem? (i := 1138) (by decide +kernel)
theorem pw_777 : (.fieldLink RX11 35 "NothingJudgeModel" "params" "[I" : Cond) ∈ lw_tbl := List.mem_of_getElem? (i := 1118) (by decide +kernel)
theorem pw_778 : (.fieldLink RX11 261 "NothingJudgeModel" "isMore" "Z" : Cond) ∈ lw_tbl := List.mem_of_getElem? (i := 1143) (by decide +kernel)
theorem pw_779 : (.fieldLink RX11 100 "NothingJudgeModel" "tested" "[I" : Cond) ∈ lw_tbl := List.mem_of_getElem? (i := 1142) (by decide +kernel)
theorem pw_780 : (.fieldLink RX11 93 "NothingJudgeModel" "marks" "[I" : Cond) ∈ lw_tbl := List.mem_of_getElem? (i := 1140) (by decide +kernel)
theorem pw_781 : (.fieldLink RX11 89 "NothingJudgeModel" "ahead" "[J" : Cond) ∈ lw_tbl := List.mem_of_getElem? (i := 1139) (by decide +kernel)
theorem pw_782 : (.fieldLink RX11 251 "NothingJudgeModel" "actMany" "I" : Cond) ∈ lw_tbl := List.mem_of_getElem? (i := 1116) (by decide +kernel)
set_option maxRecDepth 100000 in
theorem pw_783 : (.code yX11_reckons cX11_reckons 2 none : Cond) ∈ lw_tbl := List.mem_of_getElem? (i := 1433) rfl
theorem pw_784 : (.selects RX11 yX11_reckons yX11_reckons : Cond) ∈ lw_tbl := List.mem_of_getElem? (i := 85) (by decide +kernel)
theorem pw_785 : (.instanceMethod yX11_reckons : Cond) ∈ lw_tbl := List.mem_of_getElem? (i := 1432) (by decide +kernel)
theorem pw_786 : (.methodLink RX11 302 yX11_reckons : Cond) ∈ lw_tbl := List.mem_of_getElem? (i := 1430) (by decide +kernel)
theorem pw_787 : (.fieldLink RX11 96 "NothingJudgeModel" "isHeld" "[Z" : Cond) ∈ lw_tbl := List.mem_of_getElem? (i := 1141) (by decide +kernel)
set_option maxRecDepth 100000 in
theorem pw_788 : (.code yX11_frees cX11_frees 2 none : Cond) ∈ lw_tbl := List.mem_of_getElem? (i := 1429) rfl
theorem pw_789 : (.initialized RX11 : Cond) ∈ lw_tbl := List.mem_of_getElem? (i := 117) (by decide +kernel)
theorem pw_790 : (.selects RX11 yX11_frees yX11_frees : Cond) ∈ lw_tbl := List.mem_of_getElem? (i := 84) (by decide +kernel)
theorem pw_791 : (.instanceMethod yX11_frees : Cond) ∈ lw_tbl := List.mem_of_getElem? (i := 1428) (by decide +kernel)
theorem pw_792 : (.methodLink RX11 299 yX11_frees : Cond) ∈ lw_tbl := List.mem_of_getElem? (i := 1426) (by decide +kernel)
theorem pw_793 : (.fieldLink RX11 83 "NothingJudgeModel" "entry" "I" : Cond) ∈ lw_tbl := List.mem_of_getElem? (i := 1137) (by decide +kernel)
theorem pw_794 : (.fieldLink RX11 62 "NothingJudgeModel" "testMany" "[I" : Cond) ∈ lw_tbl := List.mem_of_getElem? (i := 1127) (by decide +kernel)
theorem pw_795 : (.fieldLink RX11 53 "NothingJudgeModel" "useMany" "[I" : Cond) ∈ lw_tbl := List.mem_of_getElem? (i := 1124) (by decide +kernel)
theorem pw_796 : (.fieldLink RX11 121 "NothingJudgeModel" "thrown" "I" : Cond) ∈ lw_tbl := List.mem_of_getElem? (i := 1098) (by decide +kernel)
theorem ch_wsX11_count_r1 : ∀ w ∈ wsX11_count_r1, w ∈ lw_tbl := (List.forall_mem_cons.mpr ⟨pw_796, (List.forall_mem_cons.mpr ⟨pw_795, (List.forall_mem_cons.mpr ⟨pw_794, (List.forall_mem_cons.mpr ⟨pw_793, (List.forall_mem_cons.mpr ⟨pw_792, (List.forall_mem_cons.mpr ⟨pw_791, (List.forall_mem_cons.mpr ⟨pw_790, (List.forall_mem_cons.mpr ⟨pw_789, (List.forall_mem_cons.mpr ⟨pw_788, (List.forall_mem_cons.mpr ⟨pw_787, (List.forall_mem_cons.mpr ⟨pw_786, (List.forall_mem_cons.mpr ⟨pw_785, (List.forall_mem_cons.mpr ⟨pw_784, (List.forall_mem_cons.mpr ⟨pw_783, (List.forall_mem_cons.mpr ⟨pw_782, (List.forall_mem_cons.mpr ⟨pw_781, (List.forall_mem_cons.mpr ⟨pw_780, (List.forall_mem_cons.mpr ⟨pw_779, (List.forall_mem_cons.mpr ⟨pw_778, (List.forall_mem_cons.mpr ⟨pw_777, (List.forall_mem_cons.mpr ⟨pw_776, (List.forall_mem_cons.mpr ⟨pw_775, (List.forall_mem_cons.mpr ⟨pw_774, (List.forall_mem_cons.mpr ⟨pw_773, (fun _ h => absurd h List.not_mem_nil)⟩)⟩)⟩)⟩)⟩)⟩)⟩)⟩)⟩)⟩)⟩)⟩)⟩)⟩)⟩)⟩)⟩)⟩)⟩)⟩)⟩)⟩)⟩)⟩)
theorem pw_797 : (.selects RX11 yX11_goes yX11_goes : Cond) ∈ lw_tbl := List.mem_of_getElem? (i := 90) (by decide +kernel)
theorem pw_798 : (.instanceMethod yX11_goes : Cond) ∈ lw_tbl := List.mem_of_getElem? (i := 1458) (by decide +kernel)
theorem pw_799 : (.methodLink RX11 284 yX11_goes : Cond) ∈ lw_tbl := List.mem_of_getElem? (i := 1456) (by decide +kernel)
set_option maxRecDepth 100000 in
theorem pw_800 : (.code yX11_flows cX11_flows 6 none : Cond) ∈ lw_tbl := List.mem_of_getElem? (i := 1455) rfl
theorem pw_801 : (.selects RX11 yX11_flows yX11_flows : Cond) ∈ lw_tbl := List.mem_of_getElem? (i := 89) (by decide +kernel)
theorem pw_802 : (.instanceMethod yX11_flows : Cond) ∈ lw_tbl := List.mem_of_getElem? (i := 1454) (by decide +kernel)
theorem pw_803 : (.methodLink RX11 271 yX11_flows : Cond) ∈ lw_tbl := List.mem_of_getElem? (i := 1452) (by decide +kernel)
theorem pw_804 : (.constantLong RX11 259 (-1) : Cond) ∈ lw_tbl := List.mem_of_getElem? (i := 1451) (by decide +kernel)
theorem pw_805 : (.constantLong RX11 257 (3) : Cond) ∈ lw_tbl := List.mem_of_getElem? (i := 1450) (by decide +kernel)
set_option maxRecDepth 100000 in
theorem pw_806 : (.code yX11_with cX11_with 4 (some .long) : Cond) ∈ lw_tbl := List.mem_of_getElem? (i := 1449) rfl
theorem pw_807 : (.static yX11_with : Cond) ∈ lw_tbl := List.mem_of_getElem? (i := 1448) (by decide +kernel)
theorem pw_808 : (.methodLink RX11 267 yX11_with : Cond) ∈ lw_tbl := List.mem_of_getElem? (i := 1447) (by decide +kernel)
theorem pw_809 : (.fieldLink RX11 32 "NothingJudgeModel" "routineFrom" "[I" : Cond) ∈ lw_tbl := List.mem_of_getElem? (i := 1117) (by decide +kernel)
theorem pw_810 : (.fieldLink RX11 38 "NothingJudgeModel" "paramNames" "[I" : Cond) ∈ lw_tbl := List.mem_of_getElem? (i := 1119) (by decide +kernel)
theorem pw_811 : (.constantLong RX11 265 (1152921504606846976) : Cond) ∈ lw_tbl := List.mem_of_getElem? (i := 1446) (by decide +kernel)
set_option maxRecDepth 100000 in
theorem pw_812 : (.code yX11_begins cX11_begins 6 none : Cond) ∈ lw_tbl := List.mem_of_getElem? (i := 1445) rfl
theorem pw_813 : (.selects RX11 yX11_begins yX11_begins : Cond) ∈ lw_tbl := List.mem_of_getElem? (i := 88) (by decide +kernel)
theorem pw_814 : (.instanceMethod yX11_begins : Cond) ∈ lw_tbl := List.mem_of_getElem? (i := 1444) (by decide +kernel)
theorem pw_815 : (.methodLink RX11 281 yX11_begins : Cond) ∈ lw_tbl := List.mem_of_getElem? (i := 1442) (by decide +kernel)
set_option maxRecDepth 100000 in
theorem pw_816 : (.code yX11_putsThings cX11_putsThings 1 none : Cond) ∈ lw_tbl := List.mem_of_getElem? (i := 1441) rfl
theorem pw_817 : (.selects RX11 yX11_putsThings yX11_putsThings : Cond) ∈ lw_tbl := List.mem_of_getElem? (i := 87) (by decide +kernel)
theorem pw_818 : (.instanceMethod yX11_putsThings : Cond) ∈ lw_tbl := List.mem_of_getElem? (i := 1440) (by decide +kernel)
theorem pw_819 : (.methodLink RX11 278 yX11_putsThings : Cond) ∈ lw_tbl := List.mem_of_getElem? (i := 1438) (by decide +kernel)
set_option maxRecDepth 100000 in
theorem pw_820 : (.code yX11_puts cX11_puts 4 none : Cond) ∈ lw_tbl := List.mem_of_getElem? (i := 1437) rfl
theorem ch_wsX11_count_r2 : ∀ w ∈ wsX11_count_r2, w ∈ lw_tbl := (List.forall_mem_cons.mpr ⟨pw_820, (List.forall_mem_cons.mpr ⟨pw_819, (List.forall_mem_cons.mpr ⟨pw_818, (List.forall_mem_cons.mpr ⟨pw_817, (List.forall_mem_cons.mpr ⟨pw_816, (List.forall_mem_cons.mpr ⟨pw_815, (List.forall_mem_cons.mpr ⟨pw_814, (List.forall_mem_cons.mpr ⟨pw_813, (List.forall_mem_cons.mpr ⟨pw_812, (List.forall_mem_cons.mpr ⟨pw_811, (List.forall_mem_cons.mpr ⟨pw_810, (List.forall_mem_cons.mpr ⟨pw_809, (List.forall_mem_cons.mpr ⟨pw_808, (List.forall_mem_cons.mpr ⟨pw_807, (List.forall_mem_cons.mpr ⟨pw_806, (List.forall_mem_cons.mpr ⟨pw_805, (List.forall_mem_cons.mpr ⟨pw_804, (List.forall_mem_cons.mpr ⟨pw_803, (List.forall_mem_cons.mpr ⟨pw_802, (List.forall_mem_cons.mpr ⟨pw_801, (List.forall_mem_cons.mpr ⟨pw_800, (List.forall_mem_cons.mpr ⟨pw_799, (List.forall_mem_cons.mpr ⟨pw_798, (List.forall_mem_cons.mpr ⟨pw_797, (fun _ h => absurd h List.not_mem_nil)⟩)⟩)⟩)⟩)⟩)⟩)⟩)⟩)⟩)⟩)⟩)⟩)⟩)⟩)⟩)⟩)⟩)⟩)⟩)⟩)⟩)⟩)⟩)⟩)
theorem pw_821 : (.selects RX11 yX11_useFact yX11_useFact : Cond) ∈ lw_tbl := List.mem_of_getElem? (i := 94) (by decide +kernel)
theorem pw_822 : (.instanceMethod yX11_useFact : Cond) ∈ lw_tbl := List.mem_of_getElem? (i := 1481) (by decide +kernel)
theorem pw_823 : (.methodLink RX11 305 yX11_useFact : Cond) ∈ lw_tbl := List.mem_of_getElem? (i := 1479) (by decide +kernel)
theorem pw_824 : (.fieldLink RX11 26 "NothingJudgeModel" "three" "[I" : Cond) ∈ lw_tbl := List.mem_of_getElem? (i := 1113) (by decide +kernel)
set_option maxRecDepth 100000 in
theorem pw_825 : (.code yX11_tests cX11_tests 7 none : Cond) ∈ lw_tbl := List.mem_of_getElem? (i := 1474) rfl
theorem pw_826 : (.selects RX11 yX11_tests yX11_tests : Cond) ∈ lw_tbl := List.mem_of_getElem? (i := 93) (by decide +kernel)
theorem pw_827 : (.instanceMethod yX11_tests : Cond) ∈ lw_tbl := List.mem_of_getElem? (i := 1473) (by decide +kernel)
theorem pw_828 : (.methodLink RX11 296 yX11_tests : Cond) ∈ lw_tbl := List.mem_of_getElem? (i := 1471) (by decide +kernel)
set_option maxRecDepth 100000 in
theorem pw_829 : (.code yX11_routineAt cX11_routineAt 4 (some .int) : Cond) ∈ lw_tbl := List.mem_of_getElem? (i := 1470) rfl
theorem pw_830 : (.selects RX11 yX11_routineAt yX11_routineAt : Cond) ∈ lw_tbl := List.mem_of_getElem? (i := 92) (by decide +kernel)
theorem pw_831 : (.instanceMethod yX11_routineAt : Cond) ∈ lw_tbl := List.mem_of_getElem? (i := 1469) (by decide +kernel)
theorem pw_832 : (.methodLink RX11 293 yX11_routineAt : Cond) ∈ lw_tbl := List.mem_of_getElem? (i := 1467) (by decide +kernel)
theorem pw_833 : (.fieldLink RX11 29 "NothingJudgeModel" "argsOf" "[I" : Cond) ∈ lw_tbl := List.mem_of_getElem? (i := 1114) (by decide +kernel)
set_option maxRecDepth 100000 in
theorem pw_834 : (.code yX11_calls cX11_calls 6 none : Cond) ∈ lw_tbl := List.mem_of_getElem? (i := 1466) rfl
theorem pw_835 : (.selects RX11 yX11_calls yX11_calls : Cond) ∈ lw_tbl := List.mem_of_getElem? (i := 91) (by decide +kernel)
theorem pw_836 : (.instanceMethod yX11_calls : Cond) ∈ lw_tbl := List.mem_of_getElem? (i := 1465) (by decide +kernel)
theorem pw_837 : (.methodLink RX11 291 yX11_calls : Cond) ∈ lw_tbl := List.mem_of_getElem? (i := 1463) (by decide +kernel)
set_option maxRecDepth 100000 in
theorem pw_838 : (.code yX11_factOf cX11_factOf 3 (some .int) : Cond) ∈ lw_tbl := List.mem_of_getElem? (i := 1462) rfl
theorem pw_839 : (.static yX11_factOf : Cond) ∈ lw_tbl := List.mem_of_getElem? (i := 1461) (by decide +kernel)
theorem pw_840 : (.methodLink RX11 287 yX11_factOf : Cond) ∈ lw_tbl := List.mem_of_getElem? (i := 1460) (by decide +kernel)
theorem pw_841 : (.fieldLink RX11 23 "NothingJudgeModel" "two" "[I" : Cond) ∈ lw_tbl := List.mem_of_getElem? (i := 1112) (by decide +kernel)
theorem pw_842 : (.fieldLink RX11 20 "NothingJudgeModel" "one" "[I" : Cond) ∈ lw_tbl := List.mem_of_getElem? (i := 1111) (by decide +kernel)
theorem pw_843 : (.fieldLink RX11 17 "NothingJudgeModel" "act" "[I" : Cond) ∈ lw_tbl := List.mem_of_getElem? (i := 1110) (by decide +kernel)
set_option maxRecDepth 100000 in
theorem pw_844 : (.code yX11_goes cX11_goes 4 none : Cond) ∈ lw_tbl := List.mem_of_getElem? (i := 1459) rfl
theorem ch_wsX11_count_r3 : ∀ w ∈ wsX11_count_r3, w ∈ lw_tbl := (List.forall_mem_cons.mpr ⟨pw_844, (List.forall_mem_cons.mpr ⟨pw_843, (List.forall_mem_cons.mpr ⟨pw_842, (List.forall_mem_cons.mpr ⟨pw_841, (List.forall_mem_cons.mpr ⟨pw_840, (List.forall_mem_cons.mpr ⟨pw_839, (List.forall_mem_cons.mpr ⟨pw_838, (List.forall_mem_cons.mpr ⟨pw_837, (List.forall_mem_cons.mpr ⟨pw_836, (List.forall_mem_cons.mpr ⟨pw_835, (List.forall_mem_cons.mpr ⟨pw_834, (List.forall_mem_cons.mpr ⟨pw_833, (List.forall_mem_cons.mpr ⟨pw_832, (List.forall_mem_cons.mpr ⟨pw_831, (List.forall_mem_cons.mpr ⟨pw_830, (List.forall_mem_cons.mpr ⟨pw_829, (List.forall_mem_cons.mpr ⟨pw_828, (List.forall_mem_cons.mpr ⟨pw_827, (List.forall_mem_cons.mpr ⟨pw_826, (List.forall_mem_cons.mpr ⟨pw_825, (List.forall_mem_cons.mpr ⟨pw_824, (List.forall_mem_cons.mpr ⟨pw_823, (List.forall_mem_cons.mpr ⟨pw_822, (List.forall_mem_cons.mpr ⟨pw_821, (fun _ h => absurd h List.not_mem_nil)⟩)⟩)⟩)⟩)⟩)⟩)⟩)⟩)⟩)⟩)⟩)⟩)⟩)⟩)⟩)⟩)⟩)⟩)⟩)⟩)⟩)⟩)⟩)⟩)
set_option maxRecDepth 100000 in
theorem pw_845 : (.code yX11_routinesMany cX11_routinesMany 3 (some .int) : Cond) ∈ lw_tbl := List.mem_of_getElem? (i := 1409) rfl
theorem pw_846 : (.selects RX11 yX11_routinesMany yX11_routinesMany : Cond) ∈ lw_tbl := List.mem_of_getElem? (i := 83) (by decide +kernel)
theorem pw_847 : (.instanceMethod yX11_routinesMany : Cond) ∈ lw_tbl := List.mem_of_getElem? (i := 1408) (by decide +kernel)
theorem pw_848 : (.methodLink RX11 248 yX11_routinesMany : Cond) ∈ lw_tbl := List.mem_of_getElem? (i := 1406) (by decide +kernel)
set_option maxRecDepth 100000 in
theorem pw_849 : (.code yX11_useFact cX11_useFact 3 (some .int) : Cond) ∈ lw_tbl := List.mem_of_getElem? (i := 1482) rfl
theorem ch_wsX11_count_r4 : ∀ w ∈ wsX11_count_r4, w ∈ lw_tbl := (List.forall_mem_cons.mpr ⟨pw_849, (List.forall_mem_cons.mpr ⟨pw_848, (List.forall_mem_cons.mpr ⟨pw_847, (List.forall_mem_cons.mpr ⟨pw_846, (List.forall_mem_cons.mpr ⟨pw_845, (fun _ h => absurd h List.not_mem_nil)⟩)⟩)⟩)⟩)⟩)
set_option maxRecDepth 100000 in
theorem pw_850 : (.code yX11_count cX11_count 5 (some .int) : Cond) ∈ lw_tbl := List.mem_of_getElem? (i := 1564) rfl
set_option maxRecDepth 20000 in
theorem lm_wsX11_count : ∀ w ∈ wsX11_count, w ∈ lw_tbl := List.forall_mem_cons.mpr ⟨pw_850, (wL_app (wL_app ch_wsX11_count_r1 (wL_app ch_wsX11_count_r2 (wL_app ch_wsX11_count_r3 ch_wsX11_count_r4))) wL_wsX110)⟩
theorem pw_851 : (.selects RX11 yX11_count yX11_count : Cond) ∈ lw_tbl := List.mem_of_getElem? (i := 1563) (by decide +kernel)
theorem pw_852 : (.instanceMethod yX11_count : Cond) ∈ lw_tbl := List.mem_of_getElem? (i := 1562) (by decide +kernel)
theorem pw_853 : (.methodLink RL 79 yX11_count : Cond) ∈ lw_tbl := List.mem_of_getElem? (i := 1561) (by decide +kernel)
set_option maxRecDepth 20000 in
theorem gW_X11_count : GoodIn lw_tbl (wsV RL 79 RX11 yX11_count wsX11_count) := goodIn_sub (wL_app (List.forall_mem_cons.mpr ⟨pw_853, (List.forall_mem_cons.mpr ⟨pw_852, (List.forall_mem_cons.mpr ⟨pw_851, (List.forall_mem_cons.mpr ⟨pw_789, (fun _ h => absurd h List.not_mem_nil)⟩)⟩)⟩)⟩) lm_wsX11_count) (by decide +kernel)
set_option maxRecDepth 100000 in
theorem pw_854 : (.code yX11_enters cX11_enters 3 none : Cond) ∈ lw_tbl := List.mem_of_getElem? (i := 1405) rfl
theorem pw_855 : (.selects RX11 yX11_enters yX11_enters : Cond) ∈ lw_tbl := List.mem_of_getElem? (i := 82) (by decide +kernel)
theorem pw_856 : (.instanceMethod yX11_enters : Cond) ∈ lw_tbl := List.mem_of_getElem? (i := 1404) (by decide +kernel)
theorem pw_857 : (.methodLink RX11 254 yX11_enters : Cond) ∈ lw_tbl := List.mem_of_getElem? (i := 1402) (by decide +kernel)
set_option maxRecDepth 100000 in
theorem pw_858 : (.code yX11_entry cX11_entry 2 (some .boolean) : Cond) ∈ lw_tbl := List.mem_of_getElem? (i := 1417) rfl
set_option maxRecDepth 20000 in
theorem lm_wsX11_entry : ∀ w ∈ wsX11_entry, w ∈ lw_tbl := List.forall_mem_cons.mpr ⟨pw_858, (wL_app (List.forall_mem_cons.mpr ⟨pw_796, (List.forall_mem_cons.mpr ⟨pw_809, (List.forall_mem_cons.mpr ⟨pw_857, (List.forall_mem_cons.mpr ⟨pw_856, (List.forall_mem_cons.mpr ⟨pw_855, (List.forall_mem_cons.mpr ⟨pw_789, (List.forall_mem_cons.mpr ⟨pw_854, (List.forall_mem_cons.mpr ⟨pw_793, (List.forall_mem_cons.mpr ⟨pw_776, (fun _ h => absurd h List.not_mem_nil)⟩)⟩)⟩)⟩)⟩)⟩)⟩)⟩)⟩) wL_wsX110)⟩
theorem pw_859 : (.selects RX11 yX11_entry yX11_entry : Cond) ∈ lw_tbl := List.mem_of_getElem? (i := 1416) (by decide +kernel)
theorem pw_860 : (.instanceMethod yX11_entry : Cond) ∈ lw_tbl := List.mem_of_getElem? (i := 1415) (by decide +kernel)
theorem pw_861 : (.methodLink RL 31 yX11_entry : Cond) ∈ lw_tbl := List.mem_of_getElem? (i := 1414) (by decide +kernel)
set_option maxRecDepth 20000 in
theorem gW_X11_entry : GoodIn lw_tbl (wsV RL 31 RX11 yX11_entry wsX11_entry) := goodIn_sub (wL_app (List.forall_mem_cons.mpr ⟨pw_861, (List.forall_mem_cons.mpr ⟨pw_860, (List.forall_mem_cons.mpr ⟨pw_859, (List.forall_mem_cons.mpr ⟨pw_789, (fun _ h => absurd h List.not_mem_nil)⟩)⟩)⟩)⟩) lm_wsX11_entry) (by decide +kernel)
theorem pw_862 : (.fieldLink RX11 13 "NothingJudgeModel" "lastPlace" "I" : Cond) ∈ lw_tbl := List.mem_of_getElem? (i := 1109) (by decide +kernel)
theorem pw_863 : (.fieldLink RX11 242 "NothingJudgeModel" "lastFault" "I" : Cond) ∈ lw_tbl := List.mem_of_getElem? (i := 1108) (by decide +kernel)
set_option maxRecDepth 100000 in
theorem pw_864 : (.code yX11_fault cX11_fault 2 (some .int) : Cond) ∈ lw_tbl := List.mem_of_getElem? (i := 1413) rfl
set_option maxRecDepth 20000 in
theorem lm_wsX11_fault : ∀ w ∈ wsX11_fault, w ∈ lw_tbl := List.forall_mem_cons.mpr ⟨pw_864, (wL_app (List.forall_mem_cons.mpr ⟨pw_796, (List.forall_mem_cons.mpr ⟨pw_863, (List.forall_mem_cons.mpr ⟨pw_862, (fun _ h => absurd h List.not_mem_nil)⟩)⟩)⟩) wL_wsX110)⟩
theorem pw_865 : (.selects RX11 yX11_fault yX11_fault : Cond) ∈ lw_tbl := List.mem_of_getElem? (i := 1412) (by decide +kernel)
theorem pw_866 : (.instanceMethod yX11_fault : Cond) ∈ lw_tbl := List.mem_of_getElem? (i := 1411) (by decide +kernel)
theorem pw_867 : (.methodLink RL 26 yX11_fault : Cond) ∈ lw_tbl := List.mem_of_getElem? (i := 1410) (by decide +kernel)
set_option maxRecDepth 20000 in
theorem gW_X11_fault : GoodIn lw_tbl (wsV RL 26 RX11 yX11_fault wsX11_fault) := goodIn_sub (wL_app (List.forall_mem_cons.mpr ⟨pw_867, (List.forall_mem_cons.mpr ⟨pw_866, (List.forall_mem_cons.mpr ⟨pw_865, (List.forall_mem_cons.mpr ⟨pw_789, (fun _ h => absurd h List.not_mem_nil)⟩)⟩)⟩)⟩) lm_wsX11_fault) (by decide +kernel)
theorem pw_868 : (.fieldLink RX11 7 "NothingJudgeModel" "tape" "[I" : Cond) ∈ lw_tbl := List.mem_of_getElem? (i := 1099) (by decide +kernel)
theorem pw_869 : (.fieldLink RX11 124 "NothingJudgeModel" "taped" "I" : Cond) ∈ lw_tbl := List.mem_of_getElem? (i := 1100) (by decide +kernel)
set_option maxRecDepth 100000 in
theorem pw_870 : (.code yX11_feed cX11_feed 8 (some .int) : Cond) ∈ lw_tbl := List.mem_of_getElem? (i := 1307) rfl
set_option maxRecDepth 20000 in
theorem lm_wsX11_feed : ∀ w ∈ wsX11_feed, w ∈ lw_tbl := List.forall_mem_cons.mpr ⟨pw_870, (wL_app (List.forall_mem_cons.mpr ⟨pw_796, (List.forall_mem_cons.mpr ⟨pw_869, (List.forall_mem_cons.mpr ⟨pw_868, (fun _ h => absurd h List.not_mem_nil)⟩)⟩)⟩) wL_wsX110)⟩
theorem pw_871 : (.selects RX11 yX11_feed yX11_feed : Cond) ∈ lw_tbl := List.mem_of_getElem? (i := 1306) (by decide +kernel)
theorem pw_872 : (.instanceMethod yX11_feed : Cond) ∈ lw_tbl := List.mem_of_getElem? (i := 1305) (by decide +kernel)
theorem pw_873 : (.methodLink RL 17 yX11_feed : Cond) ∈ lw_tbl := List.mem_of_getElem? (i := 1304) (by decide +kernel)
set_option maxRecDepth 20000 in
theorem gW_X11_feed : GoodIn lw_tbl (wsV RL 17 RX11 yX11_feed wsX11_feed) := goodIn_sub (wL_app (List.forall_mem_cons.mpr ⟨pw_873, (List.forall_mem_cons.mpr ⟨pw_872, (List.forall_mem_cons.mpr ⟨pw_871, (List.forall_mem_cons.mpr ⟨pw_789, (fun _ h => absurd h List.not_mem_nil)⟩)⟩)⟩)⟩) lm_wsX11_feed) (by decide +kernel)
theorem pw_874 : (.fieldLink RX11 68 "NothingJudgeModel" "callLetter" "[I" : Cond) ∈ lw_tbl := List.mem_of_getElem? (i := 1129) (by decide +kernel)
theorem pw_875 : (.fieldLink RX11 65 "NothingJudgeModel" "callPlace" "[I" : Cond) ∈ lw_tbl := List.mem_of_getElem? (i := 1128) (by decide +kernel)
theorem pw_876 : (.fieldLink RX11 59 "NothingJudgeModel" "testPlace" "[I" : Cond) ∈ lw_tbl := List.mem_of_getElem? (i := 1126) (by decide +kernel)
theorem pw_877 : (.fieldLink RX11 56 "NothingJudgeModel" "testRoutine" "[I" : Cond) ∈ lw_tbl := List.mem_of_getElem? (i := 1125) (by decide +kernel)
theorem pw_878 : (.fieldLink RX11 50 "NothingJudgeModel" "useName" "[I" : Cond) ∈ lw_tbl := List.mem_of_getElem? (i := 1123) (by decide +kernel)
theorem pw_879 : (.fieldLink RX11 47 "NothingJudgeModel" "usePlace" "[I" : Cond) ∈ lw_tbl := List.mem_of_getElem? (i := 1122) (by decide +kernel)
theorem pw_880 : (.fieldLink RX11 44 "NothingJudgeModel" "useRoutine" "[I" : Cond) ∈ lw_tbl := List.mem_of_getElem? (i := 1121) (by decide +kernel)
theorem pw_881 : (.fieldLink RX11 41 "NothingJudgeModel" "firstRoutine" "[I" : Cond) ∈ lw_tbl := List.mem_of_getElem? (i := 1120) (by decide +kernel)
theorem pw_882 : (.methodLink RX11 1 objectInit : Cond) ∈ lw_tbl := List.mem_of_getElem? (i := 1097) (by decide +kernel)
theorem ch_wsX11_init_r1 : ∀ w ∈ wsX11_init_r1, w ∈ lw_tbl := (List.forall_mem_cons.mpr ⟨pw_882, (List.forall_mem_cons.mpr ⟨pw_208, (List.forall_mem_cons.mpr ⟨pw_207, (List.forall_mem_cons.mpr ⟨pw_219, (List.forall_mem_cons.mpr ⟨pw_868, (List.forall_mem_cons.mpr ⟨pw_862, (List.forall_mem_cons.mpr ⟨pw_843, (List.forall_mem_cons.mpr ⟨pw_842, (List.forall_mem_cons.mpr ⟨pw_841, (List.forall_mem_cons.mpr ⟨pw_824, (List.forall_mem_cons.mpr ⟨pw_833, (List.forall_mem_cons.mpr ⟨pw_809, (List.forall_mem_cons.mpr ⟨pw_777, (List.forall_mem_cons.mpr ⟨pw_810, (List.forall_mem_cons.mpr ⟨pw_881, (List.forall_mem_cons.mpr ⟨pw_880, (List.forall_mem_cons.mpr ⟨pw_879, (List.forall_mem_cons.mpr ⟨pw_878, (List.forall_mem_cons.mpr ⟨pw_795, (List.forall_mem_cons.mpr ⟨pw_877, (List.forall_mem_cons.mpr ⟨pw_876, (List.forall_mem_cons.mpr ⟨pw_794, (List.forall_mem_cons.mpr ⟨pw_875, (List.forall_mem_cons.mpr ⟨pw_874, (fun _ h => absurd h List.not_mem_nil)⟩)⟩)⟩)⟩)⟩)⟩)⟩)⟩)⟩)⟩)⟩)⟩)⟩)⟩)⟩)⟩)⟩)⟩)⟩)⟩)⟩)⟩)⟩)⟩)
theorem pw_883 : (.fieldLink RX11 118 "NothingJudgeModel" "mendMarks" "[I" : Cond) ∈ lw_tbl := List.mem_of_getElem? (i := 1164) (by decide +kernel)
theorem pw_884 : (.fieldLink RX11 115 "NothingJudgeModel" "candidates" "[I" : Cond) ∈ lw_tbl := List.mem_of_getElem? (i := 1160) (by decide +kernel)
theorem pw_885 : (.fieldLink RX11 112 "NothingJudgeModel" "prices" "[I" : Cond) ∈ lw_tbl := List.mem_of_getElem? (i := 1159) (by decide +kernel)
theorem pw_886 : (.fieldLink RX11 109 "NothingJudgeModel" "backTo" "[I" : Cond) ∈ lw_tbl := List.mem_of_getElem? (i := 1147) (by decide +kernel)
theorem pw_887 : (.fieldLink RX11 106 "NothingJudgeModel" "names" "[I" : Cond) ∈ lw_tbl := List.mem_of_getElem? (i := 1146) (by decide +kernel)
theorem pw_888 : (.fieldLink RX11 103 "NothingJudgeModel" "fields" "[I" : Cond) ∈ lw_tbl := List.mem_of_getElem? (i := 1144) (by decide +kernel)
theorem pw_889 : (.arrayClass .boolean : Cond) ∈ lw_tbl := List.mem_of_getElem? (i := 1303) (by decide +kernel)
theorem pw_890 : (.fieldLink RX11 80 "NothingJudgeModel" "blockTest" "[I" : Cond) ∈ lw_tbl := List.mem_of_getElem? (i := 1135) (by decide +kernel)
theorem pw_891 : (.fieldLink RX11 77 "NothingJudgeModel" "blockWaits" "[I" : Cond) ∈ lw_tbl := List.mem_of_getElem? (i := 1134) (by decide +kernel)
theorem pw_892 : (.fieldLink RX11 74 "NothingJudgeModel" "blockKind" "[I" : Cond) ∈ lw_tbl := List.mem_of_getElem? (i := 1133) (by decide +kernel)
theorem pw_893 : (.fieldLink RX11 71 "NothingJudgeModel" "callArgs" "[I" : Cond) ∈ lw_tbl := List.mem_of_getElem? (i := 1130) (by decide +kernel)
theorem ch_wsX11_init_r2 : ∀ w ∈ wsX11_init_r2, w ∈ lw_tbl := (List.forall_mem_cons.mpr ⟨pw_893, (List.forall_mem_cons.mpr ⟨pw_892, (List.forall_mem_cons.mpr ⟨pw_891, (List.forall_mem_cons.mpr ⟨pw_890, (List.forall_mem_cons.mpr ⟨pw_793, (List.forall_mem_cons.mpr ⟨pw_776, (List.forall_mem_cons.mpr ⟨pw_251, (List.forall_mem_cons.mpr ⟨pw_781, (List.forall_mem_cons.mpr ⟨pw_780, (List.forall_mem_cons.mpr ⟨pw_889, (List.forall_mem_cons.mpr ⟨pw_787, (List.forall_mem_cons.mpr ⟨pw_779, (List.forall_mem_cons.mpr ⟨pw_888, (List.forall_mem_cons.mpr ⟨pw_887, (List.forall_mem_cons.mpr ⟨pw_886, (List.forall_mem_cons.mpr ⟨pw_885, (List.forall_mem_cons.mpr ⟨pw_884, (List.forall_mem_cons.mpr ⟨pw_883, (fun _ h => absurd h List.not_mem_nil)⟩)⟩)⟩)⟩)⟩)⟩)⟩)⟩)⟩)⟩)⟩)⟩)⟩)⟩)⟩)⟩)⟩)⟩)
set_option maxRecDepth 100000 in
theorem pw_894 : (.code yX11_init cX11_init 2 none : Cond) ∈ lw_tbl := List.mem_of_getElem? (i := 1096) rfl
set_option maxRecDepth 20000 in
theorem lm_wsX11_init : ∀ w ∈ wsX11_init, w ∈ lw_tbl := List.forall_mem_cons.mpr ⟨pw_894, (wL_app (wL_app ch_wsX11_init_r1 ch_wsX11_init_r2) wL_wsX110)⟩
set_option maxRecDepth 20000 in
theorem gW_X11_init : GoodIn lw_tbl wsX11_init := goodIn_sub lm_wsX11_init (by decide +kernel)
theorem ch_wsX11_mark_r1 : ∀ w ∈ wsX11_mark_r1, w ∈ lw_tbl := (List.forall_mem_cons.mpr ⟨pw_796, (List.forall_mem_cons.mpr ⟨pw_809, (List.forall_mem_cons.mpr ⟨pw_777, (List.forall_mem_cons.mpr ⟨pw_780, (List.forall_mem_cons.mpr ⟨pw_792, (List.forall_mem_cons.mpr ⟨pw_791, (List.forall_mem_cons.mpr ⟨pw_790, (List.forall_mem_cons.mpr ⟨pw_789, (List.forall_mem_cons.mpr ⟨pw_788, (List.forall_mem_cons.mpr ⟨pw_787, (List.forall_mem_cons.mpr ⟨pw_786, (List.forall_mem_cons.mpr ⟨pw_785, (List.forall_mem_cons.mpr ⟨pw_784, (List.forall_mem_cons.mpr ⟨pw_783, (List.forall_mem_cons.mpr ⟨pw_782, (List.forall_mem_cons.mpr ⟨pw_781, (List.forall_mem_cons.mpr ⟨pw_779, (List.forall_mem_cons.mpr ⟨pw_793, (List.forall_mem_cons.mpr ⟨pw_778, (List.forall_mem_cons.mpr ⟨pw_776, (List.forall_mem_cons.mpr ⟨pw_775, (List.forall_mem_cons.mpr ⟨pw_774, (List.forall_mem_cons.mpr ⟨pw_773, (List.forall_mem_cons.mpr ⟨pw_820, (fun _ h => absurd h List.not_mem_nil)⟩)⟩)⟩)⟩)⟩)⟩)⟩)⟩)⟩)⟩)⟩)⟩)⟩)⟩)⟩)⟩)⟩)⟩)⟩)⟩)⟩)⟩)⟩)⟩)
theorem ch_wsX11_mark_r2 : ∀ w ∈ wsX11_mark_r2, w ∈ lw_tbl := (List.forall_mem_cons.mpr ⟨pw_819, (List.forall_mem_cons.mpr ⟨pw_818, (List.forall_mem_cons.mpr ⟨pw_817, (List.forall_mem_cons.mpr ⟨pw_816, (List.forall_mem_cons.mpr ⟨pw_815, (List.forall_mem_cons.mpr ⟨pw_814, (List.forall_mem_cons.mpr ⟨pw_813, (List.forall_mem_cons.mpr ⟨pw_812, (List.forall_mem_cons.mpr ⟨pw_811, (List.forall_mem_cons.mpr ⟨pw_810, (List.forall_mem_cons.mpr ⟨pw_808, (List.forall_mem_cons.mpr ⟨pw_807, (List.forall_mem_cons.mpr ⟨pw_806, (List.forall_mem_cons.mpr ⟨pw_805, (List.forall_mem_cons.mpr ⟨pw_804, (List.forall_mem_cons.mpr ⟨pw_803, (List.forall_mem_cons.mpr ⟨pw_802, (List.forall_mem_cons.mpr ⟨pw_801, (List.forall_mem_cons.mpr ⟨pw_800, (List.forall_mem_cons.mpr ⟨pw_799, (List.forall_mem_cons.mpr ⟨pw_798, (List.forall_mem_cons.mpr ⟨pw_797, (List.forall_mem_cons.mpr ⟨pw_844, (List.forall_mem_cons.mpr ⟨pw_843, (fun _ h => absurd h List.not_mem_nil)⟩)⟩)⟩)⟩)⟩)⟩)⟩)⟩)⟩)⟩)⟩)⟩)⟩)⟩)⟩)⟩)⟩)⟩)⟩)⟩)⟩)⟩)⟩)⟩)
theorem ch_wsX11_mark_r3 : ∀ w ∈ wsX11_mark_r3, w ∈ lw_tbl := (List.forall_mem_cons.mpr ⟨pw_842, (List.forall_mem_cons.mpr ⟨pw_841, (List.forall_mem_cons.mpr ⟨pw_840, (List.forall_mem_cons.mpr ⟨pw_839, (List.forall_mem_cons.mpr ⟨pw_838, (List.forall_mem_cons.mpr ⟨pw_837, (List.forall_mem_cons.mpr ⟨pw_836, (List.forall_mem_cons.mpr ⟨pw_835, (List.forall_mem_cons.mpr ⟨pw_834, (List.forall_mem_cons.mpr ⟨pw_833, (List.forall_mem_cons.mpr ⟨pw_832, (List.forall_mem_cons.mpr ⟨pw_831, (List.forall_mem_cons.mpr ⟨pw_830, (List.forall_mem_cons.mpr ⟨pw_829, (List.forall_mem_cons.mpr ⟨pw_828, (List.forall_mem_cons.mpr ⟨pw_827, (List.forall_mem_cons.mpr ⟨pw_826, (List.forall_mem_cons.mpr ⟨pw_825, (List.forall_mem_cons.mpr ⟨pw_824, (fun _ h => absurd h List.not_mem_nil)⟩)⟩)⟩)⟩)⟩)⟩)⟩)⟩)⟩)⟩)⟩)⟩)⟩)⟩)⟩)⟩)⟩)⟩)⟩)
set_option maxRecDepth 100000 in
theorem pw_895 : (.code yX11_mark cX11_mark 5 (some .int) : Cond) ∈ lw_tbl := List.mem_of_getElem? (i := 1425) rfl
set_option maxRecDepth 20000 in
theorem lm_wsX11_mark : ∀ w ∈ wsX11_mark, w ∈ lw_tbl := List.forall_mem_cons.mpr ⟨pw_895, (wL_app (wL_app ch_wsX11_mark_r1 (wL_app ch_wsX11_mark_r2 ch_wsX11_mark_r3)) wL_wsX110)⟩
theorem pw_896 : (.selects RX11 yX11_mark yX11_mark : Cond) ∈ lw_tbl := List.mem_of_getElem? (i := 1424) (by decide +kernel)
theorem pw_897 : (.instanceMethod yX11_mark : Cond) ∈ lw_tbl := List.mem_of_getElem? (i := 1423) (by decide +kernel)
theorem pw_898 : (.methodLink RL 41 yX11_mark : Cond) ∈ lw_tbl := List.mem_of_getElem? (i := 1422) (by decide +kernel)
set_option maxRecDepth 20000 in
theorem gW_X11_mark : GoodIn lw_tbl (wsV RL 41 RX11 yX11_mark wsX11_mark) := goodIn_sub (wL_app (List.forall_mem_cons.mpr ⟨pw_898, (List.forall_mem_cons.mpr ⟨pw_897, (List.forall_mem_cons.mpr ⟨pw_896, (List.forall_mem_cons.mpr ⟨pw_789, (fun _ h => absurd h List.not_mem_nil)⟩)⟩)⟩)⟩) lm_wsX11_mark) (by decide +kernel)
theorem pw_899 : (.fieldLink RX11 393 "NothingJudgeModel" "hasMend" "Z" : Cond) ∈ lw_tbl := List.mem_of_getElem? (i := 1165) (by decide +kernel)
theorem pw_900 : (.fieldLink RX11 390 "NothingJudgeModel" "mendHeld" "I" : Cond) ∈ lw_tbl := List.mem_of_getElem? (i := 1162) (by decide +kernel)
theorem pw_901 : (.fieldLink RX11 387 "NothingJudgeModel" "mendGuards" "I" : Cond) ∈ lw_tbl := List.mem_of_getElem? (i := 1163) (by decide +kernel)
theorem pw_902 : (.fieldLink RX11 378 "NothingJudgeModel" "candidateMany" "I" : Cond) ∈ lw_tbl := List.mem_of_getElem? (i := 1161) (by decide +kernel)
theorem ch_wsX11_mend_r1 : ∀ w ∈ wsX11_mend_r1, w ∈ lw_tbl := (List.forall_mem_cons.mpr ⟨pw_796, (List.forall_mem_cons.mpr ⟨pw_793, (List.forall_mem_cons.mpr ⟨pw_902, (List.forall_mem_cons.mpr ⟨pw_780, (List.forall_mem_cons.mpr ⟨pw_884, (List.forall_mem_cons.mpr ⟨pw_787, (List.forall_mem_cons.mpr ⟨pw_885, (List.forall_mem_cons.mpr ⟨pw_901, (List.forall_mem_cons.mpr ⟨pw_900, (List.forall_mem_cons.mpr ⟨pw_883, (List.forall_mem_cons.mpr ⟨pw_899, (List.forall_mem_cons.mpr ⟨pw_792, (List.forall_mem_cons.mpr ⟨pw_791, (List.forall_mem_cons.mpr ⟨pw_790, (List.forall_mem_cons.mpr ⟨pw_789, (List.forall_mem_cons.mpr ⟨pw_788, (List.forall_mem_cons.mpr ⟨pw_786, (List.forall_mem_cons.mpr ⟨pw_785, (List.forall_mem_cons.mpr ⟨pw_784, (List.forall_mem_cons.mpr ⟨pw_783, (List.forall_mem_cons.mpr ⟨pw_782, (List.forall_mem_cons.mpr ⟨pw_781, (List.forall_mem_cons.mpr ⟨pw_779, (List.forall_mem_cons.mpr ⟨pw_778, (fun _ h => absurd h List.not_mem_nil)⟩)⟩)⟩)⟩)⟩)⟩)⟩)⟩)⟩)⟩)⟩)⟩)⟩)⟩)⟩)⟩)⟩)⟩)⟩)⟩)⟩)⟩)⟩)⟩)
theorem ch_wsX11_mend_r2 : ∀ w ∈ wsX11_mend_r2, w ∈ lw_tbl := (List.forall_mem_cons.mpr ⟨pw_777, (List.forall_mem_cons.mpr ⟨pw_776, (List.forall_mem_cons.mpr ⟨pw_775, (List.forall_mem_cons.mpr ⟨pw_774, (List.forall_mem_cons.mpr ⟨pw_773, (List.forall_mem_cons.mpr ⟨pw_820, (List.forall_mem_cons.mpr ⟨pw_819, (List.forall_mem_cons.mpr ⟨pw_818, (List.forall_mem_cons.mpr ⟨pw_817, (List.forall_mem_cons.mpr ⟨pw_816, (List.forall_mem_cons.mpr ⟨pw_815, (List.forall_mem_cons.mpr ⟨pw_814, (List.forall_mem_cons.mpr ⟨pw_813, (List.forall_mem_cons.mpr ⟨pw_812, (List.forall_mem_cons.mpr ⟨pw_811, (List.forall_mem_cons.mpr ⟨pw_810, (List.forall_mem_cons.mpr ⟨pw_809, (List.forall_mem_cons.mpr ⟨pw_808, (List.forall_mem_cons.mpr ⟨pw_807, (List.forall_mem_cons.mpr ⟨pw_806, (List.forall_mem_cons.mpr ⟨pw_805, (List.forall_mem_cons.mpr ⟨pw_804, (List.forall_mem_cons.mpr ⟨pw_803, (List.forall_mem_cons.mpr ⟨pw_802, (fun _ h => absurd h List.not_mem_nil)⟩)⟩)⟩)⟩)⟩)⟩)⟩)⟩)⟩)⟩)⟩)⟩)⟩)⟩)⟩)⟩)⟩)⟩)⟩)⟩)⟩)⟩)⟩)⟩)
theorem ch_wsX11_mend_r3 : ∀ w ∈ wsX11_mend_r3, w ∈ lw_tbl := (List.forall_mem_cons.mpr ⟨pw_801, (List.forall_mem_cons.mpr ⟨pw_800, (List.forall_mem_cons.mpr ⟨pw_799, (List.forall_mem_cons.mpr ⟨pw_798, (List.forall_mem_cons.mpr ⟨pw_797, (List.forall_mem_cons.mpr ⟨pw_844, (List.forall_mem_cons.mpr ⟨pw_843, (List.forall_mem_cons.mpr ⟨pw_842, (List.forall_mem_cons.mpr ⟨pw_841, (List.forall_mem_cons.mpr ⟨pw_840, (List.forall_mem_cons.mpr ⟨pw_839, (List.forall_mem_cons.mpr ⟨pw_838, (List.forall_mem_cons.mpr ⟨pw_837, (List.forall_mem_cons.mpr ⟨pw_836, (List.forall_mem_cons.mpr ⟨pw_835, (List.forall_mem_cons.mpr ⟨pw_834, (List.forall_mem_cons.mpr ⟨pw_833, (List.forall_mem_cons.mpr ⟨pw_832, (List.forall_mem_cons.mpr ⟨pw_831, (List.forall_mem_cons.mpr ⟨pw_830, (List.forall_mem_cons.mpr ⟨pw_829, (List.forall_mem_cons.mpr ⟨pw_828, (List.forall_mem_cons.mpr ⟨pw_827, (List.forall_mem_cons.mpr ⟨pw_826, (fun _ h => absurd h List.not_mem_nil)⟩)⟩)⟩)⟩)⟩)⟩)⟩)⟩)⟩)⟩)⟩)⟩)⟩)⟩)⟩)⟩)⟩)⟩)⟩)⟩)⟩)⟩)⟩)⟩)
set_option maxRecDepth 100000 in
theorem pw_903 : (.code yX11_guards cX11_guards 3 (some .int) : Cond) ∈ lw_tbl := List.mem_of_getElem? (i := 1556) rfl
theorem pw_904 : (.selects RX11 yX11_guards yX11_guards : Cond) ∈ lw_tbl := List.mem_of_getElem? (i := 105) (by decide +kernel)
theorem pw_905 : (.instanceMethod yX11_guards : Cond) ∈ lw_tbl := List.mem_of_getElem? (i := 1555) (by decide +kernel)
theorem pw_906 : (.methodLink RX11 384 yX11_guards : Cond) ∈ lw_tbl := List.mem_of_getElem? (i := 1553) (by decide +kernel)
set_option maxRecDepth 100000 in
theorem pw_907 : (.code yX11_kindOf cX11_kindOf 1 (some .int) : Cond) ∈ lw_tbl := List.mem_of_getElem? (i := 1552) rfl
theorem pw_908 : (.static yX11_kindOf : Cond) ∈ lw_tbl := List.mem_of_getElem? (i := 1551) (by decide +kernel)
theorem pw_909 : (.methodLink RX11 381 yX11_kindOf : Cond) ∈ lw_tbl := List.mem_of_getElem? (i := 1550) (by decide +kernel)
theorem ch_wsX11_mend_r4 : ∀ w ∈ wsX11_mend_r4, w ∈ lw_tbl := (List.forall_mem_cons.mpr ⟨pw_825, (List.forall_mem_cons.mpr ⟨pw_824, (List.forall_mem_cons.mpr ⟨pw_909, (List.forall_mem_cons.mpr ⟨pw_908, (List.forall_mem_cons.mpr ⟨pw_907, (List.forall_mem_cons.mpr ⟨pw_906, (List.forall_mem_cons.mpr ⟨pw_905, (List.forall_mem_cons.mpr ⟨pw_904, (List.forall_mem_cons.mpr ⟨pw_903, (List.forall_mem_cons.mpr ⟨pw_795, (List.forall_mem_cons.mpr ⟨pw_823, (List.forall_mem_cons.mpr ⟨pw_822, (List.forall_mem_cons.mpr ⟨pw_821, (List.forall_mem_cons.mpr ⟨pw_849, (fun _ h => absurd h List.not_mem_nil)⟩)⟩)⟩)⟩)⟩)⟩)⟩)⟩)⟩)⟩)⟩)⟩)⟩)⟩)
set_option maxRecDepth 100000 in
theorem pw_910 : (.code yX11_mend cX11_mend 6 (some .int) : Cond) ∈ lw_tbl := List.mem_of_getElem? (i := 1549) rfl
set_option maxRecDepth 20000 in
theorem lm_wsX11_mend : ∀ w ∈ wsX11_mend, w ∈ lw_tbl := List.forall_mem_cons.mpr ⟨pw_910, (wL_app (wL_app ch_wsX11_mend_r1 (wL_app ch_wsX11_mend_r2 (wL_app ch_wsX11_mend_r3 ch_wsX11_mend_r4))) wL_wsX110)⟩
theorem pw_911 : (.selects RX11 yX11_mend yX11_mend : Cond) ∈ lw_tbl := List.mem_of_getElem? (i := 1548) (by decide +kernel)
theorem pw_912 : (.instanceMethod yX11_mend : Cond) ∈ lw_tbl := List.mem_of_getElem? (i := 1547) (by decide +kernel)
theorem pw_913 : (.methodLink RL 71 yX11_mend : Cond) ∈ lw_tbl := List.mem_of_getElem? (i := 1546) (by decide +kernel)
set_option maxRecDepth 20000 in
theorem gW_X11_mend : GoodIn lw_tbl (wsV RL 71 RX11 yX11_mend wsX11_mend) := goodIn_sub (wL_app (List.forall_mem_cons.mpr ⟨pw_913, (List.forall_mem_cons.mpr ⟨pw_912, (List.forall_mem_cons.mpr ⟨pw_911, (List.forall_mem_cons.mpr ⟨pw_789, (fun _ h => absurd h List.not_mem_nil)⟩)⟩)⟩)⟩) lm_wsX11_mend) (by decide +kernel)
set_option maxRecDepth 100000 in
theorem pw_914 : (.code yX11_mended cX11_mended 3 (some .int) : Cond) ∈ lw_tbl := List.mem_of_getElem? (i := 1560) rfl
set_option maxRecDepth 20000 in
theorem lm_wsX11_mended : ∀ w ∈ wsX11_mended, w ∈ lw_tbl := List.forall_mem_cons.mpr ⟨pw_914, (wL_app (List.forall_mem_cons.mpr ⟨pw_796, (List.forall_mem_cons.mpr ⟨pw_899, (List.forall_mem_cons.mpr ⟨pw_900, (List.forall_mem_cons.mpr ⟨pw_901, (List.forall_mem_cons.mpr ⟨pw_883, (fun _ h => absurd h List.not_mem_nil)⟩)⟩)⟩)⟩)⟩) wL_wsX110)⟩
theorem pw_915 : (.selects RX11 yX11_mended yX11_mended : Cond) ∈ lw_tbl := List.mem_of_getElem? (i := 1559) (by decide +kernel)
theorem pw_916 : (.instanceMethod yX11_mended : Cond) ∈ lw_tbl := List.mem_of_getElem? (i := 1558) (by decide +kernel)
theorem pw_917 : (.methodLink RL 75 yX11_mended : Cond) ∈ lw_tbl := List.mem_of_getElem? (i := 1557) (by decide +kernel)
set_option maxRecDepth 20000 in
theorem gW_X11_mended : GoodIn lw_tbl (wsV RL 75 RX11 yX11_mended wsX11_mended) := goodIn_sub (wL_app (List.forall_mem_cons.mpr ⟨pw_917, (List.forall_mem_cons.mpr ⟨pw_916, (List.forall_mem_cons.mpr ⟨pw_915, (List.forall_mem_cons.mpr ⟨pw_789, (fun _ h => absurd h List.not_mem_nil)⟩)⟩)⟩)⟩) lm_wsX11_mended) (by decide +kernel)
set_option maxRecDepth 100000 in
theorem pw_918 : (.code yX11_outer cX11_outer 3 (some .boolean) : Cond) ∈ lw_tbl := List.mem_of_getElem? (i := 1421) rfl
set_option maxRecDepth 20000 in
theorem lm_wsX11_outer : ∀ w ∈ wsX11_outer, w ∈ lw_tbl := List.forall_mem_cons.mpr ⟨pw_918, (wL_app (List.forall_mem_cons.mpr ⟨pw_796, (List.forall_mem_cons.mpr ⟨pw_793, (List.forall_mem_cons.mpr ⟨pw_777, (List.forall_mem_cons.mpr ⟨pw_776, (fun _ h => absurd h List.not_mem_nil)⟩)⟩)⟩)⟩) wL_wsX110)⟩
theorem pw_919 : (.selects RX11 yX11_outer yX11_outer : Cond) ∈ lw_tbl := List.mem_of_getElem? (i := 1420) (by decide +kernel)
theorem pw_920 : (.instanceMethod yX11_outer : Cond) ∈ lw_tbl := List.mem_of_getElem? (i := 1419) (by decide +kernel)
theorem pw_921 : (.methodLink RL 36 yX11_outer : Cond) ∈ lw_tbl := List.mem_of_getElem? (i := 1418) (by decide +kernel)
set_option maxRecDepth 20000 in
theorem gW_X11_outer : GoodIn lw_tbl (wsV RL 36 RX11 yX11_outer wsX11_outer) := goodIn_sub (wL_app (List.forall_mem_cons.mpr ⟨pw_921, (List.forall_mem_cons.mpr ⟨pw_920, (List.forall_mem_cons.mpr ⟨pw_919, (List.forall_mem_cons.mpr ⟨pw_789, (fun _ h => absurd h List.not_mem_nil)⟩)⟩)⟩)⟩) lm_wsX11_outer) (by decide +kernel)
set_option maxRecDepth 100000 in
theorem pw_922 : (.code yX11_price cX11_price 3 (some .boolean) : Cond) ∈ lw_tbl := List.mem_of_getElem? (i := 1545) rfl
set_option maxRecDepth 20000 in
theorem lm_wsX11_price : ∀ w ∈ wsX11_price, w ∈ lw_tbl := List.forall_mem_cons.mpr ⟨pw_922, (wL_app (List.forall_mem_cons.mpr ⟨pw_796, (List.forall_mem_cons.mpr ⟨pw_885, (fun _ h => absurd h List.not_mem_nil)⟩)⟩) wL_wsX110)⟩
theorem pw_923 : (.selects RX11 yX11_price yX11_price : Cond) ∈ lw_tbl := List.mem_of_getElem? (i := 1544) (by decide +kernel)
theorem pw_924 : (.instanceMethod yX11_price : Cond) ∈ lw_tbl := List.mem_of_getElem? (i := 1543) (by decide +kernel)
theorem pw_925 : (.methodLink RL 66 yX11_price : Cond) ∈ lw_tbl := List.mem_of_getElem? (i := 1542) (by decide +kernel)
set_option maxRecDepth 20000 in
theorem gW_X11_price : GoodIn lw_tbl (wsV RL 66 RX11 yX11_price wsX11_price) := goodIn_sub (wL_app (List.forall_mem_cons.mpr ⟨pw_925, (List.forall_mem_cons.mpr ⟨pw_924, (List.forall_mem_cons.mpr ⟨pw_923, (List.forall_mem_cons.mpr ⟨pw_789, (fun _ h => absurd h List.not_mem_nil)⟩)⟩)⟩)⟩) lm_wsX11_price) (by decide +kernel)
theorem pw_926 : (.fieldLink RX11 375 "NothingJudgeModel" "ranAnys" "I" : Cond) ∈ lw_tbl := List.mem_of_getElem? (i := 1158) (by decide +kernel)
theorem pw_927 : (.fieldLink RX11 372 "NothingJudgeModel" "ranThings" "I" : Cond) ∈ lw_tbl := List.mem_of_getElem? (i := 1157) (by decide +kernel)
theorem pw_928 : (.fieldLink RX11 369 "NothingJudgeModel" "ranUse" "I" : Cond) ∈ lw_tbl := List.mem_of_getElem? (i := 1156) (by decide +kernel)
theorem pw_929 : (.fieldLink RX11 366 "NothingJudgeModel" "ranSteps" "I" : Cond) ∈ lw_tbl := List.mem_of_getElem? (i := 1155) (by decide +kernel)
theorem pw_930 : (.fieldLink RX11 363 "NothingJudgeModel" "hasRun" "Z" : Cond) ∈ lw_tbl := List.mem_of_getElem? (i := 1154) (by decide +kernel)
set_option maxRecDepth 100000 in
theorem pw_931 : (.code yX11_ran cX11_ran 2 (some .int) : Cond) ∈ lw_tbl := List.mem_of_getElem? (i := 1537) rfl
set_option maxRecDepth 20000 in
theorem lm_wsX11_ran : ∀ w ∈ wsX11_ran, w ∈ lw_tbl := List.forall_mem_cons.mpr ⟨pw_931, (wL_app (List.forall_mem_cons.mpr ⟨pw_796, (List.forall_mem_cons.mpr ⟨pw_930, (List.forall_mem_cons.mpr ⟨pw_929, (List.forall_mem_cons.mpr ⟨pw_928, (List.forall_mem_cons.mpr ⟨pw_927, (List.forall_mem_cons.mpr ⟨pw_926, (fun _ h => absurd h List.not_mem_nil)⟩)⟩)⟩)⟩)⟩)⟩) wL_wsX110)⟩
theorem pw_932 : (.selects RX11 yX11_ran yX11_ran : Cond) ∈ lw_tbl := List.mem_of_getElem? (i := 1536) (by decide +kernel)
theorem pw_933 : (.instanceMethod yX11_ran : Cond) ∈ lw_tbl := List.mem_of_getElem? (i := 1535) (by decide +kernel)
theorem pw_934 : (.methodLink RL 58 yX11_ran : Cond) ∈ lw_tbl := List.mem_of_getElem? (i := 1534) (by decide +kernel)
set_option maxRecDepth 20000 in
theorem gW_X11_ran : GoodIn lw_tbl (wsV RL 58 RX11 yX11_ran wsX11_ran) := goodIn_sub (wL_app (List.forall_mem_cons.mpr ⟨pw_934, (List.forall_mem_cons.mpr ⟨pw_933, (List.forall_mem_cons.mpr ⟨pw_932, (List.forall_mem_cons.mpr ⟨pw_789, (fun _ h => absurd h List.not_mem_nil)⟩)⟩)⟩)⟩) lm_wsX11_ran) (by decide +kernel)
theorem pw_935 : (.fieldLink RX11 320 "NothingJudgeModel" "frames" "I" : Cond) ∈ lw_tbl := List.mem_of_getElem? (i := 1148) (by decide +kernel)
set_option maxRecDepth 100000 in
theorem pw_936 : (.code yX11_runs cX11_runs 4 none : Cond) ∈ lw_tbl := List.mem_of_getElem? (i := 1501) rfl
theorem pw_937 : (.selects RX11 yX11_runs yX11_runs : Cond) ∈ lw_tbl := List.mem_of_getElem? (i := 96) (by decide +kernel)
theorem pw_938 : (.instanceMethod yX11_runs : Cond) ∈ lw_tbl := List.mem_of_getElem? (i := 1500) (by decide +kernel)
theorem pw_939 : (.methodLink RX11 360 yX11_runs : Cond) ∈ lw_tbl := List.mem_of_getElem? (i := 1498) (by decide +kernel)
set_option maxRecDepth 100000 in
theorem pw_940 : (.code yX11_canRun cX11_canRun 4 (some .boolean) : Cond) ∈ lw_tbl := List.mem_of_getElem? (i := 1497) rfl
theorem pw_941 : (.selects RX11 yX11_canRun yX11_canRun : Cond) ∈ lw_tbl := List.mem_of_getElem? (i := 95) (by decide +kernel)
theorem pw_942 : (.instanceMethod yX11_canRun : Cond) ∈ lw_tbl := List.mem_of_getElem? (i := 1496) (by decide +kernel)
theorem pw_943 : (.methodLink RX11 356 yX11_canRun : Cond) ∈ lw_tbl := List.mem_of_getElem? (i := 1494) (by decide +kernel)
theorem pw_944 : (.fieldLink RX11 314 "NothingJudgeModel" "outcome" "I" : Cond) ∈ lw_tbl := List.mem_of_getElem? (i := 1153) (by decide +kernel)
theorem pw_945 : (.fieldLink RX11 317 "NothingJudgeModel" "anys" "I" : Cond) ∈ lw_tbl := List.mem_of_getElem? (i := 1151) (by decide +kernel)
theorem pw_946 : (.fieldLink RX11 311 "NothingJudgeModel" "things" "I" : Cond) ∈ lw_tbl := List.mem_of_getElem? (i := 1145) (by decide +kernel)
theorem pw_947 : (.fieldLink RX11 326 "NothingJudgeModel" "failed" "I" : Cond) ∈ lw_tbl := List.mem_of_getElem? (i := 1152) (by decide +kernel)
theorem pw_948 : (.fieldLink RX11 323 "NothingJudgeModel" "steps" "I" : Cond) ∈ lw_tbl := List.mem_of_getElem? (i := 1150) (by decide +kernel)
theorem ch_wsX11_run_r1 : ∀ w ∈ wsX11_run_r1, w ∈ lw_tbl := (List.forall_mem_cons.mpr ⟨pw_796, (List.forall_mem_cons.mpr ⟨pw_930, (List.forall_mem_cons.mpr ⟨pw_948, (List.forall_mem_cons.mpr ⟨pw_929, (List.forall_mem_cons.mpr ⟨pw_947, (List.forall_mem_cons.mpr ⟨pw_928, (List.forall_mem_cons.mpr ⟨pw_946, (List.forall_mem_cons.mpr ⟨pw_927, (List.forall_mem_cons.mpr ⟨pw_945, (List.forall_mem_cons.mpr ⟨pw_926, (List.forall_mem_cons.mpr ⟨pw_944, (List.forall_mem_cons.mpr ⟨pw_943, (List.forall_mem_cons.mpr ⟨pw_942, (List.forall_mem_cons.mpr ⟨pw_941, (List.forall_mem_cons.mpr ⟨pw_789, (List.forall_mem_cons.mpr ⟨pw_940, (List.forall_mem_cons.mpr ⟨pw_793, (List.forall_mem_cons.mpr ⟨pw_777, (List.forall_mem_cons.mpr ⟨pw_776, (List.forall_mem_cons.mpr ⟨pw_939, (List.forall_mem_cons.mpr ⟨pw_938, (List.forall_mem_cons.mpr ⟨pw_937, (List.forall_mem_cons.mpr ⟨pw_936, (List.forall_mem_cons.mpr ⟨pw_935, (fun _ h => absurd h List.not_mem_nil)⟩)⟩)⟩)⟩)⟩)⟩)⟩)⟩)⟩)⟩)⟩)⟩)⟩)⟩)⟩)⟩)⟩)⟩)⟩)⟩)⟩)⟩)⟩)⟩)
theorem pw_949 : (.instanceMethod yX11_step : Cond) ∈ lw_tbl := List.mem_of_getElem? (i := 1516) (by decide +kernel)
theorem pw_950 : (.methodLink RX11 341 yX11_step : Cond) ∈ lw_tbl := List.mem_of_getElem? (i := 1514) (by decide +kernel)
set_option maxRecDepth 100000 in
theorem pw_951 : (.code yX11_does cX11_does 4 (some .int) : Cond) ∈ lw_tbl := List.mem_of_getElem? (i := 1513) rfl
theorem pw_952 : (.selects RX11 yX11_does yX11_does : Cond) ∈ lw_tbl := List.mem_of_getElem? (i := 99) (by decide +kernel)
theorem pw_953 : (.instanceMethod yX11_does : Cond) ∈ lw_tbl := List.mem_of_getElem? (i := 1512) (by decide +kernel)
theorem pw_954 : (.methodLink RX11 338 yX11_does : Cond) ∈ lw_tbl := List.mem_of_getElem? (i := 1510) (by decide +kernel)
set_option maxRecDepth 100000 in
theorem pw_955 : (.code yX11_makes cX11_makes 3 (some .int) : Cond) ∈ lw_tbl := List.mem_of_getElem? (i := 1509) rfl
theorem pw_956 : (.selects RX11 yX11_makes yX11_makes : Cond) ∈ lw_tbl := List.mem_of_getElem? (i := 98) (by decide +kernel)
theorem pw_957 : (.instanceMethod yX11_makes : Cond) ∈ lw_tbl := List.mem_of_getElem? (i := 1508) (by decide +kernel)
theorem pw_958 : (.methodLink RX11 335 yX11_makes : Cond) ∈ lw_tbl := List.mem_of_getElem? (i := 1506) (by decide +kernel)
set_option maxRecDepth 100000 in
theorem pw_959 : (.code yX11_frame cX11_frame 3 none : Cond) ∈ lw_tbl := List.mem_of_getElem? (i := 1505) rfl
theorem pw_960 : (.selects RX11 yX11_frame yX11_frame : Cond) ∈ lw_tbl := List.mem_of_getElem? (i := 97) (by decide +kernel)
theorem pw_961 : (.instanceMethod yX11_frame : Cond) ∈ lw_tbl := List.mem_of_getElem? (i := 1504) (by decide +kernel)
theorem pw_962 : (.methodLink RX11 332 yX11_frame : Cond) ∈ lw_tbl := List.mem_of_getElem? (i := 1502) (by decide +kernel)
theorem pw_963 : (.fieldLink RX11 329 "NothingJudgeModel" "acc" "I" : Cond) ∈ lw_tbl := List.mem_of_getElem? (i := 1149) (by decide +kernel)
theorem ch_wsX11_run_r2 : ∀ w ∈ wsX11_run_r2, w ∈ lw_tbl := (List.forall_mem_cons.mpr ⟨pw_963, (List.forall_mem_cons.mpr ⟨pw_887, (List.forall_mem_cons.mpr ⟨pw_810, (List.forall_mem_cons.mpr ⟨pw_809, (List.forall_mem_cons.mpr ⟨pw_962, (List.forall_mem_cons.mpr ⟨pw_961, (List.forall_mem_cons.mpr ⟨pw_960, (List.forall_mem_cons.mpr ⟨pw_959, (List.forall_mem_cons.mpr ⟨pw_886, (List.forall_mem_cons.mpr ⟨pw_958, (List.forall_mem_cons.mpr ⟨pw_957, (List.forall_mem_cons.mpr ⟨pw_956, (List.forall_mem_cons.mpr ⟨pw_955, (List.forall_mem_cons.mpr ⟨pw_888, (List.forall_mem_cons.mpr ⟨pw_954, (List.forall_mem_cons.mpr ⟨pw_953, (List.forall_mem_cons.mpr ⟨pw_952, (List.forall_mem_cons.mpr ⟨pw_951, (List.forall_mem_cons.mpr ⟨pw_843, (List.forall_mem_cons.mpr ⟨pw_842, (List.forall_mem_cons.mpr ⟨pw_841, (List.forall_mem_cons.mpr ⟨pw_824, (List.forall_mem_cons.mpr ⟨pw_950, (List.forall_mem_cons.mpr ⟨pw_949, (fun _ h => absurd h List.not_mem_nil)⟩)⟩)⟩)⟩)⟩)⟩)⟩)⟩)⟩)⟩)⟩)⟩)⟩)⟩)⟩)⟩)⟩)⟩)⟩)⟩)⟩)⟩)⟩)⟩)
set_option maxRecDepth 100000 in
theorem pw_964 : (.code yX11_enter cX11_enter 5 (some .int) : Cond) ∈ lw_tbl := List.mem_of_getElem? (i := 1533) rfl
theorem pw_965 : (.selects RX11 yX11_enter yX11_enter : Cond) ∈ lw_tbl := List.mem_of_getElem? (i := 104) (by decide +kernel)
theorem pw_966 : (.instanceMethod yX11_enter : Cond) ∈ lw_tbl := List.mem_of_getElem? (i := 1532) (by decide +kernel)
theorem pw_967 : (.methodLink RX11 353 yX11_enter : Cond) ∈ lw_tbl := List.mem_of_getElem? (i := 1530) (by decide +kernel)
set_option maxRecDepth 100000 in
theorem pw_968 : (.code yX11_fails cX11_fails 2 none : Cond) ∈ lw_tbl := List.mem_of_getElem? (i := 1529) rfl
theorem pw_969 : (.selects RX11 yX11_fails yX11_fails : Cond) ∈ lw_tbl := List.mem_of_getElem? (i := 103) (by decide +kernel)
theorem pw_970 : (.instanceMethod yX11_fails : Cond) ∈ lw_tbl := List.mem_of_getElem? (i := 1528) (by decide +kernel)
theorem pw_971 : (.methodLink RX11 350 yX11_fails : Cond) ∈ lw_tbl := List.mem_of_getElem? (i := 1526) (by decide +kernel)
set_option maxRecDepth 100000 in
theorem pw_972 : (.code yX11_nameOf cX11_nameOf 2 (some .int) : Cond) ∈ lw_tbl := List.mem_of_getElem? (i := 1525) rfl
theorem pw_973 : (.selects RX11 yX11_nameOf yX11_nameOf : Cond) ∈ lw_tbl := List.mem_of_getElem? (i := 102) (by decide +kernel)
theorem pw_974 : (.instanceMethod yX11_nameOf : Cond) ∈ lw_tbl := List.mem_of_getElem? (i := 1524) (by decide +kernel)
theorem pw_975 : (.methodLink RX11 347 yX11_nameOf : Cond) ∈ lw_tbl := List.mem_of_getElem? (i := 1522) (by decide +kernel)
set_option maxRecDepth 100000 in
theorem pw_976 : (.code yX11_chooses cX11_chooses 3 (some .boolean) : Cond) ∈ lw_tbl := List.mem_of_getElem? (i := 1521) rfl
theorem pw_977 : (.selects RX11 yX11_chooses yX11_chooses : Cond) ∈ lw_tbl := List.mem_of_getElem? (i := 101) (by decide +kernel)
theorem pw_978 : (.instanceMethod yX11_chooses : Cond) ∈ lw_tbl := List.mem_of_getElem? (i := 1520) (by decide +kernel)
theorem pw_979 : (.methodLink RX11 344 yX11_chooses : Cond) ∈ lw_tbl := List.mem_of_getElem? (i := 1518) (by decide +kernel)
set_option maxRecDepth 100000 in
theorem pw_980 : (.code yX11_step cX11_step 1 none : Cond) ∈ lw_tbl := List.mem_of_getElem? (i := 1517) rfl
theorem pw_981 : (.selects RX11 yX11_step yX11_step : Cond) ∈ lw_tbl := List.mem_of_getElem? (i := 100) (by decide +kernel)
theorem ch_wsX11_run_r3 : ∀ w ∈ wsX11_run_r3, w ∈ lw_tbl := (List.forall_mem_cons.mpr ⟨pw_981, (List.forall_mem_cons.mpr ⟨pw_980, (List.forall_mem_cons.mpr ⟨pw_979, (List.forall_mem_cons.mpr ⟨pw_978, (List.forall_mem_cons.mpr ⟨pw_977, (List.forall_mem_cons.mpr ⟨pw_976, (List.forall_mem_cons.mpr ⟨pw_975, (List.forall_mem_cons.mpr ⟨pw_974, (List.forall_mem_cons.mpr ⟨pw_973, (List.forall_mem_cons.mpr ⟨pw_972, (List.forall_mem_cons.mpr ⟨pw_971, (List.forall_mem_cons.mpr ⟨pw_970, (List.forall_mem_cons.mpr ⟨pw_969, (List.forall_mem_cons.mpr ⟨pw_968, (List.forall_mem_cons.mpr ⟨pw_967, (List.forall_mem_cons.mpr ⟨pw_966, (List.forall_mem_cons.mpr ⟨pw_965, (List.forall_mem_cons.mpr ⟨pw_964, (List.forall_mem_cons.mpr ⟨pw_833, (fun _ h => absurd h List.not_mem_nil)⟩)⟩)⟩)⟩)⟩)⟩)⟩)⟩)⟩)⟩)⟩)⟩)⟩)⟩)⟩)⟩)⟩)⟩)⟩)
set_option maxRecDepth 100000 in
theorem pw_982 : (.code yX11_run cX11_run 3 (some .int) : Cond) ∈ lw_tbl := List.mem_of_getElem? (i := 1493) rfl
set_option maxRecDepth 20000 in
theorem lm_wsX11_run : ∀ w ∈ wsX11_run, w ∈ lw_tbl := List.forall_mem_cons.mpr ⟨pw_982, (wL_app (wL_app ch_wsX11_run_r1 (wL_app ch_wsX11_run_r2 ch_wsX11_run_r3)) wL_wsX110)⟩
theorem pw_983 : (.selects RX11 yX11_run yX11_run : Cond) ∈ lw_tbl := List.mem_of_getElem? (i := 1492) (by decide +kernel)
theorem pw_984 : (.instanceMethod yX11_run : Cond) ∈ lw_tbl := List.mem_of_getElem? (i := 1491) (by decide +kernel)
theorem pw_985 : (.methodLink RL 54 yX11_run : Cond) ∈ lw_tbl := List.mem_of_getElem? (i := 1490) (by decide +kernel)
set_option maxRecDepth 20000 in
theorem gW_X11_run : GoodIn lw_tbl (wsV RL 54 RX11 yX11_run wsX11_run) := goodIn_sub (wL_app (List.forall_mem_cons.mpr ⟨pw_985, (List.forall_mem_cons.mpr ⟨pw_984, (List.forall_mem_cons.mpr ⟨pw_983, (List.forall_mem_cons.mpr ⟨pw_789, (fun _ h => absurd h List.not_mem_nil)⟩)⟩)⟩)⟩) lm_wsX11_run) (by decide +kernel)
theorem ch_wsX11_test_r1 : ∀ w ∈ wsX11_test_r1, w ∈ lw_tbl := (List.forall_mem_cons.mpr ⟨pw_796, (List.forall_mem_cons.mpr ⟨pw_794, (List.forall_mem_cons.mpr ⟨pw_779, (List.forall_mem_cons.mpr ⟨pw_877, (List.forall_mem_cons.mpr ⟨pw_876, (List.forall_mem_cons.mpr ⟨pw_792, (List.forall_mem_cons.mpr ⟨pw_791, (List.forall_mem_cons.mpr ⟨pw_790, (List.forall_mem_cons.mpr ⟨pw_789, (List.forall_mem_cons.mpr ⟨pw_788, (List.forall_mem_cons.mpr ⟨pw_787, (List.forall_mem_cons.mpr ⟨pw_786, (List.forall_mem_cons.mpr ⟨pw_785, (List.forall_mem_cons.mpr ⟨pw_784, (List.forall_mem_cons.mpr ⟨pw_783, (List.forall_mem_cons.mpr ⟨pw_782, (List.forall_mem_cons.mpr ⟨pw_781, (List.forall_mem_cons.mpr ⟨pw_780, (List.forall_mem_cons.mpr ⟨pw_793, (List.forall_mem_cons.mpr ⟨pw_778, (List.forall_mem_cons.mpr ⟨pw_777, (List.forall_mem_cons.mpr ⟨pw_776, (List.forall_mem_cons.mpr ⟨pw_775, (List.forall_mem_cons.mpr ⟨pw_774, (fun _ h => absurd h List.not_mem_nil)⟩)⟩)⟩)⟩)⟩)⟩)⟩)⟩)⟩)⟩)⟩)⟩)⟩)⟩)⟩)⟩)⟩)⟩)⟩)⟩)⟩)⟩)⟩)⟩)
theorem ch_wsX11_test_r2 : ∀ w ∈ wsX11_test_r2, w ∈ lw_tbl := (List.forall_mem_cons.mpr ⟨pw_773, (List.forall_mem_cons.mpr ⟨pw_820, (List.forall_mem_cons.mpr ⟨pw_819, (List.forall_mem_cons.mpr ⟨pw_818, (List.forall_mem_cons.mpr ⟨pw_817, (List.forall_mem_cons.mpr ⟨pw_816, (List.forall_mem_cons.mpr ⟨pw_815, (List.forall_mem_cons.mpr ⟨pw_814, (List.forall_mem_cons.mpr ⟨pw_813, (List.forall_mem_cons.mpr ⟨pw_812, (List.forall_mem_cons.mpr ⟨pw_811, (List.forall_mem_cons.mpr ⟨pw_810, (List.forall_mem_cons.mpr ⟨pw_809, (List.forall_mem_cons.mpr ⟨pw_808, (List.forall_mem_cons.mpr ⟨pw_807, (List.forall_mem_cons.mpr ⟨pw_806, (List.forall_mem_cons.mpr ⟨pw_805, (List.forall_mem_cons.mpr ⟨pw_804, (List.forall_mem_cons.mpr ⟨pw_803, (List.forall_mem_cons.mpr ⟨pw_802, (List.forall_mem_cons.mpr ⟨pw_801, (List.forall_mem_cons.mpr ⟨pw_800, (List.forall_mem_cons.mpr ⟨pw_799, (List.forall_mem_cons.mpr ⟨pw_798, (fun _ h => absurd h List.not_mem_nil)⟩)⟩)⟩)⟩)⟩)⟩)⟩)⟩)⟩)⟩)⟩)⟩)⟩)⟩)⟩)⟩)⟩)⟩)⟩)⟩)⟩)⟩)⟩)⟩)
theorem ch_wsX11_test_r3 : ∀ w ∈ wsX11_test_r3, w ∈ lw_tbl := (List.forall_mem_cons.mpr ⟨pw_797, (List.forall_mem_cons.mpr ⟨pw_844, (List.forall_mem_cons.mpr ⟨pw_843, (List.forall_mem_cons.mpr ⟨pw_842, (List.forall_mem_cons.mpr ⟨pw_841, (List.forall_mem_cons.mpr ⟨pw_840, (List.forall_mem_cons.mpr ⟨pw_839, (List.forall_mem_cons.mpr ⟨pw_838, (List.forall_mem_cons.mpr ⟨pw_837, (List.forall_mem_cons.mpr ⟨pw_836, (List.forall_mem_cons.mpr ⟨pw_835, (List.forall_mem_cons.mpr ⟨pw_834, (List.forall_mem_cons.mpr ⟨pw_833, (List.forall_mem_cons.mpr ⟨pw_832, (List.forall_mem_cons.mpr ⟨pw_831, (List.forall_mem_cons.mpr ⟨pw_830, (List.forall_mem_cons.mpr ⟨pw_829, (List.forall_mem_cons.mpr ⟨pw_828, (List.forall_mem_cons.mpr ⟨pw_827, (List.forall_mem_cons.mpr ⟨pw_826, (List.forall_mem_cons.mpr ⟨pw_825, (List.forall_mem_cons.mpr ⟨pw_824, (fun _ h => absurd h List.not_mem_nil)⟩)⟩)⟩)⟩)⟩)⟩)⟩)⟩)⟩)⟩)⟩)⟩)⟩)⟩)⟩)⟩)⟩)⟩)⟩)⟩)⟩)⟩)
set_option maxRecDepth 100000 in
theorem pw_986 : (.code yX11_test cX11_test 3 (some .int) : Cond) ∈ lw_tbl := List.mem_of_getElem? (i := 1489) rfl
set_option maxRecDepth 20000 in
theorem lm_wsX11_test : ∀ w ∈ wsX11_test, w ∈ lw_tbl := List.forall_mem_cons.mpr ⟨pw_986, (wL_app (wL_app ch_wsX11_test_r1 (wL_app ch_wsX11_test_r2 ch_wsX11_test_r3)) wL_wsX110)⟩
theorem pw_987 : (.selects RX11 yX11_test yX11_test : Cond) ∈ lw_tbl := List.mem_of_getElem? (i := 1488) (by decide +kernel)
theorem pw_988 : (.instanceMethod yX11_test : Cond) ∈ lw_tbl := List.mem_of_getElem? (i := 1487) (by decide +kernel)
theorem pw_989 : (.methodLink RL 50 yX11_test : Cond) ∈ lw_tbl := List.mem_of_getElem? (i := 1486) (by decide +kernel)
set_option maxRecDepth 20000 in
theorem gW_X11_test : GoodIn lw_tbl (wsV RL 50 RX11 yX11_test wsX11_test) := goodIn_sub (wL_app (List.forall_mem_cons.mpr ⟨pw_989, (List.forall_mem_cons.mpr ⟨pw_988, (List.forall_mem_cons.mpr ⟨pw_987, (List.forall_mem_cons.mpr ⟨pw_789, (fun _ h => absurd h List.not_mem_nil)⟩)⟩)⟩)⟩) lm_wsX11_test) (by decide +kernel)
theorem pw_990 : (.fieldLink RX11 140 "NothingJudgeModel" "sort" "I" : Cond) ∈ lw_tbl := List.mem_of_getElem? (i := 1104) (by decide +kernel)
theorem pw_991 : (.fieldLink RX11 189 "NothingJudgeModel" "blocks" "I" : Cond) ∈ lw_tbl := List.mem_of_getElem? (i := 1136) (by decide +kernel)
theorem pw_992 : (.fieldLink RX11 186 "NothingJudgeModel" "calls" "I" : Cond) ∈ lw_tbl := List.mem_of_getElem? (i := 1131) (by decide +kernel)
theorem pw_993 : (.fieldLink RX11 183 "NothingJudgeModel" "acts" "I" : Cond) ∈ lw_tbl := List.mem_of_getElem? (i := 1115) (by decide +kernel)
theorem pw_994 : (.fieldLink RX11 127 "NothingJudgeModel" "at" "I" : Cond) ∈ lw_tbl := List.mem_of_getElem? (i := 1102) (by decide +kernel)
set_option maxRecDepth 100000 in
theorem pw_995 : (.code yX11_parses cX11_parses 3 none : Cond) ∈ lw_tbl := List.mem_of_getElem? (i := 1315) rfl
theorem pw_996 : (.selects RX11 yX11_parses yX11_parses : Cond) ∈ lw_tbl := List.mem_of_getElem? (i := 61) (by decide +kernel)
theorem pw_997 : (.instanceMethod yX11_parses : Cond) ∈ lw_tbl := List.mem_of_getElem? (i := 1314) (by decide +kernel)
theorem pw_998 : (.methodLink RX11 239 yX11_parses : Cond) ∈ lw_tbl := List.mem_of_getElem? (i := 1312) (by decide +kernel)
theorem pw_999 : (.fieldLink RX11 167 "NothingJudgeModel" "faultPlace" "I" : Cond) ∈ lw_tbl := List.mem_of_getElem? (i := 1107) (by decide +kernel)
theorem pw_1000 : (.fieldLink RX11 164 "NothingJudgeModel" "fault" "I" : Cond) ∈ lw_tbl := List.mem_of_getElem? (i := 1106) (by decide +kernel)
theorem pw_1001 : (.fieldLink RX11 130 "NothingJudgeModel" "size" "I" : Cond) ∈ lw_tbl := List.mem_of_getElem? (i := 1101) (by decide +kernel)
theorem ch_wsX11_text_r1 : ∀ w ∈ wsX11_text_r1, w ∈ lw_tbl := (List.forall_mem_cons.mpr ⟨pw_796, (List.forall_mem_cons.mpr ⟨pw_869, (List.forall_mem_cons.mpr ⟨pw_1001, (List.forall_mem_cons.mpr ⟨pw_1000, (List.forall_mem_cons.mpr ⟨pw_863, (List.forall_mem_cons.mpr ⟨pw_999, (List.forall_mem_cons.mpr ⟨pw_862, (List.forall_mem_cons.mpr ⟨pw_998, (List.forall_mem_cons.mpr ⟨pw_997, (List.forall_mem_cons.mpr ⟨pw_996, (List.forall_mem_cons.mpr ⟨pw_789, (List.forall_mem_cons.mpr ⟨pw_995, (List.forall_mem_cons.mpr ⟨pw_994, (List.forall_mem_cons.mpr ⟨pw_993, (List.forall_mem_cons.mpr ⟨pw_992, (List.forall_mem_cons.mpr ⟨pw_991, (List.forall_mem_cons.mpr ⟨pw_795, (List.forall_mem_cons.mpr ⟨pw_794, (List.forall_mem_cons.mpr ⟨pw_881, (List.forall_mem_cons.mpr ⟨pw_809, (List.forall_mem_cons.mpr ⟨pw_990, (List.forall_mem_cons.mpr ⟨pw_874, (List.forall_mem_cons.mpr ⟨pw_777, (List.forall_mem_cons.mpr ⟨pw_893, (fun _ h => absurd h List.not_mem_nil)⟩)⟩)⟩)⟩)⟩)⟩)⟩)⟩)⟩)⟩)⟩)⟩)⟩)⟩)⟩)⟩)⟩)⟩)⟩)⟩)⟩)⟩)⟩)⟩)
theorem pw_1002 : (.methodLink RX11 155 yJ0_length_8abf5 : Cond) ∈ lw_tbl := List.mem_of_getElem? (i := 1332) (by decide +kernel)
set_option maxRecDepth 100000 in
theorem pw_1003 : (.code yX11_wordOf cX11_wordOf 4 (some .int) : Cond) ∈ lw_tbl := List.mem_of_getElem? (i := 1330) rfl
theorem pw_1004 : (.selects RX11 yX11_wordOf yX11_wordOf : Cond) ∈ lw_tbl := List.mem_of_getElem? (i := 64) (by decide +kernel)
theorem pw_1005 : (.instanceMethod yX11_wordOf : Cond) ∈ lw_tbl := List.mem_of_getElem? (i := 1329) (by decide +kernel)
theorem pw_1006 : (.methodLink RX11 147 yX11_wordOf : Cond) ∈ lw_tbl := List.mem_of_getElem? (i := 1327) (by decide +kernel)
set_option maxRecDepth 100000 in
theorem pw_1007 : (.code yX11_isSmall cX11_isSmall 1 (some .boolean) : Cond) ∈ lw_tbl := List.mem_of_getElem? (i := 1326) rfl
theorem pw_1008 : (.static yX11_isSmall : Cond) ∈ lw_tbl := List.mem_of_getElem? (i := 1325) (by decide +kernel)
theorem pw_1009 : (.methodLink RX11 143 yX11_isSmall : Cond) ∈ lw_tbl := List.mem_of_getElem? (i := 1324) (by decide +kernel)
set_option maxRecDepth 100000 in
theorem pw_1010 : (.code yX11_here cX11_here 1 (some .int) : Cond) ∈ lw_tbl := List.mem_of_getElem? (i := 1323) rfl
theorem pw_1011 : (.selects RX11 yX11_here yX11_here : Cond) ∈ lw_tbl := List.mem_of_getElem? (i := 63) (by decide +kernel)
theorem pw_1012 : (.instanceMethod yX11_here : Cond) ∈ lw_tbl := List.mem_of_getElem? (i := 1322) (by decide +kernel)
theorem pw_1013 : (.methodLink RX11 133 yX11_here : Cond) ∈ lw_tbl := List.mem_of_getElem? (i := 1320) (by decide +kernel)
theorem pw_1014 : (.fieldLink RX11 150 "NothingJudgeModel" "value" "I" : Cond) ∈ lw_tbl := List.mem_of_getElem? (i := 1105) (by decide +kernel)
theorem pw_1015 : (.fieldLink RX11 137 "NothingJudgeModel" "place" "I" : Cond) ∈ lw_tbl := List.mem_of_getElem? (i := 1103) (by decide +kernel)
set_option maxRecDepth 100000 in
theorem pw_1016 : (.code yX11_next cX11_next 3 none : Cond) ∈ lw_tbl := List.mem_of_getElem? (i := 1319) rfl
theorem pw_1017 : (.selects RX11 yX11_next yX11_next : Cond) ∈ lw_tbl := List.mem_of_getElem? (i := 62) (by decide +kernel)
theorem pw_1018 : (.instanceMethod yX11_next : Cond) ∈ lw_tbl := List.mem_of_getElem? (i := 1318) (by decide +kernel)
theorem pw_1019 : (.methodLink RX11 173 yX11_next : Cond) ∈ lw_tbl := List.mem_of_getElem? (i := 1316) (by decide +kernel)
theorem ch_wsX11_text_r2 : ∀ w ∈ wsX11_text_r2, w ∈ lw_tbl := (List.forall_mem_cons.mpr ⟨pw_875, (List.forall_mem_cons.mpr ⟨pw_1019, (List.forall_mem_cons.mpr ⟨pw_1018, (List.forall_mem_cons.mpr ⟨pw_1017, (List.forall_mem_cons.mpr ⟨pw_1016, (List.forall_mem_cons.mpr ⟨pw_1015, (List.forall_mem_cons.mpr ⟨pw_1014, (List.forall_mem_cons.mpr ⟨pw_1013, (List.forall_mem_cons.mpr ⟨pw_1012, (List.forall_mem_cons.mpr ⟨pw_1011, (List.forall_mem_cons.mpr ⟨pw_1010, (List.forall_mem_cons.mpr ⟨pw_868, (List.forall_mem_cons.mpr ⟨pw_1009, (List.forall_mem_cons.mpr ⟨pw_1008, (List.forall_mem_cons.mpr ⟨pw_1007, (List.forall_mem_cons.mpr ⟨pw_1006, (List.forall_mem_cons.mpr ⟨pw_1005, (List.forall_mem_cons.mpr ⟨pw_1004, (List.forall_mem_cons.mpr ⟨pw_1003, (List.forall_mem_cons.mpr ⟨pw_1002, (List.forall_mem_cons.mpr ⟨pw_513, (List.forall_mem_cons.mpr ⟨pw_512, (List.forall_mem_cons.mpr ⟨pw_511, (List.forall_mem_cons.mpr ⟨pw_510, (fun _ h => absurd h List.not_mem_nil)⟩)⟩)⟩)⟩)⟩)⟩)⟩)⟩)⟩)⟩)⟩)⟩)⟩)⟩)⟩)⟩)⟩)⟩)⟩)⟩)⟩)⟩)⟩)⟩)
theorem pw_1020 : (.methodLink RX11 160 yJ0_charAt_5068e : Cond) ∈ lw_tbl := List.mem_of_getElem? (i := 1333) (by decide +kernel)
theorem ch_wsX11_text_r3 : ∀ w ∈ wsX11_text_r3, w ∈ lw_tbl := (List.forall_mem_cons.mpr ⟨pw_509, (List.forall_mem_cons.mpr ⟨pw_508, (List.forall_mem_cons.mpr ⟨pw_507, (List.forall_mem_cons.mpr ⟨pw_554, (List.forall_mem_cons.mpr ⟨pw_553, (List.forall_mem_cons.mpr ⟨pw_552, (List.forall_mem_cons.mpr ⟨pw_551, (List.forall_mem_cons.mpr ⟨pw_1020, (List.forall_mem_cons.mpr ⟨pw_549, (List.forall_mem_cons.mpr ⟨pw_548, (List.forall_mem_cons.mpr ⟨pw_547, (List.forall_mem_cons.mpr ⟨pw_546, (List.forall_mem_cons.mpr ⟨pw_545, (List.forall_mem_cons.mpr ⟨pw_544, (List.forall_mem_cons.mpr ⟨pw_543, (List.forall_mem_cons.mpr ⟨pw_542, (List.forall_mem_cons.mpr ⟨pw_541, (List.forall_mem_cons.mpr ⟨pw_540, (List.forall_mem_cons.mpr ⟨pw_539, (List.forall_mem_cons.mpr ⟨pw_538, (List.forall_mem_cons.mpr ⟨pw_537, (List.forall_mem_cons.mpr ⟨pw_536, (List.forall_mem_cons.mpr ⟨pw_535, (List.forall_mem_cons.mpr ⟨pw_534, (fun _ h => absurd h List.not_mem_nil)⟩)⟩)⟩)⟩)⟩)⟩)⟩)⟩)⟩)⟩)⟩)⟩)⟩)⟩)⟩)⟩)⟩)⟩)⟩)⟩)⟩)⟩)⟩)⟩)
set_option maxRecDepth 100000 in
theorem pw_1021 : (.code yX11_head cX11_head 7 none : Cond) ∈ lw_tbl := List.mem_of_getElem? (i := 1337) rfl
theorem pw_1022 : (.selects RX11 yX11_head yX11_head : Cond) ∈ lw_tbl := List.mem_of_getElem? (i := 65) (by decide +kernel)
theorem pw_1023 : (.instanceMethod yX11_head : Cond) ∈ lw_tbl := List.mem_of_getElem? (i := 1336) (by decide +kernel)
theorem pw_1024 : (.methodLink RX11 192 yX11_head : Cond) ∈ lw_tbl := List.mem_of_getElem? (i := 1334) (by decide +kernel)
theorem ch_wsX11_text_r4 : ∀ w ∈ wsX11_text_r4, w ∈ lw_tbl := (List.forall_mem_cons.mpr ⟨pw_533, (List.forall_mem_cons.mpr ⟨pw_532, (List.forall_mem_cons.mpr ⟨pw_531, (List.forall_mem_cons.mpr ⟨pw_576, (List.forall_mem_cons.mpr ⟨pw_575, (List.forall_mem_cons.mpr ⟨pw_574, (List.forall_mem_cons.mpr ⟨pw_573, (List.forall_mem_cons.mpr ⟨pw_572, (List.forall_mem_cons.mpr ⟨pw_571, (List.forall_mem_cons.mpr ⟨pw_570, (List.forall_mem_cons.mpr ⟨pw_569, (List.forall_mem_cons.mpr ⟨pw_568, (List.forall_mem_cons.mpr ⟨pw_567, (List.forall_mem_cons.mpr ⟨pw_566, (List.forall_mem_cons.mpr ⟨pw_565, (List.forall_mem_cons.mpr ⟨pw_564, (List.forall_mem_cons.mpr ⟨pw_563, (List.forall_mem_cons.mpr ⟨pw_562, (List.forall_mem_cons.mpr ⟨pw_561, (List.forall_mem_cons.mpr ⟨pw_560, (List.forall_mem_cons.mpr ⟨pw_1024, (List.forall_mem_cons.mpr ⟨pw_1023, (List.forall_mem_cons.mpr ⟨pw_1022, (List.forall_mem_cons.mpr ⟨pw_1021, (fun _ h => absurd h List.not_mem_nil)⟩)⟩)⟩)⟩)⟩)⟩)⟩)⟩)⟩)⟩)⟩)⟩)⟩)⟩)⟩)⟩)⟩)⟩)⟩)⟩)⟩)⟩)⟩)⟩)
theorem pw_1025 : (.instanceMethod yX11_opens : Cond) ∈ lw_tbl := List.mem_of_getElem? (i := 1360) (by decide +kernel)
theorem pw_1026 : (.methodLink RX11 212 yX11_opens : Cond) ∈ lw_tbl := List.mem_of_getElem? (i := 1358) (by decide +kernel)
set_option maxRecDepth 100000 in
theorem pw_1027 : (.code yX11_isSign cX11_isSign 2 (some .boolean) : Cond) ∈ lw_tbl := List.mem_of_getElem? (i := 1357) rfl
theorem pw_1028 : (.selects RX11 yX11_isSign yX11_isSign : Cond) ∈ lw_tbl := List.mem_of_getElem? (i := 70) (by decide +kernel)
theorem pw_1029 : (.instanceMethod yX11_isSign : Cond) ∈ lw_tbl := List.mem_of_getElem? (i := 1356) (by decide +kernel)
theorem pw_1030 : (.methodLink RX11 170 yX11_isSign : Cond) ∈ lw_tbl := List.mem_of_getElem? (i := 1354) (by decide +kernel)
set_option maxRecDepth 100000 in
theorem pw_1031 : (.code yX11_takesSign cX11_takesSign 2 (some .boolean) : Cond) ∈ lw_tbl := List.mem_of_getElem? (i := 1353) rfl
theorem pw_1032 : (.selects RX11 yX11_takesSign yX11_takesSign : Cond) ∈ lw_tbl := List.mem_of_getElem? (i := 69) (by decide +kernel)
theorem pw_1033 : (.instanceMethod yX11_takesSign : Cond) ∈ lw_tbl := List.mem_of_getElem? (i := 1352) (by decide +kernel)
theorem pw_1034 : (.methodLink RX11 176 yX11_takesSign : Cond) ∈ lw_tbl := List.mem_of_getElem? (i := 1350) (by decide +kernel)
set_option maxRecDepth 100000 in
theorem pw_1035 : (.code yX11_wants cX11_wants 2 none : Cond) ∈ lw_tbl := List.mem_of_getElem? (i := 1349) rfl
theorem pw_1036 : (.selects RX11 yX11_wants yX11_wants : Cond) ∈ lw_tbl := List.mem_of_getElem? (i := 68) (by decide +kernel)
theorem pw_1037 : (.instanceMethod yX11_wants : Cond) ∈ lw_tbl := List.mem_of_getElem? (i := 1348) (by decide +kernel)
theorem pw_1038 : (.methodLink RX11 201 yX11_wants : Cond) ∈ lw_tbl := List.mem_of_getElem? (i := 1346) (by decide +kernel)
set_option maxRecDepth 100000 in
theorem pw_1039 : (.code yX11_wrong cX11_wrong 3 none : Cond) ∈ lw_tbl := List.mem_of_getElem? (i := 1345) rfl
theorem pw_1040 : (.selects RX11 yX11_wrong yX11_wrong : Cond) ∈ lw_tbl := List.mem_of_getElem? (i := 67) (by decide +kernel)
theorem pw_1041 : (.instanceMethod yX11_wrong : Cond) ∈ lw_tbl := List.mem_of_getElem? (i := 1344) (by decide +kernel)
theorem pw_1042 : (.methodLink RX11 179 yX11_wrong : Cond) ∈ lw_tbl := List.mem_of_getElem? (i := 1342) (by decide +kernel)
set_option maxRecDepth 100000 in
theorem pw_1043 : (.code yX11_taken cX11_taken 3 (some .int) : Cond) ∈ lw_tbl := List.mem_of_getElem? (i := 1341) rfl
theorem pw_1044 : (.selects RX11 yX11_taken yX11_taken : Cond) ∈ lw_tbl := List.mem_of_getElem? (i := 66) (by decide +kernel)
theorem pw_1045 : (.instanceMethod yX11_taken : Cond) ∈ lw_tbl := List.mem_of_getElem? (i := 1340) (by decide +kernel)
theorem pw_1046 : (.methodLink RX11 205 yX11_taken : Cond) ∈ lw_tbl := List.mem_of_getElem? (i := 1338) (by decide +kernel)
theorem pw_1047 : (.fieldLink RX11 209 "NothingJudgeModel" "routine" "I" : Cond) ∈ lw_tbl := List.mem_of_getElem? (i := 1132) (by decide +kernel)
theorem ch_wsX11_text_r5 : ∀ w ∈ wsX11_text_r5, w ∈ lw_tbl := (List.forall_mem_cons.mpr ⟨pw_1047, (List.forall_mem_cons.mpr ⟨pw_810, (List.forall_mem_cons.mpr ⟨pw_1046, (List.forall_mem_cons.mpr ⟨pw_1045, (List.forall_mem_cons.mpr ⟨pw_1044, (List.forall_mem_cons.mpr ⟨pw_1043, (List.forall_mem_cons.mpr ⟨pw_1042, (List.forall_mem_cons.mpr ⟨pw_1041, (List.forall_mem_cons.mpr ⟨pw_1040, (List.forall_mem_cons.mpr ⟨pw_1039, (List.forall_mem_cons.mpr ⟨pw_1038, (List.forall_mem_cons.mpr ⟨pw_1037, (List.forall_mem_cons.mpr ⟨pw_1036, (List.forall_mem_cons.mpr ⟨pw_1035, (List.forall_mem_cons.mpr ⟨pw_1034, (List.forall_mem_cons.mpr ⟨pw_1033, (List.forall_mem_cons.mpr ⟨pw_1032, (List.forall_mem_cons.mpr ⟨pw_1031, (List.forall_mem_cons.mpr ⟨pw_1030, (List.forall_mem_cons.mpr ⟨pw_1029, (List.forall_mem_cons.mpr ⟨pw_1028, (List.forall_mem_cons.mpr ⟨pw_1027, (List.forall_mem_cons.mpr ⟨pw_1026, (List.forall_mem_cons.mpr ⟨pw_1025, (fun _ h => absurd h List.not_mem_nil)⟩)⟩)⟩)⟩)⟩)⟩)⟩)⟩)⟩)⟩)⟩)⟩)⟩)⟩)⟩)⟩)⟩)⟩)⟩)⟩)⟩)⟩)⟩)⟩)
theorem pw_1048 : (.selects RX11 yX11_statement yX11_statement : Cond) ∈ lw_tbl := List.mem_of_getElem? (i := 75) (by decide +kernel)
theorem pw_1049 : (.instanceMethod yX11_statement : Cond) ∈ lw_tbl := List.mem_of_getElem? (i := 1376) (by decide +kernel)
theorem pw_1050 : (.methodLink RX11 198 yX11_statement : Cond) ∈ lw_tbl := List.mem_of_getElem? (i := 1374) (by decide +kernel)
set_option maxRecDepth 100000 in
theorem pw_1051 : (.code yX11_isWord cX11_isWord 2 (some .boolean) : Cond) ∈ lw_tbl := List.mem_of_getElem? (i := 1373) rfl
theorem pw_1052 : (.selects RX11 yX11_isWord yX11_isWord : Cond) ∈ lw_tbl := List.mem_of_getElem? (i := 74) (by decide +kernel)
theorem pw_1053 : (.instanceMethod yX11_isWord : Cond) ∈ lw_tbl := List.mem_of_getElem? (i := 1372) (by decide +kernel)
theorem pw_1054 : (.methodLink RX11 220 yX11_isWord : Cond) ∈ lw_tbl := List.mem_of_getElem? (i := 1370) (by decide +kernel)
set_option maxRecDepth 100000 in
theorem pw_1055 : (.code yX11_emit cX11_emit 6 (some .int) : Cond) ∈ lw_tbl := List.mem_of_getElem? (i := 1369) rfl
theorem pw_1056 : (.selects RX11 yX11_emit yX11_emit : Cond) ∈ lw_tbl := List.mem_of_getElem? (i := 73) (by decide +kernel)
theorem pw_1057 : (.instanceMethod yX11_emit : Cond) ∈ lw_tbl := List.mem_of_getElem? (i := 1368) (by decide +kernel)
theorem pw_1058 : (.methodLink RX11 216 yX11_emit : Cond) ∈ lw_tbl := List.mem_of_getElem? (i := 1366) (by decide +kernel)
set_option maxRecDepth 100000 in
theorem pw_1059 : (.code yX11_closes cX11_closes 4 none : Cond) ∈ lw_tbl := List.mem_of_getElem? (i := 1365) rfl
theorem pw_1060 : (.selects RX11 yX11_closes yX11_closes : Cond) ∈ lw_tbl := List.mem_of_getElem? (i := 72) (by decide +kernel)
theorem pw_1061 : (.instanceMethod yX11_closes : Cond) ∈ lw_tbl := List.mem_of_getElem? (i := 1364) (by decide +kernel)
theorem pw_1062 : (.methodLink RX11 195 yX11_closes : Cond) ∈ lw_tbl := List.mem_of_getElem? (i := 1362) (by decide +kernel)
set_option maxRecDepth 100000 in
theorem pw_1063 : (.code yX11_opens cX11_opens 4 none : Cond) ∈ lw_tbl := List.mem_of_getElem? (i := 1361) rfl
theorem pw_1064 : (.selects RX11 yX11_opens yX11_opens : Cond) ∈ lw_tbl := List.mem_of_getElem? (i := 71) (by decide +kernel)
theorem ch_wsX11_text_r6 : ∀ w ∈ wsX11_text_r6, w ∈ lw_tbl := (List.forall_mem_cons.mpr ⟨pw_1064, (List.forall_mem_cons.mpr ⟨pw_1063, (List.forall_mem_cons.mpr ⟨pw_892, (List.forall_mem_cons.mpr ⟨pw_891, (List.forall_mem_cons.mpr ⟨pw_890, (List.forall_mem_cons.mpr ⟨pw_1062, (List.forall_mem_cons.mpr ⟨pw_1061, (List.forall_mem_cons.mpr ⟨pw_1060, (List.forall_mem_cons.mpr ⟨pw_1059, (List.forall_mem_cons.mpr ⟨pw_824, (List.forall_mem_cons.mpr ⟨pw_842, (List.forall_mem_cons.mpr ⟨pw_1058, (List.forall_mem_cons.mpr ⟨pw_1057, (List.forall_mem_cons.mpr ⟨pw_1056, (List.forall_mem_cons.mpr ⟨pw_1055, (List.forall_mem_cons.mpr ⟨pw_843, (List.forall_mem_cons.mpr ⟨pw_841, (List.forall_mem_cons.mpr ⟨pw_1054, (List.forall_mem_cons.mpr ⟨pw_1053, (List.forall_mem_cons.mpr ⟨pw_1052, (List.forall_mem_cons.mpr ⟨pw_1051, (List.forall_mem_cons.mpr ⟨pw_1050, (List.forall_mem_cons.mpr ⟨pw_1049, (List.forall_mem_cons.mpr ⟨pw_1048, (fun _ h => absurd h List.not_mem_nil)⟩)⟩)⟩)⟩)⟩)⟩)⟩)⟩)⟩)⟩)⟩)⟩)⟩)⟩)⟩)⟩)⟩)⟩)⟩)⟩)⟩)⟩)⟩)⟩)
theorem pw_1065 : (.selects RX11 yX11_newTest yX11_newTest : Cond) ∈ lw_tbl := List.mem_of_getElem? (i := 80) (by decide +kernel)
theorem pw_1066 : (.instanceMethod yX11_newTest : Cond) ∈ lw_tbl := List.mem_of_getElem? (i := 1396) (by decide +kernel)
theorem pw_1067 : (.methodLink RX11 236 yX11_newTest : Cond) ∈ lw_tbl := List.mem_of_getElem? (i := 1394) (by decide +kernel)
set_option maxRecDepth 100000 in
theorem pw_1068 : (.code yX11_call cX11_call 6 none : Cond) ∈ lw_tbl := List.mem_of_getElem? (i := 1393) rfl
theorem pw_1069 : (.selects RX11 yX11_call yX11_call : Cond) ∈ lw_tbl := List.mem_of_getElem? (i := 79) (by decide +kernel)
theorem pw_1070 : (.instanceMethod yX11_call : Cond) ∈ lw_tbl := List.mem_of_getElem? (i := 1392) (by decide +kernel)
theorem pw_1071 : (.methodLink RX11 233 yX11_call : Cond) ∈ lw_tbl := List.mem_of_getElem? (i := 1390) (by decide +kernel)
set_option maxRecDepth 100000 in
theorem pw_1072 : (.code yX11_worth cX11_worth 4 none : Cond) ∈ lw_tbl := List.mem_of_getElem? (i := 1389) rfl
theorem pw_1073 : (.selects RX11 yX11_worth yX11_worth : Cond) ∈ lw_tbl := List.mem_of_getElem? (i := 78) (by decide +kernel)
theorem pw_1074 : (.instanceMethod yX11_worth : Cond) ∈ lw_tbl := List.mem_of_getElem? (i := 1388) (by decide +kernel)
theorem pw_1075 : (.methodLink RX11 230 yX11_worth : Cond) ∈ lw_tbl := List.mem_of_getElem? (i := 1386) (by decide +kernel)
set_option maxRecDepth 100000 in
theorem pw_1076 : (.code yX11_field cX11_field 1 (some .int) : Cond) ∈ lw_tbl := List.mem_of_getElem? (i := 1385) rfl
theorem pw_1077 : (.selects RX11 yX11_field yX11_field : Cond) ∈ lw_tbl := List.mem_of_getElem? (i := 77) (by decide +kernel)
theorem pw_1078 : (.instanceMethod yX11_field : Cond) ∈ lw_tbl := List.mem_of_getElem? (i := 1384) (by decide +kernel)
theorem pw_1079 : (.methodLink RX11 227 yX11_field : Cond) ∈ lw_tbl := List.mem_of_getElem? (i := 1382) (by decide +kernel)
set_option maxRecDepth 100000 in
theorem pw_1080 : (.code yX11_newUse cX11_newUse 4 (some .int) : Cond) ∈ lw_tbl := List.mem_of_getElem? (i := 1381) rfl
theorem pw_1081 : (.selects RX11 yX11_newUse yX11_newUse : Cond) ∈ lw_tbl := List.mem_of_getElem? (i := 76) (by decide +kernel)
theorem pw_1082 : (.instanceMethod yX11_newUse : Cond) ∈ lw_tbl := List.mem_of_getElem? (i := 1380) (by decide +kernel)
theorem pw_1083 : (.methodLink RX11 223 yX11_newUse : Cond) ∈ lw_tbl := List.mem_of_getElem? (i := 1378) (by decide +kernel)
set_option maxRecDepth 100000 in
theorem pw_1084 : (.code yX11_statement cX11_statement 5 none : Cond) ∈ lw_tbl := List.mem_of_getElem? (i := 1377) rfl
theorem ch_wsX11_text_r7 : ∀ w ∈ wsX11_text_r7, w ∈ lw_tbl := (List.forall_mem_cons.mpr ⟨pw_1084, (List.forall_mem_cons.mpr ⟨pw_1083, (List.forall_mem_cons.mpr ⟨pw_1082, (List.forall_mem_cons.mpr ⟨pw_1081, (List.forall_mem_cons.mpr ⟨pw_1080, (List.forall_mem_cons.mpr ⟨pw_880, (List.forall_mem_cons.mpr ⟨pw_879, (List.forall_mem_cons.mpr ⟨pw_878, (List.forall_mem_cons.mpr ⟨pw_1079, (List.forall_mem_cons.mpr ⟨pw_1078, (List.forall_mem_cons.mpr ⟨pw_1077, (List.forall_mem_cons.mpr ⟨pw_1076, (List.forall_mem_cons.mpr ⟨pw_1075, (List.forall_mem_cons.mpr ⟨pw_1074, (List.forall_mem_cons.mpr ⟨pw_1073, (List.forall_mem_cons.mpr ⟨pw_1072, (List.forall_mem_cons.mpr ⟨pw_1071, (List.forall_mem_cons.mpr ⟨pw_1070, (List.forall_mem_cons.mpr ⟨pw_1069, (List.forall_mem_cons.mpr ⟨pw_1068, (List.forall_mem_cons.mpr ⟨pw_833, (List.forall_mem_cons.mpr ⟨pw_1067, (List.forall_mem_cons.mpr ⟨pw_1066, (List.forall_mem_cons.mpr ⟨pw_1065, (fun _ h => absurd h List.not_mem_nil)⟩)⟩)⟩)⟩)⟩)⟩)⟩)⟩)⟩)⟩)⟩)⟩)⟩)⟩)⟩)⟩)⟩)⟩)⟩)⟩)⟩)⟩)⟩)⟩)
set_option maxRecDepth 100000 in
theorem pw_1085 : (.code yX11_comes cX11_comes 2 none : Cond) ∈ lw_tbl := List.mem_of_getElem? (i := 1401) rfl
theorem pw_1086 : (.selects RX11 yX11_comes yX11_comes : Cond) ∈ lw_tbl := List.mem_of_getElem? (i := 81) (by decide +kernel)
theorem pw_1087 : (.instanceMethod yX11_comes : Cond) ∈ lw_tbl := List.mem_of_getElem? (i := 1400) (by decide +kernel)
theorem pw_1088 : (.methodLink RX11 245 yX11_comes : Cond) ∈ lw_tbl := List.mem_of_getElem? (i := 1398) (by decide +kernel)
set_option maxRecDepth 100000 in
theorem pw_1089 : (.code yX11_newTest cX11_newTest 6 (some .int) : Cond) ∈ lw_tbl := List.mem_of_getElem? (i := 1397) rfl
theorem ch_wsX11_text_r8 : ∀ w ∈ wsX11_text_r8, w ∈ lw_tbl := (List.forall_mem_cons.mpr ⟨pw_1089, (List.forall_mem_cons.mpr ⟨pw_877, (List.forall_mem_cons.mpr ⟨pw_876, (List.forall_mem_cons.mpr ⟨pw_1088, (List.forall_mem_cons.mpr ⟨pw_1087, (List.forall_mem_cons.mpr ⟨pw_1086, (List.forall_mem_cons.mpr ⟨pw_1085, (List.forall_mem_cons.mpr ⟨pw_782, (List.forall_mem_cons.mpr ⟨pw_857, (List.forall_mem_cons.mpr ⟨pw_856, (List.forall_mem_cons.mpr ⟨pw_855, (List.forall_mem_cons.mpr ⟨pw_854, (List.forall_mem_cons.mpr ⟨pw_793, (List.forall_mem_cons.mpr ⟨pw_776, (List.forall_mem_cons.mpr ⟨pw_848, (List.forall_mem_cons.mpr ⟨pw_847, (List.forall_mem_cons.mpr ⟨pw_846, (List.forall_mem_cons.mpr ⟨pw_845, (fun _ h => absurd h List.not_mem_nil)⟩)⟩)⟩)⟩)⟩)⟩)⟩)⟩)⟩)⟩)⟩)⟩)⟩)⟩)⟩)⟩)⟩)⟩)
set_option maxRecDepth 100000 in
theorem pw_1090 : (.code yX11_text cX11_text 2 (some .int) : Cond) ∈ lw_tbl := List.mem_of_getElem? (i := 1311) rfl
set_option maxRecDepth 20000 in
theorem lm_wsX11_text : ∀ w ∈ wsX11_text, w ∈ lw_tbl := List.forall_mem_cons.mpr ⟨pw_1090, (wL_app (wL_app ch_wsX11_text_r1 (wL_app ch_wsX11_text_r2 (wL_app ch_wsX11_text_r3 (wL_app ch_wsX11_text_r4 (wL_app ch_wsX11_text_r5 (wL_app ch_wsX11_text_r6 (wL_app ch_wsX11_text_r7 ch_wsX11_text_r8))))))) wL_wsX110)⟩
theorem pw_1091 : (.selects RX11 yX11_text yX11_text : Cond) ∈ lw_tbl := List.mem_of_getElem? (i := 1310) (by decide +kernel)
theorem pw_1092 : (.instanceMethod yX11_text : Cond) ∈ lw_tbl := List.mem_of_getElem? (i := 1309) (by decide +kernel)
theorem pw_1093 : (.methodLink RL 22 yX11_text : Cond) ∈ lw_tbl := List.mem_of_getElem? (i := 1308) (by decide +kernel)
set_option maxRecDepth 20000 in
theorem gW_X11_text : GoodIn lw_tbl (wsV RL 22 RX11 yX11_text wsX11_text) := goodIn_sub (wL_app (List.forall_mem_cons.mpr ⟨pw_1093, (List.forall_mem_cons.mpr ⟨pw_1092, (List.forall_mem_cons.mpr ⟨pw_1091, (List.forall_mem_cons.mpr ⟨pw_789, (fun _ h => absurd h List.not_mem_nil)⟩)⟩)⟩)⟩) lm_wsX11_text) (by decide +kernel)
theorem ch_wsX11_tries_r1 : ∀ w ∈ wsX11_tries_r1, w ∈ lw_tbl := (List.forall_mem_cons.mpr ⟨pw_796, (List.forall_mem_cons.mpr ⟨pw_795, (List.forall_mem_cons.mpr ⟨pw_777, (List.forall_mem_cons.mpr ⟨pw_793, (List.forall_mem_cons.mpr ⟨pw_944, (List.forall_mem_cons.mpr ⟨pw_947, (List.forall_mem_cons.mpr ⟨pw_943, (List.forall_mem_cons.mpr ⟨pw_942, (List.forall_mem_cons.mpr ⟨pw_941, (List.forall_mem_cons.mpr ⟨pw_789, (List.forall_mem_cons.mpr ⟨pw_940, (List.forall_mem_cons.mpr ⟨pw_776, (List.forall_mem_cons.mpr ⟨pw_939, (List.forall_mem_cons.mpr ⟨pw_938, (List.forall_mem_cons.mpr ⟨pw_937, (List.forall_mem_cons.mpr ⟨pw_936, (List.forall_mem_cons.mpr ⟨pw_946, (List.forall_mem_cons.mpr ⟨pw_935, (List.forall_mem_cons.mpr ⟨pw_948, (List.forall_mem_cons.mpr ⟨pw_945, (List.forall_mem_cons.mpr ⟨pw_963, (List.forall_mem_cons.mpr ⟨pw_887, (List.forall_mem_cons.mpr ⟨pw_810, (List.forall_mem_cons.mpr ⟨pw_809, (fun _ h => absurd h List.not_mem_nil)⟩)⟩)⟩)⟩)⟩)⟩)⟩)⟩)⟩)⟩)⟩)⟩)⟩)⟩)⟩)⟩)⟩)⟩)⟩)⟩)⟩)⟩)⟩)⟩)
theorem ch_wsX11_tries_r2 : ∀ w ∈ wsX11_tries_r2, w ∈ lw_tbl := (List.forall_mem_cons.mpr ⟨pw_962, (List.forall_mem_cons.mpr ⟨pw_961, (List.forall_mem_cons.mpr ⟨pw_960, (List.forall_mem_cons.mpr ⟨pw_959, (List.forall_mem_cons.mpr ⟨pw_886, (List.forall_mem_cons.mpr ⟨pw_958, (List.forall_mem_cons.mpr ⟨pw_957, (List.forall_mem_cons.mpr ⟨pw_956, (List.forall_mem_cons.mpr ⟨pw_955, (List.forall_mem_cons.mpr ⟨pw_888, (List.forall_mem_cons.mpr ⟨pw_954, (List.forall_mem_cons.mpr ⟨pw_953, (List.forall_mem_cons.mpr ⟨pw_952, (List.forall_mem_cons.mpr ⟨pw_951, (List.forall_mem_cons.mpr ⟨pw_843, (List.forall_mem_cons.mpr ⟨pw_842, (List.forall_mem_cons.mpr ⟨pw_841, (List.forall_mem_cons.mpr ⟨pw_824, (List.forall_mem_cons.mpr ⟨pw_950, (List.forall_mem_cons.mpr ⟨pw_949, (List.forall_mem_cons.mpr ⟨pw_981, (List.forall_mem_cons.mpr ⟨pw_980, (List.forall_mem_cons.mpr ⟨pw_979, (List.forall_mem_cons.mpr ⟨pw_978, (fun _ h => absurd h List.not_mem_nil)⟩)⟩)⟩)⟩)⟩)⟩)⟩)⟩)⟩)⟩)⟩)⟩)⟩)⟩)⟩)⟩)⟩)⟩)⟩)⟩)⟩)⟩)⟩)⟩)
theorem ch_wsX11_tries_r3 : ∀ w ∈ wsX11_tries_r3, w ∈ lw_tbl := (List.forall_mem_cons.mpr ⟨pw_977, (List.forall_mem_cons.mpr ⟨pw_976, (List.forall_mem_cons.mpr ⟨pw_975, (List.forall_mem_cons.mpr ⟨pw_974, (List.forall_mem_cons.mpr ⟨pw_973, (List.forall_mem_cons.mpr ⟨pw_972, (List.forall_mem_cons.mpr ⟨pw_971, (List.forall_mem_cons.mpr ⟨pw_970, (List.forall_mem_cons.mpr ⟨pw_969, (List.forall_mem_cons.mpr ⟨pw_968, (List.forall_mem_cons.mpr ⟨pw_967, (List.forall_mem_cons.mpr ⟨pw_966, (List.forall_mem_cons.mpr ⟨pw_965, (List.forall_mem_cons.mpr ⟨pw_964, (List.forall_mem_cons.mpr ⟨pw_833, (fun _ h => absurd h List.not_mem_nil)⟩)⟩)⟩)⟩)⟩)⟩)⟩)⟩)⟩)⟩)⟩)⟩)⟩)⟩)⟩)
set_option maxRecDepth 100000 in
theorem pw_1094 : (.code yX11_tries cX11_tries 4 (some .int) : Cond) ∈ lw_tbl := List.mem_of_getElem? (i := 1541) rfl
set_option maxRecDepth 20000 in
theorem lm_wsX11_tries : ∀ w ∈ wsX11_tries, w ∈ lw_tbl := List.forall_mem_cons.mpr ⟨pw_1094, (wL_app (wL_app ch_wsX11_tries_r1 (wL_app ch_wsX11_tries_r2 ch_wsX11_tries_r3)) wL_wsX110)⟩
theorem pw_1095 : (.selects RX11 yX11_tries yX11_tries : Cond) ∈ lw_tbl := List.mem_of_getElem? (i := 1540) (by decide +kernel)
theorem pw_1096 : (.instanceMethod yX11_tries : Cond) ∈ lw_tbl := List.mem_of_getElem? (i := 1539) (by decide +kernel)
theorem pw_1097 : (.methodLink RL 62 yX11_tries : Cond) ∈ lw_tbl := List.mem_of_getElem? (i := 1538) (by decide +kernel)
set_option maxRecDepth 20000 in
theorem gW_X11_tries : GoodIn lw_tbl (wsV RL 62 RX11 yX11_tries wsX11_tries) := goodIn_sub (wL_app (List.forall_mem_cons.mpr ⟨pw_1097, (List.forall_mem_cons.mpr ⟨pw_1096, (List.forall_mem_cons.mpr ⟨pw_1095, (List.forall_mem_cons.mpr ⟨pw_789, (fun _ h => absurd h List.not_mem_nil)⟩)⟩)⟩)⟩) lm_wsX11_tries) (by decide +kernel)
theorem ch_wsX11_use_r1 : ∀ w ∈ wsX11_use_r1, w ∈ lw_tbl := (List.forall_mem_cons.mpr ⟨pw_796, (List.forall_mem_cons.mpr ⟨pw_795, (List.forall_mem_cons.mpr ⟨pw_880, (List.forall_mem_cons.mpr ⟨pw_879, (List.forall_mem_cons.mpr ⟨pw_878, (List.forall_mem_cons.mpr ⟨pw_792, (List.forall_mem_cons.mpr ⟨pw_791, (List.forall_mem_cons.mpr ⟨pw_790, (List.forall_mem_cons.mpr ⟨pw_789, (List.forall_mem_cons.mpr ⟨pw_788, (List.forall_mem_cons.mpr ⟨pw_787, (List.forall_mem_cons.mpr ⟨pw_786, (List.forall_mem_cons.mpr ⟨pw_785, (List.forall_mem_cons.mpr ⟨pw_784, (List.forall_mem_cons.mpr ⟨pw_783, (List.forall_mem_cons.mpr ⟨pw_782, (List.forall_mem_cons.mpr ⟨pw_781, (List.forall_mem_cons.mpr ⟨pw_780, (List.forall_mem_cons.mpr ⟨pw_779, (List.forall_mem_cons.mpr ⟨pw_793, (List.forall_mem_cons.mpr ⟨pw_778, (List.forall_mem_cons.mpr ⟨pw_777, (List.forall_mem_cons.mpr ⟨pw_776, (List.forall_mem_cons.mpr ⟨pw_775, (fun _ h => absurd h List.not_mem_nil)⟩)⟩)⟩)⟩)⟩)⟩)⟩)⟩)⟩)⟩)⟩)⟩)⟩)⟩)⟩)⟩)⟩)⟩)⟩)⟩)⟩)⟩)⟩)⟩)
theorem ch_wsX11_use_r2 : ∀ w ∈ wsX11_use_r2, w ∈ lw_tbl := (List.forall_mem_cons.mpr ⟨pw_774, (List.forall_mem_cons.mpr ⟨pw_773, (List.forall_mem_cons.mpr ⟨pw_820, (List.forall_mem_cons.mpr ⟨pw_819, (List.forall_mem_cons.mpr ⟨pw_818, (List.forall_mem_cons.mpr ⟨pw_817, (List.forall_mem_cons.mpr ⟨pw_816, (List.forall_mem_cons.mpr ⟨pw_815, (List.forall_mem_cons.mpr ⟨pw_814, (List.forall_mem_cons.mpr ⟨pw_813, (List.forall_mem_cons.mpr ⟨pw_812, (List.forall_mem_cons.mpr ⟨pw_811, (List.forall_mem_cons.mpr ⟨pw_810, (List.forall_mem_cons.mpr ⟨pw_809, (List.forall_mem_cons.mpr ⟨pw_808, (List.forall_mem_cons.mpr ⟨pw_807, (List.forall_mem_cons.mpr ⟨pw_806, (List.forall_mem_cons.mpr ⟨pw_805, (List.forall_mem_cons.mpr ⟨pw_804, (List.forall_mem_cons.mpr ⟨pw_803, (List.forall_mem_cons.mpr ⟨pw_802, (List.forall_mem_cons.mpr ⟨pw_801, (List.forall_mem_cons.mpr ⟨pw_800, (List.forall_mem_cons.mpr ⟨pw_799, (fun _ h => absurd h List.not_mem_nil)⟩)⟩)⟩)⟩)⟩)⟩)⟩)⟩)⟩)⟩)⟩)⟩)⟩)⟩)⟩)⟩)⟩)⟩)⟩)⟩)⟩)⟩)⟩)⟩)
theorem ch_wsX11_use_r3 : ∀ w ∈ wsX11_use_r3, w ∈ lw_tbl := (List.forall_mem_cons.mpr ⟨pw_798, (List.forall_mem_cons.mpr ⟨pw_797, (List.forall_mem_cons.mpr ⟨pw_844, (List.forall_mem_cons.mpr ⟨pw_843, (List.forall_mem_cons.mpr ⟨pw_842, (List.forall_mem_cons.mpr ⟨pw_841, (List.forall_mem_cons.mpr ⟨pw_840, (List.forall_mem_cons.mpr ⟨pw_839, (List.forall_mem_cons.mpr ⟨pw_838, (List.forall_mem_cons.mpr ⟨pw_837, (List.forall_mem_cons.mpr ⟨pw_836, (List.forall_mem_cons.mpr ⟨pw_835, (List.forall_mem_cons.mpr ⟨pw_834, (List.forall_mem_cons.mpr ⟨pw_833, (List.forall_mem_cons.mpr ⟨pw_832, (List.forall_mem_cons.mpr ⟨pw_831, (List.forall_mem_cons.mpr ⟨pw_830, (List.forall_mem_cons.mpr ⟨pw_829, (List.forall_mem_cons.mpr ⟨pw_828, (List.forall_mem_cons.mpr ⟨pw_827, (List.forall_mem_cons.mpr ⟨pw_826, (List.forall_mem_cons.mpr ⟨pw_825, (List.forall_mem_cons.mpr ⟨pw_824, (List.forall_mem_cons.mpr ⟨pw_823, (fun _ h => absurd h List.not_mem_nil)⟩)⟩)⟩)⟩)⟩)⟩)⟩)⟩)⟩)⟩)⟩)⟩)⟩)⟩)⟩)⟩)⟩)⟩)⟩)⟩)⟩)⟩)⟩)⟩)
set_option maxRecDepth 100000 in
theorem pw_1098 : (.code yX11_stateOf cX11_stateOf 1 (some .int) : Cond) ∈ lw_tbl := List.mem_of_getElem? (i := 1485) rfl
theorem pw_1099 : (.static yX11_stateOf : Cond) ∈ lw_tbl := List.mem_of_getElem? (i := 1484) (by decide +kernel)
theorem pw_1100 : (.methodLink RX11 308 yX11_stateOf : Cond) ∈ lw_tbl := List.mem_of_getElem? (i := 1483) (by decide +kernel)
theorem ch_wsX11_use_r4 : ∀ w ∈ wsX11_use_r4, w ∈ lw_tbl := (List.forall_mem_cons.mpr ⟨pw_822, (List.forall_mem_cons.mpr ⟨pw_821, (List.forall_mem_cons.mpr ⟨pw_849, (List.forall_mem_cons.mpr ⟨pw_1100, (List.forall_mem_cons.mpr ⟨pw_1099, (List.forall_mem_cons.mpr ⟨pw_1098, (fun _ h => absurd h List.not_mem_nil)⟩)⟩)⟩)⟩)⟩)⟩)
set_option maxRecDepth 100000 in
theorem pw_1101 : (.code yX11_use cX11_use 3 (some .int) : Cond) ∈ lw_tbl := List.mem_of_getElem? (i := 1478) rfl
set_option maxRecDepth 20000 in
theorem lm_wsX11_use : ∀ w ∈ wsX11_use, w ∈ lw_tbl := List.forall_mem_cons.mpr ⟨pw_1101, (wL_app (wL_app ch_wsX11_use_r1 (wL_app ch_wsX11_use_r2 (wL_app ch_wsX11_use_r3 ch_wsX11_use_r4))) wL_wsX110)⟩
theorem pw_1102 : (.selects RX11 yX11_use yX11_use : Cond) ∈ lw_tbl := List.mem_of_getElem? (i := 1477) (by decide +kernel)
theorem pw_1103 : (.instanceMethod yX11_use : Cond) ∈ lw_tbl := List.mem_of_getElem? (i := 1476) (by decide +kernel)
theorem pw_1104 : (.methodLink RL 46 yX11_use : Cond) ∈ lw_tbl := List.mem_of_getElem? (i := 1475) (by decide +kernel)
set_option maxRecDepth 20000 in
theorem gW_X11_use : GoodIn lw_tbl (wsV RL 46 RX11 yX11_use wsX11_use) := goodIn_sub (wL_app (List.forall_mem_cons.mpr ⟨pw_1104, (List.forall_mem_cons.mpr ⟨pw_1103, (List.forall_mem_cons.mpr ⟨pw_1102, (List.forall_mem_cons.mpr ⟨pw_789, (fun _ h => absurd h List.not_mem_nil)⟩)⟩)⟩)⟩) lm_wsX11_use) (by decide +kernel)
theorem pw_1105 : (.instantiable RX10 13 : Cond) ∈ lw_tbl := List.mem_of_getElem? (i := 126) (by decide +kernel)
theorem pw_1106 : (.instantiable RX11 68 : Cond) ∈ lw_tbl := List.mem_of_getElem? (i := 1093) (by decide +kernel)
theorem pw_1107 : (.methodLinkNest RX10 15 yX8_init "NothingJudge" : Cond) ∈ lw_tbl := List.mem_of_getElem? (i := 135) (by decide +kernel)
theorem pw_1108 : (.methodLinkNest RX10 22 yX3_init "NothingJudge" : Cond) ∈ lw_tbl := List.mem_of_getElem? (i := 153) (by decide +kernel)
theorem pw_1109 : (.methodLinkNest RX3 11 yX0_init "NothingJudge" : Cond) ∈ lw_tbl := List.mem_of_getElem? (i := 159) (by decide +kernel)
theorem pw_1110 : (.classLink RL 7 RX10 : Cond) ∈ lw_tbl := List.mem_of_getElem? (i := 125) (by decide +kernel)
theorem pw_1111 : (.instanceMethod yX10_init : Cond) ∈ lw_tbl := List.mem_of_getElem? (i := 128) (by decide +kernel)
theorem pw_1112 : (.methodLink RL 9 yX10_init : Cond) ∈ lw_tbl := List.mem_of_getElem? (i := 127) (by decide +kernel)
theorem pw_1113 : (.classLink RL 10 RX11 : Cond) ∈ lw_tbl := List.mem_of_getElem? (i := 1092) (by decide +kernel)
theorem pw_1114 : (.instanceMethod yX11_init : Cond) ∈ lw_tbl := List.mem_of_getElem? (i := 1095) (by decide +kernel)
theorem pw_1115 : (.methodLink RL 12 yX11_init : Cond) ∈ lw_tbl := List.mem_of_getElem? (i := 1094) (by decide +kernel)
