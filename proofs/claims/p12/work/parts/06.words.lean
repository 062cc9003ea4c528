theorem k_ne {x : Int32} {k : Int32} {n : Int} (h : ¬ x = k) (hk : k.toInt = n) : ¬ x.toInt = n := fun e => h (Int32.toInt_inj.mp (e.trans hk.symm))
set_option maxRecDepth 100000 in
theorem gw_1565 : (.fieldLink RJ0 9 "java/lang/String" "value" "[B" : Cond) ∈ lw_gt := gt_of (List.mem_of_getElem? (i := 1565) (by decide +kernel)) (by rfl)
set_option maxRecDepth 100000 in
theorem gw_1566 : (.fieldLink RJ0 15 "java/lang/String" "coder" "B" : Cond) ∈ lw_gt := gt_of (List.mem_of_getElem? (i := 1566) (by decide +kernel)) (by rfl)
set_option maxRecDepth 100000 in
theorem gw_569 : (.fieldLink RJ0 38 "java/lang/String" "COMPACT_STRINGS" "Z" : Cond) ∈ lw_gt := gt_of (List.mem_of_getElem? (i := 569) (by decide +kernel)) (by rfl)
set_option maxRecDepth 100000 in
theorem gw_585 : (.fieldLink RJ0 1053 "jdk/internal/util/Preconditions" "SIOOBE_FORMATTER" "Ljava/util/function/BiFunction;" : Cond) ∈ lw_gt := gt_of (List.mem_of_getElem? (i := 585) (by decide +kernel)) (by rfl)
set_option maxRecDepth 100000 in
theorem gw_565 : (.methodLink RJ0 335 yJ0_coder_7d493 : Cond) ∈ lw_gt := gt_of (List.mem_of_getElem? (i := 565) (by decide +kernel)) (by rfl)
set_option maxRecDepth 100000 in
theorem gw_566 : (.instanceMethod yJ0_coder_7d493 : Cond) ∈ lw_gt := gt_of (List.mem_of_getElem? (i := 566) (by decide +kernel)) (by rfl)
set_option maxRecDepth 100000 in
theorem gw_567 : (.selects RJ0 yJ0_coder_7d493 yJ0_coder_7d493 : Cond) ∈ lw_gt := gt_of (List.mem_of_getElem? (i := 567) (by decide +kernel)) (by rfl)
set_option maxRecDepth 100000 in
theorem gw_119 : (.initialized RJ0 : Cond) ∈ lw_gt := gt_of (List.mem_of_getElem? (i := 119) (by decide +kernel)) (by rfl)
set_option maxRecDepth 100000 in
theorem gw_568 : (.code yJ0_coder_7d493 cJ0_coder_7d493 1 (some .byte) : Cond) ∈ lw_gt := gt_of (List.mem_of_getElem? (i := 568) rfl) (by rfl)
set_option maxRecDepth 100000 in
theorem gw_587 : (.methodLink RJ0 1059 yJ3_checkIndex_8e157 : Cond) ∈ lw_gt := gt_of (List.mem_of_getElem? (i := 587) (by decide +kernel)) (by rfl)
set_option maxRecDepth 100000 in
theorem gw_588 : (.static yJ3_checkIndex_8e157 : Cond) ∈ lw_gt := gt_of (List.mem_of_getElem? (i := 588) (by decide +kernel)) (by rfl)
set_option maxRecDepth 100000 in
theorem gw_121 : (.initialized RJ3 : Cond) ∈ lw_gt := gt_of (List.mem_of_getElem? (i := 121) (by decide +kernel)) (by rfl)
set_option maxRecDepth 100000 in
theorem gw_589 : (.code yJ3_checkIndex_8e157 cJ3_checkIndex_8e157 3 (some .int) : Cond) ∈ lw_gt := gt_of (List.mem_of_getElem? (i := 589) rfl) (by rfl)
set_option maxRecDepth 100000 in
theorem gw_582 : (.methodLink RJ1 9 yJ0_checkIndex_df160 : Cond) ∈ lw_gt := gt_of (List.mem_of_getElem? (i := 582) (by decide +kernel)) (by rfl)
set_option maxRecDepth 100000 in
theorem gw_583 : (.static yJ0_checkIndex_df160 : Cond) ∈ lw_gt := gt_of (List.mem_of_getElem? (i := 583) (by decide +kernel)) (by rfl)
set_option maxRecDepth 100000 in
theorem gw_584 : (.code yJ0_checkIndex_df160 cJ0_checkIndex_df160 2 none : Cond) ∈ lw_gt := gt_of (List.mem_of_getElem? (i := 584) rfl) (by rfl)
set_option maxRecDepth 100000 in
theorem gw_575 : (.methodLink RJ0 492 yJ0_isLatin1_aae02 : Cond) ∈ lw_gt := gt_of (List.mem_of_getElem? (i := 575) (by decide +kernel)) (by rfl)
set_option maxRecDepth 100000 in
theorem gw_576 : (.instanceMethod yJ0_isLatin1_aae02 : Cond) ∈ lw_gt := gt_of (List.mem_of_getElem? (i := 576) (by decide +kernel)) (by rfl)
set_option maxRecDepth 100000 in
theorem gw_577 : (.selects RJ0 yJ0_isLatin1_aae02 yJ0_isLatin1_aae02 : Cond) ∈ lw_gt := gt_of (List.mem_of_getElem? (i := 577) (by decide +kernel)) (by rfl)
set_option maxRecDepth 100000 in
theorem gw_578 : (.code yJ0_isLatin1_aae02 cJ0_isLatin1_aae02 1 (some .boolean) : Cond) ∈ lw_gt := gt_of (List.mem_of_getElem? (i := 578) rfl) (by rfl)
set_option maxRecDepth 100000 in
theorem gw_579 : (.methodLink RJ0 495 yJ1_charAt_3b067 : Cond) ∈ lw_gt := gt_of (List.mem_of_getElem? (i := 579) (by decide +kernel)) (by rfl)
set_option maxRecDepth 100000 in
theorem gw_580 : (.static yJ1_charAt_3b067 : Cond) ∈ lw_gt := gt_of (List.mem_of_getElem? (i := 580) (by decide +kernel)) (by rfl)
set_option maxRecDepth 100000 in
theorem gw_120 : (.initialized RJ1 : Cond) ∈ lw_gt := gt_of (List.mem_of_getElem? (i := 120) (by decide +kernel)) (by rfl)
set_option maxRecDepth 100000 in
theorem gw_581 : (.code yJ1_charAt_3b067 cJ1_charAt_3b067 2 (some .char) : Cond) ∈ lw_gt := gt_of (List.mem_of_getElem? (i := 581) rfl) (by rfl)
set_option maxRecDepth 100000 in
theorem gw_1332 : (.methodLink RX11 155 yJ0_length_8abf5 : Cond) ∈ lw_gt := gt_of (List.mem_of_getElem? (i := 1332) (by decide +kernel)) (by rfl)
set_option maxRecDepth 100000 in
theorem gw_562 : (.instanceMethod yJ0_length_8abf5 : Cond) ∈ lw_gt := gt_of (List.mem_of_getElem? (i := 562) (by decide +kernel)) (by rfl)
set_option maxRecDepth 100000 in
theorem gw_563 : (.selects RJ0 yJ0_length_8abf5 yJ0_length_8abf5 : Cond) ∈ lw_gt := gt_of (List.mem_of_getElem? (i := 563) (by decide +kernel)) (by rfl)
set_option maxRecDepth 100000 in
theorem gw_564 : (.code yJ0_length_8abf5 cJ0_length_8abf5 1 (some .int) : Cond) ∈ lw_gt := gt_of (List.mem_of_getElem? (i := 564) rfl) (by rfl)
set_option maxRecDepth 100000 in
theorem gw_1333 : (.methodLink RX11 160 yJ0_charAt_5068e : Cond) ∈ lw_gt := gt_of (List.mem_of_getElem? (i := 1333) (by decide +kernel)) (by rfl)
set_option maxRecDepth 100000 in
theorem gw_572 : (.instanceMethod yJ0_charAt_5068e : Cond) ∈ lw_gt := gt_of (List.mem_of_getElem? (i := 572) (by decide +kernel)) (by rfl)
set_option maxRecDepth 100000 in
theorem gw_573 : (.selects RJ0 yJ0_charAt_5068e yJ0_charAt_5068e : Cond) ∈ lw_gt := gt_of (List.mem_of_getElem? (i := 573) (by decide +kernel)) (by rfl)
set_option maxRecDepth 100000 in
theorem gw_574 : (.code yJ0_charAt_5068e cJ0_charAt_5068e 2 (some .char) : Cond) ∈ lw_gt := gt_of (List.mem_of_getElem? (i := 574) rfl) (by rfl)
set_option maxRecDepth 100000 in
theorem gw_1450 : (.constantLong RX11 257 (3) : Cond) ∈ lw_gt := gt_of (List.mem_of_getElem? (i := 1450) (by decide +kernel)) (by rfl)
set_option maxRecDepth 100000 in
theorem gw_1451 : (.constantLong RX11 259 (-1) : Cond) ∈ lw_gt := gt_of (List.mem_of_getElem? (i := 1451) (by decide +kernel)) (by rfl)
set_option maxRecDepth 100000 in
theorem gw_1446 : (.constantLong RX11 265 (1152921504606846976) : Cond) ∈ lw_gt := gt_of (List.mem_of_getElem? (i := 1446) (by decide +kernel)) (by rfl)
set_option maxRecDepth 100000 in
theorem gw_1098 : (.fieldLink RX11 121 "NothingJudgeModel" "thrown" "I" : Cond) ∈ lw_gt := gt_of (List.mem_of_getElem? (i := 1098) (by decide +kernel)) (by rfl)
set_option maxRecDepth 100000 in
theorem gw_1099 : (.fieldLink RX11 7 "NothingJudgeModel" "tape" "[I" : Cond) ∈ lw_gt := gt_of (List.mem_of_getElem? (i := 1099) (by decide +kernel)) (by rfl)
set_option maxRecDepth 100000 in
theorem gw_1100 : (.fieldLink RX11 124 "NothingJudgeModel" "taped" "I" : Cond) ∈ lw_gt := gt_of (List.mem_of_getElem? (i := 1100) (by decide +kernel)) (by rfl)
set_option maxRecDepth 100000 in
theorem gw_1101 : (.fieldLink RX11 130 "NothingJudgeModel" "size" "I" : Cond) ∈ lw_gt := gt_of (List.mem_of_getElem? (i := 1101) (by decide +kernel)) (by rfl)
set_option maxRecDepth 100000 in
theorem gw_1102 : (.fieldLink RX11 127 "NothingJudgeModel" "at" "I" : Cond) ∈ lw_gt := gt_of (List.mem_of_getElem? (i := 1102) (by decide +kernel)) (by rfl)
set_option maxRecDepth 100000 in
theorem gw_1103 : (.fieldLink RX11 137 "NothingJudgeModel" "place" "I" : Cond) ∈ lw_gt := gt_of (List.mem_of_getElem? (i := 1103) (by decide +kernel)) (by rfl)
set_option maxRecDepth 100000 in
theorem gw_1104 : (.fieldLink RX11 140 "NothingJudgeModel" "sort" "I" : Cond) ∈ lw_gt := gt_of (List.mem_of_getElem? (i := 1104) (by decide +kernel)) (by rfl)
set_option maxRecDepth 100000 in
theorem gw_1105 : (.fieldLink RX11 150 "NothingJudgeModel" "value" "I" : Cond) ∈ lw_gt := gt_of (List.mem_of_getElem? (i := 1105) (by decide +kernel)) (by rfl)
set_option maxRecDepth 100000 in
theorem gw_1106 : (.fieldLink RX11 164 "NothingJudgeModel" "fault" "I" : Cond) ∈ lw_gt := gt_of (List.mem_of_getElem? (i := 1106) (by decide +kernel)) (by rfl)
set_option maxRecDepth 100000 in
theorem gw_1107 : (.fieldLink RX11 167 "NothingJudgeModel" "faultPlace" "I" : Cond) ∈ lw_gt := gt_of (List.mem_of_getElem? (i := 1107) (by decide +kernel)) (by rfl)
set_option maxRecDepth 100000 in
theorem gw_1108 : (.fieldLink RX11 242 "NothingJudgeModel" "lastFault" "I" : Cond) ∈ lw_gt := gt_of (List.mem_of_getElem? (i := 1108) (by decide +kernel)) (by rfl)
set_option maxRecDepth 100000 in
theorem gw_1109 : (.fieldLink RX11 13 "NothingJudgeModel" "lastPlace" "I" : Cond) ∈ lw_gt := gt_of (List.mem_of_getElem? (i := 1109) (by decide +kernel)) (by rfl)
set_option maxRecDepth 100000 in
theorem gw_1110 : (.fieldLink RX11 17 "NothingJudgeModel" "act" "[I" : Cond) ∈ lw_gt := gt_of (List.mem_of_getElem? (i := 1110) (by decide +kernel)) (by rfl)
set_option maxRecDepth 100000 in
theorem gw_1111 : (.fieldLink RX11 20 "NothingJudgeModel" "one" "[I" : Cond) ∈ lw_gt := gt_of (List.mem_of_getElem? (i := 1111) (by decide +kernel)) (by rfl)
set_option maxRecDepth 100000 in
theorem gw_1112 : (.fieldLink RX11 23 "NothingJudgeModel" "two" "[I" : Cond) ∈ lw_gt := gt_of (List.mem_of_getElem? (i := 1112) (by decide +kernel)) (by rfl)
set_option maxRecDepth 100000 in
theorem gw_1113 : (.fieldLink RX11 26 "NothingJudgeModel" "three" "[I" : Cond) ∈ lw_gt := gt_of (List.mem_of_getElem? (i := 1113) (by decide +kernel)) (by rfl)
set_option maxRecDepth 100000 in
theorem gw_1114 : (.fieldLink RX11 29 "NothingJudgeModel" "argsOf" "[I" : Cond) ∈ lw_gt := gt_of (List.mem_of_getElem? (i := 1114) (by decide +kernel)) (by rfl)
set_option maxRecDepth 100000 in
theorem gw_1115 : (.fieldLink RX11 183 "NothingJudgeModel" "acts" "I" : Cond) ∈ lw_gt := gt_of (List.mem_of_getElem? (i := 1115) (by decide +kernel)) (by rfl)
set_option maxRecDepth 100000 in
theorem gw_1116 : (.fieldLink RX11 251 "NothingJudgeModel" "actMany" "I" : Cond) ∈ lw_gt := gt_of (List.mem_of_getElem? (i := 1116) (by decide +kernel)) (by rfl)
set_option maxRecDepth 100000 in
theorem gw_1117 : (.fieldLink RX11 32 "NothingJudgeModel" "routineFrom" "[I" : Cond) ∈ lw_gt := gt_of (List.mem_of_getElem? (i := 1117) (by decide +kernel)) (by rfl)
set_option maxRecDepth 100000 in
theorem gw_1118 : (.fieldLink RX11 35 "NothingJudgeModel" "params" "[I" : Cond) ∈ lw_gt := gt_of (List.mem_of_getElem? (i := 1118) (by decide +kernel)) (by rfl)
set_option maxRecDepth 100000 in
theorem gw_1119 : (.fieldLink RX11 38 "NothingJudgeModel" "paramNames" "[I" : Cond) ∈ lw_gt := gt_of (List.mem_of_getElem? (i := 1119) (by decide +kernel)) (by rfl)
set_option maxRecDepth 100000 in
theorem gw_1120 : (.fieldLink RX11 41 "NothingJudgeModel" "firstRoutine" "[I" : Cond) ∈ lw_gt := gt_of (List.mem_of_getElem? (i := 1120) (by decide +kernel)) (by rfl)
set_option maxRecDepth 100000 in
theorem gw_1121 : (.fieldLink RX11 44 "NothingJudgeModel" "useRoutine" "[I" : Cond) ∈ lw_gt := gt_of (List.mem_of_getElem? (i := 1121) (by decide +kernel)) (by rfl)
set_option maxRecDepth 100000 in
theorem gw_1122 : (.fieldLink RX11 47 "NothingJudgeModel" "usePlace" "[I" : Cond) ∈ lw_gt := gt_of (List.mem_of_getElem? (i := 1122) (by decide +kernel)) (by rfl)
set_option maxRecDepth 100000 in
theorem gw_1123 : (.fieldLink RX11 50 "NothingJudgeModel" "useName" "[I" : Cond) ∈ lw_gt := gt_of (List.mem_of_getElem? (i := 1123) (by decide +kernel)) (by rfl)
set_option maxRecDepth 100000 in
theorem gw_1124 : (.fieldLink RX11 53 "NothingJudgeModel" "useMany" "[I" : Cond) ∈ lw_gt := gt_of (List.mem_of_getElem? (i := 1124) (by decide +kernel)) (by rfl)
set_option maxRecDepth 100000 in
theorem gw_1125 : (.fieldLink RX11 56 "NothingJudgeModel" "testRoutine" "[I" : Cond) ∈ lw_gt := gt_of (List.mem_of_getElem? (i := 1125) (by decide +kernel)) (by rfl)
set_option maxRecDepth 100000 in
theorem gw_1126 : (.fieldLink RX11 59 "NothingJudgeModel" "testPlace" "[I" : Cond) ∈ lw_gt := gt_of (List.mem_of_getElem? (i := 1126) (by decide +kernel)) (by rfl)
set_option maxRecDepth 100000 in
theorem gw_1127 : (.fieldLink RX11 62 "NothingJudgeModel" "testMany" "[I" : Cond) ∈ lw_gt := gt_of (List.mem_of_getElem? (i := 1127) (by decide +kernel)) (by rfl)
set_option maxRecDepth 100000 in
theorem gw_1128 : (.fieldLink RX11 65 "NothingJudgeModel" "callPlace" "[I" : Cond) ∈ lw_gt := gt_of (List.mem_of_getElem? (i := 1128) (by decide +kernel)) (by rfl)
set_option maxRecDepth 100000 in
theorem gw_1129 : (.fieldLink RX11 68 "NothingJudgeModel" "callLetter" "[I" : Cond) ∈ lw_gt := gt_of (List.mem_of_getElem? (i := 1129) (by decide +kernel)) (by rfl)
set_option maxRecDepth 100000 in
theorem gw_1130 : (.fieldLink RX11 71 "NothingJudgeModel" "callArgs" "[I" : Cond) ∈ lw_gt := gt_of (List.mem_of_getElem? (i := 1130) (by decide +kernel)) (by rfl)
set_option maxRecDepth 100000 in
theorem gw_1131 : (.fieldLink RX11 186 "NothingJudgeModel" "calls" "I" : Cond) ∈ lw_gt := gt_of (List.mem_of_getElem? (i := 1131) (by decide +kernel)) (by rfl)
set_option maxRecDepth 100000 in
theorem gw_1132 : (.fieldLink RX11 209 "NothingJudgeModel" "routine" "I" : Cond) ∈ lw_gt := gt_of (List.mem_of_getElem? (i := 1132) (by decide +kernel)) (by rfl)
set_option maxRecDepth 100000 in
theorem gw_1133 : (.fieldLink RX11 74 "NothingJudgeModel" "blockKind" "[I" : Cond) ∈ lw_gt := gt_of (List.mem_of_getElem? (i := 1133) (by decide +kernel)) (by rfl)
set_option maxRecDepth 100000 in
theorem gw_1134 : (.fieldLink RX11 77 "NothingJudgeModel" "blockWaits" "[I" : Cond) ∈ lw_gt := gt_of (List.mem_of_getElem? (i := 1134) (by decide +kernel)) (by rfl)
set_option maxRecDepth 100000 in
theorem gw_1135 : (.fieldLink RX11 80 "NothingJudgeModel" "blockTest" "[I" : Cond) ∈ lw_gt := gt_of (List.mem_of_getElem? (i := 1135) (by decide +kernel)) (by rfl)
set_option maxRecDepth 100000 in
theorem gw_1136 : (.fieldLink RX11 189 "NothingJudgeModel" "blocks" "I" : Cond) ∈ lw_gt := gt_of (List.mem_of_getElem? (i := 1136) (by decide +kernel)) (by rfl)
set_option maxRecDepth 100000 in
theorem gw_1137 : (.fieldLink RX11 83 "NothingJudgeModel" "entry" "I" : Cond) ∈ lw_gt := gt_of (List.mem_of_getElem? (i := 1137) (by decide +kernel)) (by rfl)
set_option maxRecDepth 100000 in
theorem gw_1138 : (.fieldLink RX11 86 "NothingJudgeModel" "outers" "[I" : Cond) ∈ lw_gt := gt_of (List.mem_of_getElem? (i := 1138) (by decide +kernel)) (by rfl)
set_option maxRecDepth 100000 in
theorem gw_1139 : (.fieldLink RX11 89 "NothingJudgeModel" "ahead" "[J" : Cond) ∈ lw_gt := gt_of (List.mem_of_getElem? (i := 1139) (by decide +kernel)) (by rfl)
set_option maxRecDepth 100000 in
theorem gw_1140 : (.fieldLink RX11 93 "NothingJudgeModel" "marks" "[I" : Cond) ∈ lw_gt := gt_of (List.mem_of_getElem? (i := 1140) (by decide +kernel)) (by rfl)
set_option maxRecDepth 100000 in
theorem gw_1141 : (.fieldLink RX11 96 "NothingJudgeModel" "isHeld" "[Z" : Cond) ∈ lw_gt := gt_of (List.mem_of_getElem? (i := 1141) (by decide +kernel)) (by rfl)
set_option maxRecDepth 100000 in
theorem gw_1142 : (.fieldLink RX11 100 "NothingJudgeModel" "tested" "[I" : Cond) ∈ lw_gt := gt_of (List.mem_of_getElem? (i := 1142) (by decide +kernel)) (by rfl)
set_option maxRecDepth 100000 in
theorem gw_1143 : (.fieldLink RX11 261 "NothingJudgeModel" "isMore" "Z" : Cond) ∈ lw_gt := gt_of (List.mem_of_getElem? (i := 1143) (by decide +kernel)) (by rfl)
set_option maxRecDepth 100000 in
theorem gw_1144 : (.fieldLink RX11 103 "NothingJudgeModel" "fields" "[I" : Cond) ∈ lw_gt := gt_of (List.mem_of_getElem? (i := 1144) (by decide +kernel)) (by rfl)
set_option maxRecDepth 100000 in
theorem gw_1145 : (.fieldLink RX11 311 "NothingJudgeModel" "things" "I" : Cond) ∈ lw_gt := gt_of (List.mem_of_getElem? (i := 1145) (by decide +kernel)) (by rfl)
set_option maxRecDepth 100000 in
theorem gw_1146 : (.fieldLink RX11 106 "NothingJudgeModel" "names" "[I" : Cond) ∈ lw_gt := gt_of (List.mem_of_getElem? (i := 1146) (by decide +kernel)) (by rfl)
set_option maxRecDepth 100000 in
theorem gw_1147 : (.fieldLink RX11 109 "NothingJudgeModel" "backTo" "[I" : Cond) ∈ lw_gt := gt_of (List.mem_of_getElem? (i := 1147) (by decide +kernel)) (by rfl)
set_option maxRecDepth 100000 in
theorem gw_1148 : (.fieldLink RX11 320 "NothingJudgeModel" "frames" "I" : Cond) ∈ lw_gt := gt_of (List.mem_of_getElem? (i := 1148) (by decide +kernel)) (by rfl)
set_option maxRecDepth 100000 in
theorem gw_1149 : (.fieldLink RX11 329 "NothingJudgeModel" "acc" "I" : Cond) ∈ lw_gt := gt_of (List.mem_of_getElem? (i := 1149) (by decide +kernel)) (by rfl)
set_option maxRecDepth 100000 in
theorem gw_1150 : (.fieldLink RX11 323 "NothingJudgeModel" "steps" "I" : Cond) ∈ lw_gt := gt_of (List.mem_of_getElem? (i := 1150) (by decide +kernel)) (by rfl)
set_option maxRecDepth 100000 in
theorem gw_1151 : (.fieldLink RX11 317 "NothingJudgeModel" "anys" "I" : Cond) ∈ lw_gt := gt_of (List.mem_of_getElem? (i := 1151) (by decide +kernel)) (by rfl)
set_option maxRecDepth 100000 in
theorem gw_1152 : (.fieldLink RX11 326 "NothingJudgeModel" "failed" "I" : Cond) ∈ lw_gt := gt_of (List.mem_of_getElem? (i := 1152) (by decide +kernel)) (by rfl)
set_option maxRecDepth 100000 in
theorem gw_1153 : (.fieldLink RX11 314 "NothingJudgeModel" "outcome" "I" : Cond) ∈ lw_gt := gt_of (List.mem_of_getElem? (i := 1153) (by decide +kernel)) (by rfl)
set_option maxRecDepth 100000 in
theorem gw_1154 : (.fieldLink RX11 363 "NothingJudgeModel" "hasRun" "Z" : Cond) ∈ lw_gt := gt_of (List.mem_of_getElem? (i := 1154) (by decide +kernel)) (by rfl)
set_option maxRecDepth 100000 in
theorem gw_1155 : (.fieldLink RX11 366 "NothingJudgeModel" "ranSteps" "I" : Cond) ∈ lw_gt := gt_of (List.mem_of_getElem? (i := 1155) (by decide +kernel)) (by rfl)
set_option maxRecDepth 100000 in
theorem gw_1156 : (.fieldLink RX11 369 "NothingJudgeModel" "ranUse" "I" : Cond) ∈ lw_gt := gt_of (List.mem_of_getElem? (i := 1156) (by decide +kernel)) (by rfl)
set_option maxRecDepth 100000 in
theorem gw_1157 : (.fieldLink RX11 372 "NothingJudgeModel" "ranThings" "I" : Cond) ∈ lw_gt := gt_of (List.mem_of_getElem? (i := 1157) (by decide +kernel)) (by rfl)
set_option maxRecDepth 100000 in
theorem gw_1158 : (.fieldLink RX11 375 "NothingJudgeModel" "ranAnys" "I" : Cond) ∈ lw_gt := gt_of (List.mem_of_getElem? (i := 1158) (by decide +kernel)) (by rfl)
set_option maxRecDepth 100000 in
theorem gw_1159 : (.fieldLink RX11 112 "NothingJudgeModel" "prices" "[I" : Cond) ∈ lw_gt := gt_of (List.mem_of_getElem? (i := 1159) (by decide +kernel)) (by rfl)
set_option maxRecDepth 100000 in
theorem gw_1160 : (.fieldLink RX11 115 "NothingJudgeModel" "candidates" "[I" : Cond) ∈ lw_gt := gt_of (List.mem_of_getElem? (i := 1160) (by decide +kernel)) (by rfl)
set_option maxRecDepth 100000 in
theorem gw_1161 : (.fieldLink RX11 378 "NothingJudgeModel" "candidateMany" "I" : Cond) ∈ lw_gt := gt_of (List.mem_of_getElem? (i := 1161) (by decide +kernel)) (by rfl)
set_option maxRecDepth 100000 in
theorem gw_1162 : (.fieldLink RX11 390 "NothingJudgeModel" "mendHeld" "I" : Cond) ∈ lw_gt := gt_of (List.mem_of_getElem? (i := 1162) (by decide +kernel)) (by rfl)
set_option maxRecDepth 100000 in
theorem gw_1163 : (.fieldLink RX11 387 "NothingJudgeModel" "mendGuards" "I" : Cond) ∈ lw_gt := gt_of (List.mem_of_getElem? (i := 1163) (by decide +kernel)) (by rfl)
set_option maxRecDepth 100000 in
theorem gw_1164 : (.fieldLink RX11 118 "NothingJudgeModel" "mendMarks" "[I" : Cond) ∈ lw_gt := gt_of (List.mem_of_getElem? (i := 1164) (by decide +kernel)) (by rfl)
set_option maxRecDepth 100000 in
theorem gw_1165 : (.fieldLink RX11 393 "NothingJudgeModel" "hasMend" "Z" : Cond) ∈ lw_gt := gt_of (List.mem_of_getElem? (i := 1165) (by decide +kernel)) (by rfl)
set_option maxRecDepth 100000 in
theorem gw_1320 : (.methodLink RX11 133 yX11_here : Cond) ∈ lw_gt := gt_of (List.mem_of_getElem? (i := 1320) (by decide +kernel)) (by rfl)
set_option maxRecDepth 100000 in
theorem gw_1322 : (.instanceMethod yX11_here : Cond) ∈ lw_gt := gt_of (List.mem_of_getElem? (i := 1322) (by decide +kernel)) (by rfl)
set_option maxRecDepth 100000 in
theorem gw_63 : (.selects RX11 yX11_here yX11_here : Cond) ∈ lw_gt := gt_of (List.mem_of_getElem? (i := 63) (by decide +kernel)) (by rfl)
set_option maxRecDepth 100000 in
theorem gw_117 : (.initialized RX11 : Cond) ∈ lw_gt := gt_of (List.mem_of_getElem? (i := 117) (by decide +kernel)) (by rfl)
set_option maxRecDepth 100000 in
theorem gw_1323 : (.code yX11_here cX11_here 1 (some .int) : Cond) ∈ lw_gt := gt_of (List.mem_of_getElem? (i := 1323) rfl) (by rfl)
set_option maxRecDepth 100000 in
theorem gw_1324 : (.methodLink RX11 143 yX11_isSmall : Cond) ∈ lw_gt := gt_of (List.mem_of_getElem? (i := 1324) (by decide +kernel)) (by rfl)
set_option maxRecDepth 100000 in
theorem gw_1325 : (.static yX11_isSmall : Cond) ∈ lw_gt := gt_of (List.mem_of_getElem? (i := 1325) (by decide +kernel)) (by rfl)
set_option maxRecDepth 100000 in
theorem gw_1326 : (.code yX11_isSmall cX11_isSmall 1 (some .boolean) : Cond) ∈ lw_gt := gt_of (List.mem_of_getElem? (i := 1326) rfl) (by rfl)
set_option maxRecDepth 100000 in
theorem gw_1327 : (.methodLink RX11 147 yX11_wordOf : Cond) ∈ lw_gt := gt_of (List.mem_of_getElem? (i := 1327) (by decide +kernel)) (by rfl)
set_option maxRecDepth 100000 in
theorem gw_1329 : (.instanceMethod yX11_wordOf : Cond) ∈ lw_gt := gt_of (List.mem_of_getElem? (i := 1329) (by decide +kernel)) (by rfl)
set_option maxRecDepth 100000 in
theorem gw_64 : (.selects RX11 yX11_wordOf yX11_wordOf : Cond) ∈ lw_gt := gt_of (List.mem_of_getElem? (i := 64) (by decide +kernel)) (by rfl)
set_option maxRecDepth 100000 in
theorem gw_1330 : (.code yX11_wordOf cX11_wordOf 4 (some .int) : Cond) ∈ lw_gt := gt_of (List.mem_of_getElem? (i := 1330) rfl) (by rfl)
set_option maxRecDepth 100000 in
theorem gw_1316 : (.methodLink RX11 173 yX11_next : Cond) ∈ lw_gt := gt_of (List.mem_of_getElem? (i := 1316) (by decide +kernel)) (by rfl)
set_option maxRecDepth 100000 in
theorem gw_1318 : (.instanceMethod yX11_next : Cond) ∈ lw_gt := gt_of (List.mem_of_getElem? (i := 1318) (by decide +kernel)) (by rfl)
set_option maxRecDepth 100000 in
theorem gw_62 : (.selects RX11 yX11_next yX11_next : Cond) ∈ lw_gt := gt_of (List.mem_of_getElem? (i := 62) (by decide +kernel)) (by rfl)
set_option maxRecDepth 100000 in
theorem gw_1319 : (.code yX11_next cX11_next 3 none : Cond) ∈ lw_gt := gt_of (List.mem_of_getElem? (i := 1319) rfl) (by rfl)
set_option maxRecDepth 100000 in
theorem gw_1342 : (.methodLink RX11 179 yX11_wrong : Cond) ∈ lw_gt := gt_of (List.mem_of_getElem? (i := 1342) (by decide +kernel)) (by rfl)
set_option maxRecDepth 100000 in
theorem gw_1344 : (.instanceMethod yX11_wrong : Cond) ∈ lw_gt := gt_of (List.mem_of_getElem? (i := 1344) (by decide +kernel)) (by rfl)
set_option maxRecDepth 100000 in
theorem gw_67 : (.selects RX11 yX11_wrong yX11_wrong : Cond) ∈ lw_gt := gt_of (List.mem_of_getElem? (i := 67) (by decide +kernel)) (by rfl)
set_option maxRecDepth 100000 in
theorem gw_1345 : (.code yX11_wrong cX11_wrong 3 none : Cond) ∈ lw_gt := gt_of (List.mem_of_getElem? (i := 1345) rfl) (by rfl)
set_option maxRecDepth 100000 in
theorem gw_1354 : (.methodLink RX11 170 yX11_isSign : Cond) ∈ lw_gt := gt_of (List.mem_of_getElem? (i := 1354) (by decide +kernel)) (by rfl)
set_option maxRecDepth 100000 in
theorem gw_1356 : (.instanceMethod yX11_isSign : Cond) ∈ lw_gt := gt_of (List.mem_of_getElem? (i := 1356) (by decide +kernel)) (by rfl)
set_option maxRecDepth 100000 in
theorem gw_70 : (.selects RX11 yX11_isSign yX11_isSign : Cond) ∈ lw_gt := gt_of (List.mem_of_getElem? (i := 70) (by decide +kernel)) (by rfl)
set_option maxRecDepth 100000 in
theorem gw_1357 : (.code yX11_isSign cX11_isSign 2 (some .boolean) : Cond) ∈ lw_gt := gt_of (List.mem_of_getElem? (i := 1357) rfl) (by rfl)
set_option maxRecDepth 100000 in
theorem gw_1370 : (.methodLink RX11 220 yX11_isWord : Cond) ∈ lw_gt := gt_of (List.mem_of_getElem? (i := 1370) (by decide +kernel)) (by rfl)
set_option maxRecDepth 100000 in
theorem gw_1372 : (.instanceMethod yX11_isWord : Cond) ∈ lw_gt := gt_of (List.mem_of_getElem? (i := 1372) (by decide +kernel)) (by rfl)
set_option maxRecDepth 100000 in
theorem gw_74 : (.selects RX11 yX11_isWord yX11_isWord : Cond) ∈ lw_gt := gt_of (List.mem_of_getElem? (i := 74) (by decide +kernel)) (by rfl)
set_option maxRecDepth 100000 in
theorem gw_1373 : (.code yX11_isWord cX11_isWord 2 (some .boolean) : Cond) ∈ lw_gt := gt_of (List.mem_of_getElem? (i := 1373) rfl) (by rfl)
set_option maxRecDepth 100000 in
theorem gw_1350 : (.methodLink RX11 176 yX11_takesSign : Cond) ∈ lw_gt := gt_of (List.mem_of_getElem? (i := 1350) (by decide +kernel)) (by rfl)
set_option maxRecDepth 100000 in
theorem gw_1352 : (.instanceMethod yX11_takesSign : Cond) ∈ lw_gt := gt_of (List.mem_of_getElem? (i := 1352) (by decide +kernel)) (by rfl)
set_option maxRecDepth 100000 in
theorem gw_69 : (.selects RX11 yX11_takesSign yX11_takesSign : Cond) ∈ lw_gt := gt_of (List.mem_of_getElem? (i := 69) (by decide +kernel)) (by rfl)
set_option maxRecDepth 100000 in
theorem gw_1353 : (.code yX11_takesSign cX11_takesSign 2 (some .boolean) : Cond) ∈ lw_gt := gt_of (List.mem_of_getElem? (i := 1353) rfl) (by rfl)
set_option maxRecDepth 100000 in
theorem gw_1346 : (.methodLink RX11 201 yX11_wants : Cond) ∈ lw_gt := gt_of (List.mem_of_getElem? (i := 1346) (by decide +kernel)) (by rfl)
set_option maxRecDepth 100000 in
theorem gw_1348 : (.instanceMethod yX11_wants : Cond) ∈ lw_gt := gt_of (List.mem_of_getElem? (i := 1348) (by decide +kernel)) (by rfl)
set_option maxRecDepth 100000 in
theorem gw_68 : (.selects RX11 yX11_wants yX11_wants : Cond) ∈ lw_gt := gt_of (List.mem_of_getElem? (i := 68) (by decide +kernel)) (by rfl)
set_option maxRecDepth 100000 in
theorem gw_1349 : (.code yX11_wants cX11_wants 2 none : Cond) ∈ lw_gt := gt_of (List.mem_of_getElem? (i := 1349) rfl) (by rfl)
set_option maxRecDepth 100000 in
theorem gw_1338 : (.methodLink RX11 205 yX11_taken : Cond) ∈ lw_gt := gt_of (List.mem_of_getElem? (i := 1338) (by decide +kernel)) (by rfl)
set_option maxRecDepth 100000 in
theorem gw_1340 : (.instanceMethod yX11_taken : Cond) ∈ lw_gt := gt_of (List.mem_of_getElem? (i := 1340) (by decide +kernel)) (by rfl)
set_option maxRecDepth 100000 in
theorem gw_66 : (.selects RX11 yX11_taken yX11_taken : Cond) ∈ lw_gt := gt_of (List.mem_of_getElem? (i := 66) (by decide +kernel)) (by rfl)
set_option maxRecDepth 100000 in
theorem gw_1341 : (.code yX11_taken cX11_taken 3 (some .int) : Cond) ∈ lw_gt := gt_of (List.mem_of_getElem? (i := 1341) rfl) (by rfl)
set_option maxRecDepth 100000 in
theorem gw_1366 : (.methodLink RX11 216 yX11_emit : Cond) ∈ lw_gt := gt_of (List.mem_of_getElem? (i := 1366) (by decide +kernel)) (by rfl)
set_option maxRecDepth 100000 in
theorem gw_1368 : (.instanceMethod yX11_emit : Cond) ∈ lw_gt := gt_of (List.mem_of_getElem? (i := 1368) (by decide +kernel)) (by rfl)
set_option maxRecDepth 100000 in
theorem gw_73 : (.selects RX11 yX11_emit yX11_emit : Cond) ∈ lw_gt := gt_of (List.mem_of_getElem? (i := 73) (by decide +kernel)) (by rfl)
set_option maxRecDepth 100000 in
theorem gw_1369 : (.code yX11_emit cX11_emit 6 (some .int) : Cond) ∈ lw_gt := gt_of (List.mem_of_getElem? (i := 1369) rfl) (by rfl)
set_option maxRecDepth 100000 in
theorem gw_1358 : (.methodLink RX11 212 yX11_opens : Cond) ∈ lw_gt := gt_of (List.mem_of_getElem? (i := 1358) (by decide +kernel)) (by rfl)
set_option maxRecDepth 100000 in
theorem gw_1360 : (.instanceMethod yX11_opens : Cond) ∈ lw_gt := gt_of (List.mem_of_getElem? (i := 1360) (by decide +kernel)) (by rfl)
set_option maxRecDepth 100000 in
theorem gw_71 : (.selects RX11 yX11_opens yX11_opens : Cond) ∈ lw_gt := gt_of (List.mem_of_getElem? (i := 71) (by decide +kernel)) (by rfl)
set_option maxRecDepth 100000 in
theorem gw_1361 : (.code yX11_opens cX11_opens 4 none : Cond) ∈ lw_gt := gt_of (List.mem_of_getElem? (i := 1361) rfl) (by rfl)
set_option maxRecDepth 100000 in
theorem gw_1334 : (.methodLink RX11 192 yX11_head : Cond) ∈ lw_gt := gt_of (List.mem_of_getElem? (i := 1334) (by decide +kernel)) (by rfl)
set_option maxRecDepth 100000 in
theorem gw_1336 : (.instanceMethod yX11_head : Cond) ∈ lw_gt := gt_of (List.mem_of_getElem? (i := 1336) (by decide +kernel)) (by rfl)
set_option maxRecDepth 100000 in
theorem gw_65 : (.selects RX11 yX11_head yX11_head : Cond) ∈ lw_gt := gt_of (List.mem_of_getElem? (i := 65) (by decide +kernel)) (by rfl)
set_option maxRecDepth 100000 in
theorem gw_1337 : (.code yX11_head cX11_head 7 none : Cond) ∈ lw_gt := gt_of (List.mem_of_getElem? (i := 1337) rfl) (by rfl)
set_option maxRecDepth 100000 in
theorem gw_1362 : (.methodLink RX11 195 yX11_closes : Cond) ∈ lw_gt := gt_of (List.mem_of_getElem? (i := 1362) (by decide +kernel)) (by rfl)
set_option maxRecDepth 100000 in
theorem gw_1364 : (.instanceMethod yX11_closes : Cond) ∈ lw_gt := gt_of (List.mem_of_getElem? (i := 1364) (by decide +kernel)) (by rfl)
set_option maxRecDepth 100000 in
theorem gw_72 : (.selects RX11 yX11_closes yX11_closes : Cond) ∈ lw_gt := gt_of (List.mem_of_getElem? (i := 72) (by decide +kernel)) (by rfl)
set_option maxRecDepth 100000 in
theorem gw_1365 : (.code yX11_closes cX11_closes 4 none : Cond) ∈ lw_gt := gt_of (List.mem_of_getElem? (i := 1365) rfl) (by rfl)
set_option maxRecDepth 100000 in
theorem gw_1378 : (.methodLink RX11 223 yX11_newUse : Cond) ∈ lw_gt := gt_of (List.mem_of_getElem? (i := 1378) (by decide +kernel)) (by rfl)
set_option maxRecDepth 100000 in
theorem gw_1380 : (.instanceMethod yX11_newUse : Cond) ∈ lw_gt := gt_of (List.mem_of_getElem? (i := 1380) (by decide +kernel)) (by rfl)
set_option maxRecDepth 100000 in
theorem gw_76 : (.selects RX11 yX11_newUse yX11_newUse : Cond) ∈ lw_gt := gt_of (List.mem_of_getElem? (i := 76) (by decide +kernel)) (by rfl)
set_option maxRecDepth 100000 in
theorem gw_1381 : (.code yX11_newUse cX11_newUse 4 (some .int) : Cond) ∈ lw_gt := gt_of (List.mem_of_getElem? (i := 1381) rfl) (by rfl)
set_option maxRecDepth 100000 in
theorem gw_1382 : (.methodLink RX11 227 yX11_field : Cond) ∈ lw_gt := gt_of (List.mem_of_getElem? (i := 1382) (by decide +kernel)) (by rfl)
set_option maxRecDepth 100000 in
theorem gw_1384 : (.instanceMethod yX11_field : Cond) ∈ lw_gt := gt_of (List.mem_of_getElem? (i := 1384) (by decide +kernel)) (by rfl)
set_option maxRecDepth 100000 in
theorem gw_77 : (.selects RX11 yX11_field yX11_field : Cond) ∈ lw_gt := gt_of (List.mem_of_getElem? (i := 77) (by decide +kernel)) (by rfl)
set_option maxRecDepth 100000 in
theorem gw_1385 : (.code yX11_field cX11_field 1 (some .int) : Cond) ∈ lw_gt := gt_of (List.mem_of_getElem? (i := 1385) rfl) (by rfl)
set_option maxRecDepth 100000 in
theorem gw_1390 : (.methodLink RX11 233 yX11_call : Cond) ∈ lw_gt := gt_of (List.mem_of_getElem? (i := 1390) (by decide +kernel)) (by rfl)
set_option maxRecDepth 100000 in
theorem gw_1392 : (.instanceMethod yX11_call : Cond) ∈ lw_gt := gt_of (List.mem_of_getElem? (i := 1392) (by decide +kernel)) (by rfl)
set_option maxRecDepth 100000 in
theorem gw_79 : (.selects RX11 yX11_call yX11_call : Cond) ∈ lw_gt := gt_of (List.mem_of_getElem? (i := 79) (by decide +kernel)) (by rfl)
set_option maxRecDepth 100000 in
theorem gw_1393 : (.code yX11_call cX11_call 6 none : Cond) ∈ lw_gt := gt_of (List.mem_of_getElem? (i := 1393) rfl) (by rfl)
set_option maxRecDepth 100000 in
theorem gw_1386 : (.methodLink RX11 230 yX11_worth : Cond) ∈ lw_gt := gt_of (List.mem_of_getElem? (i := 1386) (by decide +kernel)) (by rfl)
set_option maxRecDepth 100000 in
theorem gw_1388 : (.instanceMethod yX11_worth : Cond) ∈ lw_gt := gt_of (List.mem_of_getElem? (i := 1388) (by decide +kernel)) (by rfl)
set_option maxRecDepth 100000 in
theorem gw_78 : (.selects RX11 yX11_worth yX11_worth : Cond) ∈ lw_gt := gt_of (List.mem_of_getElem? (i := 78) (by decide +kernel)) (by rfl)
set_option maxRecDepth 100000 in
theorem gw_1389 : (.code yX11_worth cX11_worth 4 none : Cond) ∈ lw_gt := gt_of (List.mem_of_getElem? (i := 1389) rfl) (by rfl)
set_option maxRecDepth 100000 in
theorem gw_1394 : (.methodLink RX11 236 yX11_newTest : Cond) ∈ lw_gt := gt_of (List.mem_of_getElem? (i := 1394) (by decide +kernel)) (by rfl)
set_option maxRecDepth 100000 in
theorem gw_1396 : (.instanceMethod yX11_newTest : Cond) ∈ lw_gt := gt_of (List.mem_of_getElem? (i := 1396) (by decide +kernel)) (by rfl)
set_option maxRecDepth 100000 in
theorem gw_80 : (.selects RX11 yX11_newTest yX11_newTest : Cond) ∈ lw_gt := gt_of (List.mem_of_getElem? (i := 80) (by decide +kernel)) (by rfl)
set_option maxRecDepth 100000 in
theorem gw_1397 : (.code yX11_newTest cX11_newTest 6 (some .int) : Cond) ∈ lw_gt := gt_of (List.mem_of_getElem? (i := 1397) rfl) (by rfl)
set_option maxRecDepth 100000 in
theorem gw_1374 : (.methodLink RX11 198 yX11_statement : Cond) ∈ lw_gt := gt_of (List.mem_of_getElem? (i := 1374) (by decide +kernel)) (by rfl)
set_option maxRecDepth 100000 in
theorem gw_1376 : (.instanceMethod yX11_statement : Cond) ∈ lw_gt := gt_of (List.mem_of_getElem? (i := 1376) (by decide +kernel)) (by rfl)
set_option maxRecDepth 100000 in
theorem gw_75 : (.selects RX11 yX11_statement yX11_statement : Cond) ∈ lw_gt := gt_of (List.mem_of_getElem? (i := 75) (by decide +kernel)) (by rfl)
set_option maxRecDepth 100000 in
theorem gw_1377 : (.code yX11_statement cX11_statement 5 none : Cond) ∈ lw_gt := gt_of (List.mem_of_getElem? (i := 1377) rfl) (by rfl)
set_option maxRecDepth 100000 in
theorem gw_1312 : (.methodLink RX11 239 yX11_parses : Cond) ∈ lw_gt := gt_of (List.mem_of_getElem? (i := 1312) (by decide +kernel)) (by rfl)
set_option maxRecDepth 100000 in
theorem gw_1314 : (.instanceMethod yX11_parses : Cond) ∈ lw_gt := gt_of (List.mem_of_getElem? (i := 1314) (by decide +kernel)) (by rfl)
set_option maxRecDepth 100000 in
theorem gw_61 : (.selects RX11 yX11_parses yX11_parses : Cond) ∈ lw_gt := gt_of (List.mem_of_getElem? (i := 61) (by decide +kernel)) (by rfl)
set_option maxRecDepth 100000 in
theorem gw_1315 : (.code yX11_parses cX11_parses 3 none : Cond) ∈ lw_gt := gt_of (List.mem_of_getElem? (i := 1315) rfl) (by rfl)
set_option maxRecDepth 100000 in
theorem gw_1402 : (.methodLink RX11 254 yX11_enters : Cond) ∈ lw_gt := gt_of (List.mem_of_getElem? (i := 1402) (by decide +kernel)) (by rfl)
set_option maxRecDepth 100000 in
theorem gw_1404 : (.instanceMethod yX11_enters : Cond) ∈ lw_gt := gt_of (List.mem_of_getElem? (i := 1404) (by decide +kernel)) (by rfl)
set_option maxRecDepth 100000 in
theorem gw_82 : (.selects RX11 yX11_enters yX11_enters : Cond) ∈ lw_gt := gt_of (List.mem_of_getElem? (i := 82) (by decide +kernel)) (by rfl)
set_option maxRecDepth 100000 in
theorem gw_1405 : (.code yX11_enters cX11_enters 3 none : Cond) ∈ lw_gt := gt_of (List.mem_of_getElem? (i := 1405) rfl) (by rfl)
set_option maxRecDepth 100000 in
theorem gw_1398 : (.methodLink RX11 245 yX11_comes : Cond) ∈ lw_gt := gt_of (List.mem_of_getElem? (i := 1398) (by decide +kernel)) (by rfl)
set_option maxRecDepth 100000 in
theorem gw_1400 : (.instanceMethod yX11_comes : Cond) ∈ lw_gt := gt_of (List.mem_of_getElem? (i := 1400) (by decide +kernel)) (by rfl)
set_option maxRecDepth 100000 in
theorem gw_81 : (.selects RX11 yX11_comes yX11_comes : Cond) ∈ lw_gt := gt_of (List.mem_of_getElem? (i := 81) (by decide +kernel)) (by rfl)
set_option maxRecDepth 100000 in
theorem gw_1401 : (.code yX11_comes cX11_comes 2 none : Cond) ∈ lw_gt := gt_of (List.mem_of_getElem? (i := 1401) rfl) (by rfl)
set_option maxRecDepth 100000 in
theorem gw_1406 : (.methodLink RX11 248 yX11_routinesMany : Cond) ∈ lw_gt := gt_of (List.mem_of_getElem? (i := 1406) (by decide +kernel)) (by rfl)
set_option maxRecDepth 100000 in
theorem gw_1408 : (.instanceMethod yX11_routinesMany : Cond) ∈ lw_gt := gt_of (List.mem_of_getElem? (i := 1408) (by decide +kernel)) (by rfl)
set_option maxRecDepth 100000 in
theorem gw_83 : (.selects RX11 yX11_routinesMany yX11_routinesMany : Cond) ∈ lw_gt := gt_of (List.mem_of_getElem? (i := 83) (by decide +kernel)) (by rfl)
set_option maxRecDepth 100000 in
theorem gw_1409 : (.code yX11_routinesMany cX11_routinesMany 3 (some .int) : Cond) ∈ lw_gt := gt_of (List.mem_of_getElem? (i := 1409) rfl) (by rfl)
set_option maxRecDepth 100000 in
theorem gw_1460 : (.methodLink RX11 287 yX11_factOf : Cond) ∈ lw_gt := gt_of (List.mem_of_getElem? (i := 1460) (by decide +kernel)) (by rfl)
set_option maxRecDepth 100000 in
theorem gw_1461 : (.static yX11_factOf : Cond) ∈ lw_gt := gt_of (List.mem_of_getElem? (i := 1461) (by decide +kernel)) (by rfl)
set_option maxRecDepth 100000 in
theorem gw_1462 : (.code yX11_factOf cX11_factOf 3 (some .int) : Cond) ∈ lw_gt := gt_of (List.mem_of_getElem? (i := 1462) rfl) (by rfl)
set_option maxRecDepth 100000 in
theorem gw_1447 : (.methodLink RX11 267 yX11_with : Cond) ∈ lw_gt := gt_of (List.mem_of_getElem? (i := 1447) (by decide +kernel)) (by rfl)
set_option maxRecDepth 100000 in
theorem gw_1448 : (.static yX11_with : Cond) ∈ lw_gt := gt_of (List.mem_of_getElem? (i := 1448) (by decide +kernel)) (by rfl)
set_option maxRecDepth 100000 in
theorem gw_1449 : (.code yX11_with cX11_with 4 (some .long) : Cond) ∈ lw_gt := gt_of (List.mem_of_getElem? (i := 1449) rfl) (by rfl)
set_option maxRecDepth 100000 in
theorem gw_1434 : (.methodLink RX11 275 yX11_puts : Cond) ∈ lw_gt := gt_of (List.mem_of_getElem? (i := 1434) (by decide +kernel)) (by rfl)
set_option maxRecDepth 100000 in
theorem gw_1436 : (.instanceMethod yX11_puts : Cond) ∈ lw_gt := gt_of (List.mem_of_getElem? (i := 1436) (by decide +kernel)) (by rfl)
set_option maxRecDepth 100000 in
theorem gw_86 : (.selects RX11 yX11_puts yX11_puts : Cond) ∈ lw_gt := gt_of (List.mem_of_getElem? (i := 86) (by decide +kernel)) (by rfl)
set_option maxRecDepth 100000 in
theorem gw_1437 : (.code yX11_puts cX11_puts 4 none : Cond) ∈ lw_gt := gt_of (List.mem_of_getElem? (i := 1437) rfl) (by rfl)
set_option maxRecDepth 100000 in
theorem gw_1452 : (.methodLink RX11 271 yX11_flows : Cond) ∈ lw_gt := gt_of (List.mem_of_getElem? (i := 1452) (by decide +kernel)) (by rfl)
set_option maxRecDepth 100000 in
theorem gw_1454 : (.instanceMethod yX11_flows : Cond) ∈ lw_gt := gt_of (List.mem_of_getElem? (i := 1454) (by decide +kernel)) (by rfl)
set_option maxRecDepth 100000 in
theorem gw_89 : (.selects RX11 yX11_flows yX11_flows : Cond) ∈ lw_gt := gt_of (List.mem_of_getElem? (i := 89) (by decide +kernel)) (by rfl)
set_option maxRecDepth 100000 in
theorem gw_1455 : (.code yX11_flows cX11_flows 6 none : Cond) ∈ lw_gt := gt_of (List.mem_of_getElem? (i := 1455) rfl) (by rfl)
set_option maxRecDepth 100000 in
theorem gw_1442 : (.methodLink RX11 281 yX11_begins : Cond) ∈ lw_gt := gt_of (List.mem_of_getElem? (i := 1442) (by decide +kernel)) (by rfl)
set_option maxRecDepth 100000 in
theorem gw_1444 : (.instanceMethod yX11_begins : Cond) ∈ lw_gt := gt_of (List.mem_of_getElem? (i := 1444) (by decide +kernel)) (by rfl)
set_option maxRecDepth 100000 in
theorem gw_88 : (.selects RX11 yX11_begins yX11_begins : Cond) ∈ lw_gt := gt_of (List.mem_of_getElem? (i := 88) (by decide +kernel)) (by rfl)
set_option maxRecDepth 100000 in
theorem gw_1445 : (.code yX11_begins cX11_begins 6 none : Cond) ∈ lw_gt := gt_of (List.mem_of_getElem? (i := 1445) rfl) (by rfl)
set_option maxRecDepth 100000 in
theorem gw_1438 : (.methodLink RX11 278 yX11_putsThings : Cond) ∈ lw_gt := gt_of (List.mem_of_getElem? (i := 1438) (by decide +kernel)) (by rfl)
set_option maxRecDepth 100000 in
theorem gw_1440 : (.instanceMethod yX11_putsThings : Cond) ∈ lw_gt := gt_of (List.mem_of_getElem? (i := 1440) (by decide +kernel)) (by rfl)
set_option maxRecDepth 100000 in
theorem gw_87 : (.selects RX11 yX11_putsThings yX11_putsThings : Cond) ∈ lw_gt := gt_of (List.mem_of_getElem? (i := 87) (by decide +kernel)) (by rfl)
set_option maxRecDepth 100000 in
theorem gw_1441 : (.code yX11_putsThings cX11_putsThings 1 none : Cond) ∈ lw_gt := gt_of (List.mem_of_getElem? (i := 1441) rfl) (by rfl)
set_option maxRecDepth 100000 in
theorem gw_1463 : (.methodLink RX11 291 yX11_calls : Cond) ∈ lw_gt := gt_of (List.mem_of_getElem? (i := 1463) (by decide +kernel)) (by rfl)
set_option maxRecDepth 100000 in
theorem gw_1465 : (.instanceMethod yX11_calls : Cond) ∈ lw_gt := gt_of (List.mem_of_getElem? (i := 1465) (by decide +kernel)) (by rfl)
set_option maxRecDepth 100000 in
theorem gw_91 : (.selects RX11 yX11_calls yX11_calls : Cond) ∈ lw_gt := gt_of (List.mem_of_getElem? (i := 91) (by decide +kernel)) (by rfl)
set_option maxRecDepth 100000 in
theorem gw_1466 : (.code yX11_calls cX11_calls 6 none : Cond) ∈ lw_gt := gt_of (List.mem_of_getElem? (i := 1466) rfl) (by rfl)
set_option maxRecDepth 100000 in
theorem gw_1467 : (.methodLink RX11 293 yX11_routineAt : Cond) ∈ lw_gt := gt_of (List.mem_of_getElem? (i := 1467) (by decide +kernel)) (by rfl)
set_option maxRecDepth 100000 in
theorem gw_1469 : (.instanceMethod yX11_routineAt : Cond) ∈ lw_gt := gt_of (List.mem_of_getElem? (i := 1469) (by decide +kernel)) (by rfl)
set_option maxRecDepth 100000 in
theorem gw_92 : (.selects RX11 yX11_routineAt yX11_routineAt : Cond) ∈ lw_gt := gt_of (List.mem_of_getElem? (i := 92) (by decide +kernel)) (by rfl)
set_option maxRecDepth 100000 in
theorem gw_1470 : (.code yX11_routineAt cX11_routineAt 4 (some .int) : Cond) ∈ lw_gt := gt_of (List.mem_of_getElem? (i := 1470) rfl) (by rfl)
set_option maxRecDepth 100000 in
theorem gw_1471 : (.methodLink RX11 296 yX11_tests : Cond) ∈ lw_gt := gt_of (List.mem_of_getElem? (i := 1471) (by decide +kernel)) (by rfl)
set_option maxRecDepth 100000 in
theorem gw_1473 : (.instanceMethod yX11_tests : Cond) ∈ lw_gt := gt_of (List.mem_of_getElem? (i := 1473) (by decide +kernel)) (by rfl)
set_option maxRecDepth 100000 in
theorem gw_93 : (.selects RX11 yX11_tests yX11_tests : Cond) ∈ lw_gt := gt_of (List.mem_of_getElem? (i := 93) (by decide +kernel)) (by rfl)
set_option maxRecDepth 100000 in
theorem gw_1474 : (.code yX11_tests cX11_tests 7 none : Cond) ∈ lw_gt := gt_of (List.mem_of_getElem? (i := 1474) rfl) (by rfl)
set_option maxRecDepth 100000 in
theorem gw_1456 : (.methodLink RX11 284 yX11_goes : Cond) ∈ lw_gt := gt_of (List.mem_of_getElem? (i := 1456) (by decide +kernel)) (by rfl)
set_option maxRecDepth 100000 in
theorem gw_1458 : (.instanceMethod yX11_goes : Cond) ∈ lw_gt := gt_of (List.mem_of_getElem? (i := 1458) (by decide +kernel)) (by rfl)
set_option maxRecDepth 100000 in
theorem gw_90 : (.selects RX11 yX11_goes yX11_goes : Cond) ∈ lw_gt := gt_of (List.mem_of_getElem? (i := 90) (by decide +kernel)) (by rfl)
set_option maxRecDepth 100000 in
theorem gw_1459 : (.code yX11_goes cX11_goes 4 none : Cond) ∈ lw_gt := gt_of (List.mem_of_getElem? (i := 1459) rfl) (by rfl)
set_option maxRecDepth 100000 in
theorem gw_1430 : (.methodLink RX11 302 yX11_reckons : Cond) ∈ lw_gt := gt_of (List.mem_of_getElem? (i := 1430) (by decide +kernel)) (by rfl)
set_option maxRecDepth 100000 in
theorem gw_1432 : (.instanceMethod yX11_reckons : Cond) ∈ lw_gt := gt_of (List.mem_of_getElem? (i := 1432) (by decide +kernel)) (by rfl)
set_option maxRecDepth 100000 in
theorem gw_85 : (.selects RX11 yX11_reckons yX11_reckons : Cond) ∈ lw_gt := gt_of (List.mem_of_getElem? (i := 85) (by decide +kernel)) (by rfl)
set_option maxRecDepth 100000 in
theorem gw_1433 : (.code yX11_reckons cX11_reckons 2 none : Cond) ∈ lw_gt := gt_of (List.mem_of_getElem? (i := 1433) rfl) (by rfl)
set_option maxRecDepth 100000 in
theorem gw_1426 : (.methodLink RX11 299 yX11_frees : Cond) ∈ lw_gt := gt_of (List.mem_of_getElem? (i := 1426) (by decide +kernel)) (by rfl)
set_option maxRecDepth 100000 in
theorem gw_1428 : (.instanceMethod yX11_frees : Cond) ∈ lw_gt := gt_of (List.mem_of_getElem? (i := 1428) (by decide +kernel)) (by rfl)
set_option maxRecDepth 100000 in
theorem gw_84 : (.selects RX11 yX11_frees yX11_frees : Cond) ∈ lw_gt := gt_of (List.mem_of_getElem? (i := 84) (by decide +kernel)) (by rfl)
set_option maxRecDepth 100000 in
theorem gw_1429 : (.code yX11_frees cX11_frees 2 none : Cond) ∈ lw_gt := gt_of (List.mem_of_getElem? (i := 1429) rfl) (by rfl)
set_option maxRecDepth 100000 in
theorem gw_1479 : (.methodLink RX11 305 yX11_useFact : Cond) ∈ lw_gt := gt_of (List.mem_of_getElem? (i := 1479) (by decide +kernel)) (by rfl)
set_option maxRecDepth 100000 in
theorem gw_1481 : (.instanceMethod yX11_useFact : Cond) ∈ lw_gt := gt_of (List.mem_of_getElem? (i := 1481) (by decide +kernel)) (by rfl)
set_option maxRecDepth 100000 in
theorem gw_94 : (.selects RX11 yX11_useFact yX11_useFact : Cond) ∈ lw_gt := gt_of (List.mem_of_getElem? (i := 94) (by decide +kernel)) (by rfl)
set_option maxRecDepth 100000 in
theorem gw_1482 : (.code yX11_useFact cX11_useFact 3 (some .int) : Cond) ∈ lw_gt := gt_of (List.mem_of_getElem? (i := 1482) rfl) (by rfl)
set_option maxRecDepth 100000 in
theorem gw_1483 : (.methodLink RX11 308 yX11_stateOf : Cond) ∈ lw_gt := gt_of (List.mem_of_getElem? (i := 1483) (by decide +kernel)) (by rfl)
set_option maxRecDepth 100000 in
theorem gw_1484 : (.static yX11_stateOf : Cond) ∈ lw_gt := gt_of (List.mem_of_getElem? (i := 1484) (by decide +kernel)) (by rfl)
set_option maxRecDepth 100000 in
theorem gw_1485 : (.code yX11_stateOf cX11_stateOf 1 (some .int) : Cond) ∈ lw_gt := gt_of (List.mem_of_getElem? (i := 1485) rfl) (by rfl)
set_option maxRecDepth 100000 in
theorem gw_1506 : (.methodLink RX11 335 yX11_makes : Cond) ∈ lw_gt := gt_of (List.mem_of_getElem? (i := 1506) (by decide +kernel)) (by rfl)
set_option maxRecDepth 100000 in
theorem gw_1508 : (.instanceMethod yX11_makes : Cond) ∈ lw_gt := gt_of (List.mem_of_getElem? (i := 1508) (by decide +kernel)) (by rfl)
set_option maxRecDepth 100000 in
theorem gw_98 : (.selects RX11 yX11_makes yX11_makes : Cond) ∈ lw_gt := gt_of (List.mem_of_getElem? (i := 98) (by decide +kernel)) (by rfl)
set_option maxRecDepth 100000 in
theorem gw_1509 : (.code yX11_makes cX11_makes 3 (some .int) : Cond) ∈ lw_gt := gt_of (List.mem_of_getElem? (i := 1509) rfl) (by rfl)
set_option maxRecDepth 100000 in
theorem gw_1518 : (.methodLink RX11 344 yX11_chooses : Cond) ∈ lw_gt := gt_of (List.mem_of_getElem? (i := 1518) (by decide +kernel)) (by rfl)
set_option maxRecDepth 100000 in
theorem gw_1520 : (.instanceMethod yX11_chooses : Cond) ∈ lw_gt := gt_of (List.mem_of_getElem? (i := 1520) (by decide +kernel)) (by rfl)
set_option maxRecDepth 100000 in
theorem gw_101 : (.selects RX11 yX11_chooses yX11_chooses : Cond) ∈ lw_gt := gt_of (List.mem_of_getElem? (i := 101) (by decide +kernel)) (by rfl)
set_option maxRecDepth 100000 in
theorem gw_1521 : (.code yX11_chooses cX11_chooses 3 (some .boolean) : Cond) ∈ lw_gt := gt_of (List.mem_of_getElem? (i := 1521) rfl) (by rfl)
set_option maxRecDepth 100000 in
theorem gw_1502 : (.methodLink RX11 332 yX11_frame : Cond) ∈ lw_gt := gt_of (List.mem_of_getElem? (i := 1502) (by decide +kernel)) (by rfl)
set_option maxRecDepth 100000 in
theorem gw_1504 : (.instanceMethod yX11_frame : Cond) ∈ lw_gt := gt_of (List.mem_of_getElem? (i := 1504) (by decide +kernel)) (by rfl)
set_option maxRecDepth 100000 in
theorem gw_97 : (.selects RX11 yX11_frame yX11_frame : Cond) ∈ lw_gt := gt_of (List.mem_of_getElem? (i := 97) (by decide +kernel)) (by rfl)
set_option maxRecDepth 100000 in
theorem gw_1505 : (.code yX11_frame cX11_frame 3 none : Cond) ∈ lw_gt := gt_of (List.mem_of_getElem? (i := 1505) rfl) (by rfl)
set_option maxRecDepth 100000 in
theorem gw_1494 : (.methodLink RX11 356 yX11_canRun : Cond) ∈ lw_gt := gt_of (List.mem_of_getElem? (i := 1494) (by decide +kernel)) (by rfl)
set_option maxRecDepth 100000 in
theorem gw_1496 : (.instanceMethod yX11_canRun : Cond) ∈ lw_gt := gt_of (List.mem_of_getElem? (i := 1496) (by decide +kernel)) (by rfl)
set_option maxRecDepth 100000 in
theorem gw_95 : (.selects RX11 yX11_canRun yX11_canRun : Cond) ∈ lw_gt := gt_of (List.mem_of_getElem? (i := 95) (by decide +kernel)) (by rfl)
set_option maxRecDepth 100000 in
theorem gw_1497 : (.code yX11_canRun cX11_canRun 4 (some .boolean) : Cond) ∈ lw_gt := gt_of (List.mem_of_getElem? (i := 1497) rfl) (by rfl)
set_option maxRecDepth 100000 in
theorem gw_1514 : (.methodLink RX11 341 yX11_step : Cond) ∈ lw_gt := gt_of (List.mem_of_getElem? (i := 1514) (by decide +kernel)) (by rfl)
set_option maxRecDepth 100000 in
theorem gw_1516 : (.instanceMethod yX11_step : Cond) ∈ lw_gt := gt_of (List.mem_of_getElem? (i := 1516) (by decide +kernel)) (by rfl)
set_option maxRecDepth 100000 in
theorem gw_100 : (.selects RX11 yX11_step yX11_step : Cond) ∈ lw_gt := gt_of (List.mem_of_getElem? (i := 100) (by decide +kernel)) (by rfl)
set_option maxRecDepth 100000 in
theorem gw_1517 : (.code yX11_step cX11_step 1 none : Cond) ∈ lw_gt := gt_of (List.mem_of_getElem? (i := 1517) rfl) (by rfl)
set_option maxRecDepth 100000 in
theorem gw_1522 : (.methodLink RX11 347 yX11_nameOf : Cond) ∈ lw_gt := gt_of (List.mem_of_getElem? (i := 1522) (by decide +kernel)) (by rfl)
set_option maxRecDepth 100000 in
theorem gw_1524 : (.instanceMethod yX11_nameOf : Cond) ∈ lw_gt := gt_of (List.mem_of_getElem? (i := 1524) (by decide +kernel)) (by rfl)
set_option maxRecDepth 100000 in
theorem gw_102 : (.selects RX11 yX11_nameOf yX11_nameOf : Cond) ∈ lw_gt := gt_of (List.mem_of_getElem? (i := 102) (by decide +kernel)) (by rfl)
set_option maxRecDepth 100000 in
theorem gw_1525 : (.code yX11_nameOf cX11_nameOf 2 (some .int) : Cond) ∈ lw_gt := gt_of (List.mem_of_getElem? (i := 1525) rfl) (by rfl)
set_option maxRecDepth 100000 in
theorem gw_1526 : (.methodLink RX11 350 yX11_fails : Cond) ∈ lw_gt := gt_of (List.mem_of_getElem? (i := 1526) (by decide +kernel)) (by rfl)
set_option maxRecDepth 100000 in
theorem gw_1528 : (.instanceMethod yX11_fails : Cond) ∈ lw_gt := gt_of (List.mem_of_getElem? (i := 1528) (by decide +kernel)) (by rfl)
set_option maxRecDepth 100000 in
theorem gw_103 : (.selects RX11 yX11_fails yX11_fails : Cond) ∈ lw_gt := gt_of (List.mem_of_getElem? (i := 103) (by decide +kernel)) (by rfl)
set_option maxRecDepth 100000 in
theorem gw_1529 : (.code yX11_fails cX11_fails 2 none : Cond) ∈ lw_gt := gt_of (List.mem_of_getElem? (i := 1529) rfl) (by rfl)
set_option maxRecDepth 100000 in
theorem gw_1530 : (.methodLink RX11 353 yX11_enter : Cond) ∈ lw_gt := gt_of (List.mem_of_getElem? (i := 1530) (by decide +kernel)) (by rfl)
set_option maxRecDepth 100000 in
theorem gw_1532 : (.instanceMethod yX11_enter : Cond) ∈ lw_gt := gt_of (List.mem_of_getElem? (i := 1532) (by decide +kernel)) (by rfl)
set_option maxRecDepth 100000 in
theorem gw_104 : (.selects RX11 yX11_enter yX11_enter : Cond) ∈ lw_gt := gt_of (List.mem_of_getElem? (i := 104) (by decide +kernel)) (by rfl)
set_option maxRecDepth 100000 in
theorem gw_1533 : (.code yX11_enter cX11_enter 5 (some .int) : Cond) ∈ lw_gt := gt_of (List.mem_of_getElem? (i := 1533) rfl) (by rfl)
set_option maxRecDepth 100000 in
theorem gw_1510 : (.methodLink RX11 338 yX11_does : Cond) ∈ lw_gt := gt_of (List.mem_of_getElem? (i := 1510) (by decide +kernel)) (by rfl)
set_option maxRecDepth 100000 in
theorem gw_1512 : (.instanceMethod yX11_does : Cond) ∈ lw_gt := gt_of (List.mem_of_getElem? (i := 1512) (by decide +kernel)) (by rfl)
set_option maxRecDepth 100000 in
theorem gw_99 : (.selects RX11 yX11_does yX11_does : Cond) ∈ lw_gt := gt_of (List.mem_of_getElem? (i := 99) (by decide +kernel)) (by rfl)
set_option maxRecDepth 100000 in
theorem gw_1513 : (.code yX11_does cX11_does 4 (some .int) : Cond) ∈ lw_gt := gt_of (List.mem_of_getElem? (i := 1513) rfl) (by rfl)
set_option maxRecDepth 100000 in
theorem gw_1498 : (.methodLink RX11 360 yX11_runs : Cond) ∈ lw_gt := gt_of (List.mem_of_getElem? (i := 1498) (by decide +kernel)) (by rfl)
set_option maxRecDepth 100000 in
theorem gw_1500 : (.instanceMethod yX11_runs : Cond) ∈ lw_gt := gt_of (List.mem_of_getElem? (i := 1500) (by decide +kernel)) (by rfl)
set_option maxRecDepth 100000 in
theorem gw_96 : (.selects RX11 yX11_runs yX11_runs : Cond) ∈ lw_gt := gt_of (List.mem_of_getElem? (i := 96) (by decide +kernel)) (by rfl)
set_option maxRecDepth 100000 in
theorem gw_1501 : (.code yX11_runs cX11_runs 4 none : Cond) ∈ lw_gt := gt_of (List.mem_of_getElem? (i := 1501) rfl) (by rfl)
set_option maxRecDepth 100000 in
theorem gw_1553 : (.methodLink RX11 384 yX11_guards : Cond) ∈ lw_gt := gt_of (List.mem_of_getElem? (i := 1553) (by decide +kernel)) (by rfl)
set_option maxRecDepth 100000 in
theorem gw_1555 : (.instanceMethod yX11_guards : Cond) ∈ lw_gt := gt_of (List.mem_of_getElem? (i := 1555) (by decide +kernel)) (by rfl)
set_option maxRecDepth 100000 in
theorem gw_105 : (.selects RX11 yX11_guards yX11_guards : Cond) ∈ lw_gt := gt_of (List.mem_of_getElem? (i := 105) (by decide +kernel)) (by rfl)
set_option maxRecDepth 100000 in
theorem gw_1556 : (.code yX11_guards cX11_guards 3 (some .int) : Cond) ∈ lw_gt := gt_of (List.mem_of_getElem? (i := 1556) rfl) (by rfl)
set_option maxRecDepth 100000 in
theorem gw_1550 : (.methodLink RX11 381 yX11_kindOf : Cond) ∈ lw_gt := gt_of (List.mem_of_getElem? (i := 1550) (by decide +kernel)) (by rfl)
set_option maxRecDepth 100000 in
theorem gw_1551 : (.static yX11_kindOf : Cond) ∈ lw_gt := gt_of (List.mem_of_getElem? (i := 1551) (by decide +kernel)) (by rfl)
set_option maxRecDepth 100000 in
theorem gw_1552 : (.code yX11_kindOf cX11_kindOf 1 (some .int) : Cond) ∈ lw_gt := gt_of (List.mem_of_getElem? (i := 1552) rfl) (by rfl)
