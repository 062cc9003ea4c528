set_option maxRecDepth 100000 in
theorem gw_761 : (.constant RX0 27 (1048576) : Cond) ∈ lw_gt := gt_of (List.mem_of_getElem? (i := 761) (by decide +kernel)) (by rfl)
set_option maxRecDepth 100000 in
theorem gw_817 : (.methodLink RX7 44 Lib.Math.min.name : Cond) ∈ lw_gt := gt_of (List.mem_of_getElem? (i := 817) (by decide +kernel)) (by rfl)
set_option maxRecDepth 100000 in
theorem gw_545 : (.static Lib.Math.min.name : Cond) ∈ lw_gt := gt_of (List.mem_of_getElem? (i := 545) (by decide +kernel)) (by rfl)
set_option maxRecDepth 100000 in
theorem gw_118 : (.initialized "java/lang/Math" : Cond) ∈ lw_gt := gt_of (List.mem_of_getElem? (i := 118) (by decide +kernel)) (by rfl)
set_option maxRecDepth 100000 in
theorem gw_546 : (.code Lib.Math.min.name Lib.Math.min.code 2 (some .int) : Cond) ∈ lw_gt := gt_of (List.mem_of_getElem? (i := 546) rfl) (by rfl)
set_option maxRecDepth 100000 in
theorem gw_861 : (.constantLong RX1 179 (-1) : Cond) ∈ lw_gt := gt_of (List.mem_of_getElem? (i := 861) (by decide +kernel)) (by rfl)
set_option maxRecDepth 100000 in
theorem gw_856 : (.constantLong RX1 122 (67108863) : Cond) ∈ lw_gt := gt_of (List.mem_of_getElem? (i := 856) (by decide +kernel)) (by rfl)
set_option maxRecDepth 100000 in
theorem gw_1072 : (.methodLink RX2 73 Lib.Math.min.name : Cond) ∈ lw_gt := gt_of (List.mem_of_getElem? (i := 1072) (by decide +kernel)) (by rfl)
set_option maxRecDepth 100000 in
theorem gw_953 : (.constant RX6 43 (1000000) : Cond) ∈ lw_gt := gt_of (List.mem_of_getElem? (i := 953) (by decide +kernel)) (by rfl)
set_option maxRecDepth 100000 in
theorem gw_561 : (.methodLink RX8 79 yJ0_length_8abf5 : Cond) ∈ lw_gt := gt_of (List.mem_of_getElem? (i := 561) (by decide +kernel)) (by rfl)
set_option maxRecDepth 100000 in
theorem gw_571 : (.methodLink RX8 84 yJ0_charAt_5068e : Cond) ∈ lw_gt := gt_of (List.mem_of_getElem? (i := 571) (by decide +kernel)) (by rfl)
set_option maxRecDepth 100000 in
theorem gw_544 : (.methodLink RX8 19 Lib.Math.min.name : Cond) ∈ lw_gt := gt_of (List.mem_of_getElem? (i := 544) (by decide +kernel)) (by rfl)
set_option maxRecDepth 100000 in
theorem gw_624 : (.methodLink RX8 44 Lib.Math.max.name : Cond) ∈ lw_gt := gt_of (List.mem_of_getElem? (i := 624) (by decide +kernel)) (by rfl)
set_option maxRecDepth 100000 in
theorem gw_625 : (.static Lib.Math.max.name : Cond) ∈ lw_gt := gt_of (List.mem_of_getElem? (i := 625) (by decide +kernel)) (by rfl)
set_option maxRecDepth 100000 in
theorem gw_626 : (.code Lib.Math.max.name Lib.Math.max.code 2 (some .int) : Cond) ∈ lw_gt := gt_of (List.mem_of_getElem? (i := 626) rfl) (by rfl)
set_option maxRecDepth 100000 in
theorem gw_163 : (.fieldLink RX0 11 "NothingJudge$Code" "cells" "[I" : Cond) ∈ lw_gt := gt_of (List.mem_of_getElem? (i := 163) (by decide +kernel)) (by rfl)
set_option maxRecDepth 100000 in
theorem gw_164 : (.fieldLink RX0 15 "NothingJudge$Code" "size" "I" : Cond) ∈ lw_gt := gt_of (List.mem_of_getElem? (i := 164) (by decide +kernel)) (by rfl)
set_option maxRecDepth 100000 in
theorem gw_288 : (.fieldLink RX1 104 "NothingJudge$Scene" "start" "I" : Cond) ∈ lw_gt := gt_of (List.mem_of_getElem? (i := 288) (by decide +kernel)) (by rfl)
set_option maxRecDepth 100000 in
theorem gw_292 : (.fieldLink RX1 115 "NothingJudge$Scene" "told" "[I" : Cond) ∈ lw_gt := gt_of (List.mem_of_getElem? (i := 292) (by decide +kernel)) (by rfl)
set_option maxRecDepth 100000 in
theorem gw_182 : (.fieldLink RX1 124 "NothingJudge$Program" "arity" "[I" : Cond) ∈ lw_gt := gt_of (List.mem_of_getElem? (i := 182) (by decide +kernel)) (by rfl)
set_option maxRecDepth 100000 in
theorem gw_179 : (.fieldLink RX1 135 "NothingJudge$Program" "opening" "[I" : Cond) ∈ lw_gt := gt_of (List.mem_of_getElem? (i := 179) (by decide +kernel)) (by rfl)
set_option maxRecDepth 100000 in
theorem gw_310 : (.fieldLink RX1 15 "NothingJudge$Facts" "seenAt" "[I" : Cond) ∈ lw_gt := gt_of (List.mem_of_getElem? (i := 310) (by decide +kernel)) (by rfl)
set_option maxRecDepth 100000 in
theorem gw_326 : (.fieldLink RX1 151 "NothingJudge$Facts" "now" "J" : Cond) ∈ lw_gt := gt_of (List.mem_of_getElem? (i := 326) (by decide +kernel)) (by rfl)
set_option maxRecDepth 100000 in
theorem gw_311 : (.fieldLink RX1 19 "NothingJudge$Facts" "marks" "[I" : Cond) ∈ lw_gt := gt_of (List.mem_of_getElem? (i := 311) (by decide +kernel)) (by rfl)
set_option maxRecDepth 100000 in
theorem gw_314 : (.fieldLink RX1 22 "NothingJudge$Facts" "used" "[I" : Cond) ∈ lw_gt := gt_of (List.mem_of_getElem? (i := 314) (by decide +kernel)) (by rfl)
set_option maxRecDepth 100000 in
theorem gw_316 : (.fieldLink RX1 25 "NothingJudge$Facts" "tested" "[I" : Cond) ∈ lw_gt := gt_of (List.mem_of_getElem? (i := 316) (by decide +kernel)) (by rfl)
set_option maxRecDepth 100000 in
theorem gw_320 : (.fieldLink RX1 28 "NothingJudge$Facts" "stale" "Z" : Cond) ∈ lw_gt := gt_of (List.mem_of_getElem? (i := 320) (by decide +kernel)) (by rfl)
set_option maxRecDepth 100000 in
theorem gw_307 : (.fieldLink RX1 32 "NothingJudge$Facts" "scene" "LNothingJudge$Scene;" : Cond) ∈ lw_gt := gt_of (List.mem_of_getElem? (i := 307) (by decide +kernel)) (by rfl)
set_option maxRecDepth 100000 in
theorem gw_284 : (.fieldLink RX1 36 "NothingJudge$Scene" "program" "LNothingJudge$Program;" : Cond) ∈ lw_gt := gt_of (List.mem_of_getElem? (i := 284) (by decide +kernel)) (by rfl)
set_option maxRecDepth 100000 in
theorem gw_318 : (.fieldLink RX1 42 "NothingJudge$Facts" "program" "LNothingJudge$Program;" : Cond) ∈ lw_gt := gt_of (List.mem_of_getElem? (i := 318) (by decide +kernel)) (by rfl)
set_option maxRecDepth 100000 in
theorem gw_176 : (.fieldLink RX1 43 "NothingJudge$Program" "code" "LNothingJudge$Code;" : Cond) ∈ lw_gt := gt_of (List.mem_of_getElem? (i := 176) (by decide +kernel)) (by rfl)
set_option maxRecDepth 100000 in
theorem gw_319 : (.fieldLink RX1 49 "NothingJudge$Facts" "code" "LNothingJudge$Code;" : Cond) ∈ lw_gt := gt_of (List.mem_of_getElem? (i := 319) (by decide +kernel)) (by rfl)
set_option maxRecDepth 100000 in
theorem gw_325 : (.fieldLink RX1 50 "NothingJudge$Facts" "held" "J" : Cond) ∈ lw_gt := gt_of (List.mem_of_getElem? (i := 325) (by decide +kernel)) (by rfl)
set_option maxRecDepth 100000 in
theorem gw_322 : (.fieldLink RX1 60 "NothingJudge$Facts" "changed" "Z" : Cond) ∈ lw_gt := gt_of (List.mem_of_getElem? (i := 322) (by decide +kernel)) (by rfl)
set_option maxRecDepth 100000 in
theorem gw_166 : (.fieldLink RX1 66 "NothingJudge$Code" "size" "I" : Cond) ∈ lw_gt := gt_of (List.mem_of_getElem? (i := 166) (by decide +kernel)) (by rfl)
set_option maxRecDepth 100000 in
theorem gw_324 : (.fieldLink RX1 78 "NothingJudge$Facts" "version" "I" : Cond) ∈ lw_gt := gt_of (List.mem_of_getElem? (i := 324) (by decide +kernel)) (by rfl)
set_option maxRecDepth 100000 in
theorem gw_200 : (.fieldLink RX1 89 "NothingJudge$Program" "uses" "I" : Cond) ∈ lw_gt := gt_of (List.mem_of_getElem? (i := 200) (by decide +kernel)) (by rfl)
set_option maxRecDepth 100000 in
theorem gw_309 : (.fieldLink RX1 9 "NothingJudge$Facts" "state" "[J" : Cond) ∈ lw_gt := gt_of (List.mem_of_getElem? (i := 309) (by decide +kernel)) (by rfl)
set_option maxRecDepth 100000 in
theorem gw_323 : (.fieldLink RX1 92 "NothingJudge$Facts" "reached" "I" : Cond) ∈ lw_gt := gt_of (List.mem_of_getElem? (i := 323) (by decide +kernel)) (by rfl)
set_option maxRecDepth 100000 in
theorem gw_252 : (.fieldLink RX10 101 "NothingJudge$Reader" "wrong" "I" : Cond) ∈ lw_gt := gt_of (List.mem_of_getElem? (i := 252) (by decide +kernel)) (by rfl)
set_option maxRecDepth 100000 in
theorem gw_493 : (.fieldLink RX10 104 "NothingJudge" "faultKind" "I" : Cond) ∈ lw_gt := gt_of (List.mem_of_getElem? (i := 493) (by decide +kernel)) (by rfl)
set_option maxRecDepth 100000 in
theorem gw_254 : (.fieldLink RX10 107 "NothingJudge$Reader" "wrongPlace" "I" : Cond) ∈ lw_gt := gt_of (List.mem_of_getElem? (i := 254) (by decide +kernel)) (by rfl)
set_option maxRecDepth 100000 in
theorem gw_285 : (.fieldLink RX10 110 "NothingJudge$Scene" "program" "LNothingJudge$Program;" : Cond) ∈ lw_gt := gt_of (List.mem_of_getElem? (i := 285) (by decide +kernel)) (by rfl)
set_option maxRecDepth 100000 in
theorem gw_207 : (.fieldLink RX10 113 "NothingJudge$Program" "first" "I" : Cond) ∈ lw_gt := gt_of (List.mem_of_getElem? (i := 207) (by decide +kernel)) (by rfl)
set_option maxRecDepth 100000 in
theorem gw_198 : (.fieldLink RX10 122 "NothingJudge$Program" "routines" "I" : Cond) ∈ lw_gt := gt_of (List.mem_of_getElem? (i := 198) (by decide +kernel)) (by rfl)
set_option maxRecDepth 100000 in
theorem gw_293 : (.fieldLink RX10 133 "NothingJudge$Scene" "told" "[I" : Cond) ∈ lw_gt := gt_of (List.mem_of_getElem? (i := 293) (by decide +kernel)) (by rfl)
set_option maxRecDepth 100000 in
theorem gw_313 : (.fieldLink RX10 150 "NothingJudge$Facts" "marks" "[I" : Cond) ∈ lw_gt := gt_of (List.mem_of_getElem? (i := 313) (by decide +kernel)) (by rfl)
set_option maxRecDepth 100000 in
theorem gw_201 : (.fieldLink RX10 157 "NothingJudge$Program" "uses" "I" : Cond) ∈ lw_gt := gt_of (List.mem_of_getElem? (i := 201) (by decide +kernel)) (by rfl)
set_option maxRecDepth 100000 in
theorem gw_490 : (.fieldLink RX10 16 "NothingJudge" "tokens" "LNothingJudge$Tokens;" : Cond) ∈ lw_gt := gt_of (List.mem_of_getElem? (i := 490) (by decide +kernel)) (by rfl)
set_option maxRecDepth 100000 in
theorem gw_315 : (.fieldLink RX10 160 "NothingJudge$Facts" "used" "[I" : Cond) ∈ lw_gt := gt_of (List.mem_of_getElem? (i := 315) (by decide +kernel)) (by rfl)
set_option maxRecDepth 100000 in
theorem gw_187 : (.fieldLink RX10 167 "NothingJudge$Program" "useOwner" "[I" : Cond) ∈ lw_gt := gt_of (List.mem_of_getElem? (i := 187) (by decide +kernel)) (by rfl)
set_option maxRecDepth 100000 in
theorem gw_189 : (.fieldLink RX10 170 "NothingJudge$Program" "usePlace" "[I" : Cond) ∈ lw_gt := gt_of (List.mem_of_getElem? (i := 189) (by decide +kernel)) (by rfl)
set_option maxRecDepth 100000 in
theorem gw_191 : (.fieldLink RX10 173 "NothingJudge$Program" "useName" "[I" : Cond) ∈ lw_gt := gt_of (List.mem_of_getElem? (i := 191) (by decide +kernel)) (by rfl)
set_option maxRecDepth 100000 in
theorem gw_204 : (.fieldLink RX10 176 "NothingJudge$Program" "tests" "I" : Cond) ∈ lw_gt := gt_of (List.mem_of_getElem? (i := 204) (by decide +kernel)) (by rfl)
set_option maxRecDepth 100000 in
theorem gw_317 : (.fieldLink RX10 179 "NothingJudge$Facts" "tested" "[I" : Cond) ∈ lw_gt := gt_of (List.mem_of_getElem? (i := 317) (by decide +kernel)) (by rfl)
set_option maxRecDepth 100000 in
theorem gw_193 : (.fieldLink RX10 185 "NothingJudge$Program" "testOwner" "[I" : Cond) ∈ lw_gt := gt_of (List.mem_of_getElem? (i := 193) (by decide +kernel)) (by rfl)
set_option maxRecDepth 100000 in
theorem gw_195 : (.fieldLink RX10 188 "NothingJudge$Program" "testPlace" "[I" : Cond) ∈ lw_gt := gt_of (List.mem_of_getElem? (i := 195) (by decide +kernel)) (by rfl)
set_option maxRecDepth 100000 in
theorem gw_371 : (.fieldLink RX10 198 "NothingJudge$Runner" "steps" "I" : Cond) ∈ lw_gt := gt_of (List.mem_of_getElem? (i := 371) (by decide +kernel)) (by rfl)
set_option maxRecDepth 100000 in
theorem gw_379 : (.fieldLink RX10 201 "NothingJudge$Runner" "failedAt" "I" : Cond) ∈ lw_gt := gt_of (List.mem_of_getElem? (i := 379) (by decide +kernel)) (by rfl)
set_option maxRecDepth 100000 in
theorem gw_373 : (.fieldLink RX10 204 "NothingJudge$Runner" "things" "I" : Cond) ∈ lw_gt := gt_of (List.mem_of_getElem? (i := 373) (by decide +kernel)) (by rfl)
set_option maxRecDepth 100000 in
theorem gw_376 : (.fieldLink RX10 207 "NothingJudge$Runner" "anys" "I" : Cond) ∈ lw_gt := gt_of (List.mem_of_getElem? (i := 376) (by decide +kernel)) (by rfl)
set_option maxRecDepth 100000 in
theorem gw_427 : (.fieldLink RX10 216 "NothingJudge$Trials" "first" "[I" : Cond) ∈ lw_gt := gt_of (List.mem_of_getElem? (i := 427) (by decide +kernel)) (by rfl)
set_option maxRecDepth 100000 in
theorem gw_453 : (.fieldLink RX10 218 "NothingJudge$Mender" "prices" "[I" : Cond) ∈ lw_gt := gt_of (List.mem_of_getElem? (i := 453) (by decide +kernel)) (by rfl)
set_option maxRecDepth 100000 in
theorem gw_458 : (.fieldLink RX10 221 "NothingJudge$Mender" "stale" "Z" : Cond) ∈ lw_gt := gt_of (List.mem_of_getElem? (i := 458) (by decide +kernel)) (by rfl)
set_option maxRecDepth 100000 in
theorem gw_462 : (.fieldLink RX10 228 "NothingJudge$Mender" "cost" "I" : Cond) ∈ lw_gt := gt_of (List.mem_of_getElem? (i := 462) (by decide +kernel)) (by rfl)
set_option maxRecDepth 100000 in
theorem gw_491 : (.fieldLink RX10 23 "NothingJudge" "spare" "LNothingJudge$Program;" : Cond) ∈ lw_gt := gt_of (List.mem_of_getElem? (i := 491) (by decide +kernel)) (by rfl)
set_option maxRecDepth 100000 in
theorem gw_466 : (.fieldLink RX10 231 "NothingJudge$Mender" "heldMarks" "I" : Cond) ∈ lw_gt := gt_of (List.mem_of_getElem? (i := 466) (by decide +kernel)) (by rfl)
set_option maxRecDepth 100000 in
theorem gw_464 : (.fieldLink RX10 234 "NothingJudge$Mender" "guards" "I" : Cond) ∈ lw_gt := gt_of (List.mem_of_getElem? (i := 464) (by decide +kernel)) (by rfl)
set_option maxRecDepth 100000 in
theorem gw_456 : (.fieldLink RX10 237 "NothingJudge$Mender" "heldNames" "[I" : Cond) ∈ lw_gt := gt_of (List.mem_of_getElem? (i := 456) (by decide +kernel)) (by rfl)
set_option maxRecDepth 100000 in
theorem gw_290 : (.fieldLink RX10 240 "NothingJudge$Scene" "start" "I" : Cond) ∈ lw_gt := gt_of (List.mem_of_getElem? (i := 290) (by decide +kernel)) (by rfl)
set_option maxRecDepth 100000 in
theorem gw_321 : (.fieldLink RX10 246 "NothingJudge$Facts" "stale" "Z" : Cond) ∈ lw_gt := gt_of (List.mem_of_getElem? (i := 321) (by decide +kernel)) (by rfl)
set_option maxRecDepth 100000 in
theorem gw_430 : (.fieldLink RX10 247 "NothingJudge$Trials" "stale" "Z" : Cond) ∈ lw_gt := gt_of (List.mem_of_getElem? (i := 430) (by decide +kernel)) (by rfl)
set_option maxRecDepth 100000 in
theorem gw_183 : (.fieldLink RX10 248 "NothingJudge$Program" "arity" "[I" : Cond) ∈ lw_gt := gt_of (List.mem_of_getElem? (i := 183) (by decide +kernel)) (by rfl)
set_option maxRecDepth 100000 in
theorem gw_492 : (.fieldLink RX10 32 "NothingJudge" "reader" "LNothingJudge$Reader;" : Cond) ∈ lw_gt := gt_of (List.mem_of_getElem? (i := 492) (by decide +kernel)) (by rfl)
set_option maxRecDepth 100000 in
theorem gw_494 : (.fieldLink RX10 36 "NothingJudge" "faultPlace" "I" : Cond) ∈ lw_gt := gt_of (List.mem_of_getElem? (i := 494) (by decide +kernel)) (by rfl)
set_option maxRecDepth 100000 in
theorem gw_495 : (.fieldLink RX10 45 "NothingJudge" "scene" "LNothingJudge$Scene;" : Cond) ∈ lw_gt := gt_of (List.mem_of_getElem? (i := 495) (by decide +kernel)) (by rfl)
set_option maxRecDepth 100000 in
theorem gw_496 : (.fieldLink RX10 54 "NothingJudge" "facts" "LNothingJudge$Facts;" : Cond) ∈ lw_gt := gt_of (List.mem_of_getElem? (i := 496) (by decide +kernel)) (by rfl)
set_option maxRecDepth 100000 in
theorem gw_497 : (.fieldLink RX10 61 "NothingJudge" "runner" "LNothingJudge$Runner;" : Cond) ∈ lw_gt := gt_of (List.mem_of_getElem? (i := 497) (by decide +kernel)) (by rfl)
set_option maxRecDepth 100000 in
theorem gw_498 : (.fieldLink RX10 70 "NothingJudge" "trials" "LNothingJudge$Trials;" : Cond) ∈ lw_gt := gt_of (List.mem_of_getElem? (i := 498) (by decide +kernel)) (by rfl)
set_option maxRecDepth 100000 in
theorem gw_499 : (.fieldLink RX10 79 "NothingJudge" "mender" "LNothingJudge$Mender;" : Cond) ∈ lw_gt := gt_of (List.mem_of_getElem? (i := 499) (by decide +kernel)) (by rfl)
set_option maxRecDepth 100000 in
theorem gw_500 : (.fieldLink RX10 83 "NothingJudge" "ranRow" "[I" : Cond) ∈ lw_gt := gt_of (List.mem_of_getElem? (i := 500) (by decide +kernel)) (by rfl)
set_option maxRecDepth 100000 in
theorem gw_489 : (.fieldLink RX10 87 "NothingJudge" "taped" "I" : Cond) ∈ lw_gt := gt_of (List.mem_of_getElem? (i := 489) (by decide +kernel)) (by rfl)
set_option maxRecDepth 100000 in
theorem gw_488 : (.fieldLink RX10 9 "NothingJudge" "tape" "[B" : Cond) ∈ lw_gt := gt_of (List.mem_of_getElem? (i := 488) (by decide +kernel)) (by rfl)
set_option maxRecDepth 100000 in
theorem gw_465 : (.fieldLink RX2 108 "NothingJudge$Mender" "heldMarks" "I" : Cond) ∈ lw_gt := gt_of (List.mem_of_getElem? (i := 465) (by decide +kernel)) (by rfl)
set_option maxRecDepth 100000 in
theorem gw_454 : (.fieldLink RX2 15 "NothingJudge$Mender" "candidates" "[I" : Cond) ∈ lw_gt := gt_of (List.mem_of_getElem? (i := 454) (by decide +kernel)) (by rfl)
set_option maxRecDepth 100000 in
theorem gw_455 : (.fieldLink RX2 18 "NothingJudge$Mender" "heldNames" "[I" : Cond) ∈ lw_gt := gt_of (List.mem_of_getElem? (i := 455) (by decide +kernel)) (by rfl)
set_option maxRecDepth 100000 in
theorem gw_457 : (.fieldLink RX2 21 "NothingJudge$Mender" "stale" "Z" : Cond) ∈ lw_gt := gt_of (List.mem_of_getElem? (i := 457) (by decide +kernel)) (by rfl)
set_option maxRecDepth 100000 in
theorem gw_461 : (.fieldLink RX2 25 "NothingJudge$Mender" "cost" "I" : Cond) ∈ lw_gt := gt_of (List.mem_of_getElem? (i := 461) (by decide +kernel)) (by rfl)
set_option maxRecDepth 100000 in
theorem gw_451 : (.fieldLink RX2 29 "NothingJudge$Mender" "facts" "LNothingJudge$Facts;" : Cond) ∈ lw_gt := gt_of (List.mem_of_getElem? (i := 451) (by decide +kernel)) (by rfl)
set_option maxRecDepth 100000 in
theorem gw_460 : (.fieldLink RX2 42 "NothingJudge$Mender" "best" "I" : Cond) ∈ lw_gt := gt_of (List.mem_of_getElem? (i := 460) (by decide +kernel)) (by rfl)
set_option maxRecDepth 100000 in
theorem gw_463 : (.fieldLink RX2 49 "NothingJudge$Mender" "guards" "I" : Cond) ∈ lw_gt := gt_of (List.mem_of_getElem? (i := 463) (by decide +kernel)) (by rfl)
set_option maxRecDepth 100000 in
theorem gw_459 : (.fieldLink RX2 58 "NothingJudge$Mender" "found" "I" : Cond) ∈ lw_gt := gt_of (List.mem_of_getElem? (i := 459) (by decide +kernel)) (by rfl)
set_option maxRecDepth 100000 in
theorem gw_308 : (.fieldLink RX2 89 "NothingJudge$Facts" "scene" "LNothingJudge$Scene;" : Cond) ∈ lw_gt := gt_of (List.mem_of_getElem? (i := 308) (by decide +kernel)) (by rfl)
set_option maxRecDepth 100000 in
theorem gw_452 : (.fieldLink RX2 9 "NothingJudge$Mender" "prices" "[I" : Cond) ∈ lw_gt := gt_of (List.mem_of_getElem? (i := 452) (by decide +kernel)) (by rfl)
set_option maxRecDepth 100000 in
theorem gw_289 : (.fieldLink RX2 93 "NothingJudge$Scene" "start" "I" : Cond) ∈ lw_gt := gt_of (List.mem_of_getElem? (i := 289) (by decide +kernel)) (by rfl)
set_option maxRecDepth 100000 in
theorem gw_312 : (.fieldLink RX2 98 "NothingJudge$Facts" "marks" "[I" : Cond) ∈ lw_gt := gt_of (List.mem_of_getElem? (i := 312) (by decide +kernel)) (by rfl)
set_option maxRecDepth 100000 in
theorem gw_173 : (.fieldLink RX3 12 "NothingJudge$Program" "code" "LNothingJudge$Code;" : Cond) ∈ lw_gt := gt_of (List.mem_of_getElem? (i := 173) (by decide +kernel)) (by rfl)
set_option maxRecDepth 100000 in
theorem gw_177 : (.fieldLink RX3 18 "NothingJudge$Program" "opening" "[I" : Cond) ∈ lw_gt := gt_of (List.mem_of_getElem? (i := 177) (by decide +kernel)) (by rfl)
set_option maxRecDepth 100000 in
theorem gw_180 : (.fieldLink RX3 22 "NothingJudge$Program" "arity" "[I" : Cond) ∈ lw_gt := gt_of (List.mem_of_getElem? (i := 180) (by decide +kernel)) (by rfl)
set_option maxRecDepth 100000 in
theorem gw_185 : (.fieldLink RX3 25 "NothingJudge$Program" "parameters" "[I" : Cond) ∈ lw_gt := gt_of (List.mem_of_getElem? (i := 185) (by decide +kernel)) (by rfl)
set_option maxRecDepth 100000 in
theorem gw_186 : (.fieldLink RX3 28 "NothingJudge$Program" "useOwner" "[I" : Cond) ∈ lw_gt := gt_of (List.mem_of_getElem? (i := 186) (by decide +kernel)) (by rfl)
set_option maxRecDepth 100000 in
theorem gw_188 : (.fieldLink RX3 31 "NothingJudge$Program" "usePlace" "[I" : Cond) ∈ lw_gt := gt_of (List.mem_of_getElem? (i := 188) (by decide +kernel)) (by rfl)
set_option maxRecDepth 100000 in
theorem gw_190 : (.fieldLink RX3 34 "NothingJudge$Program" "useName" "[I" : Cond) ∈ lw_gt := gt_of (List.mem_of_getElem? (i := 190) (by decide +kernel)) (by rfl)
set_option maxRecDepth 100000 in
theorem gw_192 : (.fieldLink RX3 37 "NothingJudge$Program" "testOwner" "[I" : Cond) ∈ lw_gt := gt_of (List.mem_of_getElem? (i := 192) (by decide +kernel)) (by rfl)
set_option maxRecDepth 100000 in
theorem gw_194 : (.fieldLink RX3 40 "NothingJudge$Program" "testPlace" "[I" : Cond) ∈ lw_gt := gt_of (List.mem_of_getElem? (i := 194) (by decide +kernel)) (by rfl)
set_option maxRecDepth 100000 in
theorem gw_206 : (.fieldLink RX3 43 "NothingJudge$Program" "first" "I" : Cond) ∈ lw_gt := gt_of (List.mem_of_getElem? (i := 206) (by decide +kernel)) (by rfl)
set_option maxRecDepth 100000 in
theorem gw_165 : (.fieldLink RX3 47 "NothingJudge$Code" "size" "I" : Cond) ∈ lw_gt := gt_of (List.mem_of_getElem? (i := 165) (by decide +kernel)) (by rfl)
set_option maxRecDepth 100000 in
theorem gw_196 : (.fieldLink RX3 50 "NothingJudge$Program" "told" "I" : Cond) ∈ lw_gt := gt_of (List.mem_of_getElem? (i := 196) (by decide +kernel)) (by rfl)
set_option maxRecDepth 100000 in
theorem gw_197 : (.fieldLink RX3 53 "NothingJudge$Program" "routines" "I" : Cond) ∈ lw_gt := gt_of (List.mem_of_getElem? (i := 197) (by decide +kernel)) (by rfl)
set_option maxRecDepth 100000 in
theorem gw_199 : (.fieldLink RX3 56 "NothingJudge$Program" "uses" "I" : Cond) ∈ lw_gt := gt_of (List.mem_of_getElem? (i := 199) (by decide +kernel)) (by rfl)
set_option maxRecDepth 100000 in
theorem gw_203 : (.fieldLink RX3 59 "NothingJudge$Program" "tests" "I" : Cond) ∈ lw_gt := gt_of (List.mem_of_getElem? (i := 203) (by decide +kernel)) (by rfl)
set_option maxRecDepth 100000 in
theorem gw_167 : (.fieldLink RX4 128 "NothingJudge$Code" "size" "I" : Cond) ∈ lw_gt := gt_of (List.mem_of_getElem? (i := 167) (by decide +kernel)) (by rfl)
set_option maxRecDepth 100000 in
theorem gw_245 : (.fieldLink RX4 15 "NothingJudge$Reader" "openAt" "[I" : Cond) ∈ lw_gt := gt_of (List.mem_of_getElem? (i := 245) (by decide +kernel)) (by rfl)
set_option maxRecDepth 100000 in
theorem gw_202 : (.fieldLink RX4 156 "NothingJudge$Program" "uses" "I" : Cond) ∈ lw_gt := gt_of (List.mem_of_getElem? (i := 202) (by decide +kernel)) (by rfl)
set_option maxRecDepth 100000 in
theorem gw_205 : (.fieldLink RX4 163 "NothingJudge$Program" "tests" "I" : Cond) ∈ lw_gt := gt_of (List.mem_of_getElem? (i := 205) (by decide +kernel)) (by rfl)
set_option maxRecDepth 100000 in
theorem gw_253 : (.fieldLink RX4 18 "NothingJudge$Reader" "wrongPlace" "I" : Cond) ∈ lw_gt := gt_of (List.mem_of_getElem? (i := 253) (by decide +kernel)) (by rfl)
set_option maxRecDepth 100000 in
theorem gw_184 : (.fieldLink RX4 184 "NothingJudge$Program" "arity" "[I" : Cond) ∈ lw_gt := gt_of (List.mem_of_getElem? (i := 184) (by decide +kernel)) (by rfl)
set_option maxRecDepth 100000 in
theorem gw_243 : (.fieldLink RX4 22 "NothingJudge$Reader" "tokens" "LNothingJudge$Tokens;" : Cond) ∈ lw_gt := gt_of (List.mem_of_getElem? (i := 243) (by decide +kernel)) (by rfl)
set_option maxRecDepth 100000 in
theorem gw_246 : (.fieldLink RX4 26 "NothingJudge$Reader" "program" "LNothingJudge$Program;" : Cond) ∈ lw_gt := gt_of (List.mem_of_getElem? (i := 246) (by decide +kernel)) (by rfl)
set_option maxRecDepth 100000 in
theorem gw_174 : (.fieldLink RX4 30 "NothingJudge$Program" "code" "LNothingJudge$Code;" : Cond) ∈ lw_gt := gt_of (List.mem_of_getElem? (i := 174) (by decide +kernel)) (by rfl)
set_option maxRecDepth 100000 in
theorem gw_247 : (.fieldLink RX4 36 "NothingJudge$Reader" "code" "LNothingJudge$Code;" : Cond) ∈ lw_gt := gt_of (List.mem_of_getElem? (i := 247) (by decide +kernel)) (by rfl)
set_option maxRecDepth 100000 in
theorem gw_248 : (.fieldLink RX4 40 "NothingJudge$Reader" "next" "I" : Cond) ∈ lw_gt := gt_of (List.mem_of_getElem? (i := 248) (by decide +kernel)) (by rfl)
set_option maxRecDepth 100000 in
theorem gw_249 : (.fieldLink RX4 43 "NothingJudge$Reader" "open" "I" : Cond) ∈ lw_gt := gt_of (List.mem_of_getElem? (i := 249) (by decide +kernel)) (by rfl)
set_option maxRecDepth 100000 in
theorem gw_251 : (.fieldLink RX4 46 "NothingJudge$Reader" "wrong" "I" : Cond) ∈ lw_gt := gt_of (List.mem_of_getElem? (i := 251) (by decide +kernel)) (by rfl)
set_option maxRecDepth 100000 in
theorem gw_250 : (.fieldLink RX4 85 "NothingJudge$Reader" "letter" "I" : Cond) ∈ lw_gt := gt_of (List.mem_of_getElem? (i := 250) (by decide +kernel)) (by rfl)
set_option maxRecDepth 100000 in
theorem gw_244 : (.fieldLink RX4 9 "NothingJudge$Reader" "openKind" "[I" : Cond) ∈ lw_gt := gt_of (List.mem_of_getElem? (i := 244) (by decide +kernel)) (by rfl)
set_option maxRecDepth 100000 in
theorem gw_381 : (.fieldLink RX6 105 "NothingJudge$Runner" "pc" "I" : Cond) ∈ lw_gt := gt_of (List.mem_of_getElem? (i := 381) (by decide +kernel)) (by rfl)
set_option maxRecDepth 100000 in
theorem gw_364 : (.fieldLink RX6 11 "NothingJudge$Runner" "names" "[I" : Cond) ∈ lw_gt := gt_of (List.mem_of_getElem? (i := 364) (by decide +kernel)) (by rfl)
set_option maxRecDepth 100000 in
theorem gw_383 : (.fieldLink RX6 136 "NothingJudge$Runner" "value" "I" : Cond) ∈ lw_gt := gt_of (List.mem_of_getElem? (i := 383) (by decide +kernel)) (by rfl)
set_option maxRecDepth 100000 in
theorem gw_365 : (.fieldLink RX6 15 "NothingJudge$Runner" "back" "[I" : Cond) ∈ lw_gt := gt_of (List.mem_of_getElem? (i := 365) (by decide +kernel)) (by rfl)
set_option maxRecDepth 100000 in
theorem gw_366 : (.fieldLink RX6 18 "NothingJudge$Runner" "fields" "[I" : Cond) ∈ lw_gt := gt_of (List.mem_of_getElem? (i := 366) (by decide +kernel)) (by rfl)
set_option maxRecDepth 100000 in
theorem gw_363 : (.fieldLink RX6 21 "NothingJudge$Runner" "scene" "LNothingJudge$Scene;" : Cond) ∈ lw_gt := gt_of (List.mem_of_getElem? (i := 363) (by decide +kernel)) (by rfl)
set_option maxRecDepth 100000 in
theorem gw_283 : (.fieldLink RX6 25 "NothingJudge$Scene" "program" "LNothingJudge$Program;" : Cond) ∈ lw_gt := gt_of (List.mem_of_getElem? (i := 283) (by decide +kernel)) (by rfl)
set_option maxRecDepth 100000 in
theorem gw_367 : (.fieldLink RX6 31 "NothingJudge$Runner" "program" "LNothingJudge$Program;" : Cond) ∈ lw_gt := gt_of (List.mem_of_getElem? (i := 367) (by decide +kernel)) (by rfl)
set_option maxRecDepth 100000 in
theorem gw_175 : (.fieldLink RX6 32 "NothingJudge$Program" "code" "LNothingJudge$Code;" : Cond) ∈ lw_gt := gt_of (List.mem_of_getElem? (i := 175) (by decide +kernel)) (by rfl)
set_option maxRecDepth 100000 in
theorem gw_368 : (.fieldLink RX6 38 "NothingJudge$Runner" "code" "LNothingJudge$Code;" : Cond) ∈ lw_gt := gt_of (List.mem_of_getElem? (i := 368) (by decide +kernel)) (by rfl)
set_option maxRecDepth 100000 in
theorem gw_380 : (.fieldLink RX6 44 "NothingJudge$Runner" "outcome" "I" : Cond) ∈ lw_gt := gt_of (List.mem_of_getElem? (i := 380) (by decide +kernel)) (by rfl)
set_option maxRecDepth 100000 in
theorem gw_384 : (.fieldLink RX6 48 "NothingJudge$Runner" "ready" "Z" : Cond) ∈ lw_gt := gt_of (List.mem_of_getElem? (i := 384) (by decide +kernel)) (by rfl)
set_option maxRecDepth 100000 in
theorem gw_369 : (.fieldLink RX6 58 "NothingJudge$Runner" "chosen" "I" : Cond) ∈ lw_gt := gt_of (List.mem_of_getElem? (i := 369) (by decide +kernel)) (by rfl)
set_option maxRecDepth 100000 in
theorem gw_370 : (.fieldLink RX6 61 "NothingJudge$Runner" "steps" "I" : Cond) ∈ lw_gt := gt_of (List.mem_of_getElem? (i := 370) (by decide +kernel)) (by rfl)
set_option maxRecDepth 100000 in
theorem gw_372 : (.fieldLink RX6 64 "NothingJudge$Runner" "things" "I" : Cond) ∈ lw_gt := gt_of (List.mem_of_getElem? (i := 372) (by decide +kernel)) (by rfl)
set_option maxRecDepth 100000 in
theorem gw_374 : (.fieldLink RX6 67 "NothingJudge$Runner" "anys" "I" : Cond) ∈ lw_gt := gt_of (List.mem_of_getElem? (i := 374) (by decide +kernel)) (by rfl)
set_option maxRecDepth 100000 in
theorem gw_378 : (.fieldLink RX6 70 "NothingJudge$Runner" "failedAt" "I" : Cond) ∈ lw_gt := gt_of (List.mem_of_getElem? (i := 378) (by decide +kernel)) (by rfl)
set_option maxRecDepth 100000 in
theorem gw_382 : (.fieldLink RX6 73 "NothingJudge$Runner" "depth" "I" : Cond) ∈ lw_gt := gt_of (List.mem_of_getElem? (i := 382) (by decide +kernel)) (by rfl)
set_option maxRecDepth 100000 in
theorem gw_287 : (.fieldLink RX6 83 "NothingJudge$Scene" "start" "I" : Cond) ∈ lw_gt := gt_of (List.mem_of_getElem? (i := 287) (by decide +kernel)) (by rfl)
set_option maxRecDepth 100000 in
theorem gw_178 : (.fieldLink RX6 96 "NothingJudge$Program" "opening" "[I" : Cond) ∈ lw_gt := gt_of (List.mem_of_getElem? (i := 178) (by decide +kernel)) (by rfl)
set_option maxRecDepth 100000 in
theorem gw_291 : (.fieldLink RX7 15 "NothingJudge$Scene" "told" "[I" : Cond) ∈ lw_gt := gt_of (List.mem_of_getElem? (i := 291) (by decide +kernel)) (by rfl)
set_option maxRecDepth 100000 in
theorem gw_282 : (.fieldLink RX7 19 "NothingJudge$Scene" "program" "LNothingJudge$Program;" : Cond) ∈ lw_gt := gt_of (List.mem_of_getElem? (i := 282) (by decide +kernel)) (by rfl)
set_option maxRecDepth 100000 in
theorem gw_181 : (.fieldLink RX7 29 "NothingJudge$Program" "arity" "[I" : Cond) ∈ lw_gt := gt_of (List.mem_of_getElem? (i := 181) (by decide +kernel)) (by rfl)
set_option maxRecDepth 100000 in
theorem gw_286 : (.fieldLink RX7 9 "NothingJudge$Scene" "start" "I" : Cond) ∈ lw_gt := gt_of (List.mem_of_getElem? (i := 286) (by decide +kernel)) (by rfl)
set_option maxRecDepth 100000 in
theorem gw_140 : (.fieldLink RX8 15 "NothingJudge$Tokens" "size" "I" : Cond) ∈ lw_gt := gt_of (List.mem_of_getElem? (i := 140) (by decide +kernel)) (by rfl)
set_option maxRecDepth 100000 in
theorem gw_141 : (.fieldLink RX8 25 "NothingJudge$Tokens" "length" "I" : Cond) ∈ lw_gt := gt_of (List.mem_of_getElem? (i := 141) (by decide +kernel)) (by rfl)
set_option maxRecDepth 100000 in
theorem gw_139 : (.fieldLink RX8 9 "NothingJudge$Tokens" "packed" "[I" : Cond) ∈ lw_gt := gt_of (List.mem_of_getElem? (i := 139) (by decide +kernel)) (by rfl)
set_option maxRecDepth 100000 in
theorem gw_428 : (.fieldLink RX9 15 "NothingJudge$Trials" "knownFor" "[I" : Cond) ∈ lw_gt := gt_of (List.mem_of_getElem? (i := 428) (by decide +kernel)) (by rfl)
set_option maxRecDepth 100000 in
theorem gw_429 : (.fieldLink RX9 18 "NothingJudge$Trials" "stale" "Z" : Cond) ∈ lw_gt := gt_of (List.mem_of_getElem? (i := 429) (by decide +kernel)) (by rfl)
set_option maxRecDepth 100000 in
theorem gw_424 : (.fieldLink RX9 22 "NothingJudge$Trials" "scene" "LNothingJudge$Scene;" : Cond) ∈ lw_gt := gt_of (List.mem_of_getElem? (i := 424) (by decide +kernel)) (by rfl)
set_option maxRecDepth 100000 in
theorem gw_425 : (.fieldLink RX9 26 "NothingJudge$Trials" "runner" "LNothingJudge$Runner;" : Cond) ∈ lw_gt := gt_of (List.mem_of_getElem? (i := 425) (by decide +kernel)) (by rfl)
set_option maxRecDepth 100000 in
theorem gw_431 : (.fieldLink RX9 30 "NothingJudge$Trials" "missing" "I" : Cond) ∈ lw_gt := gt_of (List.mem_of_getElem? (i := 431) (by decide +kernel)) (by rfl)
set_option maxRecDepth 100000 in
theorem gw_377 : (.fieldLink RX9 65 "NothingJudge$Runner" "failedAt" "I" : Cond) ∈ lw_gt := gt_of (List.mem_of_getElem? (i := 377) (by decide +kernel)) (by rfl)
set_option maxRecDepth 100000 in
theorem gw_375 : (.fieldLink RX9 72 "NothingJudge$Runner" "anys" "I" : Cond) ∈ lw_gt := gt_of (List.mem_of_getElem? (i := 375) (by decide +kernel)) (by rfl)
set_option maxRecDepth 100000 in
theorem gw_426 : (.fieldLink RX9 9 "NothingJudge$Trials" "first" "[I" : Cond) ∈ lw_gt := gt_of (List.mem_of_getElem? (i := 426) (by decide +kernel)) (by rfl)
set_option maxRecDepth 100000 in
theorem gw_708 : (.methodLink RX0 19 yX0_set : Cond) ∈ lw_gt := gt_of (List.mem_of_getElem? (i := 708) (by decide +kernel)) (by rfl)
set_option maxRecDepth 100000 in
theorem gw_709 : (.instanceMethod yX0_set : Cond) ∈ lw_gt := gt_of (List.mem_of_getElem? (i := 709) (by decide +kernel)) (by rfl)
set_option maxRecDepth 100000 in
theorem gw_710 : (.selects RX0 yX0_set yX0_set : Cond) ∈ lw_gt := gt_of (List.mem_of_getElem? (i := 710) (by decide +kernel)) (by rfl)
set_option maxRecDepth 100000 in
theorem gw_110 : (.initialized RX0 : Cond) ∈ lw_gt := gt_of (List.mem_of_getElem? (i := 110) (by decide +kernel)) (by rfl)
set_option maxRecDepth 100000 in
theorem gw_711 : (.code yX0_set cX0_set 5 none : Cond) ∈ lw_gt := gt_of (List.mem_of_getElem? (i := 711) rfl) (by rfl)
set_option maxRecDepth 100000 in
theorem gw_712 : (.methodLink RX4 124 yX0_set : Cond) ∈ lw_gt := gt_of (List.mem_of_getElem? (i := 712) (by decide +kernel)) (by rfl)
set_option maxRecDepth 100000 in
theorem gw_704 : (.methodLink RX4 120 yX0_add : Cond) ∈ lw_gt := gt_of (List.mem_of_getElem? (i := 704) (by decide +kernel)) (by rfl)
set_option maxRecDepth 100000 in
theorem gw_705 : (.instanceMethod yX0_add : Cond) ∈ lw_gt := gt_of (List.mem_of_getElem? (i := 705) (by decide +kernel)) (by rfl)
set_option maxRecDepth 100000 in
theorem gw_706 : (.selects RX0 yX0_add yX0_add : Cond) ∈ lw_gt := gt_of (List.mem_of_getElem? (i := 706) (by decide +kernel)) (by rfl)
set_option maxRecDepth 100000 in
theorem gw_707 : (.code yX0_add cX0_add 5 (some .int) : Cond) ∈ lw_gt := gt_of (List.mem_of_getElem? (i := 707) rfl) (by rfl)
set_option maxRecDepth 100000 in
theorem gw_757 : (.methodLink RX0 23 yX0_get : Cond) ∈ lw_gt := gt_of (List.mem_of_getElem? (i := 757) (by decide +kernel)) (by rfl)
set_option maxRecDepth 100000 in
theorem gw_758 : (.instanceMethod yX0_get : Cond) ∈ lw_gt := gt_of (List.mem_of_getElem? (i := 758) (by decide +kernel)) (by rfl)
set_option maxRecDepth 100000 in
theorem gw_759 : (.selects RX0 yX0_get yX0_get : Cond) ∈ lw_gt := gt_of (List.mem_of_getElem? (i := 759) (by decide +kernel)) (by rfl)
set_option maxRecDepth 100000 in
theorem gw_760 : (.code yX0_get cX0_get 4 (some .int) : Cond) ∈ lw_gt := gt_of (List.mem_of_getElem? (i := 760) rfl) (by rfl)
set_option maxRecDepth 100000 in
theorem gw_870 : (.methodLink RX1 141 yX0_get : Cond) ∈ lw_gt := gt_of (List.mem_of_getElem? (i := 870) (by decide +kernel)) (by rfl)
set_option maxRecDepth 100000 in
theorem gw_782 : (.methodLink RX4 181 yX0_get : Cond) ∈ lw_gt := gt_of (List.mem_of_getElem? (i := 782) (by decide +kernel)) (by rfl)
set_option maxRecDepth 100000 in
theorem gw_958 : (.methodLink RX6 110 yX0_get : Cond) ∈ lw_gt := gt_of (List.mem_of_getElem? (i := 958) (by decide +kernel)) (by rfl)
set_option maxRecDepth 100000 in
theorem gw_753 : (.methodLink RX4 178 yX0_addArgument : Cond) ∈ lw_gt := gt_of (List.mem_of_getElem? (i := 753) (by decide +kernel)) (by rfl)
set_option maxRecDepth 100000 in
theorem gw_754 : (.instanceMethod yX0_addArgument : Cond) ∈ lw_gt := gt_of (List.mem_of_getElem? (i := 754) (by decide +kernel)) (by rfl)
set_option maxRecDepth 100000 in
theorem gw_755 : (.selects RX0 yX0_addArgument yX0_addArgument : Cond) ∈ lw_gt := gt_of (List.mem_of_getElem? (i := 755) (by decide +kernel)) (by rfl)
set_option maxRecDepth 100000 in
theorem gw_756 : (.code yX0_addArgument cX0_addArgument 5 none : Cond) ∈ lw_gt := gt_of (List.mem_of_getElem? (i := 756) rfl) (by rfl)
set_option maxRecDepth 100000 in
theorem gw_893 : (.methodLink RX1 172 yX0_arguments : Cond) ∈ lw_gt := gt_of (List.mem_of_getElem? (i := 893) (by decide +kernel)) (by rfl)
set_option maxRecDepth 100000 in
theorem gw_784 : (.instanceMethod yX0_arguments : Cond) ∈ lw_gt := gt_of (List.mem_of_getElem? (i := 784) (by decide +kernel)) (by rfl)
set_option maxRecDepth 100000 in
theorem gw_785 : (.selects RX0 yX0_arguments yX0_arguments : Cond) ∈ lw_gt := gt_of (List.mem_of_getElem? (i := 785) (by decide +kernel)) (by rfl)
set_option maxRecDepth 100000 in
theorem gw_786 : (.code yX0_arguments cX0_arguments 2 (some .int) : Cond) ∈ lw_gt := gt_of (List.mem_of_getElem? (i := 786) rfl) (by rfl)
set_option maxRecDepth 100000 in
theorem gw_783 : (.methodLink RX4 187 yX0_arguments : Cond) ∈ lw_gt := gt_of (List.mem_of_getElem? (i := 783) (by decide +kernel)) (by rfl)
set_option maxRecDepth 100000 in
theorem gw_998 : (.methodLink RX6 155 yX0_arguments : Cond) ∈ lw_gt := gt_of (List.mem_of_getElem? (i := 998) (by decide +kernel)) (by rfl)
set_option maxRecDepth 100000 in
theorem gw_894 : (.methodLink RX1 176 yX0_argument : Cond) ∈ lw_gt := gt_of (List.mem_of_getElem? (i := 894) (by decide +kernel)) (by rfl)
set_option maxRecDepth 100000 in
theorem gw_895 : (.instanceMethod yX0_argument : Cond) ∈ lw_gt := gt_of (List.mem_of_getElem? (i := 895) (by decide +kernel)) (by rfl)
set_option maxRecDepth 100000 in
theorem gw_896 : (.selects RX0 yX0_argument yX0_argument : Cond) ∈ lw_gt := gt_of (List.mem_of_getElem? (i := 896) (by decide +kernel)) (by rfl)
set_option maxRecDepth 100000 in
theorem gw_897 : (.code yX0_argument cX0_argument 3 (some .int) : Cond) ∈ lw_gt := gt_of (List.mem_of_getElem? (i := 897) rfl) (by rfl)
set_option maxRecDepth 100000 in
theorem gw_999 : (.methodLink RX6 158 yX0_argument : Cond) ∈ lw_gt := gt_of (List.mem_of_getElem? (i := 999) (by decide +kernel)) (by rfl)
set_option maxRecDepth 100000 in
theorem gw_836 : (.methodLink RX1 95 yJ7_fill_d0a16 : Cond) ∈ lw_gt := gt_of (List.mem_of_getElem? (i := 836) (by decide +kernel)) (by rfl)
set_option maxRecDepth 100000 in
theorem gw_837 : (.static yJ7_fill_d0a16 : Cond) ∈ lw_gt := gt_of (List.mem_of_getElem? (i := 837) (by decide +kernel)) (by rfl)
set_option maxRecDepth 100000 in
theorem gw_124 : (.initialized RJ7 : Cond) ∈ lw_gt := gt_of (List.mem_of_getElem? (i := 124) (by decide +kernel)) (by rfl)
set_option maxRecDepth 100000 in
theorem gw_838 : (.code yJ7_fill_d0a16 cJ7_fill_d0a16 5 none : Cond) ∈ lw_gt := gt_of (List.mem_of_getElem? (i := 838) rfl) (by rfl)
set_option maxRecDepth 100000 in
theorem gw_839 : (.methodLink RX1 101 yJ7_fill_53178 : Cond) ∈ lw_gt := gt_of (List.mem_of_getElem? (i := 839) (by decide +kernel)) (by rfl)
set_option maxRecDepth 100000 in
theorem gw_792 : (.static yJ7_fill_53178 : Cond) ∈ lw_gt := gt_of (List.mem_of_getElem? (i := 792) (by decide +kernel)) (by rfl)
set_option maxRecDepth 100000 in
theorem gw_793 : (.code yJ7_fill_53178 cJ7_fill_53178 4 none : Cond) ∈ lw_gt := gt_of (List.mem_of_getElem? (i := 793) rfl) (by rfl)
set_option maxRecDepth 100000 in
theorem gw_791 : (.methodLink RX7 23 yJ7_fill_53178 : Cond) ∈ lw_gt := gt_of (List.mem_of_getElem? (i := 791) (by decide +kernel)) (by rfl)
set_option maxRecDepth 100000 in
theorem gw_1016 : (.methodLink RX9 34 yJ7_fill_53178 : Cond) ∈ lw_gt := gt_of (List.mem_of_getElem? (i := 1016) (by decide +kernel)) (by rfl)
set_option maxRecDepth 100000 in
theorem gw_832 : (.methodLink RX1 54 yX1_clear : Cond) ∈ lw_gt := gt_of (List.mem_of_getElem? (i := 832) (by decide +kernel)) (by rfl)
set_option maxRecDepth 100000 in
theorem gw_834 : (.instanceMethod yX1_clear : Cond) ∈ lw_gt := gt_of (List.mem_of_getElem? (i := 834) (by decide +kernel)) (by rfl)
set_option maxRecDepth 100000 in
theorem gw_25 : (.selects RX1 yX1_clear yX1_clear : Cond) ∈ lw_gt := gt_of (List.mem_of_getElem? (i := 25) (by decide +kernel)) (by rfl)
set_option maxRecDepth 100000 in
theorem gw_113 : (.initialized RX1 : Cond) ∈ lw_gt := gt_of (List.mem_of_getElem? (i := 113) (by decide +kernel)) (by rfl)
set_option maxRecDepth 100000 in
theorem gw_835 : (.code yX1_clear cX1_clear 1 none : Cond) ∈ lw_gt := gt_of (List.mem_of_getElem? (i := 835) rfl) (by rfl)
set_option maxRecDepth 100000 in
theorem gw_844 : (.methodLink RX1 107 yX3_has : Cond) ∈ lw_gt := gt_of (List.mem_of_getElem? (i := 844) (by decide +kernel)) (by rfl)
set_option maxRecDepth 100000 in
theorem gw_667 : (.instanceMethod yX3_has : Cond) ∈ lw_gt := gt_of (List.mem_of_getElem? (i := 667) (by decide +kernel)) (by rfl)
set_option maxRecDepth 100000 in
theorem gw_668 : (.selects RX3 yX3_has yX3_has : Cond) ∈ lw_gt := gt_of (List.mem_of_getElem? (i := 668) (by decide +kernel)) (by rfl)
set_option maxRecDepth 100000 in
theorem gw_109 : (.initialized RX3 : Cond) ∈ lw_gt := gt_of (List.mem_of_getElem? (i := 109) (by decide +kernel)) (by rfl)
set_option maxRecDepth 100000 in
theorem gw_669 : (.code yX3_has cX3_has 2 (some .boolean) : Cond) ∈ lw_gt := gt_of (List.mem_of_getElem? (i := 669) rfl) (by rfl)
set_option maxRecDepth 100000 in
theorem gw_806 : (.methodLink RX10 125 yX3_has : Cond) ∈ lw_gt := gt_of (List.mem_of_getElem? (i := 806) (by decide +kernel)) (by rfl)
set_option maxRecDepth 100000 in
theorem gw_666 : (.methodLink RX4 88 yX3_has : Cond) ∈ lw_gt := gt_of (List.mem_of_getElem? (i := 666) (by decide +kernel)) (by rfl)
set_option maxRecDepth 100000 in
theorem gw_816 : (.methodLink RX7 40 yX3_has : Cond) ∈ lw_gt := gt_of (List.mem_of_getElem? (i := 816) (by decide +kernel)) (by rfl)
set_option maxRecDepth 100000 in
theorem gw_846 : (.methodLink RX1 72 yX5_at : Cond) ∈ lw_gt := gt_of (List.mem_of_getElem? (i := 846) (by decide +kernel)) (by rfl)
set_option maxRecDepth 100000 in
theorem gw_684 : (.static yX5_at : Cond) ∈ lw_gt := gt_of (List.mem_of_getElem? (i := 684) (by decide +kernel)) (by rfl)
set_option maxRecDepth 100000 in
theorem gw_123 : (.initialized RX5 : Cond) ∈ lw_gt := gt_of (List.mem_of_getElem? (i := 123) (by decide +kernel)) (by rfl)
set_option maxRecDepth 100000 in
theorem gw_685 : (.code yX5_at cX5_at 2 (some .int) : Cond) ∈ lw_gt := gt_of (List.mem_of_getElem? (i := 685) rfl) (by rfl)
set_option maxRecDepth 100000 in
theorem gw_827 : (.methodLink RX10 153 yX5_at : Cond) ∈ lw_gt := gt_of (List.mem_of_getElem? (i := 827) (by decide +kernel)) (by rfl)
set_option maxRecDepth 100000 in
theorem gw_1046 : (.methodLink RX2 52 yX5_at : Cond) ∈ lw_gt := gt_of (List.mem_of_getElem? (i := 1046) (by decide +kernel)) (by rfl)
set_option maxRecDepth 100000 in
theorem gw_683 : (.methodLink RX3 68 yX5_at : Cond) ∈ lw_gt := gt_of (List.mem_of_getElem? (i := 683) (by decide +kernel)) (by rfl)
set_option maxRecDepth 100000 in
theorem gw_703 : (.methodLink RX4 114 yX5_at : Cond) ∈ lw_gt := gt_of (List.mem_of_getElem? (i := 703) (by decide +kernel)) (by rfl)
set_option maxRecDepth 100000 in
theorem gw_952 : (.methodLink RX6 99 yX5_at : Cond) ∈ lw_gt := gt_of (List.mem_of_getElem? (i := 952) (by decide +kernel)) (by rfl)
set_option maxRecDepth 100000 in
theorem gw_815 : (.methodLink RX7 34 yX5_at : Cond) ∈ lw_gt := gt_of (List.mem_of_getElem? (i := 815) (by decide +kernel)) (by rfl)
set_option maxRecDepth 100000 in
theorem gw_1017 : (.methodLink RX9 40 yX5_at : Cond) ∈ lw_gt := gt_of (List.mem_of_getElem? (i := 1017) (by decide +kernel)) (by rfl)
set_option maxRecDepth 100000 in
theorem gw_845 : (.methodLink RX1 111 yX7_outers : Cond) ∈ lw_gt := gt_of (List.mem_of_getElem? (i := 845) (by decide +kernel)) (by rfl)
set_option maxRecDepth 100000 in
theorem gw_812 : (.instanceMethod yX7_outers : Cond) ∈ lw_gt := gt_of (List.mem_of_getElem? (i := 812) (by decide +kernel)) (by rfl)
set_option maxRecDepth 100000 in
theorem gw_813 : (.selects RX7 yX7_outers yX7_outers : Cond) ∈ lw_gt := gt_of (List.mem_of_getElem? (i := 813) (by decide +kernel)) (by rfl)
set_option maxRecDepth 100000 in
theorem gw_112 : (.initialized RX7 : Cond) ∈ lw_gt := gt_of (List.mem_of_getElem? (i := 112) (by decide +kernel)) (by rfl)
set_option maxRecDepth 100000 in
theorem gw_814 : (.code yX7_outers cX7_outers 1 (some .int) : Cond) ∈ lw_gt := gt_of (List.mem_of_getElem? (i := 814) rfl) (by rfl)
set_option maxRecDepth 100000 in
theorem gw_811 : (.methodLink RX10 129 yX7_outers : Cond) ∈ lw_gt := gt_of (List.mem_of_getElem? (i := 811) (by decide +kernel)) (by rfl)
set_option maxRecDepth 100000 in
theorem gw_938 : (.methodLink RX6 79 yX7_outers : Cond) ∈ lw_gt := gt_of (List.mem_of_getElem? (i := 938) (by decide +kernel)) (by rfl)
set_option maxRecDepth 100000 in
theorem gw_924 : (.methodLink RX7 50 yX7_outers : Cond) ∈ lw_gt := gt_of (List.mem_of_getElem? (i := 924) (by decide +kernel)) (by rfl)
set_option maxRecDepth 100000 in
theorem gw_851 : (.methodLink RX1 81 yX5_put : Cond) ∈ lw_gt := gt_of (List.mem_of_getElem? (i := 851) (by decide +kernel)) (by rfl)
set_option maxRecDepth 100000 in
theorem gw_622 : (.static yX5_put : Cond) ∈ lw_gt := gt_of (List.mem_of_getElem? (i := 622) (by decide +kernel)) (by rfl)
set_option maxRecDepth 100000 in
theorem gw_623 : (.code yX5_put cX5_put 3 none : Cond) ∈ lw_gt := gt_of (List.mem_of_getElem? (i := 623) rfl) (by rfl)
set_option maxRecDepth 100000 in
theorem gw_818 : (.methodLink RX10 136 yX5_put : Cond) ∈ lw_gt := gt_of (List.mem_of_getElem? (i := 818) (by decide +kernel)) (by rfl)
set_option maxRecDepth 100000 in
theorem gw_1047 : (.methodLink RX2 101 yX5_put : Cond) ∈ lw_gt := gt_of (List.mem_of_getElem? (i := 1047) (by decide +kernel)) (by rfl)
set_option maxRecDepth 100000 in
theorem gw_674 : (.methodLink RX3 62 yX5_put : Cond) ∈ lw_gt := gt_of (List.mem_of_getElem? (i := 674) (by decide +kernel)) (by rfl)
set_option maxRecDepth 100000 in
theorem gw_698 : (.methodLink RX4 108 yX5_put : Cond) ∈ lw_gt := gt_of (List.mem_of_getElem? (i := 698) (by decide +kernel)) (by rfl)
set_option maxRecDepth 100000 in
theorem gw_937 : (.methodLink RX6 151 yX5_put : Cond) ∈ lw_gt := gt_of (List.mem_of_getElem? (i := 937) (by decide +kernel)) (by rfl)
set_option maxRecDepth 100000 in
theorem gw_621 : (.methodLink RX8 51 yX5_put : Cond) ∈ lw_gt := gt_of (List.mem_of_getElem? (i := 621) (by decide +kernel)) (by rfl)
set_option maxRecDepth 100000 in
theorem gw_1024 : (.methodLink RX9 68 yX5_put : Cond) ∈ lw_gt := gt_of (List.mem_of_getElem? (i := 1024) (by decide +kernel)) (by rfl)
set_option maxRecDepth 100000 in
theorem gw_847 : (.methodLink RX1 118 yX1_raise : Cond) ∈ lw_gt := gt_of (List.mem_of_getElem? (i := 847) (by decide +kernel)) (by rfl)
set_option maxRecDepth 100000 in
theorem gw_849 : (.instanceMethod yX1_raise : Cond) ∈ lw_gt := gt_of (List.mem_of_getElem? (i := 849) (by decide +kernel)) (by rfl)
set_option maxRecDepth 100000 in
theorem gw_27 : (.selects RX1 yX1_raise yX1_raise : Cond) ∈ lw_gt := gt_of (List.mem_of_getElem? (i := 27) (by decide +kernel)) (by rfl)
set_option maxRecDepth 100000 in
theorem gw_850 : (.code yX1_raise cX1_raise 5 none : Cond) ∈ lw_gt := gt_of (List.mem_of_getElem? (i := 850) rfl) (by rfl)
set_option maxRecDepth 100000 in
theorem gw_840 : (.methodLink RX1 57 yX1_reachEntry : Cond) ∈ lw_gt := gt_of (List.mem_of_getElem? (i := 840) (by decide +kernel)) (by rfl)
set_option maxRecDepth 100000 in
theorem gw_842 : (.instanceMethod yX1_reachEntry : Cond) ∈ lw_gt := gt_of (List.mem_of_getElem? (i := 842) (by decide +kernel)) (by rfl)
set_option maxRecDepth 100000 in
theorem gw_26 : (.selects RX1 yX1_reachEntry yX1_reachEntry : Cond) ∈ lw_gt := gt_of (List.mem_of_getElem? (i := 26) (by decide +kernel)) (by rfl)
set_option maxRecDepth 100000 in
theorem gw_843 : (.code yX1_reachEntry cX1_reachEntry 3 none : Cond) ∈ lw_gt := gt_of (List.mem_of_getElem? (i := 843) rfl) (by rfl)
set_option maxRecDepth 100000 in
theorem gw_857 : (.methodLink RX1 127 yX3_parameter : Cond) ∈ lw_gt := gt_of (List.mem_of_getElem? (i := 857) (by decide +kernel)) (by rfl)
set_option maxRecDepth 100000 in
theorem gw_687 : (.instanceMethod yX3_parameter : Cond) ∈ lw_gt := gt_of (List.mem_of_getElem? (i := 687) (by decide +kernel)) (by rfl)
set_option maxRecDepth 100000 in
theorem gw_688 : (.selects RX3 yX3_parameter yX3_parameter : Cond) ∈ lw_gt := gt_of (List.mem_of_getElem? (i := 688) (by decide +kernel)) (by rfl)
set_option maxRecDepth 100000 in
theorem gw_689 : (.code yX3_parameter cX3_parameter 3 (some .int) : Cond) ∈ lw_gt := gt_of (List.mem_of_getElem? (i := 689) rfl) (by rfl)
set_option maxRecDepth 100000 in
theorem gw_686 : (.methodLink RX3 72 yX3_parameter : Cond) ∈ lw_gt := gt_of (List.mem_of_getElem? (i := 686) (by decide +kernel)) (by rfl)
set_option maxRecDepth 100000 in
theorem gw_939 : (.methodLink RX6 86 yX3_parameter : Cond) ∈ lw_gt := gt_of (List.mem_of_getElem? (i := 939) (by decide +kernel)) (by rfl)
set_option maxRecDepth 100000 in
theorem gw_858 : (.methodLink RX1 131 yX1_with : Cond) ∈ lw_gt := gt_of (List.mem_of_getElem? (i := 858) (by decide +kernel)) (by rfl)
set_option maxRecDepth 100000 in
theorem gw_859 : (.static yX1_with : Cond) ∈ lw_gt := gt_of (List.mem_of_getElem? (i := 859) (by decide +kernel)) (by rfl)
set_option maxRecDepth 100000 in
theorem gw_860 : (.code yX1_with cX1_with 10 (some .long) : Cond) ∈ lw_gt := gt_of (List.mem_of_getElem? (i := 860) rfl) (by rfl)
set_option maxRecDepth 100000 in
theorem gw_862 : (.methodLink RX1 138 yX1_join : Cond) ∈ lw_gt := gt_of (List.mem_of_getElem? (i := 862) (by decide +kernel)) (by rfl)
set_option maxRecDepth 100000 in
theorem gw_864 : (.instanceMethod yX1_join : Cond) ∈ lw_gt := gt_of (List.mem_of_getElem? (i := 864) (by decide +kernel)) (by rfl)
set_option maxRecDepth 100000 in
theorem gw_29 : (.selects RX1 yX1_join yX1_join : Cond) ∈ lw_gt := gt_of (List.mem_of_getElem? (i := 29) (by decide +kernel)) (by rfl)
set_option maxRecDepth 100000 in
theorem gw_865 : (.code yX1_join cX1_join 4 none : Cond) ∈ lw_gt := gt_of (List.mem_of_getElem? (i := 865) rfl) (by rfl)
set_option maxRecDepth 100000 in
theorem gw_852 : (.methodLink RX1 63 yX1_openRoutines : Cond) ∈ lw_gt := gt_of (List.mem_of_getElem? (i := 852) (by decide +kernel)) (by rfl)
set_option maxRecDepth 100000 in
theorem gw_854 : (.instanceMethod yX1_openRoutines : Cond) ∈ lw_gt := gt_of (List.mem_of_getElem? (i := 854) (by decide +kernel)) (by rfl)
set_option maxRecDepth 100000 in
theorem gw_28 : (.selects RX1 yX1_openRoutines yX1_openRoutines : Cond) ∈ lw_gt := gt_of (List.mem_of_getElem? (i := 28) (by decide +kernel)) (by rfl)
set_option maxRecDepth 100000 in
theorem gw_855 : (.code yX1_openRoutines cX1_openRoutines 6 none : Cond) ∈ lw_gt := gt_of (List.mem_of_getElem? (i := 855) rfl) (by rfl)
set_option maxRecDepth 100000 in
theorem gw_878 : (.methodLink RX1 161 yX1_factOf : Cond) ∈ lw_gt := gt_of (List.mem_of_getElem? (i := 878) (by decide +kernel)) (by rfl)
set_option maxRecDepth 100000 in
theorem gw_879 : (.static yX1_factOf : Cond) ∈ lw_gt := gt_of (List.mem_of_getElem? (i := 879) (by decide +kernel)) (by rfl)
set_option maxRecDepth 100000 in
theorem gw_880 : (.code yX1_factOf cX1_factOf 5 (some .int) : Cond) ∈ lw_gt := gt_of (List.mem_of_getElem? (i := 880) rfl) (by rfl)
set_option maxRecDepth 100000 in
theorem gw_875 : (.methodLink RX1 158 yX1_narrow : Cond) ∈ lw_gt := gt_of (List.mem_of_getElem? (i := 875) (by decide +kernel)) (by rfl)
set_option maxRecDepth 100000 in
theorem gw_876 : (.static yX1_narrow : Cond) ∈ lw_gt := gt_of (List.mem_of_getElem? (i := 876) (by decide +kernel)) (by rfl)
set_option maxRecDepth 100000 in
theorem gw_877 : (.code yX1_narrow cX1_narrow 4 (some .long) : Cond) ∈ lw_gt := gt_of (List.mem_of_getElem? (i := 877) rfl) (by rfl)
set_option maxRecDepth 100000 in
theorem gw_871 : (.methodLink RX1 144 yX1_fork : Cond) ∈ lw_gt := gt_of (List.mem_of_getElem? (i := 871) (by decide +kernel)) (by rfl)
set_option maxRecDepth 100000 in
theorem gw_873 : (.instanceMethod yX1_fork : Cond) ∈ lw_gt := gt_of (List.mem_of_getElem? (i := 873) (by decide +kernel)) (by rfl)
set_option maxRecDepth 100000 in
theorem gw_31 : (.selects RX1 yX1_fork yX1_fork : Cond) ∈ lw_gt := gt_of (List.mem_of_getElem? (i := 31) (by decide +kernel)) (by rfl)
set_option maxRecDepth 100000 in
theorem gw_874 : (.code yX1_fork cX1_fork 12 none : Cond) ∈ lw_gt := gt_of (List.mem_of_getElem? (i := 874) rfl) (by rfl)
set_option maxRecDepth 100000 in
theorem gw_885 : (.methodLink RX1 165 yX1_noteUse : Cond) ∈ lw_gt := gt_of (List.mem_of_getElem? (i := 885) (by decide +kernel)) (by rfl)
set_option maxRecDepth 100000 in
theorem gw_887 : (.instanceMethod yX1_noteUse : Cond) ∈ lw_gt := gt_of (List.mem_of_getElem? (i := 887) (by decide +kernel)) (by rfl)
set_option maxRecDepth 100000 in
theorem gw_33 : (.selects RX1 yX1_noteUse yX1_noteUse : Cond) ∈ lw_gt := gt_of (List.mem_of_getElem? (i := 33) (by decide +kernel)) (by rfl)
set_option maxRecDepth 100000 in
theorem gw_888 : (.code yX1_noteUse cX1_noteUse 3 none : Cond) ∈ lw_gt := gt_of (List.mem_of_getElem? (i := 888) rfl) (by rfl)
set_option maxRecDepth 100000 in
theorem gw_889 : (.methodLink RX1 168 yX1_workCall : Cond) ∈ lw_gt := gt_of (List.mem_of_getElem? (i := 889) (by decide +kernel)) (by rfl)
set_option maxRecDepth 100000 in
theorem gw_891 : (.instanceMethod yX1_workCall : Cond) ∈ lw_gt := gt_of (List.mem_of_getElem? (i := 891) (by decide +kernel)) (by rfl)
set_option maxRecDepth 100000 in
theorem gw_34 : (.selects RX1 yX1_workCall yX1_workCall : Cond) ∈ lw_gt := gt_of (List.mem_of_getElem? (i := 34) (by decide +kernel)) (by rfl)
set_option maxRecDepth 100000 in
theorem gw_892 : (.code yX1_workCall cX1_workCall 6 (some .int) : Cond) ∈ lw_gt := gt_of (List.mem_of_getElem? (i := 892) rfl) (by rfl)
set_option maxRecDepth 100000 in
theorem gw_881 : (.methodLink RX1 147 yX1_work : Cond) ∈ lw_gt := gt_of (List.mem_of_getElem? (i := 881) (by decide +kernel)) (by rfl)
set_option maxRecDepth 100000 in
theorem gw_883 : (.instanceMethod yX1_work : Cond) ∈ lw_gt := gt_of (List.mem_of_getElem? (i := 883) (by decide +kernel)) (by rfl)
set_option maxRecDepth 100000 in
theorem gw_32 : (.selects RX1 yX1_work yX1_work : Cond) ∈ lw_gt := gt_of (List.mem_of_getElem? (i := 32) (by decide +kernel)) (by rfl)
set_option maxRecDepth 100000 in
theorem gw_884 : (.code yX1_work cX1_work 6 (some .int) : Cond) ∈ lw_gt := gt_of (List.mem_of_getElem? (i := 884) rfl) (by rfl)
set_option maxRecDepth 100000 in
theorem gw_898 : (.methodLink RX1 154 yX1_finish : Cond) ∈ lw_gt := gt_of (List.mem_of_getElem? (i := 898) (by decide +kernel)) (by rfl)
set_option maxRecDepth 100000 in
theorem gw_900 : (.instanceMethod yX1_finish : Cond) ∈ lw_gt := gt_of (List.mem_of_getElem? (i := 900) (by decide +kernel)) (by rfl)
set_option maxRecDepth 100000 in
theorem gw_35 : (.selects RX1 yX1_finish yX1_finish : Cond) ∈ lw_gt := gt_of (List.mem_of_getElem? (i := 35) (by decide +kernel)) (by rfl)
set_option maxRecDepth 100000 in
theorem gw_901 : (.code yX1_finish cX1_finish 5 none : Cond) ∈ lw_gt := gt_of (List.mem_of_getElem? (i := 901) rfl) (by rfl)
set_option maxRecDepth 100000 in
theorem gw_866 : (.methodLink RX1 85 yX1_advance : Cond) ∈ lw_gt := gt_of (List.mem_of_getElem? (i := 866) (by decide +kernel)) (by rfl)
set_option maxRecDepth 100000 in
theorem gw_868 : (.instanceMethod yX1_advance : Cond) ∈ lw_gt := gt_of (List.mem_of_getElem? (i := 868) (by decide +kernel)) (by rfl)
set_option maxRecDepth 100000 in
theorem gw_30 : (.selects RX1 yX1_advance yX1_advance : Cond) ∈ lw_gt := gt_of (List.mem_of_getElem? (i := 30) (by decide +kernel)) (by rfl)
set_option maxRecDepth 100000 in
theorem gw_869 : (.code yX1_advance cX1_advance 6 none : Cond) ∈ lw_gt := gt_of (List.mem_of_getElem? (i := 869) rfl) (by rfl)
set_option maxRecDepth 100000 in
theorem gw_828 : (.methodLink RX10 146 yX1_settle : Cond) ∈ lw_gt := gt_of (List.mem_of_getElem? (i := 828) (by decide +kernel)) (by rfl)
set_option maxRecDepth 100000 in
theorem gw_829 : (.instanceMethod yX1_settle : Cond) ∈ lw_gt := gt_of (List.mem_of_getElem? (i := 829) (by decide +kernel)) (by rfl)
set_option maxRecDepth 100000 in
theorem gw_830 : (.selects RX1 yX1_settle yX1_settle : Cond) ∈ lw_gt := gt_of (List.mem_of_getElem? (i := 830) (by decide +kernel)) (by rfl)
set_option maxRecDepth 100000 in
theorem gw_831 : (.code yX1_settle cX1_settle 5 none : Cond) ∈ lw_gt := gt_of (List.mem_of_getElem? (i := 831) rfl) (by rfl)
set_option maxRecDepth 100000 in
theorem gw_1041 : (.methodLink RX2 33 yX1_settle : Cond) ∈ lw_gt := gt_of (List.mem_of_getElem? (i := 1041) (by decide +kernel)) (by rfl)
set_option maxRecDepth 100000 in
theorem gw_1008 : (.methodLink RX10 210 yX1_guardsNeeded : Cond) ∈ lw_gt := gt_of (List.mem_of_getElem? (i := 1008) (by decide +kernel)) (by rfl)
set_option maxRecDepth 100000 in
theorem gw_1009 : (.instanceMethod yX1_guardsNeeded : Cond) ∈ lw_gt := gt_of (List.mem_of_getElem? (i := 1009) (by decide +kernel)) (by rfl)
set_option maxRecDepth 100000 in
theorem gw_1010 : (.selects RX1 yX1_guardsNeeded yX1_guardsNeeded : Cond) ∈ lw_gt := gt_of (List.mem_of_getElem? (i := 1010) (by decide +kernel)) (by rfl)
set_option maxRecDepth 100000 in
theorem gw_1011 : (.code yX1_guardsNeeded cX1_guardsNeeded 3 (some .int) : Cond) ∈ lw_gt := gt_of (List.mem_of_getElem? (i := 1011) rfl) (by rfl)
set_option maxRecDepth 100000 in
theorem gw_1048 : (.methodLink RX2 45 yX1_guardsNeeded : Cond) ∈ lw_gt := gt_of (List.mem_of_getElem? (i := 1048) (by decide +kernel)) (by rfl)
set_option maxRecDepth 100000 in
theorem gw_1042 : (.methodLink RX2 39 yX2_findCandidates : Cond) ∈ lw_gt := gt_of (List.mem_of_getElem? (i := 1042) (by decide +kernel)) (by rfl)
set_option maxRecDepth 100000 in
theorem gw_1044 : (.instanceMethod yX2_findCandidates : Cond) ∈ lw_gt := gt_of (List.mem_of_getElem? (i := 1044) (by decide +kernel)) (by rfl)
set_option maxRecDepth 100000 in
theorem gw_53 : (.selects RX2 yX2_findCandidates yX2_findCandidates : Cond) ∈ lw_gt := gt_of (List.mem_of_getElem? (i := 53) (by decide +kernel)) (by rfl)
set_option maxRecDepth 100000 in
theorem gw_116 : (.initialized RX2 : Cond) ∈ lw_gt := gt_of (List.mem_of_getElem? (i := 116) (by decide +kernel)) (by rfl)
set_option maxRecDepth 100000 in
theorem gw_1045 : (.code yX2_findCandidates cX2_findCandidates 3 none : Cond) ∈ lw_gt := gt_of (List.mem_of_getElem? (i := 1045) rfl) (by rfl)
set_option maxRecDepth 100000 in
theorem gw_1049 : (.methodLink RX2 61 yX2_marksOf : Cond) ∈ lw_gt := gt_of (List.mem_of_getElem? (i := 1049) (by decide +kernel)) (by rfl)
set_option maxRecDepth 100000 in
theorem gw_1051 : (.instanceMethod yX2_marksOf : Cond) ∈ lw_gt := gt_of (List.mem_of_getElem? (i := 1051) (by decide +kernel)) (by rfl)
set_option maxRecDepth 100000 in
theorem gw_54 : (.selects RX2 yX2_marksOf yX2_marksOf : Cond) ∈ lw_gt := gt_of (List.mem_of_getElem? (i := 54) (by decide +kernel)) (by rfl)
set_option maxRecDepth 100000 in
theorem gw_1052 : (.code yX2_marksOf cX2_marksOf 5 (some .long) : Cond) ∈ lw_gt := gt_of (List.mem_of_getElem? (i := 1052) rfl) (by rfl)
set_option maxRecDepth 100000 in
theorem gw_1061 : (.methodLink RX2 105 yX2_priceKind : Cond) ∈ lw_gt := gt_of (List.mem_of_getElem? (i := 1061) (by decide +kernel)) (by rfl)
set_option maxRecDepth 100000 in
theorem gw_1062 : (.static yX2_priceKind : Cond) ∈ lw_gt := gt_of (List.mem_of_getElem? (i := 1062) (by decide +kernel)) (by rfl)
set_option maxRecDepth 100000 in
theorem gw_1063 : (.code yX2_priceKind cX2_priceKind 1 (some .int) : Cond) ∈ lw_gt := gt_of (List.mem_of_getElem? (i := 1063) rfl) (by rfl)
set_option maxRecDepth 100000 in
theorem gw_1057 : (.methodLink RX2 81 yX2_priceOf : Cond) ∈ lw_gt := gt_of (List.mem_of_getElem? (i := 1057) (by decide +kernel)) (by rfl)
set_option maxRecDepth 100000 in
theorem gw_1059 : (.instanceMethod yX2_priceOf : Cond) ∈ lw_gt := gt_of (List.mem_of_getElem? (i := 1059) (by decide +kernel)) (by rfl)
set_option maxRecDepth 100000 in
theorem gw_56 : (.selects RX2 yX2_priceOf yX2_priceOf : Cond) ∈ lw_gt := gt_of (List.mem_of_getElem? (i := 56) (by decide +kernel)) (by rfl)
set_option maxRecDepth 100000 in
theorem gw_1060 : (.code yX2_priceOf cX2_priceOf 4 (some .int) : Cond) ∈ lw_gt := gt_of (List.mem_of_getElem? (i := 1060) rfl) (by rfl)
set_option maxRecDepth 100000 in
theorem gw_1053 : (.methodLink RX2 65 yX2_consider : Cond) ∈ lw_gt := gt_of (List.mem_of_getElem? (i := 1053) (by decide +kernel)) (by rfl)
set_option maxRecDepth 100000 in
theorem gw_1055 : (.instanceMethod yX2_consider : Cond) ∈ lw_gt := gt_of (List.mem_of_getElem? (i := 1055) (by decide +kernel)) (by rfl)
set_option maxRecDepth 100000 in
theorem gw_55 : (.selects RX2 yX2_consider yX2_consider : Cond) ∈ lw_gt := gt_of (List.mem_of_getElem? (i := 55) (by decide +kernel)) (by rfl)
set_option maxRecDepth 100000 in
theorem gw_1056 : (.code yX2_consider cX2_consider 4 none : Cond) ∈ lw_gt := gt_of (List.mem_of_getElem? (i := 1056) rfl) (by rfl)
set_option maxRecDepth 100000 in
theorem gw_1068 : (.methodLink RX2 85 yX2_isTooDear : Cond) ∈ lw_gt := gt_of (List.mem_of_getElem? (i := 1068) (by decide +kernel)) (by rfl)
set_option maxRecDepth 100000 in
theorem gw_1070 : (.instanceMethod yX2_isTooDear : Cond) ∈ lw_gt := gt_of (List.mem_of_getElem? (i := 1070) (by decide +kernel)) (by rfl)
set_option maxRecDepth 100000 in
theorem gw_58 : (.selects RX2 yX2_isTooDear yX2_isTooDear : Cond) ∈ lw_gt := gt_of (List.mem_of_getElem? (i := 58) (by decide +kernel)) (by rfl)
set_option maxRecDepth 100000 in
theorem gw_1071 : (.code yX2_isTooDear cX2_isTooDear 4 (some .boolean) : Cond) ∈ lw_gt := gt_of (List.mem_of_getElem? (i := 1071) rfl) (by rfl)
set_option maxRecDepth 100000 in
theorem gw_1064 : (.methodLink RX2 69 yX2_nextBelow : Cond) ∈ lw_gt := gt_of (List.mem_of_getElem? (i := 1064) (by decide +kernel)) (by rfl)
set_option maxRecDepth 100000 in
theorem gw_1066 : (.instanceMethod yX2_nextBelow : Cond) ∈ lw_gt := gt_of (List.mem_of_getElem? (i := 1066) (by decide +kernel)) (by rfl)
set_option maxRecDepth 100000 in
theorem gw_57 : (.selects RX2 yX2_nextBelow yX2_nextBelow : Cond) ∈ lw_gt := gt_of (List.mem_of_getElem? (i := 57) (by decide +kernel)) (by rfl)
set_option maxRecDepth 100000 in
theorem gw_1067 : (.code yX2_nextBelow cX2_nextBelow 6 (some .int) : Cond) ∈ lw_gt := gt_of (List.mem_of_getElem? (i := 1067) rfl) (by rfl)
set_option maxRecDepth 100000 in
theorem gw_1077 : (.methodLink RX2 111 yX2_nameOfMark : Cond) ∈ lw_gt := gt_of (List.mem_of_getElem? (i := 1077) (by decide +kernel)) (by rfl)
set_option maxRecDepth 100000 in
theorem gw_1078 : (.static yX2_nameOfMark : Cond) ∈ lw_gt := gt_of (List.mem_of_getElem? (i := 1078) (by decide +kernel)) (by rfl)
set_option maxRecDepth 100000 in
theorem gw_1079 : (.code yX2_nameOfMark cX2_nameOfMark 1 (some .int) : Cond) ∈ lw_gt := gt_of (List.mem_of_getElem? (i := 1079) rfl) (by rfl)
set_option maxRecDepth 100000 in
theorem gw_1073 : (.methodLink RX2 78 yX2_nameHeld : Cond) ∈ lw_gt := gt_of (List.mem_of_getElem? (i := 1073) (by decide +kernel)) (by rfl)
set_option maxRecDepth 100000 in
theorem gw_1075 : (.instanceMethod yX2_nameHeld : Cond) ∈ lw_gt := gt_of (List.mem_of_getElem? (i := 1075) (by decide +kernel)) (by rfl)
set_option maxRecDepth 100000 in
theorem gw_59 : (.selects RX2 yX2_nameHeld yX2_nameHeld : Cond) ∈ lw_gt := gt_of (List.mem_of_getElem? (i := 59) (by decide +kernel)) (by rfl)
set_option maxRecDepth 100000 in
theorem gw_1076 : (.code yX2_nameHeld cX2_nameHeld 2 none : Cond) ∈ lw_gt := gt_of (List.mem_of_getElem? (i := 1076) rfl) (by rfl)
set_option maxRecDepth 100000 in
theorem gw_1037 : (.methodLink RX10 225 yX2_search : Cond) ∈ lw_gt := gt_of (List.mem_of_getElem? (i := 1037) (by decide +kernel)) (by rfl)
set_option maxRecDepth 100000 in
theorem gw_1038 : (.instanceMethod yX2_search : Cond) ∈ lw_gt := gt_of (List.mem_of_getElem? (i := 1038) (by decide +kernel)) (by rfl)
set_option maxRecDepth 100000 in
theorem gw_1039 : (.selects RX2 yX2_search yX2_search : Cond) ∈ lw_gt := gt_of (List.mem_of_getElem? (i := 1039) (by decide +kernel)) (by rfl)
set_option maxRecDepth 100000 in
theorem gw_1040 : (.code yX2_search cX2_search 3 none : Cond) ∈ lw_gt := gt_of (List.mem_of_getElem? (i := 1040) rfl) (by rfl)
set_option maxRecDepth 100000 in
theorem gw_634 : (.methodLink RX4 37 yX3_clear : Cond) ∈ lw_gt := gt_of (List.mem_of_getElem? (i := 634) (by decide +kernel)) (by rfl)
set_option maxRecDepth 100000 in
theorem gw_635 : (.instanceMethod yX3_clear : Cond) ∈ lw_gt := gt_of (List.mem_of_getElem? (i := 635) (by decide +kernel)) (by rfl)
set_option maxRecDepth 100000 in
theorem gw_636 : (.selects RX3 yX3_clear yX3_clear : Cond) ∈ lw_gt := gt_of (List.mem_of_getElem? (i := 636) (by decide +kernel)) (by rfl)
set_option maxRecDepth 100000 in
theorem gw_637 : (.code yX3_clear cX3_clear 1 none : Cond) ∈ lw_gt := gt_of (List.mem_of_getElem? (i := 637) rfl) (by rfl)
set_option maxRecDepth 100000 in
theorem gw_670 : (.methodLink RX4 91 yX3_addRoutine : Cond) ∈ lw_gt := gt_of (List.mem_of_getElem? (i := 670) (by decide +kernel)) (by rfl)
set_option maxRecDepth 100000 in
theorem gw_671 : (.instanceMethod yX3_addRoutine : Cond) ∈ lw_gt := gt_of (List.mem_of_getElem? (i := 671) (by decide +kernel)) (by rfl)
set_option maxRecDepth 100000 in
theorem gw_672 : (.selects RX3 yX3_addRoutine yX3_addRoutine : Cond) ∈ lw_gt := gt_of (List.mem_of_getElem? (i := 672) (by decide +kernel)) (by rfl)
set_option maxRecDepth 100000 in
theorem gw_673 : (.code yX3_addRoutine cX3_addRoutine 2 none : Cond) ∈ lw_gt := gt_of (List.mem_of_getElem? (i := 673) rfl) (by rfl)
set_option maxRecDepth 100000 in
theorem gw_690 : (.methodLink RX4 104 yX3_addParameter : Cond) ∈ lw_gt := gt_of (List.mem_of_getElem? (i := 690) (by decide +kernel)) (by rfl)
set_option maxRecDepth 100000 in
theorem gw_691 : (.instanceMethod yX3_addParameter : Cond) ∈ lw_gt := gt_of (List.mem_of_getElem? (i := 691) (by decide +kernel)) (by rfl)
set_option maxRecDepth 100000 in
theorem gw_692 : (.selects RX3 yX3_addParameter yX3_addParameter : Cond) ∈ lw_gt := gt_of (List.mem_of_getElem? (i := 692) (by decide +kernel)) (by rfl)
set_option maxRecDepth 100000 in
theorem gw_693 : (.code yX3_addParameter cX3_addParameter 4 none : Cond) ∈ lw_gt := gt_of (List.mem_of_getElem? (i := 693) rfl) (by rfl)
set_option maxRecDepth 100000 in
theorem gw_679 : (.methodLink RX4 101 yX3_hasParameter : Cond) ∈ lw_gt := gt_of (List.mem_of_getElem? (i := 679) (by decide +kernel)) (by rfl)
set_option maxRecDepth 100000 in
theorem gw_680 : (.instanceMethod yX3_hasParameter : Cond) ∈ lw_gt := gt_of (List.mem_of_getElem? (i := 680) (by decide +kernel)) (by rfl)
set_option maxRecDepth 100000 in
theorem gw_681 : (.selects RX3 yX3_hasParameter yX3_hasParameter : Cond) ∈ lw_gt := gt_of (List.mem_of_getElem? (i := 681) (by decide +kernel)) (by rfl)
set_option maxRecDepth 100000 in
theorem gw_682 : (.code yX3_hasParameter cX3_hasParameter 4 (some .boolean) : Cond) ∈ lw_gt := gt_of (List.mem_of_getElem? (i := 682) rfl) (by rfl)
set_option maxRecDepth 100000 in
theorem gw_729 : (.methodLink RX4 159 yX3_addUse : Cond) ∈ lw_gt := gt_of (List.mem_of_getElem? (i := 729) (by decide +kernel)) (by rfl)
set_option maxRecDepth 100000 in
theorem gw_730 : (.instanceMethod yX3_addUse : Cond) ∈ lw_gt := gt_of (List.mem_of_getElem? (i := 730) (by decide +kernel)) (by rfl)
set_option maxRecDepth 100000 in
theorem gw_731 : (.selects RX3 yX3_addUse yX3_addUse : Cond) ∈ lw_gt := gt_of (List.mem_of_getElem? (i := 731) (by decide +kernel)) (by rfl)
set_option maxRecDepth 100000 in
theorem gw_732 : (.code yX3_addUse cX3_addUse 5 (some .int) : Cond) ∈ lw_gt := gt_of (List.mem_of_getElem? (i := 732) rfl) (by rfl)
set_option maxRecDepth 100000 in
theorem gw_770 : (.methodLink RX4 166 yX3_addTest : Cond) ∈ lw_gt := gt_of (List.mem_of_getElem? (i := 770) (by decide +kernel)) (by rfl)
set_option maxRecDepth 100000 in
theorem gw_771 : (.instanceMethod yX3_addTest : Cond) ∈ lw_gt := gt_of (List.mem_of_getElem? (i := 771) (by decide +kernel)) (by rfl)
set_option maxRecDepth 100000 in
theorem gw_772 : (.selects RX3 yX3_addTest yX3_addTest : Cond) ∈ lw_gt := gt_of (List.mem_of_getElem? (i := 772) (by decide +kernel)) (by rfl)
set_option maxRecDepth 100000 in
theorem gw_773 : (.code yX3_addTest cX3_addTest 4 (some .int) : Cond) ∈ lw_gt := gt_of (List.mem_of_getElem? (i := 773) rfl) (by rfl)
set_option maxRecDepth 100000 in
theorem gw_642 : (.methodLink RX4 68 yX8_kindAt : Cond) ∈ lw_gt := gt_of (List.mem_of_getElem? (i := 642) (by decide +kernel)) (by rfl)
set_option maxRecDepth 100000 in
theorem gw_643 : (.instanceMethod yX8_kindAt : Cond) ∈ lw_gt := gt_of (List.mem_of_getElem? (i := 643) (by decide +kernel)) (by rfl)
set_option maxRecDepth 100000 in
theorem gw_644 : (.selects RX8 yX8_kindAt yX8_kindAt : Cond) ∈ lw_gt := gt_of (List.mem_of_getElem? (i := 644) (by decide +kernel)) (by rfl)
set_option maxRecDepth 100000 in
theorem gw_108 : (.initialized RX8 : Cond) ∈ lw_gt := gt_of (List.mem_of_getElem? (i := 108) (by decide +kernel)) (by rfl)
set_option maxRecDepth 100000 in
theorem gw_645 : (.code yX8_kindAt cX8_kindAt 2 (some .int) : Cond) ∈ lw_gt := gt_of (List.mem_of_getElem? (i := 645) rfl) (by rfl)
set_option maxRecDepth 100000 in
theorem gw_638 : (.methodLink RX4 51 yX4_seen : Cond) ∈ lw_gt := gt_of (List.mem_of_getElem? (i := 638) (by decide +kernel)) (by rfl)
set_option maxRecDepth 100000 in
theorem gw_640 : (.instanceMethod yX4_seen : Cond) ∈ lw_gt := gt_of (List.mem_of_getElem? (i := 640) (by decide +kernel)) (by rfl)
set_option maxRecDepth 100000 in
theorem gw_3 : (.selects RX4 yX4_seen yX4_seen : Cond) ∈ lw_gt := gt_of (List.mem_of_getElem? (i := 3) (by decide +kernel)) (by rfl)
set_option maxRecDepth 100000 in
theorem gw_111 : (.initialized RX4 : Cond) ∈ lw_gt := gt_of (List.mem_of_getElem? (i := 111) (by decide +kernel)) (by rfl)
set_option maxRecDepth 100000 in
theorem gw_641 : (.code yX4_seen cX4_seen 2 (some .boolean) : Cond) ∈ lw_gt := gt_of (List.mem_of_getElem? (i := 641) rfl) (by rfl)
set_option maxRecDepth 100000 in
theorem gw_654 : (.methodLink RX4 72 yX8_placeAt : Cond) ∈ lw_gt := gt_of (List.mem_of_getElem? (i := 654) (by decide +kernel)) (by rfl)
set_option maxRecDepth 100000 in
theorem gw_655 : (.instanceMethod yX8_placeAt : Cond) ∈ lw_gt := gt_of (List.mem_of_getElem? (i := 655) (by decide +kernel)) (by rfl)
set_option maxRecDepth 100000 in
theorem gw_656 : (.selects RX8 yX8_placeAt yX8_placeAt : Cond) ∈ lw_gt := gt_of (List.mem_of_getElem? (i := 656) (by decide +kernel)) (by rfl)
set_option maxRecDepth 100000 in
theorem gw_657 : (.code yX8_placeAt cX8_placeAt 2 (some .int) : Cond) ∈ lw_gt := gt_of (List.mem_of_getElem? (i := 657) rfl) (by rfl)
set_option maxRecDepth 100000 in
theorem gw_658 : (.methodLink RX4 75 yX4_refuse : Cond) ∈ lw_gt := gt_of (List.mem_of_getElem? (i := 658) (by decide +kernel)) (by rfl)
set_option maxRecDepth 100000 in
theorem gw_660 : (.instanceMethod yX4_refuse : Cond) ∈ lw_gt := gt_of (List.mem_of_getElem? (i := 660) (by decide +kernel)) (by rfl)
set_option maxRecDepth 100000 in
theorem gw_6 : (.selects RX4 yX4_refuse yX4_refuse : Cond) ∈ lw_gt := gt_of (List.mem_of_getElem? (i := 6) (by decide +kernel)) (by rfl)
set_option maxRecDepth 100000 in
theorem gw_661 : (.code yX4_refuse cX4_refuse 3 (some .boolean) : Cond) ∈ lw_gt := gt_of (List.mem_of_getElem? (i := 661) rfl) (by rfl)
set_option maxRecDepth 100000 in
theorem gw_650 : (.methodLink RX4 79 yX4_take : Cond) ∈ lw_gt := gt_of (List.mem_of_getElem? (i := 650) (by decide +kernel)) (by rfl)
set_option maxRecDepth 100000 in
theorem gw_652 : (.instanceMethod yX4_take : Cond) ∈ lw_gt := gt_of (List.mem_of_getElem? (i := 652) (by decide +kernel)) (by rfl)
set_option maxRecDepth 100000 in
theorem gw_5 : (.selects RX4 yX4_take yX4_take : Cond) ∈ lw_gt := gt_of (List.mem_of_getElem? (i := 5) (by decide +kernel)) (by rfl)
set_option maxRecDepth 100000 in
theorem gw_653 : (.code yX4_take cX4_take 2 (some .boolean) : Cond) ∈ lw_gt := gt_of (List.mem_of_getElem? (i := 653) rfl) (by rfl)
set_option maxRecDepth 100000 in
theorem gw_662 : (.methodLink RX4 82 yX8_letterAt : Cond) ∈ lw_gt := gt_of (List.mem_of_getElem? (i := 662) (by decide +kernel)) (by rfl)
set_option maxRecDepth 100000 in
theorem gw_663 : (.instanceMethod yX8_letterAt : Cond) ∈ lw_gt := gt_of (List.mem_of_getElem? (i := 663) (by decide +kernel)) (by rfl)
set_option maxRecDepth 100000 in
theorem gw_664 : (.selects RX8 yX8_letterAt yX8_letterAt : Cond) ∈ lw_gt := gt_of (List.mem_of_getElem? (i := 664) (by decide +kernel)) (by rfl)
set_option maxRecDepth 100000 in
theorem gw_665 : (.code yX8_letterAt cX8_letterAt 2 (some .int) : Cond) ∈ lw_gt := gt_of (List.mem_of_getElem? (i := 665) rfl) (by rfl)
set_option maxRecDepth 100000 in
theorem gw_675 : (.methodLink RX4 95 yX4_readParameters : Cond) ∈ lw_gt := gt_of (List.mem_of_getElem? (i := 675) (by decide +kernel)) (by rfl)
set_option maxRecDepth 100000 in
theorem gw_677 : (.instanceMethod yX4_readParameters : Cond) ∈ lw_gt := gt_of (List.mem_of_getElem? (i := 677) (by decide +kernel)) (by rfl)
set_option maxRecDepth 100000 in
theorem gw_7 : (.selects RX4 yX4_readParameters yX4_readParameters : Cond) ∈ lw_gt := gt_of (List.mem_of_getElem? (i := 7) (by decide +kernel)) (by rfl)
set_option maxRecDepth 100000 in
theorem gw_678 : (.code yX4_readParameters cX4_readParameters 4 (some .boolean) : Cond) ∈ lw_gt := gt_of (List.mem_of_getElem? (i := 678) rfl) (by rfl)
set_option maxRecDepth 100000 in
theorem gw_694 : (.methodLink RX4 98 yX4_openBlock : Cond) ∈ lw_gt := gt_of (List.mem_of_getElem? (i := 694) (by decide +kernel)) (by rfl)
set_option maxRecDepth 100000 in
theorem gw_696 : (.instanceMethod yX4_openBlock : Cond) ∈ lw_gt := gt_of (List.mem_of_getElem? (i := 696) (by decide +kernel)) (by rfl)
set_option maxRecDepth 100000 in
theorem gw_8 : (.selects RX4 yX4_openBlock yX4_openBlock : Cond) ∈ lw_gt := gt_of (List.mem_of_getElem? (i := 8) (by decide +kernel)) (by rfl)
set_option maxRecDepth 100000 in
theorem gw_697 : (.code yX4_openBlock cX4_openBlock 4 (some .boolean) : Cond) ∈ lw_gt := gt_of (List.mem_of_getElem? (i := 697) rfl) (by rfl)
set_option maxRecDepth 100000 in
theorem gw_646 : (.methodLink RX4 55 yX4_readHead : Cond) ∈ lw_gt := gt_of (List.mem_of_getElem? (i := 646) (by decide +kernel)) (by rfl)
set_option maxRecDepth 100000 in
theorem gw_648 : (.instanceMethod yX4_readHead : Cond) ∈ lw_gt := gt_of (List.mem_of_getElem? (i := 648) (by decide +kernel)) (by rfl)
set_option maxRecDepth 100000 in
theorem gw_4 : (.selects RX4 yX4_readHead yX4_readHead : Cond) ∈ lw_gt := gt_of (List.mem_of_getElem? (i := 4) (by decide +kernel)) (by rfl)
set_option maxRecDepth 100000 in
theorem gw_649 : (.code yX4_readHead cX4_readHead 2 (some .boolean) : Cond) ∈ lw_gt := gt_of (List.mem_of_getElem? (i := 649) rfl) (by rfl)
set_option maxRecDepth 100000 in
theorem gw_713 : (.methodLink RX4 131 yX4_closeIf : Cond) ∈ lw_gt := gt_of (List.mem_of_getElem? (i := 713) (by decide +kernel)) (by rfl)
set_option maxRecDepth 100000 in
theorem gw_715 : (.instanceMethod yX4_closeIf : Cond) ∈ lw_gt := gt_of (List.mem_of_getElem? (i := 715) (by decide +kernel)) (by rfl)
set_option maxRecDepth 100000 in
theorem gw_10 : (.selects RX4 yX4_closeIf yX4_closeIf : Cond) ∈ lw_gt := gt_of (List.mem_of_getElem? (i := 10) (by decide +kernel)) (by rfl)
set_option maxRecDepth 100000 in
theorem gw_716 : (.code yX4_closeIf cX4_closeIf 3 none : Cond) ∈ lw_gt := gt_of (List.mem_of_getElem? (i := 716) rfl) (by rfl)
set_option maxRecDepth 100000 in
theorem gw_699 : (.methodLink RX4 59 yX4_closeBlock : Cond) ∈ lw_gt := gt_of (List.mem_of_getElem? (i := 699) (by decide +kernel)) (by rfl)
set_option maxRecDepth 100000 in
theorem gw_701 : (.instanceMethod yX4_closeBlock : Cond) ∈ lw_gt := gt_of (List.mem_of_getElem? (i := 701) (by decide +kernel)) (by rfl)
set_option maxRecDepth 100000 in
theorem gw_9 : (.selects RX4 yX4_closeBlock yX4_closeBlock : Cond) ∈ lw_gt := gt_of (List.mem_of_getElem? (i := 9) (by decide +kernel)) (by rfl)
set_option maxRecDepth 100000 in
theorem gw_702 : (.code yX4_closeBlock cX4_closeBlock 2 none : Cond) ∈ lw_gt := gt_of (List.mem_of_getElem? (i := 702) rfl) (by rfl)
set_option maxRecDepth 100000 in
theorem gw_725 : (.methodLink RX4 146 yX4_readUse : Cond) ∈ lw_gt := gt_of (List.mem_of_getElem? (i := 725) (by decide +kernel)) (by rfl)
set_option maxRecDepth 100000 in
theorem gw_727 : (.instanceMethod yX4_readUse : Cond) ∈ lw_gt := gt_of (List.mem_of_getElem? (i := 727) (by decide +kernel)) (by rfl)
set_option maxRecDepth 100000 in
theorem gw_13 : (.selects RX4 yX4_readUse yX4_readUse : Cond) ∈ lw_gt := gt_of (List.mem_of_getElem? (i := 13) (by decide +kernel)) (by rfl)
set_option maxRecDepth 100000 in
theorem gw_728 : (.code yX4_readUse cX4_readUse 4 (some .boolean) : Cond) ∈ lw_gt := gt_of (List.mem_of_getElem? (i := 728) rfl) (by rfl)
set_option maxRecDepth 100000 in
theorem gw_733 : (.methodLink RX4 150 yX4_readField : Cond) ∈ lw_gt := gt_of (List.mem_of_getElem? (i := 733) (by decide +kernel)) (by rfl)
set_option maxRecDepth 100000 in
theorem gw_735 : (.instanceMethod yX4_readField : Cond) ∈ lw_gt := gt_of (List.mem_of_getElem? (i := 735) (by decide +kernel)) (by rfl)
set_option maxRecDepth 100000 in
theorem gw_14 : (.selects RX4 yX4_readField yX4_readField : Cond) ∈ lw_gt := gt_of (List.mem_of_getElem? (i := 14) (by decide +kernel)) (by rfl)
set_option maxRecDepth 100000 in
theorem gw_736 : (.code yX4_readField cX4_readField 4 (some .boolean) : Cond) ∈ lw_gt := gt_of (List.mem_of_getElem? (i := 736) rfl) (by rfl)
set_option maxRecDepth 100000 in
theorem gw_741 : (.methodLink RX4 172 yX4_readName : Cond) ∈ lw_gt := gt_of (List.mem_of_getElem? (i := 741) (by decide +kernel)) (by rfl)
set_option maxRecDepth 100000 in
theorem gw_743 : (.instanceMethod yX4_readName : Cond) ∈ lw_gt := gt_of (List.mem_of_getElem? (i := 743) (by decide +kernel)) (by rfl)
set_option maxRecDepth 100000 in
theorem gw_16 : (.selects RX4 yX4_readName yX4_readName : Cond) ∈ lw_gt := gt_of (List.mem_of_getElem? (i := 16) (by decide +kernel)) (by rfl)
set_option maxRecDepth 100000 in
theorem gw_744 : (.code yX4_readName cX4_readName 3 (some .boolean) : Cond) ∈ lw_gt := gt_of (List.mem_of_getElem? (i := 744) rfl) (by rfl)
set_option maxRecDepth 100000 in
theorem gw_745 : (.methodLink RX4 175 yX4_readNameOrField : Cond) ∈ lw_gt := gt_of (List.mem_of_getElem? (i := 745) (by decide +kernel)) (by rfl)
set_option maxRecDepth 100000 in
theorem gw_747 : (.instanceMethod yX4_readNameOrField : Cond) ∈ lw_gt := gt_of (List.mem_of_getElem? (i := 747) (by decide +kernel)) (by rfl)
set_option maxRecDepth 100000 in
theorem gw_17 : (.selects RX4 yX4_readNameOrField yX4_readNameOrField : Cond) ∈ lw_gt := gt_of (List.mem_of_getElem? (i := 17) (by decide +kernel)) (by rfl)
set_option maxRecDepth 100000 in
theorem gw_748 : (.code yX4_readNameOrField cX4_readNameOrField 3 (some .boolean) : Cond) ∈ lw_gt := gt_of (List.mem_of_getElem? (i := 748) rfl) (by rfl)
set_option maxRecDepth 100000 in
theorem gw_749 : (.methodLink RX4 137 yX4_readCall : Cond) ∈ lw_gt := gt_of (List.mem_of_getElem? (i := 749) (by decide +kernel)) (by rfl)
set_option maxRecDepth 100000 in
theorem gw_751 : (.instanceMethod yX4_readCall : Cond) ∈ lw_gt := gt_of (List.mem_of_getElem? (i := 751) (by decide +kernel)) (by rfl)
set_option maxRecDepth 100000 in
theorem gw_18 : (.selects RX4 yX4_readCall yX4_readCall : Cond) ∈ lw_gt := gt_of (List.mem_of_getElem? (i := 18) (by decide +kernel)) (by rfl)
set_option maxRecDepth 100000 in
theorem gw_752 : (.code yX4_readCall cX4_readCall 4 (some .boolean) : Cond) ∈ lw_gt := gt_of (List.mem_of_getElem? (i := 752) rfl) (by rfl)
set_option maxRecDepth 100000 in
theorem gw_737 : (.methodLink RX4 153 yX4_readValue : Cond) ∈ lw_gt := gt_of (List.mem_of_getElem? (i := 737) (by decide +kernel)) (by rfl)
set_option maxRecDepth 100000 in
theorem gw_739 : (.instanceMethod yX4_readValue : Cond) ∈ lw_gt := gt_of (List.mem_of_getElem? (i := 739) (by decide +kernel)) (by rfl)
set_option maxRecDepth 100000 in
theorem gw_15 : (.selects RX4 yX4_readValue yX4_readValue : Cond) ∈ lw_gt := gt_of (List.mem_of_getElem? (i := 15) (by decide +kernel)) (by rfl)
set_option maxRecDepth 100000 in
theorem gw_740 : (.code yX4_readValue cX4_readValue 2 (some .boolean) : Cond) ∈ lw_gt := gt_of (List.mem_of_getElem? (i := 740) rfl) (by rfl)
set_option maxRecDepth 100000 in
theorem gw_721 : (.methodLink RX4 134 yX4_readPut : Cond) ∈ lw_gt := gt_of (List.mem_of_getElem? (i := 721) (by decide +kernel)) (by rfl)
set_option maxRecDepth 100000 in
theorem gw_723 : (.instanceMethod yX4_readPut : Cond) ∈ lw_gt := gt_of (List.mem_of_getElem? (i := 723) (by decide +kernel)) (by rfl)
set_option maxRecDepth 100000 in
theorem gw_12 : (.selects RX4 yX4_readPut yX4_readPut : Cond) ∈ lw_gt := gt_of (List.mem_of_getElem? (i := 12) (by decide +kernel)) (by rfl)
set_option maxRecDepth 100000 in
theorem gw_724 : (.code yX4_readPut cX4_readPut 3 (some .boolean) : Cond) ∈ lw_gt := gt_of (List.mem_of_getElem? (i := 724) rfl) (by rfl)
set_option maxRecDepth 100000 in
theorem gw_762 : (.methodLink RX4 140 yX4_readReturn : Cond) ∈ lw_gt := gt_of (List.mem_of_getElem? (i := 762) (by decide +kernel)) (by rfl)
set_option maxRecDepth 100000 in
theorem gw_764 : (.instanceMethod yX4_readReturn : Cond) ∈ lw_gt := gt_of (List.mem_of_getElem? (i := 764) (by decide +kernel)) (by rfl)
set_option maxRecDepth 100000 in
theorem gw_19 : (.selects RX4 yX4_readReturn yX4_readReturn : Cond) ∈ lw_gt := gt_of (List.mem_of_getElem? (i := 19) (by decide +kernel)) (by rfl)
set_option maxRecDepth 100000 in
theorem gw_765 : (.code yX4_readReturn cX4_readReturn 2 (some .boolean) : Cond) ∈ lw_gt := gt_of (List.mem_of_getElem? (i := 765) rfl) (by rfl)
set_option maxRecDepth 100000 in
theorem gw_774 : (.methodLink RX4 169 yX4_readComparison : Cond) ∈ lw_gt := gt_of (List.mem_of_getElem? (i := 774) (by decide +kernel)) (by rfl)
set_option maxRecDepth 100000 in
theorem gw_776 : (.instanceMethod yX4_readComparison : Cond) ∈ lw_gt := gt_of (List.mem_of_getElem? (i := 776) (by decide +kernel)) (by rfl)
set_option maxRecDepth 100000 in
theorem gw_21 : (.selects RX4 yX4_readComparison yX4_readComparison : Cond) ∈ lw_gt := gt_of (List.mem_of_getElem? (i := 21) (by decide +kernel)) (by rfl)
set_option maxRecDepth 100000 in
theorem gw_777 : (.code yX4_readComparison cX4_readComparison 3 (some .boolean) : Cond) ∈ lw_gt := gt_of (List.mem_of_getElem? (i := 777) rfl) (by rfl)
set_option maxRecDepth 100000 in
theorem gw_766 : (.methodLink RX4 143 yX4_readBranch : Cond) ∈ lw_gt := gt_of (List.mem_of_getElem? (i := 766) (by decide +kernel)) (by rfl)
set_option maxRecDepth 100000 in
theorem gw_768 : (.instanceMethod yX4_readBranch : Cond) ∈ lw_gt := gt_of (List.mem_of_getElem? (i := 768) (by decide +kernel)) (by rfl)
set_option maxRecDepth 100000 in
theorem gw_20 : (.selects RX4 yX4_readBranch yX4_readBranch : Cond) ∈ lw_gt := gt_of (List.mem_of_getElem? (i := 20) (by decide +kernel)) (by rfl)
set_option maxRecDepth 100000 in
theorem gw_769 : (.code yX4_readBranch cX4_readBranch 5 (some .boolean) : Cond) ∈ lw_gt := gt_of (List.mem_of_getElem? (i := 769) rfl) (by rfl)
set_option maxRecDepth 100000 in
theorem gw_717 : (.methodLink RX4 62 yX4_readStatement : Cond) ∈ lw_gt := gt_of (List.mem_of_getElem? (i := 717) (by decide +kernel)) (by rfl)
set_option maxRecDepth 100000 in
theorem gw_719 : (.instanceMethod yX4_readStatement : Cond) ∈ lw_gt := gt_of (List.mem_of_getElem? (i := 719) (by decide +kernel)) (by rfl)
set_option maxRecDepth 100000 in
theorem gw_11 : (.selects RX4 yX4_readStatement yX4_readStatement : Cond) ∈ lw_gt := gt_of (List.mem_of_getElem? (i := 11) (by decide +kernel)) (by rfl)
set_option maxRecDepth 100000 in
theorem gw_720 : (.code yX4_readStatement cX4_readStatement 1 (some .boolean) : Cond) ∈ lw_gt := gt_of (List.mem_of_getElem? (i := 720) rfl) (by rfl)
set_option maxRecDepth 100000 in
theorem gw_778 : (.methodLink RX4 65 yX4_checkCalls : Cond) ∈ lw_gt := gt_of (List.mem_of_getElem? (i := 778) (by decide +kernel)) (by rfl)
set_option maxRecDepth 100000 in
theorem gw_780 : (.instanceMethod yX4_checkCalls : Cond) ∈ lw_gt := gt_of (List.mem_of_getElem? (i := 780) (by decide +kernel)) (by rfl)
set_option maxRecDepth 100000 in
theorem gw_22 : (.selects RX4 yX4_checkCalls yX4_checkCalls : Cond) ∈ lw_gt := gt_of (List.mem_of_getElem? (i := 22) (by decide +kernel)) (by rfl)
set_option maxRecDepth 100000 in
theorem gw_781 : (.code yX4_checkCalls cX4_checkCalls 3 none : Cond) ∈ lw_gt := gt_of (List.mem_of_getElem? (i := 781) rfl) (by rfl)
set_option maxRecDepth 100000 in
theorem gw_630 : (.methodLink RX10 98 yX4_readInto : Cond) ∈ lw_gt := gt_of (List.mem_of_getElem? (i := 630) (by decide +kernel)) (by rfl)
set_option maxRecDepth 100000 in
theorem gw_631 : (.instanceMethod yX4_readInto : Cond) ∈ lw_gt := gt_of (List.mem_of_getElem? (i := 631) (by decide +kernel)) (by rfl)
set_option maxRecDepth 100000 in
theorem gw_632 : (.selects RX4 yX4_readInto yX4_readInto : Cond) ∈ lw_gt := gt_of (List.mem_of_getElem? (i := 632) (by decide +kernel)) (by rfl)
set_option maxRecDepth 100000 in
theorem gw_633 : (.code yX4_readInto cX4_readInto 3 none : Cond) ∈ lw_gt := gt_of (List.mem_of_getElem? (i := 633) rfl) (by rfl)
set_option maxRecDepth 100000 in
theorem gw_933 : (.methodLink RX6 76 yX6_clearNames : Cond) ∈ lw_gt := gt_of (List.mem_of_getElem? (i := 933) (by decide +kernel)) (by rfl)
set_option maxRecDepth 100000 in
theorem gw_935 : (.instanceMethod yX6_clearNames : Cond) ∈ lw_gt := gt_of (List.mem_of_getElem? (i := 935) (by decide +kernel)) (by rfl)
set_option maxRecDepth 100000 in
theorem gw_37 : (.selects RX6 yX6_clearNames yX6_clearNames : Cond) ∈ lw_gt := gt_of (List.mem_of_getElem? (i := 37) (by decide +kernel)) (by rfl)
set_option maxRecDepth 100000 in
theorem gw_114 : (.initialized RX6 : Cond) ∈ lw_gt := gt_of (List.mem_of_getElem? (i := 114) (by decide +kernel)) (by rfl)
set_option maxRecDepth 100000 in
theorem gw_936 : (.code yX6_clearNames cX6_clearNames 2 none : Cond) ∈ lw_gt := gt_of (List.mem_of_getElem? (i := 936) rfl) (by rfl)
set_option maxRecDepth 100000 in
theorem gw_944 : (.methodLink RX6 139 yX6_make : Cond) ∈ lw_gt := gt_of (List.mem_of_getElem? (i := 944) (by decide +kernel)) (by rfl)
set_option maxRecDepth 100000 in
theorem gw_946 : (.instanceMethod yX6_make : Cond) ∈ lw_gt := gt_of (List.mem_of_getElem? (i := 946) (by decide +kernel)) (by rfl)
set_option maxRecDepth 100000 in
theorem gw_39 : (.selects RX6 yX6_make yX6_make : Cond) ∈ lw_gt := gt_of (List.mem_of_getElem? (i := 39) (by decide +kernel)) (by rfl)
set_option maxRecDepth 100000 in
theorem gw_947 : (.code yX6_make cX6_make 3 (some .int) : Cond) ∈ lw_gt := gt_of (List.mem_of_getElem? (i := 947) rfl) (by rfl)
set_option maxRecDepth 100000 in
theorem gw_940 : (.methodLink RX6 90 yX6_makeLoop : Cond) ∈ lw_gt := gt_of (List.mem_of_getElem? (i := 940) (by decide +kernel)) (by rfl)
set_option maxRecDepth 100000 in
theorem gw_942 : (.instanceMethod yX6_makeLoop : Cond) ∈ lw_gt := gt_of (List.mem_of_getElem? (i := 942) (by decide +kernel)) (by rfl)
set_option maxRecDepth 100000 in
theorem gw_38 : (.selects RX6 yX6_makeLoop yX6_makeLoop : Cond) ∈ lw_gt := gt_of (List.mem_of_getElem? (i := 38) (by decide +kernel)) (by rfl)
set_option maxRecDepth 100000 in
theorem gw_943 : (.code yX6_makeLoop cX6_makeLoop 1 (some .int) : Cond) ∈ lw_gt := gt_of (List.mem_of_getElem? (i := 943) rfl) (by rfl)
set_option maxRecDepth 100000 in
theorem gw_948 : (.methodLink RX6 93 yX6_setName : Cond) ∈ lw_gt := gt_of (List.mem_of_getElem? (i := 948) (by decide +kernel)) (by rfl)
set_option maxRecDepth 100000 in
theorem gw_950 : (.instanceMethod yX6_setName : Cond) ∈ lw_gt := gt_of (List.mem_of_getElem? (i := 950) (by decide +kernel)) (by rfl)
set_option maxRecDepth 100000 in
theorem gw_40 : (.selects RX6 yX6_setName yX6_setName : Cond) ∈ lw_gt := gt_of (List.mem_of_getElem? (i := 40) (by decide +kernel)) (by rfl)
set_option maxRecDepth 100000 in
theorem gw_951 : (.code yX6_setName cX6_setName 3 none : Cond) ∈ lw_gt := gt_of (List.mem_of_getElem? (i := 951) rfl) (by rfl)
set_option maxRecDepth 100000 in
theorem gw_929 : (.methodLink RX6 39 yX6_begin : Cond) ∈ lw_gt := gt_of (List.mem_of_getElem? (i := 929) (by decide +kernel)) (by rfl)
set_option maxRecDepth 100000 in
theorem gw_931 : (.instanceMethod yX6_begin : Cond) ∈ lw_gt := gt_of (List.mem_of_getElem? (i := 931) (by decide +kernel)) (by rfl)
set_option maxRecDepth 100000 in
theorem gw_36 : (.selects RX6 yX6_begin yX6_begin : Cond) ∈ lw_gt := gt_of (List.mem_of_getElem? (i := 36) (by decide +kernel)) (by rfl)
set_option maxRecDepth 100000 in
theorem gw_932 : (.code yX6_begin cX6_begin 5 none : Cond) ∈ lw_gt := gt_of (List.mem_of_getElem? (i := 932) rfl) (by rfl)
set_option maxRecDepth 100000 in
theorem gw_959 : (.methodLink RX6 113 yX6_leave : Cond) ∈ lw_gt := gt_of (List.mem_of_getElem? (i := 959) (by decide +kernel)) (by rfl)
set_option maxRecDepth 100000 in
theorem gw_961 : (.instanceMethod yX6_leave : Cond) ∈ lw_gt := gt_of (List.mem_of_getElem? (i := 961) (by decide +kernel)) (by rfl)
set_option maxRecDepth 100000 in
theorem gw_42 : (.selects RX6 yX6_leave yX6_leave : Cond) ∈ lw_gt := gt_of (List.mem_of_getElem? (i := 42) (by decide +kernel)) (by rfl)
set_option maxRecDepth 100000 in
theorem gw_962 : (.code yX6_leave cX6_leave 2 none : Cond) ∈ lw_gt := gt_of (List.mem_of_getElem? (i := 962) rfl) (by rfl)
set_option maxRecDepth 100000 in
theorem gw_963 : (.methodLink RX6 127 yX6_nameOf : Cond) ∈ lw_gt := gt_of (List.mem_of_getElem? (i := 963) (by decide +kernel)) (by rfl)
set_option maxRecDepth 100000 in
theorem gw_965 : (.instanceMethod yX6_nameOf : Cond) ∈ lw_gt := gt_of (List.mem_of_getElem? (i := 965) (by decide +kernel)) (by rfl)
set_option maxRecDepth 100000 in
theorem gw_43 : (.selects RX6 yX6_nameOf yX6_nameOf : Cond) ∈ lw_gt := gt_of (List.mem_of_getElem? (i := 43) (by decide +kernel)) (by rfl)
set_option maxRecDepth 100000 in
theorem gw_966 : (.code yX6_nameOf cX6_nameOf 2 (some .int) : Cond) ∈ lw_gt := gt_of (List.mem_of_getElem? (i := 966) rfl) (by rfl)
set_option maxRecDepth 100000 in
theorem gw_967 : (.methodLink RX6 148 yX6_store : Cond) ∈ lw_gt := gt_of (List.mem_of_getElem? (i := 967) (by decide +kernel)) (by rfl)
set_option maxRecDepth 100000 in
theorem gw_969 : (.instanceMethod yX6_store : Cond) ∈ lw_gt := gt_of (List.mem_of_getElem? (i := 969) (by decide +kernel)) (by rfl)
set_option maxRecDepth 100000 in
theorem gw_44 : (.selects RX6 yX6_store yX6_store : Cond) ∈ lw_gt := gt_of (List.mem_of_getElem? (i := 44) (by decide +kernel)) (by rfl)
set_option maxRecDepth 100000 in
theorem gw_970 : (.code yX6_store cX6_store 2 none : Cond) ∈ lw_gt := gt_of (List.mem_of_getElem? (i := 970) rfl) (by rfl)
set_option maxRecDepth 100000 in
theorem gw_954 : (.methodLink RX6 52 yX6_finish : Cond) ∈ lw_gt := gt_of (List.mem_of_getElem? (i := 954) (by decide +kernel)) (by rfl)
set_option maxRecDepth 100000 in
theorem gw_956 : (.instanceMethod yX6_finish : Cond) ∈ lw_gt := gt_of (List.mem_of_getElem? (i := 956) (by decide +kernel)) (by rfl)
set_option maxRecDepth 100000 in
theorem gw_41 : (.selects RX6 yX6_finish yX6_finish : Cond) ∈ lw_gt := gt_of (List.mem_of_getElem? (i := 41) (by decide +kernel)) (by rfl)
set_option maxRecDepth 100000 in
theorem gw_957 : (.code yX6_finish cX6_finish 3 none : Cond) ∈ lw_gt := gt_of (List.mem_of_getElem? (i := 957) rfl) (by rfl)
set_option maxRecDepth 100000 in
theorem gw_983 : (.methodLink RX6 131 yJ9_floorMod_7cf53 : Cond) ∈ lw_gt := gt_of (List.mem_of_getElem? (i := 983) (by decide +kernel)) (by rfl)
set_option maxRecDepth 100000 in
theorem gw_984 : (.static yJ9_floorMod_7cf53 : Cond) ∈ lw_gt := gt_of (List.mem_of_getElem? (i := 984) (by decide +kernel)) (by rfl)
set_option maxRecDepth 100000 in
theorem gw_985 : (.code yJ9_floorMod_7cf53 cJ9_floorMod_7cf53 3 (some .int) : Cond) ∈ lw_gt := gt_of (List.mem_of_getElem? (i := 985) rfl) (by rfl)
set_option maxRecDepth 100000 in
theorem gw_979 : (.methodLink RX6 124 yX6_choose : Cond) ∈ lw_gt := gt_of (List.mem_of_getElem? (i := 979) (by decide +kernel)) (by rfl)
set_option maxRecDepth 100000 in
theorem gw_981 : (.instanceMethod yX6_choose : Cond) ∈ lw_gt := gt_of (List.mem_of_getElem? (i := 981) (by decide +kernel)) (by rfl)
set_option maxRecDepth 100000 in
theorem gw_47 : (.selects RX6 yX6_choose yX6_choose : Cond) ∈ lw_gt := gt_of (List.mem_of_getElem? (i := 47) (by decide +kernel)) (by rfl)
set_option maxRecDepth 100000 in
theorem gw_982 : (.code yX6_choose cX6_choose 2 (some .boolean) : Cond) ∈ lw_gt := gt_of (List.mem_of_getElem? (i := 982) rfl) (by rfl)
set_option maxRecDepth 100000 in
theorem gw_975 : (.methodLink RX6 117 yX6_holds : Cond) ∈ lw_gt := gt_of (List.mem_of_getElem? (i := 975) (by decide +kernel)) (by rfl)
set_option maxRecDepth 100000 in
theorem gw_977 : (.instanceMethod yX6_holds : Cond) ∈ lw_gt := gt_of (List.mem_of_getElem? (i := 977) (by decide +kernel)) (by rfl)
set_option maxRecDepth 100000 in
theorem gw_46 : (.selects RX6 yX6_holds yX6_holds : Cond) ∈ lw_gt := gt_of (List.mem_of_getElem? (i := 46) (by decide +kernel)) (by rfl)
set_option maxRecDepth 100000 in
theorem gw_978 : (.code yX6_holds cX6_holds 3 (some .boolean) : Cond) ∈ lw_gt := gt_of (List.mem_of_getElem? (i := 978) rfl) (by rfl)
set_option maxRecDepth 100000 in
theorem gw_990 : (.methodLink RX6 142 yX6_fieldOf : Cond) ∈ lw_gt := gt_of (List.mem_of_getElem? (i := 990) (by decide +kernel)) (by rfl)
set_option maxRecDepth 100000 in
theorem gw_992 : (.instanceMethod yX6_fieldOf : Cond) ∈ lw_gt := gt_of (List.mem_of_getElem? (i := 992) (by decide +kernel)) (by rfl)
set_option maxRecDepth 100000 in
theorem gw_49 : (.selects RX6 yX6_fieldOf yX6_fieldOf : Cond) ∈ lw_gt := gt_of (List.mem_of_getElem? (i := 49) (by decide +kernel)) (by rfl)
set_option maxRecDepth 100000 in
theorem gw_993 : (.code yX6_fieldOf cX6_fieldOf 3 (some .int) : Cond) ∈ lw_gt := gt_of (List.mem_of_getElem? (i := 993) rfl) (by rfl)
set_option maxRecDepth 100000 in
theorem gw_994 : (.methodLink RX6 145 yX6_enter : Cond) ∈ lw_gt := gt_of (List.mem_of_getElem? (i := 994) (by decide +kernel)) (by rfl)
set_option maxRecDepth 100000 in
theorem gw_996 : (.instanceMethod yX6_enter : Cond) ∈ lw_gt := gt_of (List.mem_of_getElem? (i := 996) (by decide +kernel)) (by rfl)
set_option maxRecDepth 100000 in
theorem gw_50 : (.selects RX6 yX6_enter yX6_enter : Cond) ∈ lw_gt := gt_of (List.mem_of_getElem? (i := 50) (by decide +kernel)) (by rfl)
set_option maxRecDepth 100000 in
theorem gw_997 : (.code yX6_enter cX6_enter 5 none : Cond) ∈ lw_gt := gt_of (List.mem_of_getElem? (i := 997) rfl) (by rfl)
set_option maxRecDepth 100000 in
theorem gw_986 : (.methodLink RX6 121 yX6_work : Cond) ∈ lw_gt := gt_of (List.mem_of_getElem? (i := 986) (by decide +kernel)) (by rfl)
set_option maxRecDepth 100000 in
theorem gw_988 : (.instanceMethod yX6_work : Cond) ∈ lw_gt := gt_of (List.mem_of_getElem? (i := 988) (by decide +kernel)) (by rfl)
set_option maxRecDepth 100000 in
theorem gw_48 : (.selects RX6 yX6_work yX6_work : Cond) ∈ lw_gt := gt_of (List.mem_of_getElem? (i := 48) (by decide +kernel)) (by rfl)
set_option maxRecDepth 100000 in
theorem gw_989 : (.code yX6_work cX6_work 5 none : Cond) ∈ lw_gt := gt_of (List.mem_of_getElem? (i := 989) rfl) (by rfl)
set_option maxRecDepth 100000 in
theorem gw_971 : (.methodLink RX6 55 yX6_step : Cond) ∈ lw_gt := gt_of (List.mem_of_getElem? (i := 971) (by decide +kernel)) (by rfl)
set_option maxRecDepth 100000 in
theorem gw_973 : (.instanceMethod yX6_step : Cond) ∈ lw_gt := gt_of (List.mem_of_getElem? (i := 973) (by decide +kernel)) (by rfl)
set_option maxRecDepth 100000 in
theorem gw_45 : (.selects RX6 yX6_step yX6_step : Cond) ∈ lw_gt := gt_of (List.mem_of_getElem? (i := 45) (by decide +kernel)) (by rfl)
set_option maxRecDepth 100000 in
theorem gw_974 : (.code yX6_step cX6_step 2 none : Cond) ∈ lw_gt := gt_of (List.mem_of_getElem? (i := 974) rfl) (by rfl)
set_option maxRecDepth 100000 in
theorem gw_925 : (.methodLink RX10 194 yX6_go : Cond) ∈ lw_gt := gt_of (List.mem_of_getElem? (i := 925) (by decide +kernel)) (by rfl)
set_option maxRecDepth 100000 in
theorem gw_926 : (.instanceMethod yX6_go : Cond) ∈ lw_gt := gt_of (List.mem_of_getElem? (i := 926) (by decide +kernel)) (by rfl)
set_option maxRecDepth 100000 in
theorem gw_927 : (.selects RX6 yX6_go yX6_go : Cond) ∈ lw_gt := gt_of (List.mem_of_getElem? (i := 927) (by decide +kernel)) (by rfl)
set_option maxRecDepth 100000 in
theorem gw_928 : (.code yX6_go cX6_go 4 (some .int) : Cond) ∈ lw_gt := gt_of (List.mem_of_getElem? (i := 928) rfl) (by rfl)
set_option maxRecDepth 100000 in
theorem gw_1019 : (.methodLink RX9 52 yX6_go : Cond) ∈ lw_gt := gt_of (List.mem_of_getElem? (i := 1019) (by decide +kernel)) (by rfl)
set_option maxRecDepth 100000 in
theorem gw_787 : (.methodLink RX10 116 yX7_startAt : Cond) ∈ lw_gt := gt_of (List.mem_of_getElem? (i := 787) (by decide +kernel)) (by rfl)
set_option maxRecDepth 100000 in
theorem gw_788 : (.instanceMethod yX7_startAt : Cond) ∈ lw_gt := gt_of (List.mem_of_getElem? (i := 788) (by decide +kernel)) (by rfl)
set_option maxRecDepth 100000 in
theorem gw_789 : (.selects RX7 yX7_startAt yX7_startAt : Cond) ∈ lw_gt := gt_of (List.mem_of_getElem? (i := 789) (by decide +kernel)) (by rfl)
set_option maxRecDepth 100000 in
theorem gw_790 : (.code yX7_startAt cX7_startAt 2 none : Cond) ∈ lw_gt := gt_of (List.mem_of_getElem? (i := 790) rfl) (by rfl)
set_option maxRecDepth 100000 in
theorem gw_920 : (.methodLink RX10 191 yX7_allows : Cond) ∈ lw_gt := gt_of (List.mem_of_getElem? (i := 920) (by decide +kernel)) (by rfl)
set_option maxRecDepth 100000 in
theorem gw_921 : (.instanceMethod yX7_allows : Cond) ∈ lw_gt := gt_of (List.mem_of_getElem? (i := 921) (by decide +kernel)) (by rfl)
set_option maxRecDepth 100000 in
theorem gw_922 : (.selects RX7 yX7_allows yX7_allows : Cond) ∈ lw_gt := gt_of (List.mem_of_getElem? (i := 922) (by decide +kernel)) (by rfl)
set_option maxRecDepth 100000 in
theorem gw_923 : (.code yX7_allows cX7_allows 4 (some .boolean) : Cond) ∈ lw_gt := gt_of (List.mem_of_getElem? (i := 923) rfl) (by rfl)
set_option maxRecDepth 100000 in
theorem gw_1018 : (.methodLink RX9 46 yX7_allows : Cond) ∈ lw_gt := gt_of (List.mem_of_getElem? (i := 1018) (by decide +kernel)) (by rfl)
set_option maxRecDepth 100000 in
theorem gw_547 : (.methodLink RX8 28 yX8_isSmall : Cond) ∈ lw_gt := gt_of (List.mem_of_getElem? (i := 547) (by decide +kernel)) (by rfl)
set_option maxRecDepth 100000 in
theorem gw_548 : (.static yX8_isSmall : Cond) ∈ lw_gt := gt_of (List.mem_of_getElem? (i := 548) (by decide +kernel)) (by rfl)
set_option maxRecDepth 100000 in
theorem gw_549 : (.code yX8_isSmall cX8_isSmall 1 (some .boolean) : Cond) ∈ lw_gt := gt_of (List.mem_of_getElem? (i := 549) rfl) (by rfl)
set_option maxRecDepth 100000 in
theorem gw_550 : (.methodLink RX8 32 yX8_endOfWord : Cond) ∈ lw_gt := gt_of (List.mem_of_getElem? (i := 550) (by decide +kernel)) (by rfl)
set_option maxRecDepth 100000 in
theorem gw_552 : (.instanceMethod yX8_endOfWord : Cond) ∈ lw_gt := gt_of (List.mem_of_getElem? (i := 552) (by decide +kernel)) (by rfl)
set_option maxRecDepth 100000 in
theorem gw_1 : (.selects RX8 yX8_endOfWord yX8_endOfWord : Cond) ∈ lw_gt := gt_of (List.mem_of_getElem? (i := 1) (by decide +kernel)) (by rfl)
set_option maxRecDepth 100000 in
theorem gw_553 : (.code yX8_endOfWord cX8_endOfWord 4 (some .int) : Cond) ∈ lw_gt := gt_of (List.mem_of_getElem? (i := 553) rfl) (by rfl)
set_option maxRecDepth 100000 in
theorem gw_558 : (.methodLink RX8 59 yX8_spells : Cond) ∈ lw_gt := gt_of (List.mem_of_getElem? (i := 558) (by decide +kernel)) (by rfl)
set_option maxRecDepth 100000 in
theorem gw_559 : (.static yX8_spells : Cond) ∈ lw_gt := gt_of (List.mem_of_getElem? (i := 559) (by decide +kernel)) (by rfl)
set_option maxRecDepth 100000 in
theorem gw_560 : (.code yX8_spells cX8_spells 4 (some .boolean) : Cond) ∈ lw_gt := gt_of (List.mem_of_getElem? (i := 560) rfl) (by rfl)
set_option maxRecDepth 100000 in
theorem gw_554 : (.methodLink RX8 36 yX8_kindOfWord : Cond) ∈ lw_gt := gt_of (List.mem_of_getElem? (i := 554) (by decide +kernel)) (by rfl)
set_option maxRecDepth 100000 in
theorem gw_555 : (.static yX8_kindOfWord : Cond) ∈ lw_gt := gt_of (List.mem_of_getElem? (i := 555) (by decide +kernel)) (by rfl)
set_option maxRecDepth 100000 in
theorem gw_556 : (.code yX8_kindOfWord cX8_kindOfWord 3 (some .int) : Cond) ∈ lw_gt := gt_of (List.mem_of_getElem? (i := 556) rfl) (by rfl)
set_option maxRecDepth 100000 in
theorem gw_617 : (.methodLink RX8 40 yX8_add : Cond) ∈ lw_gt := gt_of (List.mem_of_getElem? (i := 617) (by decide +kernel)) (by rfl)
set_option maxRecDepth 100000 in
theorem gw_619 : (.instanceMethod yX8_add : Cond) ∈ lw_gt := gt_of (List.mem_of_getElem? (i := 619) (by decide +kernel)) (by rfl)
set_option maxRecDepth 100000 in
theorem gw_2 : (.selects RX8 yX8_add yX8_add : Cond) ∈ lw_gt := gt_of (List.mem_of_getElem? (i := 2) (by decide +kernel)) (by rfl)
set_option maxRecDepth 100000 in
theorem gw_620 : (.code yX8_add cX8_add 4 none : Cond) ∈ lw_gt := gt_of (List.mem_of_getElem? (i := 620) rfl) (by rfl)
set_option maxRecDepth 100000 in
theorem gw_627 : (.methodLink RX8 47 yX8_kindOfSign : Cond) ∈ lw_gt := gt_of (List.mem_of_getElem? (i := 627) (by decide +kernel)) (by rfl)
set_option maxRecDepth 100000 in
theorem gw_628 : (.static yX8_kindOfSign : Cond) ∈ lw_gt := gt_of (List.mem_of_getElem? (i := 628) (by decide +kernel)) (by rfl)
set_option maxRecDepth 100000 in
theorem gw_629 : (.code yX8_kindOfSign cX8_kindOfSign 1 (some .int) : Cond) ∈ lw_gt := gt_of (List.mem_of_getElem? (i := 629) rfl) (by rfl)
set_option maxRecDepth 100000 in
theorem gw_540 : (.methodLink RX10 94 yX8_scan : Cond) ∈ lw_gt := gt_of (List.mem_of_getElem? (i := 540) (by decide +kernel)) (by rfl)
set_option maxRecDepth 100000 in
theorem gw_541 : (.instanceMethod yX8_scan : Cond) ∈ lw_gt := gt_of (List.mem_of_getElem? (i := 541) (by decide +kernel)) (by rfl)
set_option maxRecDepth 100000 in
theorem gw_542 : (.selects RX8 yX8_scan yX8_scan : Cond) ∈ lw_gt := gt_of (List.mem_of_getElem? (i := 542) (by decide +kernel)) (by rfl)
set_option maxRecDepth 100000 in
theorem gw_543 : (.code yX8_scan cX8_scan 6 none : Cond) ∈ lw_gt := gt_of (List.mem_of_getElem? (i := 543) rfl) (by rfl)
set_option maxRecDepth 100000 in
theorem gw_1020 : (.methodLink RX9 58 yX9_noteFailure : Cond) ∈ lw_gt := gt_of (List.mem_of_getElem? (i := 1020) (by decide +kernel)) (by rfl)
set_option maxRecDepth 100000 in
theorem gw_1022 : (.instanceMethod yX9_noteFailure : Cond) ∈ lw_gt := gt_of (List.mem_of_getElem? (i := 1022) (by decide +kernel)) (by rfl)
set_option maxRecDepth 100000 in
theorem gw_51 : (.selects RX9 yX9_noteFailure yX9_noteFailure : Cond) ∈ lw_gt := gt_of (List.mem_of_getElem? (i := 51) (by decide +kernel)) (by rfl)
set_option maxRecDepth 100000 in
theorem gw_115 : (.initialized RX9 : Cond) ∈ lw_gt := gt_of (List.mem_of_getElem? (i := 115) (by decide +kernel)) (by rfl)
set_option maxRecDepth 100000 in
theorem gw_1023 : (.code yX9_noteFailure cX9_noteFailure 4 none : Cond) ∈ lw_gt := gt_of (List.mem_of_getElem? (i := 1023) rfl) (by rfl)
set_option maxRecDepth 100000 in
theorem gw_1025 : (.methodLink RX9 62 yX9_skipTheSame : Cond) ∈ lw_gt := gt_of (List.mem_of_getElem? (i := 1025) (by decide +kernel)) (by rfl)
set_option maxRecDepth 100000 in
theorem gw_1027 : (.instanceMethod yX9_skipTheSame : Cond) ∈ lw_gt := gt_of (List.mem_of_getElem? (i := 1027) (by decide +kernel)) (by rfl)
set_option maxRecDepth 100000 in
theorem gw_52 : (.selects RX9 yX9_skipTheSame yX9_skipTheSame : Cond) ∈ lw_gt := gt_of (List.mem_of_getElem? (i := 52) (by decide +kernel)) (by rfl)
set_option maxRecDepth 100000 in
theorem gw_1028 : (.code yX9_skipTheSame cX9_skipTheSame 4 none : Cond) ∈ lw_gt := gt_of (List.mem_of_getElem? (i := 1028) rfl) (by rfl)
set_option maxRecDepth 100000 in
theorem gw_1012 : (.methodLink RX10 213 yX9_fill : Cond) ∈ lw_gt := gt_of (List.mem_of_getElem? (i := 1012) (by decide +kernel)) (by rfl)
set_option maxRecDepth 100000 in
theorem gw_1013 : (.instanceMethod yX9_fill : Cond) ∈ lw_gt := gt_of (List.mem_of_getElem? (i := 1013) (by decide +kernel)) (by rfl)
set_option maxRecDepth 100000 in
theorem gw_1014 : (.selects RX9 yX9_fill yX9_fill : Cond) ∈ lw_gt := gt_of (List.mem_of_getElem? (i := 1014) (by decide +kernel)) (by rfl)
set_option maxRecDepth 100000 in
theorem gw_1015 : (.code yX9_fill cX9_fill 5 none : Cond) ∈ lw_gt := gt_of (List.mem_of_getElem? (i := 1015) rfl) (by rfl)
set_option maxRecDepth 100000 in
theorem gw_532 : (.methodLink RX10 90 yX10_putNumber : Cond) ∈ lw_gt := gt_of (List.mem_of_getElem? (i := 532) (by decide +kernel)) (by rfl)
set_option maxRecDepth 100000 in
theorem gw_534 : (.instanceMethod yX10_putNumber : Cond) ∈ lw_gt := gt_of (List.mem_of_getElem? (i := 534) (by decide +kernel)) (by rfl)
set_option maxRecDepth 100000 in
theorem gw_0 : (.selects RX10 yX10_putNumber yX10_putNumber : Cond) ∈ lw_gt := gt_of (List.mem_of_getElem? (i := 0) (by decide +kernel)) (by rfl)
set_option maxRecDepth 100000 in
theorem gw_107 : (.initialized RX10 : Cond) ∈ lw_gt := gt_of (List.mem_of_getElem? (i := 107) (by decide +kernel)) (by rfl)
set_option maxRecDepth 100000 in
theorem gw_535 : (.code yX10_putNumber cX10_putNumber 3 none : Cond) ∈ lw_gt := gt_of (List.mem_of_getElem? (i := 535) rfl) (by rfl)
set_option maxRecDepth 100000 in
theorem gw_794 : (.methodLink RX10 119 yX10_forget : Cond) ∈ lw_gt := gt_of (List.mem_of_getElem? (i := 794) (by decide +kernel)) (by rfl)
set_option maxRecDepth 100000 in
theorem gw_796 : (.instanceMethod yX10_forget : Cond) ∈ lw_gt := gt_of (List.mem_of_getElem? (i := 796) (by decide +kernel)) (by rfl)
set_option maxRecDepth 100000 in
theorem gw_23 : (.selects RX10 yX10_forget yX10_forget : Cond) ∈ lw_gt := gt_of (List.mem_of_getElem? (i := 23) (by decide +kernel)) (by rfl)
set_option maxRecDepth 100000 in
theorem gw_797 : (.code yX10_forget cX10_forget 1 none : Cond) ∈ lw_gt := gt_of (List.mem_of_getElem? (i := 797) rfl) (by rfl)
set_option maxRecDepth 100000 in
theorem gw_823 : (.methodLink RX10 142 yX10_markIndex : Cond) ∈ lw_gt := gt_of (List.mem_of_getElem? (i := 823) (by decide +kernel)) (by rfl)
set_option maxRecDepth 100000 in
theorem gw_825 : (.instanceMethod yX10_markIndex : Cond) ∈ lw_gt := gt_of (List.mem_of_getElem? (i := 825) (by decide +kernel)) (by rfl)
set_option maxRecDepth 100000 in
theorem gw_24 : (.selects RX10 yX10_markIndex yX10_markIndex : Cond) ∈ lw_gt := gt_of (List.mem_of_getElem? (i := 24) (by decide +kernel)) (by rfl)
set_option maxRecDepth 100000 in
theorem gw_826 : (.code yX10_markIndex cX10_markIndex 5 (some .int) : Cond) ∈ lw_gt := gt_of (List.mem_of_getElem? (i := 826) rfl) (by rfl)
set_option maxRecDepth 100000 in
theorem gw_906 : (.methodLink RX10 163 yX10_verdictOfUse : Cond) ∈ lw_gt := gt_of (List.mem_of_getElem? (i := 906) (by decide +kernel)) (by rfl)
set_option maxRecDepth 100000 in
theorem gw_907 : (.static yX10_verdictOfUse : Cond) ∈ lw_gt := gt_of (List.mem_of_getElem? (i := 907) (by decide +kernel)) (by rfl)
set_option maxRecDepth 100000 in
theorem gw_908 : (.code yX10_verdictOfUse cX10_verdictOfUse 1 (some .int) : Cond) ∈ lw_gt := gt_of (List.mem_of_getElem? (i := 908) rfl) (by rfl)
set_option maxRecDepth 100000 in
theorem gw_913 : (.methodLink RX10 182 yX10_verdictOfTest : Cond) ∈ lw_gt := gt_of (List.mem_of_getElem? (i := 913) (by decide +kernel)) (by rfl)
set_option maxRecDepth 100000 in
theorem gw_914 : (.static yX10_verdictOfTest : Cond) ∈ lw_gt := gt_of (List.mem_of_getElem? (i := 914) (by decide +kernel)) (by rfl)
set_option maxRecDepth 100000 in
theorem gw_915 : (.code yX10_verdictOfTest cX10_verdictOfTest 1 (some .int) : Cond) ∈ lw_gt := gt_of (List.mem_of_getElem? (i := 915) rfl) (by rfl)
set_option maxRecDepth 100000 in
theorem gw_1088 : (.methodLink RX10 243 yX10_usesOfFact : Cond) ∈ lw_gt := gt_of (List.mem_of_getElem? (i := 1088) (by decide +kernel)) (by rfl)
set_option maxRecDepth 100000 in
theorem gw_1090 : (.instanceMethod yX10_usesOfFact : Cond) ∈ lw_gt := gt_of (List.mem_of_getElem? (i := 1090) (by decide +kernel)) (by rfl)
set_option maxRecDepth 100000 in
theorem gw_60 : (.selects RX10 yX10_usesOfFact yX10_usesOfFact : Cond) ∈ lw_gt := gt_of (List.mem_of_getElem? (i := 60) (by decide +kernel)) (by rfl)
set_option maxRecDepth 100000 in
theorem gw_1091 : (.code yX10_usesOfFact cX10_usesOfFact 4 (some .int) : Cond) ∈ lw_gt := gt_of (List.mem_of_getElem? (i := 1091) rfl) (by rfl)
