def wsX0_init : List Cond := .code yX0_init cX0_init 1 none :: ([.methodLink RX0 5 objectInit, .instanceMethod objectInit, .code objectInit ⟨#[0xb1]⟩ 1 none, .arrayClass .int, .fieldLink RX0 11 "NothingJudge$Code" "cells" "[I"] ++ wsX00)
def wsX1_init : List Cond := .code yX1_init cX1_init 2 none :: ([.methodLink RX1 3 objectInit, .instanceMethod objectInit, .code objectInit ⟨#[0xb1]⟩ 1 none, .arrayClass .long, .fieldLink RX1 9 "NothingJudge$Facts" "state" "[J", .arrayClass .int, .fieldLink RX1 15 "NothingJudge$Facts" "seenAt" "[I", .fieldLink RX1 19 "NothingJudge$Facts" "marks" "[I", .fieldLink RX1 22 "NothingJudge$Facts" "used" "[I", .fieldLink RX1 25 "NothingJudge$Facts" "tested" "[I", .fieldLink RX1 28 "NothingJudge$Facts" "stale" "Z", .fieldLink RX1 32 "NothingJudge$Facts" "scene" "LNothingJudge$Scene;", .fieldLink RX1 36 "NothingJudge$Scene" "program" "LNothingJudge$Program;", .fieldLink RX1 42 "NothingJudge$Facts" "program" "LNothingJudge$Program;", .fieldLink RX1 43 "NothingJudge$Program" "code" "LNothingJudge$Code;", .fieldLink RX1 49 "NothingJudge$Facts" "code" "LNothingJudge$Code;"] ++ wsX10 ++ wsX70 ++ wsX30)
def wsX2_init : List Cond := .code yX2_init cX2_init 2 none :: ([.methodLink RX2 3 objectInit, .instanceMethod objectInit, .code objectInit ⟨#[0xb1]⟩ 1 none, .arrayClass .int, .fieldLink RX2 9 "NothingJudge$Mender" "prices" "[I", .fieldLink RX2 15 "NothingJudge$Mender" "candidates" "[I", .fieldLink RX2 18 "NothingJudge$Mender" "heldNames" "[I", .fieldLink RX2 21 "NothingJudge$Mender" "stale" "Z", .fieldLink RX2 25 "NothingJudge$Mender" "cost" "I", .fieldLink RX2 29 "NothingJudge$Mender" "facts" "LNothingJudge$Facts;"] ++ wsX20)
def wsX3_init : List Cond := .code yX3_init cX3_init 1 none :: ([.methodLink RX3 3 objectInit, .instanceMethod objectInit, .code objectInit ⟨#[0xb1]⟩ 1 none, .classLink RX3 9 RX0, .instantiable RX0 2, .initialized RX0, .fieldLink RX3 12 "NothingJudge$Program" "code" "LNothingJudge$Code;", .arrayClass .int, .fieldLink RX3 18 "NothingJudge$Program" "opening" "[I", .fieldLink RX3 22 "NothingJudge$Program" "arity" "[I", .fieldLink RX3 25 "NothingJudge$Program" "parameters" "[I", .fieldLink RX3 28 "NothingJudge$Program" "useOwner" "[I", .fieldLink RX3 31 "NothingJudge$Program" "usePlace" "[I", .fieldLink RX3 34 "NothingJudge$Program" "useName" "[I", .fieldLink RX3 37 "NothingJudge$Program" "testOwner" "[I", .fieldLink RX3 40 "NothingJudge$Program" "testPlace" "[I", .fieldLink RX3 43 "NothingJudge$Program" "first" "I", .instanceMethod yX0_init, .code yX0_init cX0_init 1 none, .methodLink RX0 5 objectInit, .fieldLink RX0 11 "NothingJudge$Code" "cells" "[I"] ++ wsX00 ++ wsX30)
def wsX4_init : List Cond := .code yX4_init cX4_init 3 none :: ([.methodLink RX4 3 objectInit, .instanceMethod objectInit, .code objectInit ⟨#[0xb1]⟩ 1 none, .arrayClass .int, .fieldLink RX4 9 "NothingJudge$Reader" "openKind" "[I", .fieldLink RX4 15 "NothingJudge$Reader" "openAt" "[I", .fieldLink RX4 18 "NothingJudge$Reader" "wrongPlace" "I", .fieldLink RX4 22 "NothingJudge$Reader" "tokens" "LNothingJudge$Tokens;", .fieldLink RX4 26 "NothingJudge$Reader" "program" "LNothingJudge$Program;", .fieldLink RX4 30 "NothingJudge$Program" "code" "LNothingJudge$Code;", .fieldLink RX4 36 "NothingJudge$Reader" "code" "LNothingJudge$Code;"] ++ wsX40 ++ wsX30)
def wsX6_init : List Cond := .code yX6_init cX6_init 2 none :: ([.methodLink RX6 3 objectInit, .instanceMethod objectInit, .code objectInit ⟨#[0xb1]⟩ 1 none, .arrayClass .int, .fieldLink RX6 11 "NothingJudge$Runner" "names" "[I", .fieldLink RX6 15 "NothingJudge$Runner" "back" "[I", .fieldLink RX6 18 "NothingJudge$Runner" "fields" "[I", .fieldLink RX6 21 "NothingJudge$Runner" "scene" "LNothingJudge$Scene;", .fieldLink RX6 25 "NothingJudge$Scene" "program" "LNothingJudge$Program;", .fieldLink RX6 31 "NothingJudge$Runner" "program" "LNothingJudge$Program;", .fieldLink RX6 32 "NothingJudge$Program" "code" "LNothingJudge$Code;", .fieldLink RX6 38 "NothingJudge$Runner" "code" "LNothingJudge$Code;"] ++ wsX60 ++ wsX70 ++ wsX30)
def wsX7_init : List Cond := .code yX7_init cX7_init 2 none :: ([.methodLink RX7 3 objectInit, .instanceMethod objectInit, .code objectInit ⟨#[0xb1]⟩ 1 none, .fieldLink RX7 9 "NothingJudge$Scene" "start" "I", .arrayClass .int, .fieldLink RX7 15 "NothingJudge$Scene" "told" "[I", .fieldLink RX7 19 "NothingJudge$Scene" "program" "LNothingJudge$Program;"] ++ wsX70)
def wsX8_init : List Cond := .code yX8_init cX8_init 1 none :: ([.methodLink RX8 3 objectInit, .instanceMethod objectInit, .code objectInit ⟨#[0xb1]⟩ 1 none, .arrayClass .int, .fieldLink RX8 9 "NothingJudge$Tokens" "packed" "[I"] ++ wsX80)
def wsX9_init : List Cond := .code yX9_init cX9_init 3 none :: ([.methodLink RX9 3 objectInit, .instanceMethod objectInit, .code objectInit ⟨#[0xb1]⟩ 1 none, .arrayClass .int, .fieldLink RX9 9 "NothingJudge$Trials" "first" "[I", .fieldLink RX9 15 "NothingJudge$Trials" "knownFor" "[I", .fieldLink RX9 18 "NothingJudge$Trials" "stale" "Z", .fieldLink RX9 22 "NothingJudge$Trials" "scene" "LNothingJudge$Scene;", .fieldLink RX9 26 "NothingJudge$Trials" "runner" "LNothingJudge$Runner;"] ++ wsX90)
def wsX10_init_r1 : List Cond := [Cond.methodLink RX10 3 objectInit, Cond.instanceMethod objectInit, Cond.code objectInit ⟨#[0xb1]⟩ 1 none, Cond.arrayClass .byte, Cond.fieldLink RX10 9 "NothingJudge" "tape" "[B", Cond.classLink RX10 13 RX8, Cond.instantiable RX8 3, Cond.initialized RX8, Cond.fieldLink RX10 16 "NothingJudge" "tokens" "LNothingJudge$Tokens;", Cond.classLink RX10 20 RX3, Cond.instantiable RX3 14, Cond.initialized RX3, Cond.fieldLink RX10 23 "NothingJudge" "spare" "LNothingJudge$Program;", Cond.classLink RX10 27 RX4, Cond.instantiable RX4 10, Cond.initialized RX4, Cond.fieldLink RX10 32 "NothingJudge" "reader" "LNothingJudge$Reader;", Cond.fieldLink RX10 36 "NothingJudge" "faultPlace" "I", Cond.classLink RX10 40 RX7, Cond.instantiable RX7 3, Cond.initialized RX7, Cond.fieldLink RX10 45 "NothingJudge" "scene" "LNothingJudge$Scene;", Cond.classLink RX10 49 RX1, Cond.instantiable RX1 14]
def wsX10_init_r2 : List Cond := [Cond.initialized RX1, Cond.fieldLink RX10 54 "NothingJudge" "facts" "LNothingJudge$Facts;", Cond.classLink RX10 58 RX6, Cond.instantiable RX6 16, Cond.initialized RX6, Cond.fieldLink RX10 61 "NothingJudge" "runner" "LNothingJudge$Runner;", Cond.classLink RX10 65 RX9, Cond.instantiable RX9 6, Cond.initialized RX9, Cond.fieldLink RX10 70 "NothingJudge" "trials" "LNothingJudge$Trials;", Cond.classLink RX10 74 RX2, Cond.instantiable RX2 10, Cond.initialized RX2, Cond.fieldLink RX10 79 "NothingJudge" "mender" "LNothingJudge$Mender;", Cond.arrayClass .int, Cond.fieldLink RX10 83 "NothingJudge" "ranRow" "[I", Cond.instanceMethod yX8_init, Cond.code yX8_init cX8_init 1 none, Cond.methodLink RX8 3 objectInit, Cond.fieldLink RX8 9 "NothingJudge$Tokens" "packed" "[I", Cond.instanceMethod yX3_init, Cond.code yX3_init cX3_init 1 none, Cond.methodLink RX3 3 objectInit, Cond.classLink RX3 9 RX0]
def wsX10_init_r3 : List Cond := [Cond.instantiable RX0 2, Cond.initialized RX0, Cond.fieldLink RX3 12 "NothingJudge$Program" "code" "LNothingJudge$Code;", Cond.fieldLink RX3 18 "NothingJudge$Program" "opening" "[I", Cond.fieldLink RX3 22 "NothingJudge$Program" "arity" "[I", Cond.fieldLink RX3 25 "NothingJudge$Program" "parameters" "[I", Cond.fieldLink RX3 28 "NothingJudge$Program" "useOwner" "[I", Cond.fieldLink RX3 31 "NothingJudge$Program" "usePlace" "[I", Cond.fieldLink RX3 34 "NothingJudge$Program" "useName" "[I", Cond.fieldLink RX3 37 "NothingJudge$Program" "testOwner" "[I", Cond.fieldLink RX3 40 "NothingJudge$Program" "testPlace" "[I", Cond.fieldLink RX3 43 "NothingJudge$Program" "first" "I", Cond.instanceMethod yX0_init, Cond.code yX0_init cX0_init 1 none, Cond.methodLink RX0 5 objectInit, Cond.fieldLink RX0 11 "NothingJudge$Code" "cells" "[I", Cond.methodLink RX10 29 yX4_init, Cond.instanceMethod yX4_init, Cond.code yX4_init cX4_init 3 none, Cond.methodLink RX4 3 objectInit, Cond.fieldLink RX4 9 "NothingJudge$Reader" "openKind" "[I", Cond.fieldLink RX4 15 "NothingJudge$Reader" "openAt" "[I", Cond.fieldLink RX4 18 "NothingJudge$Reader" "wrongPlace" "I", Cond.fieldLink RX4 22 "NothingJudge$Reader" "tokens" "LNothingJudge$Tokens;"]
def wsX10_init_r4 : List Cond := [Cond.fieldLink RX4 26 "NothingJudge$Reader" "program" "LNothingJudge$Program;", Cond.fieldLink RX4 30 "NothingJudge$Program" "code" "LNothingJudge$Code;", Cond.fieldLink RX4 36 "NothingJudge$Reader" "code" "LNothingJudge$Code;", Cond.methodLink RX10 42 yX7_init, Cond.instanceMethod yX7_init, Cond.code yX7_init cX7_init 2 none, Cond.methodLink RX7 3 objectInit, Cond.fieldLink RX7 9 "NothingJudge$Scene" "start" "I", Cond.fieldLink RX7 15 "NothingJudge$Scene" "told" "[I", Cond.fieldLink RX7 19 "NothingJudge$Scene" "program" "LNothingJudge$Program;", Cond.methodLink RX10 51 yX1_init, Cond.instanceMethod yX1_init, Cond.code yX1_init cX1_init 2 none, Cond.methodLink RX1 3 objectInit, Cond.arrayClass .long, Cond.fieldLink RX1 9 "NothingJudge$Facts" "state" "[J", Cond.fieldLink RX1 15 "NothingJudge$Facts" "seenAt" "[I", Cond.fieldLink RX1 19 "NothingJudge$Facts" "marks" "[I", Cond.fieldLink RX1 22 "NothingJudge$Facts" "used" "[I", Cond.fieldLink RX1 25 "NothingJudge$Facts" "tested" "[I", Cond.fieldLink RX1 28 "NothingJudge$Facts" "stale" "Z", Cond.fieldLink RX1 32 "NothingJudge$Facts" "scene" "LNothingJudge$Scene;", Cond.fieldLink RX1 36 "NothingJudge$Scene" "program" "LNothingJudge$Program;", Cond.fieldLink RX1 42 "NothingJudge$Facts" "program" "LNothingJudge$Program;"]
def wsX10_init_r5 : List Cond := [Cond.fieldLink RX1 43 "NothingJudge$Program" "code" "LNothingJudge$Code;", Cond.fieldLink RX1 49 "NothingJudge$Facts" "code" "LNothingJudge$Code;", Cond.methodLink RX10 60 yX6_init, Cond.instanceMethod yX6_init, Cond.code yX6_init cX6_init 2 none, Cond.methodLink RX6 3 objectInit, Cond.fieldLink RX6 11 "NothingJudge$Runner" "names" "[I", Cond.fieldLink RX6 15 "NothingJudge$Runner" "back" "[I", Cond.fieldLink RX6 18 "NothingJudge$Runner" "fields" "[I", Cond.fieldLink RX6 21 "NothingJudge$Runner" "scene" "LNothingJudge$Scene;", Cond.fieldLink RX6 25 "NothingJudge$Scene" "program" "LNothingJudge$Program;", Cond.fieldLink RX6 31 "NothingJudge$Runner" "program" "LNothingJudge$Program;", Cond.fieldLink RX6 32 "NothingJudge$Program" "code" "LNothingJudge$Code;", Cond.fieldLink RX6 38 "NothingJudge$Runner" "code" "LNothingJudge$Code;", Cond.methodLink RX10 67 yX9_init, Cond.instanceMethod yX9_init, Cond.code yX9_init cX9_init 3 none, Cond.methodLink RX9 3 objectInit, Cond.fieldLink RX9 9 "NothingJudge$Trials" "first" "[I", Cond.fieldLink RX9 15 "NothingJudge$Trials" "knownFor" "[I", Cond.fieldLink RX9 18 "NothingJudge$Trials" "stale" "Z", Cond.fieldLink RX9 22 "NothingJudge$Trials" "scene" "LNothingJudge$Scene;", Cond.fieldLink RX9 26 "NothingJudge$Trials" "runner" "LNothingJudge$Runner;", Cond.methodLink RX10 76 yX2_init]
def wsX10_init_r6 : List Cond := [Cond.instanceMethod yX2_init, Cond.code yX2_init cX2_init 2 none, Cond.methodLink RX2 3 objectInit, Cond.fieldLink RX2 9 "NothingJudge$Mender" "prices" "[I", Cond.fieldLink RX2 15 "NothingJudge$Mender" "candidates" "[I", Cond.fieldLink RX2 18 "NothingJudge$Mender" "heldNames" "[I", Cond.fieldLink RX2 21 "NothingJudge$Mender" "stale" "Z", Cond.fieldLink RX2 25 "NothingJudge$Mender" "cost" "I", Cond.fieldLink RX2 29 "NothingJudge$Mender" "facts" "LNothingJudge$Facts;"]
def wsX10_init : List Cond := .code yX10_init cX10_init 1 none :: ((wsX10_init_r1 ++ (wsX10_init_r2 ++ (wsX10_init_r3 ++ (wsX10_init_r4 ++ (wsX10_init_r5 ++ wsX10_init_r6))))) ++ wsX100 ++ wsX80 ++ wsX30 ++ wsX40 ++ wsX70 ++ wsX10 ++ wsX60 ++ wsX90 ++ wsX20 ++ wsX00)
def wsX11_init_r1 : List Cond := [Cond.methodLink RX11 1 objectInit, Cond.instanceMethod objectInit, Cond.code objectInit ⟨#[0xb1]⟩ 1 none, Cond.arrayClass .int, Cond.fieldLink RX11 7 "NothingJudgeModel" "tape" "[I", Cond.fieldLink RX11 13 "NothingJudgeModel" "lastPlace" "I", Cond.fieldLink RX11 17 "NothingJudgeModel" "act" "[I", Cond.fieldLink RX11 20 "NothingJudgeModel" "one" "[I", Cond.fieldLink RX11 23 "NothingJudgeModel" "two" "[I", Cond.fieldLink RX11 26 "NothingJudgeModel" "three" "[I", Cond.fieldLink RX11 29 "NothingJudgeModel" "argsOf" "[I", Cond.fieldLink RX11 32 "NothingJudgeModel" "routineFrom" "[I", Cond.fieldLink RX11 35 "NothingJudgeModel" "params" "[I", Cond.fieldLink RX11 38 "NothingJudgeModel" "paramNames" "[I", Cond.fieldLink RX11 41 "NothingJudgeModel" "firstRoutine" "[I", Cond.fieldLink RX11 44 "NothingJudgeModel" "useRoutine" "[I", Cond.fieldLink RX11 47 "NothingJudgeModel" "usePlace" "[I", Cond.fieldLink RX11 50 "NothingJudgeModel" "useName" "[I", Cond.fieldLink RX11 53 "NothingJudgeModel" "useMany" "[I", Cond.fieldLink RX11 56 "NothingJudgeModel" "testRoutine" "[I", Cond.fieldLink RX11 59 "NothingJudgeModel" "testPlace" "[I", Cond.fieldLink RX11 62 "NothingJudgeModel" "testMany" "[I", Cond.fieldLink RX11 65 "NothingJudgeModel" "callPlace" "[I", Cond.fieldLink RX11 68 "NothingJudgeModel" "callLetter" "[I"]
def wsX11_init_r2 : List Cond := [Cond.fieldLink RX11 71 "NothingJudgeModel" "callArgs" "[I", Cond.fieldLink RX11 74 "NothingJudgeModel" "blockKind" "[I", Cond.fieldLink RX11 77 "NothingJudgeModel" "blockWaits" "[I", Cond.fieldLink RX11 80 "NothingJudgeModel" "blockTest" "[I", Cond.fieldLink RX11 83 "NothingJudgeModel" "entry" "I", Cond.fieldLink RX11 86 "NothingJudgeModel" "outers" "[I", Cond.arrayClass .long, Cond.fieldLink RX11 89 "NothingJudgeModel" "ahead" "[J", Cond.fieldLink RX11 93 "NothingJudgeModel" "marks" "[I", Cond.arrayClass .boolean, Cond.fieldLink RX11 96 "NothingJudgeModel" "isHeld" "[Z", Cond.fieldLink RX11 100 "NothingJudgeModel" "tested" "[I", Cond.fieldLink RX11 103 "NothingJudgeModel" "fields" "[I", Cond.fieldLink RX11 106 "NothingJudgeModel" "names" "[I", Cond.fieldLink RX11 109 "NothingJudgeModel" "backTo" "[I", Cond.fieldLink RX11 112 "NothingJudgeModel" "prices" "[I", Cond.fieldLink RX11 115 "NothingJudgeModel" "candidates" "[I", Cond.fieldLink RX11 118 "NothingJudgeModel" "mendMarks" "[I"]
def wsX11_init : List Cond := .code yX11_init cX11_init 2 none :: ((wsX11_init_r1 ++ wsX11_init_r2) ++ wsX110)
theorem wK_app {a b c : List Cond} (ha : ∀ w ∈ a, w ∈ c) (hb : ∀ w ∈ b, w ∈ c) : ∀ w ∈ a ++ b, w ∈ c := fun w h => (List.mem_append.mp h).elim (ha w) (hb w)
theorem dX0_init_0 : decode cX0_init 0 = .ok (.aload_n 0, 1) := by decide +kernel
theorem dX0_init_1 : decode cX0_init 1 = .ok (.invokespecial 5, 3) := by decide +kernel
theorem dX0_init_4 : decode cX0_init 4 = .ok (.aload_n 0, 1) := by decide +kernel
theorem dX0_init_5 : decode cX0_init 5 = .ok (.sipush 3648, 3) := by decide +kernel
theorem dX0_init_8 : decode cX0_init 8 = .ok (.newarray .int, 2) := by decide +kernel
theorem dX0_init_10 : decode cX0_init 10 = .ok (.putfield 11, 3) := by decide +kernel
theorem dX0_init_13 : decode cX0_init 13 = .ok (.return_, 1) := by decide +kernel
theorem dX1_init_0 : decode cX1_init 0 = .ok (.aload_n 0, 1) := by decide +kernel
theorem dX1_init_1 : decode cX1_init 1 = .ok (.invokespecial 3, 3) := by decide +kernel
theorem dX1_init_4 : decode cX1_init 4 = .ok (.aload_n 0, 1) := by decide +kernel
theorem dX1_init_5 : decode cX1_init 5 = .ok (.sipush 304, 3) := by decide +kernel
theorem dX1_init_8 : decode cX1_init 8 = .ok (.newarray .long, 2) := by decide +kernel
theorem dX1_init_10 : decode cX1_init 10 = .ok (.putfield 9, 3) := by decide +kernel
theorem dX1_init_13 : decode cX1_init 13 = .ok (.aload_n 0, 1) := by decide +kernel
theorem dX1_init_14 : decode cX1_init 14 = .ok (.sipush 304, 3) := by decide +kernel
theorem dX1_init_17 : decode cX1_init 17 = .ok (.newarray .int, 2) := by decide +kernel
theorem dX1_init_19 : decode cX1_init 19 = .ok (.putfield 15, 3) := by decide +kernel
theorem dX1_init_22 : decode cX1_init 22 = .ok (.aload_n 0, 1) := by decide +kernel
theorem dX1_init_23 : decode cX1_init 23 = .ok (.bipush 42, 2) := by decide +kernel
theorem dX1_init_25 : decode cX1_init 25 = .ok (.newarray .int, 2) := by decide +kernel
theorem dX1_init_27 : decode cX1_init 27 = .ok (.putfield 19, 3) := by decide +kernel
theorem dX1_init_30 : decode cX1_init 30 = .ok (.aload_n 0, 1) := by decide +kernel
theorem dX1_init_31 : decode cX1_init 31 = .ok (.bipush 40, 2) := by decide +kernel
theorem dX1_init_33 : decode cX1_init 33 = .ok (.newarray .int, 2) := by decide +kernel
theorem dX1_init_35 : decode cX1_init 35 = .ok (.putfield 22, 3) := by decide +kernel
theorem dX1_init_38 : decode cX1_init 38 = .ok (.aload_n 0, 1) := by decide +kernel
theorem dX1_init_39 : decode cX1_init 39 = .ok (.bipush 24, 2) := by decide +kernel
theorem dX1_init_41 : decode cX1_init 41 = .ok (.newarray .int, 2) := by decide +kernel
theorem dX1_init_43 : decode cX1_init 43 = .ok (.putfield 25, 3) := by decide +kernel
theorem dX1_init_46 : decode cX1_init 46 = .ok (.aload_n 0, 1) := by decide +kernel
theorem dX1_init_47 : decode cX1_init 47 = .ok (.iconst 1, 1) := by decide +kernel
theorem dX1_init_48 : decode cX1_init 48 = .ok (.putfield 28, 3) := by decide +kernel
theorem dX1_init_51 : decode cX1_init 51 = .ok (.aload_n 0, 1) := by decide +kernel
theorem dX1_init_52 : decode cX1_init 52 = .ok (.aload_n 1, 1) := by decide +kernel
theorem dX1_init_53 : decode cX1_init 53 = .ok (.putfield 32, 3) := by decide +kernel
theorem dX1_init_56 : decode cX1_init 56 = .ok (.aload_n 0, 1) := by decide +kernel
theorem dX1_init_57 : decode cX1_init 57 = .ok (.aload_n 1, 1) := by decide +kernel
theorem dX1_init_58 : decode cX1_init 58 = .ok (.getfield 36, 3) := by decide +kernel
theorem dX1_init_61 : decode cX1_init 61 = .ok (.putfield 42, 3) := by decide +kernel
theorem dX1_init_64 : decode cX1_init 64 = .ok (.aload_n 0, 1) := by decide +kernel
theorem dX1_init_65 : decode cX1_init 65 = .ok (.aload_n 1, 1) := by decide +kernel
theorem dX1_init_66 : decode cX1_init 66 = .ok (.getfield 36, 3) := by decide +kernel
theorem dX1_init_69 : decode cX1_init 69 = .ok (.getfield 43, 3) := by decide +kernel
theorem dX1_init_72 : decode cX1_init 72 = .ok (.putfield 49, 3) := by decide +kernel
theorem dX1_init_75 : decode cX1_init 75 = .ok (.return_, 1) := by decide +kernel
theorem dX2_init_0 : decode cX2_init 0 = .ok (.aload_n 0, 1) := by decide +kernel
theorem dX2_init_1 : decode cX2_init 1 = .ok (.invokespecial 3, 3) := by decide +kernel
theorem dX2_init_4 : decode cX2_init 4 = .ok (.aload_n 0, 1) := by decide +kernel
theorem dX2_init_5 : decode cX2_init 5 = .ok (.iconst 4, 1) := by decide +kernel
theorem dX2_init_6 : decode cX2_init 6 = .ok (.newarray .int, 2) := by decide +kernel
theorem dX2_init_8 : decode cX2_init 8 = .ok (.dup, 1) := by decide +kernel
theorem dX2_init_9 : decode cX2_init 9 = .ok (.iconst 0, 1) := by decide +kernel
theorem dX2_init_10 : decode cX2_init 10 = .ok (.iconst 3, 1) := by decide +kernel
theorem dX2_init_11 : decode cX2_init 11 = .ok (.iastore, 1) := by decide +kernel
theorem dX2_init_12 : decode cX2_init 12 = .ok (.dup, 1) := by decide +kernel
theorem dX2_init_13 : decode cX2_init 13 = .ok (.iconst 1, 1) := by decide +kernel
theorem dX2_init_14 : decode cX2_init 14 = .ok (.iconst 2, 1) := by decide +kernel
theorem dX2_init_15 : decode cX2_init 15 = .ok (.iastore, 1) := by decide +kernel
theorem dX2_init_16 : decode cX2_init 16 = .ok (.dup, 1) := by decide +kernel
theorem dX2_init_17 : decode cX2_init 17 = .ok (.iconst 2, 1) := by decide +kernel
theorem dX2_init_18 : decode cX2_init 18 = .ok (.iconst 5, 1) := by decide +kernel
theorem dX2_init_19 : decode cX2_init 19 = .ok (.iastore, 1) := by decide +kernel
theorem dX2_init_20 : decode cX2_init 20 = .ok (.dup, 1) := by decide +kernel
theorem dX2_init_21 : decode cX2_init 21 = .ok (.iconst 3, 1) := by decide +kernel
theorem dX2_init_22 : decode cX2_init 22 = .ok (.iconst 4, 1) := by decide +kernel
theorem dX2_init_23 : decode cX2_init 23 = .ok (.iastore, 1) := by decide +kernel
theorem dX2_init_24 : decode cX2_init 24 = .ok (.putfield 9, 3) := by decide +kernel
theorem dX2_init_27 : decode cX2_init 27 = .ok (.aload_n 0, 1) := by decide +kernel
theorem dX2_init_28 : decode cX2_init 28 = .ok (.bipush 10, 2) := by decide +kernel
theorem dX2_init_30 : decode cX2_init 30 = .ok (.newarray .int, 2) := by decide +kernel
theorem dX2_init_32 : decode cX2_init 32 = .ok (.putfield 15, 3) := by decide +kernel
theorem dX2_init_35 : decode cX2_init 35 = .ok (.aload_n 0, 1) := by decide +kernel
theorem dX2_init_36 : decode cX2_init 36 = .ok (.bipush 10, 2) := by decide +kernel
theorem dX2_init_38 : decode cX2_init 38 = .ok (.newarray .int, 2) := by decide +kernel
theorem dX2_init_40 : decode cX2_init 40 = .ok (.putfield 18, 3) := by decide +kernel
theorem dX2_init_43 : decode cX2_init 43 = .ok (.aload_n 0, 1) := by decide +kernel
theorem dX2_init_44 : decode cX2_init 44 = .ok (.iconst 1, 1) := by decide +kernel
theorem dX2_init_45 : decode cX2_init 45 = .ok (.putfield 21, 3) := by decide +kernel
theorem dX2_init_48 : decode cX2_init 48 = .ok (.aload_n 0, 1) := by decide +kernel
theorem dX2_init_49 : decode cX2_init 49 = .ok (.iconst (-1), 1) := by decide +kernel
theorem dX2_init_50 : decode cX2_init 50 = .ok (.putfield 25, 3) := by decide +kernel
theorem dX2_init_53 : decode cX2_init 53 = .ok (.aload_n 0, 1) := by decide +kernel
theorem dX2_init_54 : decode cX2_init 54 = .ok (.aload_n 1, 1) := by decide +kernel
theorem dX2_init_55 : decode cX2_init 55 = .ok (.putfield 29, 3) := by decide +kernel
theorem dX2_init_58 : decode cX2_init 58 = .ok (.return_, 1) := by decide +kernel
set_option maxRecDepth 100000 in
theorem mw_wsX3_init_19 : (.code yX0_init cX0_init 1 none : Cond) ∈ wsX3_init := List.mem_of_getElem? (i := 19) rfl
set_option maxRecDepth 100000 in
theorem mw_wsX3_init_21 : (.fieldLink RX0 11 "NothingJudge$Code" "cells" "[I" : Cond) ∈ wsX3_init := List.mem_of_getElem? (i := 21) (by decide +kernel)
set_option maxRecDepth 100000 in
theorem mw_wsX3_init_8 : (.arrayClass .int : Cond) ∈ wsX3_init := List.mem_of_getElem? (i := 8) (by decide +kernel)
set_option maxRecDepth 100000 in
theorem mw_wsX3_init_3 : (.code objectInit ⟨#[0xb1]⟩ 1 none : Cond) ∈ wsX3_init := List.mem_of_getElem? (i := 3) rfl
set_option maxRecDepth 100000 in
theorem mw_wsX3_init_2 : (.instanceMethod objectInit : Cond) ∈ wsX3_init := List.mem_of_getElem? (i := 2) (by decide +kernel)
set_option maxRecDepth 100000 in
theorem mw_wsX3_init_20 : (.methodLink RX0 5 objectInit : Cond) ∈ wsX3_init := List.mem_of_getElem? (i := 20) (by decide +kernel)
set_option maxRecDepth 20000 in
theorem ggX3_init_X0_init : GoodIn wsX3_init wsX0_init := goodIn_sub (List.forall_mem_cons.mpr ⟨mw_wsX3_init_19, (wK_app (List.forall_mem_cons.mpr ⟨mw_wsX3_init_20, (List.forall_mem_cons.mpr ⟨mw_wsX3_init_2, (List.forall_mem_cons.mpr ⟨mw_wsX3_init_3, (List.forall_mem_cons.mpr ⟨mw_wsX3_init_8, (List.forall_mem_cons.mpr ⟨mw_wsX3_init_21, (fun _ h => absurd h List.not_mem_nil)⟩)⟩)⟩)⟩)⟩) (fun _ h => List.mem_cons_of_mem _ (List.mem_append_left _ (List.mem_append_right _ h))))⟩) (by decide +kernel)
set_option maxRecDepth 20000 in
theorem gX3_init_X0_init_n11 : GoodIn wsX3_init (wsX0_init) := ggX3_init_X0_init
theorem dX3_init_0 : decode cX3_init 0 = .ok (.aload_n 0, 1) := by decide +kernel
theorem dX3_init_1 : decode cX3_init 1 = .ok (.invokespecial 3, 3) := by decide +kernel
theorem dX3_init_4 : decode cX3_init 4 = .ok (.aload_n 0, 1) := by decide +kernel
theorem dX3_init_5 : decode cX3_init 5 = .ok (.new 9, 3) := by decide +kernel
theorem dX3_init_8 : decode cX3_init 8 = .ok (.dup, 1) := by decide +kernel
theorem dX3_init_9 : decode cX3_init 9 = .ok (.invokespecial 11, 3) := by decide +kernel
theorem dX3_init_12 : decode cX3_init 12 = .ok (.putfield 12, 3) := by decide +kernel
theorem dX3_init_15 : decode cX3_init 15 = .ok (.aload_n 0, 1) := by decide +kernel
theorem dX3_init_16 : decode cX3_init 16 = .ok (.bipush 8, 2) := by decide +kernel
theorem dX3_init_18 : decode cX3_init 18 = .ok (.newarray .int, 2) := by decide +kernel
theorem dX3_init_20 : decode cX3_init 20 = .ok (.putfield 18, 3) := by decide +kernel
theorem dX3_init_23 : decode cX3_init 23 = .ok (.aload_n 0, 1) := by decide +kernel
theorem dX3_init_24 : decode cX3_init 24 = .ok (.bipush 8, 2) := by decide +kernel
theorem dX3_init_26 : decode cX3_init 26 = .ok (.newarray .int, 2) := by decide +kernel
theorem dX3_init_28 : decode cX3_init 28 = .ok (.putfield 22, 3) := by decide +kernel
theorem dX3_init_31 : decode cX3_init 31 = .ok (.aload_n 0, 1) := by decide +kernel
theorem dX3_init_32 : decode cX3_init 32 = .ok (.bipush 32, 2) := by decide +kernel
theorem dX3_init_34 : decode cX3_init 34 = .ok (.newarray .int, 2) := by decide +kernel
theorem dX3_init_36 : decode cX3_init 36 = .ok (.putfield 25, 3) := by decide +kernel
theorem dX3_init_39 : decode cX3_init 39 = .ok (.aload_n 0, 1) := by decide +kernel
theorem dX3_init_40 : decode cX3_init 40 = .ok (.bipush 40, 2) := by decide +kernel
theorem dX3_init_42 : decode cX3_init 42 = .ok (.newarray .int, 2) := by decide +kernel
theorem dX3_init_44 : decode cX3_init 44 = .ok (.putfield 28, 3) := by decide +kernel
theorem dX3_init_47 : decode cX3_init 47 = .ok (.aload_n 0, 1) := by decide +kernel
theorem dX3_init_48 : decode cX3_init 48 = .ok (.bipush 40, 2) := by decide +kernel
theorem dX3_init_50 : decode cX3_init 50 = .ok (.newarray .int, 2) := by decide +kernel
theorem dX3_init_52 : decode cX3_init 52 = .ok (.putfield 31, 3) := by decide +kernel
theorem dX3_init_55 : decode cX3_init 55 = .ok (.aload_n 0, 1) := by decide +kernel
theorem dX3_init_56 : decode cX3_init 56 = .ok (.bipush 40, 2) := by decide +kernel
theorem dX3_init_58 : decode cX3_init 58 = .ok (.newarray .int, 2) := by decide +kernel
theorem dX3_init_60 : decode cX3_init 60 = .ok (.putfield 34, 3) := by decide +kernel
theorem dX3_init_63 : decode cX3_init 63 = .ok (.aload_n 0, 1) := by decide +kernel
theorem dX3_init_64 : decode cX3_init 64 = .ok (.bipush 24, 2) := by decide +kernel
theorem dX3_init_66 : decode cX3_init 66 = .ok (.newarray .int, 2) := by decide +kernel
theorem dX3_init_68 : decode cX3_init 68 = .ok (.putfield 37, 3) := by decide +kernel
theorem dX3_init_71 : decode cX3_init 71 = .ok (.aload_n 0, 1) := by decide +kernel
theorem dX3_init_72 : decode cX3_init 72 = .ok (.bipush 24, 2) := by decide +kernel
theorem dX3_init_74 : decode cX3_init 74 = .ok (.newarray .int, 2) := by decide +kernel
theorem dX3_init_76 : decode cX3_init 76 = .ok (.putfield 40, 3) := by decide +kernel
theorem dX3_init_79 : decode cX3_init 79 = .ok (.aload_n 0, 1) := by decide +kernel
theorem dX3_init_80 : decode cX3_init 80 = .ok (.iconst (-1), 1) := by decide +kernel
theorem dX3_init_81 : decode cX3_init 81 = .ok (.putfield 43, 3) := by decide +kernel
theorem dX3_init_84 : decode cX3_init 84 = .ok (.return_, 1) := by decide +kernel
theorem dX4_init_0 : decode cX4_init 0 = .ok (.aload_n 0, 1) := by decide +kernel
theorem dX4_init_1 : decode cX4_init 1 = .ok (.invokespecial 3, 3) := by decide +kernel
theorem dX4_init_4 : decode cX4_init 4 = .ok (.aload_n 0, 1) := by decide +kernel
theorem dX4_init_5 : decode cX4_init 5 = .ok (.bipush 6, 2) := by decide +kernel
theorem dX4_init_7 : decode cX4_init 7 = .ok (.newarray .int, 2) := by decide +kernel
theorem dX4_init_9 : decode cX4_init 9 = .ok (.putfield 9, 3) := by decide +kernel
theorem dX4_init_12 : decode cX4_init 12 = .ok (.aload_n 0, 1) := by decide +kernel
theorem dX4_init_13 : decode cX4_init 13 = .ok (.bipush 6, 2) := by decide +kernel
theorem dX4_init_15 : decode cX4_init 15 = .ok (.newarray .int, 2) := by decide +kernel
theorem dX4_init_17 : decode cX4_init 17 = .ok (.putfield 15, 3) := by decide +kernel
theorem dX4_init_20 : decode cX4_init 20 = .ok (.aload_n 0, 1) := by decide +kernel
theorem dX4_init_21 : decode cX4_init 21 = .ok (.iconst (-1), 1) := by decide +kernel
theorem dX4_init_22 : decode cX4_init 22 = .ok (.putfield 18, 3) := by decide +kernel
theorem dX4_init_25 : decode cX4_init 25 = .ok (.aload_n 0, 1) := by decide +kernel
theorem dX4_init_26 : decode cX4_init 26 = .ok (.aload_n 1, 1) := by decide +kernel
theorem dX4_init_27 : decode cX4_init 27 = .ok (.putfield 22, 3) := by decide +kernel
theorem dX4_init_30 : decode cX4_init 30 = .ok (.aload_n 0, 1) := by decide +kernel
theorem dX4_init_31 : decode cX4_init 31 = .ok (.aload_n 2, 1) := by decide +kernel
theorem dX4_init_32 : decode cX4_init 32 = .ok (.putfield 26, 3) := by decide +kernel
theorem dX4_init_35 : decode cX4_init 35 = .ok (.aload_n 0, 1) := by decide +kernel
theorem dX4_init_36 : decode cX4_init 36 = .ok (.aload_n 2, 1) := by decide +kernel
theorem dX4_init_37 : decode cX4_init 37 = .ok (.getfield 30, 3) := by decide +kernel
theorem dX4_init_40 : decode cX4_init 40 = .ok (.putfield 36, 3) := by decide +kernel
theorem dX4_init_43 : decode cX4_init 43 = .ok (.return_, 1) := by decide +kernel
theorem dX6_init_0 : decode cX6_init 0 = .ok (.aload_n 0, 1) := by decide +kernel
theorem dX6_init_1 : decode cX6_init 1 = .ok (.invokespecial 3, 3) := by decide +kernel
theorem dX6_init_4 : decode cX6_init 4 = .ok (.aload_n 0, 1) := by decide +kernel
theorem dX6_init_5 : decode cX6_init 5 = .ok (.sipush 338, 3) := by decide +kernel
theorem dX6_init_8 : decode cX6_init 8 = .ok (.newarray .int, 2) := by decide +kernel
theorem dX6_init_10 : decode cX6_init 10 = .ok (.putfield 11, 3) := by decide +kernel
theorem dX6_init_13 : decode cX6_init 13 = .ok (.aload_n 0, 1) := by decide +kernel
theorem dX6_init_14 : decode cX6_init 14 = .ok (.bipush 12, 2) := by decide +kernel
theorem dX6_init_16 : decode cX6_init 16 = .ok (.newarray .int, 2) := by decide +kernel
theorem dX6_init_18 : decode cX6_init 18 = .ok (.putfield 15, 3) := by decide +kernel
theorem dX6_init_21 : decode cX6_init 21 = .ok (.aload_n 0, 1) := by decide +kernel
theorem dX6_init_22 : decode cX6_init 22 = .ok (.sipush 602, 3) := by decide +kernel
theorem dX6_init_25 : decode cX6_init 25 = .ok (.newarray .int, 2) := by decide +kernel
theorem dX6_init_27 : decode cX6_init 27 = .ok (.putfield 18, 3) := by decide +kernel
theorem dX6_init_30 : decode cX6_init 30 = .ok (.aload_n 0, 1) := by decide +kernel
theorem dX6_init_31 : decode cX6_init 31 = .ok (.aload_n 1, 1) := by decide +kernel
theorem dX6_init_32 : decode cX6_init 32 = .ok (.putfield 21, 3) := by decide +kernel
theorem dX6_init_35 : decode cX6_init 35 = .ok (.aload_n 0, 1) := by decide +kernel
theorem dX6_init_36 : decode cX6_init 36 = .ok (.aload_n 1, 1) := by decide +kernel
theorem dX6_init_37 : decode cX6_init 37 = .ok (.getfield 25, 3) := by decide +kernel
theorem dX6_init_40 : decode cX6_init 40 = .ok (.putfield 31, 3) := by decide +kernel
theorem dX6_init_43 : decode cX6_init 43 = .ok (.aload_n 0, 1) := by decide +kernel
theorem dX6_init_44 : decode cX6_init 44 = .ok (.aload_n 1, 1) := by decide +kernel
theorem dX6_init_45 : decode cX6_init 45 = .ok (.getfield 25, 3) := by decide +kernel
theorem dX6_init_48 : decode cX6_init 48 = .ok (.getfield 32, 3) := by decide +kernel
theorem dX6_init_51 : decode cX6_init 51 = .ok (.putfield 38, 3) := by decide +kernel
theorem dX6_init_54 : decode cX6_init 54 = .ok (.return_, 1) := by decide +kernel
theorem dX7_init_0 : decode cX7_init 0 = .ok (.aload_n 0, 1) := by decide +kernel
theorem dX7_init_1 : decode cX7_init 1 = .ok (.invokespecial 3, 3) := by decide +kernel
theorem dX7_init_4 : decode cX7_init 4 = .ok (.aload_n 0, 1) := by decide +kernel
theorem dX7_init_5 : decode cX7_init 5 = .ok (.iconst (-1), 1) := by decide +kernel
theorem dX7_init_6 : decode cX7_init 6 = .ok (.putfield 9, 3) := by decide +kernel
theorem dX7_init_9 : decode cX7_init 9 = .ok (.aload_n 0, 1) := by decide +kernel
theorem dX7_init_10 : decode cX7_init 10 = .ok (.iconst 4, 1) := by decide +kernel
theorem dX7_init_11 : decode cX7_init 11 = .ok (.newarray .int, 2) := by decide +kernel
theorem dX7_init_13 : decode cX7_init 13 = .ok (.putfield 15, 3) := by decide +kernel
theorem dX7_init_16 : decode cX7_init 16 = .ok (.aload_n 0, 1) := by decide +kernel
theorem dX7_init_17 : decode cX7_init 17 = .ok (.aload_n 1, 1) := by decide +kernel
theorem dX7_init_18 : decode cX7_init 18 = .ok (.putfield 19, 3) := by decide +kernel
theorem dX7_init_21 : decode cX7_init 21 = .ok (.return_, 1) := by decide +kernel
theorem dX8_init_0 : decode cX8_init 0 = .ok (.aload_n 0, 1) := by decide +kernel
theorem dX8_init_1 : decode cX8_init 1 = .ok (.invokespecial 3, 3) := by decide +kernel
theorem dX8_init_4 : decode cX8_init 4 = .ok (.aload_n 0, 1) := by decide +kernel
theorem dX8_init_5 : decode cX8_init 5 = .ok (.sipush 1200, 3) := by decide +kernel
theorem dX8_init_8 : decode cX8_init 8 = .ok (.newarray .int, 2) := by decide +kernel
theorem dX8_init_10 : decode cX8_init 10 = .ok (.putfield 9, 3) := by decide +kernel
theorem dX8_init_13 : decode cX8_init 13 = .ok (.return_, 1) := by decide +kernel
theorem dX9_init_0 : decode cX9_init 0 = .ok (.aload_n 0, 1) := by decide +kernel
theorem dX9_init_1 : decode cX9_init 1 = .ok (.invokespecial 3, 3) := by decide +kernel
theorem dX9_init_4 : decode cX9_init 4 = .ok (.aload_n 0, 1) := by decide +kernel
theorem dX9_init_5 : decode cX9_init 5 = .ok (.bipush 40, 2) := by decide +kernel
theorem dX9_init_7 : decode cX9_init 7 = .ok (.newarray .int, 2) := by decide +kernel
theorem dX9_init_9 : decode cX9_init 9 = .ok (.putfield 9, 3) := by decide +kernel
theorem dX9_init_12 : decode cX9_init 12 = .ok (.aload_n 0, 1) := by decide +kernel
theorem dX9_init_13 : decode cX9_init 13 = .ok (.sipush 256, 3) := by decide +kernel
theorem dX9_init_16 : decode cX9_init 16 = .ok (.newarray .int, 2) := by decide +kernel
theorem dX9_init_18 : decode cX9_init 18 = .ok (.putfield 15, 3) := by decide +kernel
theorem dX9_init_21 : decode cX9_init 21 = .ok (.aload_n 0, 1) := by decide +kernel
theorem dX9_init_22 : decode cX9_init 22 = .ok (.iconst 1, 1) := by decide +kernel
theorem dX9_init_23 : decode cX9_init 23 = .ok (.putfield 18, 3) := by decide +kernel
theorem dX9_init_26 : decode cX9_init 26 = .ok (.aload_n 0, 1) := by decide +kernel
theorem dX9_init_27 : decode cX9_init 27 = .ok (.aload_n 1, 1) := by decide +kernel
theorem dX9_init_28 : decode cX9_init 28 = .ok (.putfield 22, 3) := by decide +kernel
theorem dX9_init_31 : decode cX9_init 31 = .ok (.aload_n 0, 1) := by decide +kernel
theorem dX9_init_32 : decode cX9_init 32 = .ok (.aload_n 2, 1) := by decide +kernel
theorem dX9_init_33 : decode cX9_init 33 = .ok (.putfield 26, 3) := by decide +kernel
theorem dX9_init_36 : decode cX9_init 36 = .ok (.return_, 1) := by decide +kernel
set_option maxRecDepth 100000 in
theorem mw_wsX10_init_42 : (.code yX8_init cX8_init 1 none : Cond) ∈ wsX10_init := List.mem_of_getElem? (i := 42) rfl
set_option maxRecDepth 100000 in
theorem mw_wsX10_init_44 : (.fieldLink RX8 9 "NothingJudge$Tokens" "packed" "[I" : Cond) ∈ wsX10_init := List.mem_of_getElem? (i := 44) (by decide +kernel)
set_option maxRecDepth 100000 in
theorem mw_wsX10_init_39 : (.arrayClass .int : Cond) ∈ wsX10_init := List.mem_of_getElem? (i := 39) (by decide +kernel)
set_option maxRecDepth 100000 in
theorem mw_wsX10_init_3 : (.code objectInit ⟨#[0xb1]⟩ 1 none : Cond) ∈ wsX10_init := List.mem_of_getElem? (i := 3) rfl
set_option maxRecDepth 100000 in
theorem mw_wsX10_init_2 : (.instanceMethod objectInit : Cond) ∈ wsX10_init := List.mem_of_getElem? (i := 2) (by decide +kernel)
set_option maxRecDepth 100000 in
theorem mw_wsX10_init_43 : (.methodLink RX8 3 objectInit : Cond) ∈ wsX10_init := List.mem_of_getElem? (i := 43) (by decide +kernel)
set_option maxRecDepth 20000 in
theorem ggX10_init_X8_init : GoodIn wsX10_init wsX8_init := goodIn_sub (List.forall_mem_cons.mpr ⟨mw_wsX10_init_42, (wK_app (List.forall_mem_cons.mpr ⟨mw_wsX10_init_43, (List.forall_mem_cons.mpr ⟨mw_wsX10_init_2, (List.forall_mem_cons.mpr ⟨mw_wsX10_init_3, (List.forall_mem_cons.mpr ⟨mw_wsX10_init_39, (List.forall_mem_cons.mpr ⟨mw_wsX10_init_44, (fun _ h => absurd h List.not_mem_nil)⟩)⟩)⟩)⟩)⟩) (fun _ h => List.mem_cons_of_mem _ (List.mem_append_left _ (List.mem_append_left _ (List.mem_append_left _ (List.mem_append_left _ (List.mem_append_left _ (List.mem_append_left _ (List.mem_append_left _ (List.mem_append_left _ (List.mem_append_right _ h)))))))))))⟩) (by decide +kernel)
set_option maxRecDepth 20000 in
theorem gX10_init_X8_init_n15 : GoodIn wsX10_init (wsX8_init) := ggX10_init_X8_init
set_option maxRecDepth 100000 in
theorem mw_wsX10_init_46 : (.code yX3_init cX3_init 1 none : Cond) ∈ wsX10_init := List.mem_of_getElem? (i := 46) rfl
set_option maxRecDepth 100000 in
theorem mw_wsX10_init_64 : (.fieldLink RX0 11 "NothingJudge$Code" "cells" "[I" : Cond) ∈ wsX10_init := List.mem_of_getElem? (i := 64) (by decide +kernel)
set_option maxRecDepth 100000 in
theorem mw_wsX10_init_63 : (.methodLink RX0 5 objectInit : Cond) ∈ wsX10_init := List.mem_of_getElem? (i := 63) (by decide +kernel)
set_option maxRecDepth 100000 in
theorem mw_wsX10_init_62 : (.code yX0_init cX0_init 1 none : Cond) ∈ wsX10_init := List.mem_of_getElem? (i := 62) rfl
set_option maxRecDepth 100000 in
theorem mw_wsX10_init_61 : (.instanceMethod yX0_init : Cond) ∈ wsX10_init := List.mem_of_getElem? (i := 61) (by decide +kernel)
set_option maxRecDepth 100000 in
theorem mw_wsX10_init_60 : (.fieldLink RX3 43 "NothingJudge$Program" "first" "I" : Cond) ∈ wsX10_init := List.mem_of_getElem? (i := 60) (by decide +kernel)
set_option maxRecDepth 100000 in
theorem mw_wsX10_init_59 : (.fieldLink RX3 40 "NothingJudge$Program" "testPlace" "[I" : Cond) ∈ wsX10_init := List.mem_of_getElem? (i := 59) (by decide +kernel)
set_option maxRecDepth 100000 in
theorem mw_wsX10_init_58 : (.fieldLink RX3 37 "NothingJudge$Program" "testOwner" "[I" : Cond) ∈ wsX10_init := List.mem_of_getElem? (i := 58) (by decide +kernel)
set_option maxRecDepth 100000 in
theorem mw_wsX10_init_57 : (.fieldLink RX3 34 "NothingJudge$Program" "useName" "[I" : Cond) ∈ wsX10_init := List.mem_of_getElem? (i := 57) (by decide +kernel)
set_option maxRecDepth 100000 in
theorem mw_wsX10_init_56 : (.fieldLink RX3 31 "NothingJudge$Program" "usePlace" "[I" : Cond) ∈ wsX10_init := List.mem_of_getElem? (i := 56) (by decide +kernel)
set_option maxRecDepth 100000 in
theorem mw_wsX10_init_55 : (.fieldLink RX3 28 "NothingJudge$Program" "useOwner" "[I" : Cond) ∈ wsX10_init := List.mem_of_getElem? (i := 55) (by decide +kernel)
set_option maxRecDepth 100000 in
theorem mw_wsX10_init_54 : (.fieldLink RX3 25 "NothingJudge$Program" "parameters" "[I" : Cond) ∈ wsX10_init := List.mem_of_getElem? (i := 54) (by decide +kernel)
set_option maxRecDepth 100000 in
theorem mw_wsX10_init_53 : (.fieldLink RX3 22 "NothingJudge$Program" "arity" "[I" : Cond) ∈ wsX10_init := List.mem_of_getElem? (i := 53) (by decide +kernel)
set_option maxRecDepth 100000 in
theorem mw_wsX10_init_52 : (.fieldLink RX3 18 "NothingJudge$Program" "opening" "[I" : Cond) ∈ wsX10_init := List.mem_of_getElem? (i := 52) (by decide +kernel)
set_option maxRecDepth 100000 in
theorem mw_wsX10_init_51 : (.fieldLink RX3 12 "NothingJudge$Program" "code" "LNothingJudge$Code;" : Cond) ∈ wsX10_init := List.mem_of_getElem? (i := 51) (by decide +kernel)
set_option maxRecDepth 100000 in
theorem mw_wsX10_init_50 : (.initialized RX0 : Cond) ∈ wsX10_init := List.mem_of_getElem? (i := 50) (by decide +kernel)
set_option maxRecDepth 100000 in
theorem mw_wsX10_init_49 : (.instantiable RX0 2 : Cond) ∈ wsX10_init := List.mem_of_getElem? (i := 49) (by decide +kernel)
set_option maxRecDepth 100000 in
theorem mw_wsX10_init_48 : (.classLink RX3 9 RX0 : Cond) ∈ wsX10_init := List.mem_of_getElem? (i := 48) (by decide +kernel)
set_option maxRecDepth 100000 in
theorem mw_wsX10_init_47 : (.methodLink RX3 3 objectInit : Cond) ∈ wsX10_init := List.mem_of_getElem? (i := 47) (by decide +kernel)
set_option maxRecDepth 20000 in
theorem ggX10_init_X3_init : GoodIn wsX10_init wsX3_init := goodIn_sub (List.forall_mem_cons.mpr ⟨mw_wsX10_init_46, (wK_app (wK_app (List.forall_mem_cons.mpr ⟨mw_wsX10_init_47, (List.forall_mem_cons.mpr ⟨mw_wsX10_init_2, (List.forall_mem_cons.mpr ⟨mw_wsX10_init_3, (List.forall_mem_cons.mpr ⟨mw_wsX10_init_48, (List.forall_mem_cons.mpr ⟨mw_wsX10_init_49, (List.forall_mem_cons.mpr ⟨mw_wsX10_init_50, (List.forall_mem_cons.mpr ⟨mw_wsX10_init_51, (List.forall_mem_cons.mpr ⟨mw_wsX10_init_39, (List.forall_mem_cons.mpr ⟨mw_wsX10_init_52, (List.forall_mem_cons.mpr ⟨mw_wsX10_init_53, (List.forall_mem_cons.mpr ⟨mw_wsX10_init_54, (List.forall_mem_cons.mpr ⟨mw_wsX10_init_55, (List.forall_mem_cons.mpr ⟨mw_wsX10_init_56, (List.forall_mem_cons.mpr ⟨mw_wsX10_init_57, (List.forall_mem_cons.mpr ⟨mw_wsX10_init_58, (List.forall_mem_cons.mpr ⟨mw_wsX10_init_59, (List.forall_mem_cons.mpr ⟨mw_wsX10_init_60, (List.forall_mem_cons.mpr ⟨mw_wsX10_init_61, (List.forall_mem_cons.mpr ⟨mw_wsX10_init_62, (List.forall_mem_cons.mpr ⟨mw_wsX10_init_63, (List.forall_mem_cons.mpr ⟨mw_wsX10_init_64, (fun _ h => absurd h List.not_mem_nil)⟩)⟩)⟩)⟩)⟩)⟩)⟩)⟩)⟩)⟩)⟩)⟩)⟩)⟩)⟩)⟩)⟩)⟩)⟩)⟩)⟩) (fun _ h => List.mem_cons_of_mem _ (List.mem_append_right _ h))) (fun _ h => List.mem_cons_of_mem _ (List.mem_append_left _ (List.mem_append_left _ (List.mem_append_left _ (List.mem_append_left _ (List.mem_append_left _ (List.mem_append_left _ (List.mem_append_left _ (List.mem_append_right _ h))))))))))⟩) (by decide +kernel)
set_option maxRecDepth 20000 in
theorem gX10_init_X3_init_n22 : GoodIn wsX10_init (wsX3_init) := ggX10_init_X3_init
set_option maxRecDepth 100000 in
theorem mw_wsX10_init_67 : (.code yX4_init cX4_init 3 none : Cond) ∈ wsX10_init := List.mem_of_getElem? (i := 67) rfl
set_option maxRecDepth 100000 in
theorem mw_wsX10_init_75 : (.fieldLink RX4 36 "NothingJudge$Reader" "code" "LNothingJudge$Code;" : Cond) ∈ wsX10_init := List.mem_of_getElem? (i := 75) (by decide +kernel)
set_option maxRecDepth 100000 in
theorem mw_wsX10_init_74 : (.fieldLink RX4 30 "NothingJudge$Program" "code" "LNothingJudge$Code;" : Cond) ∈ wsX10_init := List.mem_of_getElem? (i := 74) (by decide +kernel)
set_option maxRecDepth 100000 in
theorem mw_wsX10_init_73 : (.fieldLink RX4 26 "NothingJudge$Reader" "program" "LNothingJudge$Program;" : Cond) ∈ wsX10_init := List.mem_of_getElem? (i := 73) (by decide +kernel)
set_option maxRecDepth 100000 in
theorem mw_wsX10_init_72 : (.fieldLink RX4 22 "NothingJudge$Reader" "tokens" "LNothingJudge$Tokens;" : Cond) ∈ wsX10_init := List.mem_of_getElem? (i := 72) (by decide +kernel)
set_option maxRecDepth 100000 in
theorem mw_wsX10_init_71 : (.fieldLink RX4 18 "NothingJudge$Reader" "wrongPlace" "I" : Cond) ∈ wsX10_init := List.mem_of_getElem? (i := 71) (by decide +kernel)
set_option maxRecDepth 100000 in
theorem mw_wsX10_init_70 : (.fieldLink RX4 15 "NothingJudge$Reader" "openAt" "[I" : Cond) ∈ wsX10_init := List.mem_of_getElem? (i := 70) (by decide +kernel)
set_option maxRecDepth 100000 in
theorem mw_wsX10_init_69 : (.fieldLink RX4 9 "NothingJudge$Reader" "openKind" "[I" : Cond) ∈ wsX10_init := List.mem_of_getElem? (i := 69) (by decide +kernel)
set_option maxRecDepth 100000 in
theorem mw_wsX10_init_68 : (.methodLink RX4 3 objectInit : Cond) ∈ wsX10_init := List.mem_of_getElem? (i := 68) (by decide +kernel)
set_option maxRecDepth 20000 in
theorem ggX10_init_X4_init : GoodIn wsX10_init wsX4_init := goodIn_sub (List.forall_mem_cons.mpr ⟨mw_wsX10_init_67, (wK_app (wK_app (List.forall_mem_cons.mpr ⟨mw_wsX10_init_68, (List.forall_mem_cons.mpr ⟨mw_wsX10_init_2, (List.forall_mem_cons.mpr ⟨mw_wsX10_init_3, (List.forall_mem_cons.mpr ⟨mw_wsX10_init_39, (List.forall_mem_cons.mpr ⟨mw_wsX10_init_69, (List.forall_mem_cons.mpr ⟨mw_wsX10_init_70, (List.forall_mem_cons.mpr ⟨mw_wsX10_init_71, (List.forall_mem_cons.mpr ⟨mw_wsX10_init_72, (List.forall_mem_cons.mpr ⟨mw_wsX10_init_73, (List.forall_mem_cons.mpr ⟨mw_wsX10_init_74, (List.forall_mem_cons.mpr ⟨mw_wsX10_init_75, (fun _ h => absurd h List.not_mem_nil)⟩)⟩)⟩)⟩)⟩)⟩)⟩)⟩)⟩)⟩)⟩) (fun _ h => List.mem_cons_of_mem _ (List.mem_append_left _ (List.mem_append_left _ (List.mem_append_left _ (List.mem_append_left _ (List.mem_append_left _ (List.mem_append_left _ (List.mem_append_right _ h))))))))) (fun _ h => List.mem_cons_of_mem _ (List.mem_append_left _ (List.mem_append_left _ (List.mem_append_left _ (List.mem_append_left _ (List.mem_append_left _ (List.mem_append_left _ (List.mem_append_left _ (List.mem_append_right _ h))))))))))⟩) (by decide +kernel)
set_option maxRecDepth 20000 in
theorem gX10_init_X4_init : GoodIn wsX10_init (wsX4_init) := ggX10_init_X4_init
set_option maxRecDepth 100000 in
theorem mw_wsX10_init_78 : (.code yX7_init cX7_init 2 none : Cond) ∈ wsX10_init := List.mem_of_getElem? (i := 78) rfl
set_option maxRecDepth 100000 in
theorem mw_wsX10_init_82 : (.fieldLink RX7 19 "NothingJudge$Scene" "program" "LNothingJudge$Program;" : Cond) ∈ wsX10_init := List.mem_of_getElem? (i := 82) (by decide +kernel)
set_option maxRecDepth 100000 in
theorem mw_wsX10_init_81 : (.fieldLink RX7 15 "NothingJudge$Scene" "told" "[I" : Cond) ∈ wsX10_init := List.mem_of_getElem? (i := 81) (by decide +kernel)
set_option maxRecDepth 100000 in
theorem mw_wsX10_init_80 : (.fieldLink RX7 9 "NothingJudge$Scene" "start" "I" : Cond) ∈ wsX10_init := List.mem_of_getElem? (i := 80) (by decide +kernel)
set_option maxRecDepth 100000 in
theorem mw_wsX10_init_79 : (.methodLink RX7 3 objectInit : Cond) ∈ wsX10_init := List.mem_of_getElem? (i := 79) (by decide +kernel)
set_option maxRecDepth 20000 in
theorem ggX10_init_X7_init : GoodIn wsX10_init wsX7_init := goodIn_sub (List.forall_mem_cons.mpr ⟨mw_wsX10_init_78, (wK_app (List.forall_mem_cons.mpr ⟨mw_wsX10_init_79, (List.forall_mem_cons.mpr ⟨mw_wsX10_init_2, (List.forall_mem_cons.mpr ⟨mw_wsX10_init_3, (List.forall_mem_cons.mpr ⟨mw_wsX10_init_80, (List.forall_mem_cons.mpr ⟨mw_wsX10_init_39, (List.forall_mem_cons.mpr ⟨mw_wsX10_init_81, (List.forall_mem_cons.mpr ⟨mw_wsX10_init_82, (fun _ h => absurd h List.not_mem_nil)⟩)⟩)⟩)⟩)⟩)⟩)⟩) (fun _ h => List.mem_cons_of_mem _ (List.mem_append_left _ (List.mem_append_left _ (List.mem_append_left _ (List.mem_append_left _ (List.mem_append_left _ (List.mem_append_right _ h))))))))⟩) (by decide +kernel)
set_option maxRecDepth 20000 in
theorem gX10_init_X7_init : GoodIn wsX10_init (wsX7_init) := ggX10_init_X7_init
set_option maxRecDepth 100000 in
theorem mw_wsX10_init_85 : (.code yX1_init cX1_init 2 none : Cond) ∈ wsX10_init := List.mem_of_getElem? (i := 85) rfl
set_option maxRecDepth 100000 in
theorem mw_wsX10_init_98 : (.fieldLink RX1 49 "NothingJudge$Facts" "code" "LNothingJudge$Code;" : Cond) ∈ wsX10_init := List.mem_of_getElem? (i := 98) (by decide +kernel)
set_option maxRecDepth 100000 in
theorem mw_wsX10_init_97 : (.fieldLink RX1 43 "NothingJudge$Program" "code" "LNothingJudge$Code;" : Cond) ∈ wsX10_init := List.mem_of_getElem? (i := 97) (by decide +kernel)
set_option maxRecDepth 100000 in
theorem mw_wsX10_init_96 : (.fieldLink RX1 42 "NothingJudge$Facts" "program" "LNothingJudge$Program;" : Cond) ∈ wsX10_init := List.mem_of_getElem? (i := 96) (by decide +kernel)
set_option maxRecDepth 100000 in
theorem mw_wsX10_init_95 : (.fieldLink RX1 36 "NothingJudge$Scene" "program" "LNothingJudge$Program;" : Cond) ∈ wsX10_init := List.mem_of_getElem? (i := 95) (by decide +kernel)
set_option maxRecDepth 100000 in
theorem mw_wsX10_init_94 : (.fieldLink RX1 32 "NothingJudge$Facts" "scene" "LNothingJudge$Scene;" : Cond) ∈ wsX10_init := List.mem_of_getElem? (i := 94) (by decide +kernel)
set_option maxRecDepth 100000 in
theorem mw_wsX10_init_93 : (.fieldLink RX1 28 "NothingJudge$Facts" "stale" "Z" : Cond) ∈ wsX10_init := List.mem_of_getElem? (i := 93) (by decide +kernel)
set_option maxRecDepth 100000 in
theorem mw_wsX10_init_92 : (.fieldLink RX1 25 "NothingJudge$Facts" "tested" "[I" : Cond) ∈ wsX10_init := List.mem_of_getElem? (i := 92) (by decide +kernel)
set_option maxRecDepth 100000 in
theorem mw_wsX10_init_91 : (.fieldLink RX1 22 "NothingJudge$Facts" "used" "[I" : Cond) ∈ wsX10_init := List.mem_of_getElem? (i := 91) (by decide +kernel)
set_option maxRecDepth 100000 in
theorem mw_wsX10_init_90 : (.fieldLink RX1 19 "NothingJudge$Facts" "marks" "[I" : Cond) ∈ wsX10_init := List.mem_of_getElem? (i := 90) (by decide +kernel)
set_option maxRecDepth 100000 in
theorem mw_wsX10_init_89 : (.fieldLink RX1 15 "NothingJudge$Facts" "seenAt" "[I" : Cond) ∈ wsX10_init := List.mem_of_getElem? (i := 89) (by decide +kernel)
set_option maxRecDepth 100000 in
theorem mw_wsX10_init_88 : (.fieldLink RX1 9 "NothingJudge$Facts" "state" "[J" : Cond) ∈ wsX10_init := List.mem_of_getElem? (i := 88) (by decide +kernel)
set_option maxRecDepth 100000 in
theorem mw_wsX10_init_87 : (.arrayClass .long : Cond) ∈ wsX10_init := List.mem_of_getElem? (i := 87) (by decide +kernel)
set_option maxRecDepth 100000 in
theorem mw_wsX10_init_86 : (.methodLink RX1 3 objectInit : Cond) ∈ wsX10_init := List.mem_of_getElem? (i := 86) (by decide +kernel)
set_option maxRecDepth 20000 in
theorem ggX10_init_X1_init : GoodIn wsX10_init wsX1_init := goodIn_sub (List.forall_mem_cons.mpr ⟨mw_wsX10_init_85, (wK_app (wK_app (wK_app (List.forall_mem_cons.mpr ⟨mw_wsX10_init_86, (List.forall_mem_cons.mpr ⟨mw_wsX10_init_2, (List.forall_mem_cons.mpr ⟨mw_wsX10_init_3, (List.forall_mem_cons.mpr ⟨mw_wsX10_init_87, (List.forall_mem_cons.mpr ⟨mw_wsX10_init_88, (List.forall_mem_cons.mpr ⟨mw_wsX10_init_39, (List.forall_mem_cons.mpr ⟨mw_wsX10_init_89, (List.forall_mem_cons.mpr ⟨mw_wsX10_init_90, (List.forall_mem_cons.mpr ⟨mw_wsX10_init_91, (List.forall_mem_cons.mpr ⟨mw_wsX10_init_92, (List.forall_mem_cons.mpr ⟨mw_wsX10_init_93, (List.forall_mem_cons.mpr ⟨mw_wsX10_init_94, (List.forall_mem_cons.mpr ⟨mw_wsX10_init_95, (List.forall_mem_cons.mpr ⟨mw_wsX10_init_96, (List.forall_mem_cons.mpr ⟨mw_wsX10_init_97, (List.forall_mem_cons.mpr ⟨mw_wsX10_init_98, (fun _ h => absurd h List.not_mem_nil)⟩)⟩)⟩)⟩)⟩)⟩)⟩)⟩)⟩)⟩)⟩)⟩)⟩)⟩)⟩)⟩) (fun _ h => List.mem_cons_of_mem _ (List.mem_append_left _ (List.mem_append_left _ (List.mem_append_left _ (List.mem_append_left _ (List.mem_append_right _ h))))))) (fun _ h => List.mem_cons_of_mem _ (List.mem_append_left _ (List.mem_append_left _ (List.mem_append_left _ (List.mem_append_left _ (List.mem_append_left _ (List.mem_append_right _ h)))))))) (fun _ h => List.mem_cons_of_mem _ (List.mem_append_left _ (List.mem_append_left _ (List.mem_append_left _ (List.mem_append_left _ (List.mem_append_left _ (List.mem_append_left _ (List.mem_append_left _ (List.mem_append_right _ h))))))))))⟩) (by decide +kernel)
set_option maxRecDepth 20000 in
theorem gX10_init_X1_init : GoodIn wsX10_init (wsX1_init) := ggX10_init_X1_init
set_option maxRecDepth 100000 in
theorem mw_wsX10_init_101 : (.code yX6_init cX6_init 2 none : Cond) ∈ wsX10_init := List.mem_of_getElem? (i := 101) rfl
set_option maxRecDepth 100000 in
theorem mw_wsX10_init_110 : (.fieldLink RX6 38 "NothingJudge$Runner" "code" "LNothingJudge$Code;" : Cond) ∈ wsX10_init := List.mem_of_getElem? (i := 110) (by decide +kernel)
set_option maxRecDepth 100000 in
theorem mw_wsX10_init_109 : (.fieldLink RX6 32 "NothingJudge$Program" "code" "LNothingJudge$Code;" : Cond) ∈ wsX10_init := List.mem_of_getElem? (i := 109) (by decide +kernel)
set_option maxRecDepth 100000 in
theorem mw_wsX10_init_108 : (.fieldLink RX6 31 "NothingJudge$Runner" "program" "LNothingJudge$Program;" : Cond) ∈ wsX10_init := List.mem_of_getElem? (i := 108) (by decide +kernel)
set_option maxRecDepth 100000 in
theorem mw_wsX10_init_107 : (.fieldLink RX6 25 "NothingJudge$Scene" "program" "LNothingJudge$Program;" : Cond) ∈ wsX10_init := List.mem_of_getElem? (i := 107) (by decide +kernel)
set_option maxRecDepth 100000 in
theorem mw_wsX10_init_106 : (.fieldLink RX6 21 "NothingJudge$Runner" "scene" "LNothingJudge$Scene;" : Cond) ∈ wsX10_init := List.mem_of_getElem? (i := 106) (by decide +kernel)
set_option maxRecDepth 100000 in
theorem mw_wsX10_init_105 : (.fieldLink RX6 18 "NothingJudge$Runner" "fields" "[I" : Cond) ∈ wsX10_init := List.mem_of_getElem? (i := 105) (by decide +kernel)
set_option maxRecDepth 100000 in
theorem mw_wsX10_init_104 : (.fieldLink RX6 15 "NothingJudge$Runner" "back" "[I" : Cond) ∈ wsX10_init := List.mem_of_getElem? (i := 104) (by decide +kernel)
set_option maxRecDepth 100000 in
theorem mw_wsX10_init_103 : (.fieldLink RX6 11 "NothingJudge$Runner" "names" "[I" : Cond) ∈ wsX10_init := List.mem_of_getElem? (i := 103) (by decide +kernel)
set_option maxRecDepth 100000 in
theorem mw_wsX10_init_102 : (.methodLink RX6 3 objectInit : Cond) ∈ wsX10_init := List.mem_of_getElem? (i := 102) (by decide +kernel)
set_option maxRecDepth 20000 in
theorem ggX10_init_X6_init : GoodIn wsX10_init wsX6_init := goodIn_sub (List.forall_mem_cons.mpr ⟨mw_wsX10_init_101, (wK_app (wK_app (wK_app (List.forall_mem_cons.mpr ⟨mw_wsX10_init_102, (List.forall_mem_cons.mpr ⟨mw_wsX10_init_2, (List.forall_mem_cons.mpr ⟨mw_wsX10_init_3, (List.forall_mem_cons.mpr ⟨mw_wsX10_init_39, (List.forall_mem_cons.mpr ⟨mw_wsX10_init_103, (List.forall_mem_cons.mpr ⟨mw_wsX10_init_104, (List.forall_mem_cons.mpr ⟨mw_wsX10_init_105, (List.forall_mem_cons.mpr ⟨mw_wsX10_init_106, (List.forall_mem_cons.mpr ⟨mw_wsX10_init_107, (List.forall_mem_cons.mpr ⟨mw_wsX10_init_108, (List.forall_mem_cons.mpr ⟨mw_wsX10_init_109, (List.forall_mem_cons.mpr ⟨mw_wsX10_init_110, (fun _ h => absurd h List.not_mem_nil)⟩)⟩)⟩)⟩)⟩)⟩)⟩)⟩)⟩)⟩)⟩)⟩) (fun _ h => List.mem_cons_of_mem _ (List.mem_append_left _ (List.mem_append_left _ (List.mem_append_left _ (List.mem_append_right _ h)))))) (fun _ h => List.mem_cons_of_mem _ (List.mem_append_left _ (List.mem_append_left _ (List.mem_append_left _ (List.mem_append_left _ (List.mem_append_left _ (List.mem_append_right _ h)))))))) (fun _ h => List.mem_cons_of_mem _ (List.mem_append_left _ (List.mem_append_left _ (List.mem_append_left _ (List.mem_append_left _ (List.mem_append_left _ (List.mem_append_left _ (List.mem_append_left _ (List.mem_append_right _ h))))))))))⟩) (by decide +kernel)
set_option maxRecDepth 20000 in
theorem gX10_init_X6_init : GoodIn wsX10_init (wsX6_init) := ggX10_init_X6_init
set_option maxRecDepth 100000 in
theorem mw_wsX10_init_113 : (.code yX9_init cX9_init 3 none : Cond) ∈ wsX10_init := List.mem_of_getElem? (i := 113) rfl
set_option maxRecDepth 100000 in
theorem mw_wsX10_init_119 : (.fieldLink RX9 26 "NothingJudge$Trials" "runner" "LNothingJudge$Runner;" : Cond) ∈ wsX10_init := List.mem_of_getElem? (i := 119) (by decide +kernel)
set_option maxRecDepth 100000 in
theorem mw_wsX10_init_118 : (.fieldLink RX9 22 "NothingJudge$Trials" "scene" "LNothingJudge$Scene;" : Cond) ∈ wsX10_init := List.mem_of_getElem? (i := 118) (by decide +kernel)
set_option maxRecDepth 100000 in
theorem mw_wsX10_init_117 : (.fieldLink RX9 18 "NothingJudge$Trials" "stale" "Z" : Cond) ∈ wsX10_init := List.mem_of_getElem? (i := 117) (by decide +kernel)
set_option maxRecDepth 100000 in
theorem mw_wsX10_init_116 : (.fieldLink RX9 15 "NothingJudge$Trials" "knownFor" "[I" : Cond) ∈ wsX10_init := List.mem_of_getElem? (i := 116) (by decide +kernel)
set_option maxRecDepth 100000 in
theorem mw_wsX10_init_115 : (.fieldLink RX9 9 "NothingJudge$Trials" "first" "[I" : Cond) ∈ wsX10_init := List.mem_of_getElem? (i := 115) (by decide +kernel)
set_option maxRecDepth 100000 in
theorem mw_wsX10_init_114 : (.methodLink RX9 3 objectInit : Cond) ∈ wsX10_init := List.mem_of_getElem? (i := 114) (by decide +kernel)
set_option maxRecDepth 20000 in
theorem ggX10_init_X9_init : GoodIn wsX10_init wsX9_init := goodIn_sub (List.forall_mem_cons.mpr ⟨mw_wsX10_init_113, (wK_app (List.forall_mem_cons.mpr ⟨mw_wsX10_init_114, (List.forall_mem_cons.mpr ⟨mw_wsX10_init_2, (List.forall_mem_cons.mpr ⟨mw_wsX10_init_3, (List.forall_mem_cons.mpr ⟨mw_wsX10_init_39, (List.forall_mem_cons.mpr ⟨mw_wsX10_init_115, (List.forall_mem_cons.mpr ⟨mw_wsX10_init_116, (List.forall_mem_cons.mpr ⟨mw_wsX10_init_117, (List.forall_mem_cons.mpr ⟨mw_wsX10_init_118, (List.forall_mem_cons.mpr ⟨mw_wsX10_init_119, (fun _ h => absurd h List.not_mem_nil)⟩)⟩)⟩)⟩)⟩)⟩)⟩)⟩)⟩) (fun _ h => List.mem_cons_of_mem _ (List.mem_append_left _ (List.mem_append_left _ (List.mem_append_right _ h)))))⟩) (by decide +kernel)
set_option maxRecDepth 20000 in
theorem gX10_init_X9_init : GoodIn wsX10_init (wsX9_init) := ggX10_init_X9_init
set_option maxRecDepth 100000 in
theorem mw_wsX10_init_122 : (.code yX2_init cX2_init 2 none : Cond) ∈ wsX10_init := List.mem_of_getElem? (i := 122) rfl
set_option maxRecDepth 100000 in
theorem mw_wsX10_init_129 : (.fieldLink RX2 29 "NothingJudge$Mender" "facts" "LNothingJudge$Facts;" : Cond) ∈ wsX10_init := List.mem_of_getElem? (i := 129) (by decide +kernel)
set_option maxRecDepth 100000 in
theorem mw_wsX10_init_128 : (.fieldLink RX2 25 "NothingJudge$Mender" "cost" "I" : Cond) ∈ wsX10_init := List.mem_of_getElem? (i := 128) (by decide +kernel)
set_option maxRecDepth 100000 in
theorem mw_wsX10_init_127 : (.fieldLink RX2 21 "NothingJudge$Mender" "stale" "Z" : Cond) ∈ wsX10_init := List.mem_of_getElem? (i := 127) (by decide +kernel)
set_option maxRecDepth 100000 in
theorem mw_wsX10_init_126 : (.fieldLink RX2 18 "NothingJudge$Mender" "heldNames" "[I" : Cond) ∈ wsX10_init := List.mem_of_getElem? (i := 126) (by decide +kernel)
set_option maxRecDepth 100000 in
theorem mw_wsX10_init_125 : (.fieldLink RX2 15 "NothingJudge$Mender" "candidates" "[I" : Cond) ∈ wsX10_init := List.mem_of_getElem? (i := 125) (by decide +kernel)
set_option maxRecDepth 100000 in
theorem mw_wsX10_init_124 : (.fieldLink RX2 9 "NothingJudge$Mender" "prices" "[I" : Cond) ∈ wsX10_init := List.mem_of_getElem? (i := 124) (by decide +kernel)
set_option maxRecDepth 100000 in
theorem mw_wsX10_init_123 : (.methodLink RX2 3 objectInit : Cond) ∈ wsX10_init := List.mem_of_getElem? (i := 123) (by decide +kernel)
set_option maxRecDepth 20000 in
theorem ggX10_init_X2_init : GoodIn wsX10_init wsX2_init := goodIn_sub (List.forall_mem_cons.mpr ⟨mw_wsX10_init_122, (wK_app (List.forall_mem_cons.mpr ⟨mw_wsX10_init_123, (List.forall_mem_cons.mpr ⟨mw_wsX10_init_2, (List.forall_mem_cons.mpr ⟨mw_wsX10_init_3, (List.forall_mem_cons.mpr ⟨mw_wsX10_init_39, (List.forall_mem_cons.mpr ⟨mw_wsX10_init_124, (List.forall_mem_cons.mpr ⟨mw_wsX10_init_125, (List.forall_mem_cons.mpr ⟨mw_wsX10_init_126, (List.forall_mem_cons.mpr ⟨mw_wsX10_init_127, (List.forall_mem_cons.mpr ⟨mw_wsX10_init_128, (List.forall_mem_cons.mpr ⟨mw_wsX10_init_129, (fun _ h => absurd h List.not_mem_nil)⟩)⟩)⟩)⟩)⟩)⟩)⟩)⟩)⟩)⟩) (fun _ h => List.mem_cons_of_mem _ (List.mem_append_left _ (List.mem_append_right _ h))))⟩) (by decide +kernel)
set_option maxRecDepth 20000 in
theorem gX10_init_X2_init : GoodIn wsX10_init (wsX2_init) := ggX10_init_X2_init
theorem dX10_init_0 : decode cX10_init 0 = .ok (.aload_n 0, 1) := by decide +kernel
theorem dX10_init_1 : decode cX10_init 1 = .ok (.invokespecial 3, 3) := by decide +kernel
theorem dX10_init_4 : decode cX10_init 4 = .ok (.aload_n 0, 1) := by decide +kernel
theorem dX10_init_5 : decode cX10_init 5 = .ok (.sipush 1200, 3) := by decide +kernel
theorem dX10_init_8 : decode cX10_init 8 = .ok (.newarray .byte, 2) := by decide +kernel
theorem dX10_init_10 : decode cX10_init 10 = .ok (.putfield 9, 3) := by decide +kernel
theorem dX10_init_13 : decode cX10_init 13 = .ok (.aload_n 0, 1) := by decide +kernel
theorem dX10_init_14 : decode cX10_init 14 = .ok (.new 13, 3) := by decide +kernel
theorem dX10_init_17 : decode cX10_init 17 = .ok (.dup, 1) := by decide +kernel
theorem dX10_init_18 : decode cX10_init 18 = .ok (.invokespecial 15, 3) := by decide +kernel
theorem dX10_init_21 : decode cX10_init 21 = .ok (.putfield 16, 3) := by decide +kernel
theorem dX10_init_24 : decode cX10_init 24 = .ok (.aload_n 0, 1) := by decide +kernel
theorem dX10_init_25 : decode cX10_init 25 = .ok (.new 20, 3) := by decide +kernel
theorem dX10_init_28 : decode cX10_init 28 = .ok (.dup, 1) := by decide +kernel
theorem dX10_init_29 : decode cX10_init 29 = .ok (.invokespecial 22, 3) := by decide +kernel
theorem dX10_init_32 : decode cX10_init 32 = .ok (.putfield 23, 3) := by decide +kernel
theorem dX10_init_35 : decode cX10_init 35 = .ok (.aload_n 0, 1) := by decide +kernel
theorem dX10_init_36 : decode cX10_init 36 = .ok (.new 27, 3) := by decide +kernel
theorem dX10_init_39 : decode cX10_init 39 = .ok (.dup, 1) := by decide +kernel
theorem dX10_init_40 : decode cX10_init 40 = .ok (.aload_n 0, 1) := by decide +kernel
theorem dX10_init_41 : decode cX10_init 41 = .ok (.getfield 16, 3) := by decide +kernel
theorem dX10_init_44 : decode cX10_init 44 = .ok (.aload_n 0, 1) := by decide +kernel
theorem dX10_init_45 : decode cX10_init 45 = .ok (.getfield 23, 3) := by decide +kernel
theorem dX10_init_48 : decode cX10_init 48 = .ok (.invokespecial 29, 3) := by decide +kernel
theorem dX10_init_51 : decode cX10_init 51 = .ok (.putfield 32, 3) := by decide +kernel
theorem dX10_init_54 : decode cX10_init 54 = .ok (.aload_n 0, 1) := by decide +kernel
theorem dX10_init_55 : decode cX10_init 55 = .ok (.iconst (-1), 1) := by decide +kernel
theorem dX10_init_56 : decode cX10_init 56 = .ok (.putfield 36, 3) := by decide +kernel
theorem dX10_init_59 : decode cX10_init 59 = .ok (.aload_n 0, 1) := by decide +kernel
theorem dX10_init_60 : decode cX10_init 60 = .ok (.new 40, 3) := by decide +kernel
theorem dX10_init_63 : decode cX10_init 63 = .ok (.dup, 1) := by decide +kernel
theorem dX10_init_64 : decode cX10_init 64 = .ok (.new 20, 3) := by decide +kernel
theorem dX10_init_67 : decode cX10_init 67 = .ok (.dup, 1) := by decide +kernel
theorem dX10_init_68 : decode cX10_init 68 = .ok (.invokespecial 22, 3) := by decide +kernel
theorem dX10_init_71 : decode cX10_init 71 = .ok (.invokespecial 42, 3) := by decide +kernel
theorem dX10_init_74 : decode cX10_init 74 = .ok (.putfield 45, 3) := by decide +kernel
theorem dX10_init_77 : decode cX10_init 77 = .ok (.aload_n 0, 1) := by decide +kernel
theorem dX10_init_78 : decode cX10_init 78 = .ok (.new 49, 3) := by decide +kernel
theorem dX10_init_81 : decode cX10_init 81 = .ok (.dup, 1) := by decide +kernel
theorem dX10_init_82 : decode cX10_init 82 = .ok (.aload_n 0, 1) := by decide +kernel
theorem dX10_init_83 : decode cX10_init 83 = .ok (.getfield 45, 3) := by decide +kernel
theorem dX10_init_86 : decode cX10_init 86 = .ok (.invokespecial 51, 3) := by decide +kernel
theorem dX10_init_89 : decode cX10_init 89 = .ok (.putfield 54, 3) := by decide +kernel
theorem dX10_init_92 : decode cX10_init 92 = .ok (.aload_n 0, 1) := by decide +kernel
theorem dX10_init_93 : decode cX10_init 93 = .ok (.new 58, 3) := by decide +kernel
theorem dX10_init_96 : decode cX10_init 96 = .ok (.dup, 1) := by decide +kernel
theorem dX10_init_97 : decode cX10_init 97 = .ok (.aload_n 0, 1) := by decide +kernel
theorem dX10_init_98 : decode cX10_init 98 = .ok (.getfield 45, 3) := by decide +kernel
theorem dX10_init_101 : decode cX10_init 101 = .ok (.invokespecial 60, 3) := by decide +kernel
theorem dX10_init_104 : decode cX10_init 104 = .ok (.putfield 61, 3) := by decide +kernel
theorem dX10_init_107 : decode cX10_init 107 = .ok (.aload_n 0, 1) := by decide +kernel
theorem dX10_init_108 : decode cX10_init 108 = .ok (.new 65, 3) := by decide +kernel
theorem dX10_init_111 : decode cX10_init 111 = .ok (.dup, 1) := by decide +kernel
theorem dX10_init_112 : decode cX10_init 112 = .ok (.aload_n 0, 1) := by decide +kernel
theorem dX10_init_113 : decode cX10_init 113 = .ok (.getfield 45, 3) := by decide +kernel
theorem dX10_init_116 : decode cX10_init 116 = .ok (.aload_n 0, 1) := by decide +kernel
theorem dX10_init_117 : decode cX10_init 117 = .ok (.getfield 61, 3) := by decide +kernel
theorem dX10_init_120 : decode cX10_init 120 = .ok (.invokespecial 67, 3) := by decide +kernel
theorem dX10_init_123 : decode cX10_init 123 = .ok (.putfield 70, 3) := by decide +kernel
theorem dX10_init_126 : decode cX10_init 126 = .ok (.aload_n 0, 1) := by decide +kernel
theorem dX10_init_127 : decode cX10_init 127 = .ok (.new 74, 3) := by decide +kernel
theorem dX10_init_130 : decode cX10_init 130 = .ok (.dup, 1) := by decide +kernel
theorem dX10_init_131 : decode cX10_init 131 = .ok (.aload_n 0, 1) := by decide +kernel
theorem dX10_init_132 : decode cX10_init 132 = .ok (.getfield 54, 3) := by decide +kernel
theorem dX10_init_135 : decode cX10_init 135 = .ok (.invokespecial 76, 3) := by decide +kernel
theorem dX10_init_138 : decode cX10_init 138 = .ok (.putfield 79, 3) := by decide +kernel
theorem dX10_init_141 : decode cX10_init 141 = .ok (.aload_n 0, 1) := by decide +kernel
theorem dX10_init_142 : decode cX10_init 142 = .ok (.iconst 4, 1) := by decide +kernel
theorem dX10_init_143 : decode cX10_init 143 = .ok (.newarray .int, 2) := by decide +kernel
theorem dX10_init_145 : decode cX10_init 145 = .ok (.dup, 1) := by decide +kernel
theorem dX10_init_146 : decode cX10_init 146 = .ok (.iconst 0, 1) := by decide +kernel
theorem dX10_init_147 : decode cX10_init 147 = .ok (.iconst (-1), 1) := by decide +kernel
theorem dX10_init_148 : decode cX10_init 148 = .ok (.iastore, 1) := by decide +kernel
theorem dX10_init_149 : decode cX10_init 149 = .ok (.dup, 1) := by decide +kernel
theorem dX10_init_150 : decode cX10_init 150 = .ok (.iconst 1, 1) := by decide +kernel
theorem dX10_init_151 : decode cX10_init 151 = .ok (.iconst (-1), 1) := by decide +kernel
theorem dX10_init_152 : decode cX10_init 152 = .ok (.iastore, 1) := by decide +kernel
theorem dX10_init_153 : decode cX10_init 153 = .ok (.dup, 1) := by decide +kernel
theorem dX10_init_154 : decode cX10_init 154 = .ok (.iconst 2, 1) := by decide +kernel
theorem dX10_init_155 : decode cX10_init 155 = .ok (.iconst (-1), 1) := by decide +kernel
theorem dX10_init_156 : decode cX10_init 156 = .ok (.iastore, 1) := by decide +kernel
theorem dX10_init_157 : decode cX10_init 157 = .ok (.dup, 1) := by decide +kernel
theorem dX10_init_158 : decode cX10_init 158 = .ok (.iconst 3, 1) := by decide +kernel
theorem dX10_init_159 : decode cX10_init 159 = .ok (.iconst (-1), 1) := by decide +kernel
theorem dX10_init_160 : decode cX10_init 160 = .ok (.iastore, 1) := by decide +kernel
theorem dX10_init_161 : decode cX10_init 161 = .ok (.putfield 83, 3) := by decide +kernel
theorem dX10_init_164 : decode cX10_init 164 = .ok (.return_, 1) := by decide +kernel
theorem dX11_init_0 : decode cX11_init 0 = .ok (.aload_n 0, 1) := by decide +kernel
theorem dX11_init_1 : decode cX11_init 1 = .ok (.invokespecial 1, 3) := by decide +kernel
theorem dX11_init_4 : decode cX11_init 4 = .ok (.aload_n 0, 1) := by decide +kernel
theorem dX11_init_5 : decode cX11_init 5 = .ok (.sipush 1200, 3) := by decide +kernel
theorem dX11_init_8 : decode cX11_init 8 = .ok (.newarray .int, 2) := by decide +kernel
theorem dX11_init_10 : decode cX11_init 10 = .ok (.putfield 7, 3) := by decide +kernel
theorem dX11_init_13 : decode cX11_init 13 = .ok (.aload_n 0, 1) := by decide +kernel
theorem dX11_init_14 : decode cX11_init 14 = .ok (.iconst (-1), 1) := by decide +kernel
theorem dX11_init_15 : decode cX11_init 15 = .ok (.putfield 13, 3) := by decide +kernel
theorem dX11_init_18 : decode cX11_init 18 = .ok (.aload_n 0, 1) := by decide +kernel
theorem dX11_init_19 : decode cX11_init 19 = .ok (.sipush 2600, 3) := by decide +kernel
theorem dX11_init_22 : decode cX11_init 22 = .ok (.newarray .int, 2) := by decide +kernel
theorem dX11_init_24 : decode cX11_init 24 = .ok (.putfield 17, 3) := by decide +kernel
theorem dX11_init_27 : decode cX11_init 27 = .ok (.aload_n 0, 1) := by decide +kernel
theorem dX11_init_28 : decode cX11_init 28 = .ok (.sipush 2600, 3) := by decide +kernel
theorem dX11_init_31 : decode cX11_init 31 = .ok (.newarray .int, 2) := by decide +kernel
theorem dX11_init_33 : decode cX11_init 33 = .ok (.putfield 20, 3) := by decide +kernel
theorem dX11_init_36 : decode cX11_init 36 = .ok (.aload_n 0, 1) := by decide +kernel
theorem dX11_init_37 : decode cX11_init 37 = .ok (.sipush 2600, 3) := by decide +kernel
theorem dX11_init_40 : decode cX11_init 40 = .ok (.newarray .int, 2) := by decide +kernel
theorem dX11_init_42 : decode cX11_init 42 = .ok (.putfield 23, 3) := by decide +kernel
theorem dX11_init_45 : decode cX11_init 45 = .ok (.aload_n 0, 1) := by decide +kernel
theorem dX11_init_46 : decode cX11_init 46 = .ok (.sipush 2600, 3) := by decide +kernel
theorem dX11_init_49 : decode cX11_init 49 = .ok (.newarray .int, 2) := by decide +kernel
theorem dX11_init_51 : decode cX11_init 51 = .ok (.putfield 26, 3) := by decide +kernel
theorem dX11_init_54 : decode cX11_init 54 = .ok (.aload_n 0, 1) := by decide +kernel
theorem dX11_init_55 : decode cX11_init 55 = .ok (.sipush 2600, 3) := by decide +kernel
theorem dX11_init_58 : decode cX11_init 58 = .ok (.newarray .int, 2) := by decide +kernel
theorem dX11_init_60 : decode cX11_init 60 = .ok (.putfield 29, 3) := by decide +kernel
theorem dX11_init_63 : decode cX11_init 63 = .ok (.aload_n 0, 1) := by decide +kernel
theorem dX11_init_64 : decode cX11_init 64 = .ok (.bipush 16, 2) := by decide +kernel
theorem dX11_init_66 : decode cX11_init 66 = .ok (.newarray .int, 2) := by decide +kernel
theorem dX11_init_68 : decode cX11_init 68 = .ok (.putfield 32, 3) := by decide +kernel
theorem dX11_init_71 : decode cX11_init 71 = .ok (.aload_n 0, 1) := by decide +kernel
theorem dX11_init_72 : decode cX11_init 72 = .ok (.bipush 16, 2) := by decide +kernel
theorem dX11_init_74 : decode cX11_init 74 = .ok (.newarray .int, 2) := by decide +kernel
theorem dX11_init_76 : decode cX11_init 76 = .ok (.putfield 35, 3) := by decide +kernel
theorem dX11_init_79 : decode cX11_init 79 = .ok (.aload_n 0, 1) := by decide +kernel
theorem dX11_init_80 : decode cX11_init 80 = .ok (.bipush 64, 2) := by decide +kernel
theorem dX11_init_82 : decode cX11_init 82 = .ok (.newarray .int, 2) := by decide +kernel
theorem dX11_init_84 : decode cX11_init 84 = .ok (.putfield 38, 3) := by decide +kernel
theorem dX11_init_87 : decode cX11_init 87 = .ok (.aload_n 0, 1) := by decide +kernel
theorem dX11_init_88 : decode cX11_init 88 = .ok (.iconst 2, 1) := by decide +kernel
theorem dX11_init_89 : decode cX11_init 89 = .ok (.newarray .int, 2) := by decide +kernel
theorem dX11_init_91 : decode cX11_init 91 = .ok (.putfield 41, 3) := by decide +kernel
theorem dX11_init_94 : decode cX11_init 94 = .ok (.aload_n 0, 1) := by decide +kernel
theorem dX11_init_95 : decode cX11_init 95 = .ok (.bipush 82, 2) := by decide +kernel
theorem dX11_init_97 : decode cX11_init 97 = .ok (.newarray .int, 2) := by decide +kernel
theorem dX11_init_99 : decode cX11_init 99 = .ok (.putfield 44, 3) := by decide +kernel
theorem dX11_init_102 : decode cX11_init 102 = .ok (.aload_n 0, 1) := by decide +kernel
theorem dX11_init_103 : decode cX11_init 103 = .ok (.bipush 82, 2) := by decide +kernel
theorem dX11_init_105 : decode cX11_init 105 = .ok (.newarray .int, 2) := by decide +kernel
theorem dX11_init_107 : decode cX11_init 107 = .ok (.putfield 47, 3) := by decide +kernel
theorem dX11_init_110 : decode cX11_init 110 = .ok (.aload_n 0, 1) := by decide +kernel
theorem dX11_init_111 : decode cX11_init 111 = .ok (.bipush 82, 2) := by decide +kernel
theorem dX11_init_113 : decode cX11_init 113 = .ok (.newarray .int, 2) := by decide +kernel
theorem dX11_init_115 : decode cX11_init 115 = .ok (.putfield 50, 3) := by decide +kernel
theorem dX11_init_118 : decode cX11_init 118 = .ok (.aload_n 0, 1) := by decide +kernel
theorem dX11_init_119 : decode cX11_init 119 = .ok (.iconst 2, 1) := by decide +kernel
theorem dX11_init_120 : decode cX11_init 120 = .ok (.newarray .int, 2) := by decide +kernel
theorem dX11_init_122 : decode cX11_init 122 = .ok (.putfield 53, 3) := by decide +kernel
theorem dX11_init_125 : decode cX11_init 125 = .ok (.aload_n 0, 1) := by decide +kernel
theorem dX11_init_126 : decode cX11_init 126 = .ok (.bipush 50, 2) := by decide +kernel
theorem dX11_init_128 : decode cX11_init 128 = .ok (.newarray .int, 2) := by decide +kernel
theorem dX11_init_130 : decode cX11_init 130 = .ok (.putfield 56, 3) := by decide +kernel
theorem dX11_init_133 : decode cX11_init 133 = .ok (.aload_n 0, 1) := by decide +kernel
theorem dX11_init_134 : decode cX11_init 134 = .ok (.bipush 50, 2) := by decide +kernel
theorem dX11_init_136 : decode cX11_init 136 = .ok (.newarray .int, 2) := by decide +kernel
theorem dX11_init_138 : decode cX11_init 138 = .ok (.putfield 59, 3) := by decide +kernel
theorem dX11_init_141 : decode cX11_init 141 = .ok (.aload_n 0, 1) := by decide +kernel
theorem dX11_init_142 : decode cX11_init 142 = .ok (.iconst 2, 1) := by decide +kernel
theorem dX11_init_143 : decode cX11_init 143 = .ok (.newarray .int, 2) := by decide +kernel
theorem dX11_init_145 : decode cX11_init 145 = .ok (.putfield 62, 3) := by decide +kernel
theorem dX11_init_148 : decode cX11_init 148 = .ok (.aload_n 0, 1) := by decide +kernel
theorem dX11_init_149 : decode cX11_init 149 = .ok (.sipush 400, 3) := by decide +kernel
theorem dX11_init_152 : decode cX11_init 152 = .ok (.newarray .int, 2) := by decide +kernel
theorem dX11_init_154 : decode cX11_init 154 = .ok (.putfield 65, 3) := by decide +kernel
theorem dX11_init_157 : decode cX11_init 157 = .ok (.aload_n 0, 1) := by decide +kernel
theorem dX11_init_158 : decode cX11_init 158 = .ok (.sipush 400, 3) := by decide +kernel
theorem dX11_init_161 : decode cX11_init 161 = .ok (.newarray .int, 2) := by decide +kernel
theorem dX11_init_163 : decode cX11_init 163 = .ok (.putfield 68, 3) := by decide +kernel
theorem dX11_init_166 : decode cX11_init 166 = .ok (.aload_n 0, 1) := by decide +kernel
theorem dX11_init_167 : decode cX11_init 167 = .ok (.sipush 400, 3) := by decide +kernel
theorem dX11_init_170 : decode cX11_init 170 = .ok (.newarray .int, 2) := by decide +kernel
theorem dX11_init_172 : decode cX11_init 172 = .ok (.putfield 71, 3) := by decide +kernel
theorem dX11_init_175 : decode cX11_init 175 = .ok (.aload_n 0, 1) := by decide +kernel
theorem dX11_init_176 : decode cX11_init 176 = .ok (.bipush 8, 2) := by decide +kernel
theorem dX11_init_178 : decode cX11_init 178 = .ok (.newarray .int, 2) := by decide +kernel
theorem dX11_init_180 : decode cX11_init 180 = .ok (.putfield 74, 3) := by decide +kernel
theorem dX11_init_183 : decode cX11_init 183 = .ok (.aload_n 0, 1) := by decide +kernel
theorem dX11_init_184 : decode cX11_init 184 = .ok (.bipush 8, 2) := by decide +kernel
theorem dX11_init_186 : decode cX11_init 186 = .ok (.newarray .int, 2) := by decide +kernel
theorem dX11_init_188 : decode cX11_init 188 = .ok (.putfield 77, 3) := by decide +kernel
theorem dX11_init_191 : decode cX11_init 191 = .ok (.aload_n 0, 1) := by decide +kernel
theorem dX11_init_192 : decode cX11_init 192 = .ok (.bipush 8, 2) := by decide +kernel
theorem dX11_init_194 : decode cX11_init 194 = .ok (.newarray .int, 2) := by decide +kernel
theorem dX11_init_196 : decode cX11_init 196 = .ok (.putfield 80, 3) := by decide +kernel
theorem dX11_init_199 : decode cX11_init 199 = .ok (.aload_n 0, 1) := by decide +kernel
theorem dX11_init_200 : decode cX11_init 200 = .ok (.iconst (-1), 1) := by decide +kernel
theorem dX11_init_201 : decode cX11_init 201 = .ok (.putfield 83, 3) := by decide +kernel
theorem dX11_init_204 : decode cX11_init 204 = .ok (.aload_n 0, 1) := by decide +kernel
theorem dX11_init_205 : decode cX11_init 205 = .ok (.iconst 4, 1) := by decide +kernel
theorem dX11_init_206 : decode cX11_init 206 = .ok (.newarray .int, 2) := by decide +kernel
theorem dX11_init_208 : decode cX11_init 208 = .ok (.putfield 86, 3) := by decide +kernel
theorem dX11_init_211 : decode cX11_init 211 = .ok (.aload_n 0, 1) := by decide +kernel
theorem dX11_init_212 : decode cX11_init 212 = .ok (.sipush 1300, 3) := by decide +kernel
theorem dX11_init_215 : decode cX11_init 215 = .ok (.newarray .long, 2) := by decide +kernel
theorem dX11_init_217 : decode cX11_init 217 = .ok (.putfield 89, 3) := by decide +kernel
theorem dX11_init_220 : decode cX11_init 220 = .ok (.aload_n 0, 1) := by decide +kernel
theorem dX11_init_221 : decode cX11_init 221 = .ok (.bipush 42, 2) := by decide +kernel
theorem dX11_init_223 : decode cX11_init 223 = .ok (.newarray .int, 2) := by decide +kernel
theorem dX11_init_225 : decode cX11_init 225 = .ok (.putfield 93, 3) := by decide +kernel
theorem dX11_init_228 : decode cX11_init 228 = .ok (.aload_n 0, 1) := by decide +kernel
theorem dX11_init_229 : decode cX11_init 229 = .ok (.bipush 42, 2) := by decide +kernel
theorem dX11_init_231 : decode cX11_init 231 = .ok (.newarray .boolean, 2) := by decide +kernel
theorem dX11_init_233 : decode cX11_init 233 = .ok (.putfield 96, 3) := by decide +kernel
theorem dX11_init_236 : decode cX11_init 236 = .ok (.aload_n 0, 1) := by decide +kernel
theorem dX11_init_237 : decode cX11_init 237 = .ok (.bipush 25, 2) := by decide +kernel
theorem dX11_init_239 : decode cX11_init 239 = .ok (.newarray .int, 2) := by decide +kernel
theorem dX11_init_241 : decode cX11_init 241 = .ok (.putfield 100, 3) := by decide +kernel
theorem dX11_init_244 : decode cX11_init 244 = .ok (.aload_n 0, 1) := by decide +kernel
theorem dX11_init_245 : decode cX11_init 245 = .ok (.sipush 602, 3) := by decide +kernel
theorem dX11_init_248 : decode cX11_init 248 = .ok (.newarray .int, 2) := by decide +kernel
theorem dX11_init_250 : decode cX11_init 250 = .ok (.putfield 103, 3) := by decide +kernel
theorem dX11_init_253 : decode cX11_init 253 = .ok (.aload_n 0, 1) := by decide +kernel
theorem dX11_init_254 : decode cX11_init 254 = .ok (.sipush 364, 3) := by decide +kernel
theorem dX11_init_257 : decode cX11_init 257 = .ok (.newarray .int, 2) := by decide +kernel
theorem dX11_init_259 : decode cX11_init 259 = .ok (.putfield 106, 3) := by decide +kernel
theorem dX11_init_262 : decode cX11_init 262 = .ok (.aload_n 0, 1) := by decide +kernel
theorem dX11_init_263 : decode cX11_init 263 = .ok (.bipush 14, 2) := by decide +kernel
theorem dX11_init_265 : decode cX11_init 265 = .ok (.newarray .int, 2) := by decide +kernel
theorem dX11_init_267 : decode cX11_init 267 = .ok (.putfield 109, 3) := by decide +kernel
theorem dX11_init_270 : decode cX11_init 270 = .ok (.aload_n 0, 1) := by decide +kernel
theorem dX11_init_271 : decode cX11_init 271 = .ok (.iconst 4, 1) := by decide +kernel
theorem dX11_init_272 : decode cX11_init 272 = .ok (.newarray .int, 2) := by decide +kernel
theorem dX11_init_274 : decode cX11_init 274 = .ok (.putfield 112, 3) := by decide +kernel
theorem dX11_init_277 : decode cX11_init 277 = .ok (.aload_n 0, 1) := by decide +kernel
theorem dX11_init_278 : decode cX11_init 278 = .ok (.bipush 10, 2) := by decide +kernel
theorem dX11_init_280 : decode cX11_init 280 = .ok (.newarray .int, 2) := by decide +kernel
theorem dX11_init_282 : decode cX11_init 282 = .ok (.putfield 115, 3) := by decide +kernel
theorem dX11_init_285 : decode cX11_init 285 = .ok (.aload_n 0, 1) := by decide +kernel
theorem dX11_init_286 : decode cX11_init 286 = .ok (.bipush 10, 2) := by decide +kernel
theorem dX11_init_288 : decode cX11_init 288 = .ok (.newarray .int, 2) := by decide +kernel
theorem dX11_init_290 : decode cX11_init 290 = .ok (.putfield 118, 3) := by decide +kernel
theorem dX11_init_293 : decode cX11_init 293 = .ok (.iconst 0, 1) := by decide +kernel
theorem dX11_init_294 : decode cX11_init 294 = .ok (.istore_n 1, 1) := by decide +kernel
theorem dX11_init_295 : decode cX11_init 295 = .ok (.iload_n 1, 1) := by decide +kernel
theorem dX11_init_296 : decode cX11_init 296 = .ok (.bipush 16, 2) := by decide +kernel
theorem dX11_init_298 : decode cX11_init 298 = .ok (.if_icmp .ge 16, 3) := by decide +kernel
theorem dX11_init_301 : decode cX11_init 301 = .ok (.aload_n 0, 1) := by decide +kernel
theorem dX11_init_302 : decode cX11_init 302 = .ok (.getfield 32, 3) := by decide +kernel
theorem dX11_init_305 : decode cX11_init 305 = .ok (.iload_n 1, 1) := by decide +kernel
theorem dX11_init_306 : decode cX11_init 306 = .ok (.iconst (-1), 1) := by decide +kernel
theorem dX11_init_307 : decode cX11_init 307 = .ok (.iastore, 1) := by decide +kernel
theorem dX11_init_308 : decode cX11_init 308 = .ok (.iinc 1 1, 3) := by decide +kernel
theorem dX11_init_311 : decode cX11_init 311 = .ok (.goto (-16), 3) := by decide +kernel
theorem dX11_init_314 : decode cX11_init 314 = .ok (.aload_n 0, 1) := by decide +kernel
theorem dX11_init_315 : decode cX11_init 315 = .ok (.getfield 112, 3) := by decide +kernel
theorem dX11_init_318 : decode cX11_init 318 = .ok (.iconst 0, 1) := by decide +kernel
theorem dX11_init_319 : decode cX11_init 319 = .ok (.iconst 3, 1) := by decide +kernel
theorem dX11_init_320 : decode cX11_init 320 = .ok (.iastore, 1) := by decide +kernel
theorem dX11_init_321 : decode cX11_init 321 = .ok (.aload_n 0, 1) := by decide +kernel
theorem dX11_init_322 : decode cX11_init 322 = .ok (.getfield 112, 3) := by decide +kernel
theorem dX11_init_325 : decode cX11_init 325 = .ok (.iconst 1, 1) := by decide +kernel
theorem dX11_init_326 : decode cX11_init 326 = .ok (.iconst 2, 1) := by decide +kernel
theorem dX11_init_327 : decode cX11_init 327 = .ok (.iastore, 1) := by decide +kernel
theorem dX11_init_328 : decode cX11_init 328 = .ok (.aload_n 0, 1) := by decide +kernel
theorem dX11_init_329 : decode cX11_init 329 = .ok (.getfield 112, 3) := by decide +kernel
theorem dX11_init_332 : decode cX11_init 332 = .ok (.iconst 2, 1) := by decide +kernel
theorem dX11_init_333 : decode cX11_init 333 = .ok (.iconst 5, 1) := by decide +kernel
theorem dX11_init_334 : decode cX11_init 334 = .ok (.iastore, 1) := by decide +kernel
theorem dX11_init_335 : decode cX11_init 335 = .ok (.aload_n 0, 1) := by decide +kernel
theorem dX11_init_336 : decode cX11_init 336 = .ok (.getfield 112, 3) := by decide +kernel
theorem dX11_init_339 : decode cX11_init 339 = .ok (.iconst 3, 1) := by decide +kernel
theorem dX11_init_340 : decode cX11_init 340 = .ok (.iconst 4, 1) := by decide +kernel
theorem dX11_init_341 : decode cX11_init 341 = .ok (.iastore, 1) := by decide +kernel
theorem dX11_init_342 : decode cX11_init 342 = .ok (.return_, 1) := by decide +kernel
