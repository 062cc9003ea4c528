theorem iwwsX0_init_0 : ∀ w ∈ wsX00, w ∈ wsX0_init := fun _ h => List.mem_cons_of_mem _ (List.mem_append_right _ h)
theorem iwwsX8_init_8 : ∀ w ∈ wsX80, w ∈ wsX8_init := fun _ h => List.mem_cons_of_mem _ (List.mem_append_right _ h)
theorem iwwsX3_init_0 : ∀ w ∈ wsX00, w ∈ wsX3_init := fun _ h => List.mem_cons_of_mem _ (List.mem_append_left _ (List.mem_append_right _ h))
theorem iwwsX3_init_3 : ∀ w ∈ wsX30, w ∈ wsX3_init := fun _ h => List.mem_cons_of_mem _ (List.mem_append_right _ h)
theorem iwwsX4_init_4 : ∀ w ∈ wsX40, w ∈ wsX4_init := fun _ h => List.mem_cons_of_mem _ (List.mem_append_left _ (List.mem_append_right _ h))
theorem iwwsX4_init_3 : ∀ w ∈ wsX30, w ∈ wsX4_init := fun _ h => List.mem_cons_of_mem _ (List.mem_append_right _ h)
theorem iwwsX7_init_7 : ∀ w ∈ wsX70, w ∈ wsX7_init := fun _ h => List.mem_cons_of_mem _ (List.mem_append_right _ h)
theorem iwwsX1_init_1 : ∀ w ∈ wsX10, w ∈ wsX1_init := fun _ h => List.mem_cons_of_mem _ (List.mem_append_left _ (List.mem_append_left _ (List.mem_append_right _ h)))
theorem iwwsX1_init_7 : ∀ w ∈ wsX70, w ∈ wsX1_init := fun _ h => List.mem_cons_of_mem _ (List.mem_append_left _ (List.mem_append_right _ h))
theorem iwwsX1_init_3 : ∀ w ∈ wsX30, w ∈ wsX1_init := fun _ h => List.mem_cons_of_mem _ (List.mem_append_right _ h)
theorem iwwsX6_init_6 : ∀ w ∈ wsX60, w ∈ wsX6_init := fun _ h => List.mem_cons_of_mem _ (List.mem_append_left _ (List.mem_append_left _ (List.mem_append_right _ h)))
theorem iwwsX6_init_7 : ∀ w ∈ wsX70, w ∈ wsX6_init := fun _ h => List.mem_cons_of_mem _ (List.mem_append_left _ (List.mem_append_right _ h))
theorem iwwsX6_init_3 : ∀ w ∈ wsX30, w ∈ wsX6_init := fun _ h => List.mem_cons_of_mem _ (List.mem_append_right _ h)
theorem iwwsX9_init_9 : ∀ w ∈ wsX90, w ∈ wsX9_init := fun _ h => List.mem_cons_of_mem _ (List.mem_append_right _ h)
theorem iwwsX2_init_2 : ∀ w ∈ wsX20, w ∈ wsX2_init := fun _ h => List.mem_cons_of_mem _ (List.mem_append_right _ h)
theorem iwwsX10_init_10 : ∀ w ∈ wsX100, w ∈ wsX10_init := fun _ h => List.mem_cons_of_mem _ (List.mem_append_left _ (List.mem_append_left _ (List.mem_append_left _ (List.mem_append_left _ (List.mem_append_left _ (List.mem_append_left _ (List.mem_append_left _ (List.mem_append_left _ (List.mem_append_left _ (List.mem_append_right _ h))))))))))
theorem iwwsX10_init_8 : ∀ w ∈ wsX80, w ∈ wsX10_init := fun _ h => List.mem_cons_of_mem _ (List.mem_append_left _ (List.mem_append_left _ (List.mem_append_left _ (List.mem_append_left _ (List.mem_append_left _ (List.mem_append_left _ (List.mem_append_left _ (List.mem_append_left _ (List.mem_append_right _ h)))))))))
theorem iwwsX10_init_3 : ∀ w ∈ wsX30, w ∈ wsX10_init := fun _ h => List.mem_cons_of_mem _ (List.mem_append_left _ (List.mem_append_left _ (List.mem_append_left _ (List.mem_append_left _ (List.mem_append_left _ (List.mem_append_left _ (List.mem_append_left _ (List.mem_append_right _ h))))))))
theorem iwwsX10_init_4 : ∀ w ∈ wsX40, w ∈ wsX10_init := fun _ h => List.mem_cons_of_mem _ (List.mem_append_left _ (List.mem_append_left _ (List.mem_append_left _ (List.mem_append_left _ (List.mem_append_left _ (List.mem_append_left _ (List.mem_append_right _ h)))))))
theorem iwwsX10_init_7 : ∀ w ∈ wsX70, w ∈ wsX10_init := fun _ h => List.mem_cons_of_mem _ (List.mem_append_left _ (List.mem_append_left _ (List.mem_append_left _ (List.mem_append_left _ (List.mem_append_left _ (List.mem_append_right _ h))))))
theorem iwwsX10_init_1 : ∀ w ∈ wsX10, w ∈ wsX10_init := fun _ h => List.mem_cons_of_mem _ (List.mem_append_left _ (List.mem_append_left _ (List.mem_append_left _ (List.mem_append_left _ (List.mem_append_right _ h)))))
theorem iwwsX10_init_6 : ∀ w ∈ wsX60, w ∈ wsX10_init := fun _ h => List.mem_cons_of_mem _ (List.mem_append_left _ (List.mem_append_left _ (List.mem_append_left _ (List.mem_append_right _ h))))
theorem iwwsX10_init_9 : ∀ w ∈ wsX90, w ∈ wsX10_init := fun _ h => List.mem_cons_of_mem _ (List.mem_append_left _ (List.mem_append_left _ (List.mem_append_right _ h)))
theorem iwwsX10_init_2 : ∀ w ∈ wsX20, w ∈ wsX10_init := fun _ h => List.mem_cons_of_mem _ (List.mem_append_left _ (List.mem_append_right _ h))
theorem iwwsX11_init_11 : ∀ w ∈ wsX110, w ∈ wsX11_init := fun _ h => List.mem_cons_of_mem _ (List.mem_append_right _ h)
set_option maxRecDepth 20000 in
theorem ol_wsX0_init : (.methodLink RX0 5 objectInit : Cond) ∈ wsX0_init := List.mem_of_getElem? (i := 1) (by decide +kernel)
set_option maxRecDepth 20000 in
theorem oi_wsX0_init : (.instanceMethod objectInit : Cond) ∈ wsX0_init := List.mem_of_getElem? (i := 2) (by decide +kernel)
set_option maxRecDepth 20000 in
theorem oc_wsX0_init : (.code objectInit ⟨#[0xb1]⟩ 1 none : Cond) ∈ wsX0_init := List.mem_of_getElem? (i := 3) (by decide +kernel)
set_option maxRecDepth 20000 in
theorem ac_int_wsX0_init : (.arrayClass .int : Cond) ∈ wsX0_init := List.mem_of_getElem? (i := 4) (by decide +kernel)
set_option maxRecDepth 20000 in
theorem fwwsX0_init_11 : (.fieldLink RX0 11 "NothingJudge$Code" "cells" "[I" : Cond) ∈ wsX0_init := List.mem_of_getElem? (i := 5) (by decide +kernel)
set_option maxRecDepth 20000 in
theorem ol_wsX8_init : (.methodLink RX8 3 objectInit : Cond) ∈ wsX8_init := List.mem_of_getElem? (i := 1) (by decide +kernel)
set_option maxRecDepth 20000 in
theorem oi_wsX8_init : (.instanceMethod objectInit : Cond) ∈ wsX8_init := List.mem_of_getElem? (i := 2) (by decide +kernel)
set_option maxRecDepth 20000 in
theorem oc_wsX8_init : (.code objectInit ⟨#[0xb1]⟩ 1 none : Cond) ∈ wsX8_init := List.mem_of_getElem? (i := 3) (by decide +kernel)
set_option maxRecDepth 20000 in
theorem ac_int_wsX8_init : (.arrayClass .int : Cond) ∈ wsX8_init := List.mem_of_getElem? (i := 4) (by decide +kernel)
set_option maxRecDepth 20000 in
theorem fwwsX8_init_9 : (.fieldLink RX8 9 "NothingJudge$Tokens" "packed" "[I" : Cond) ∈ wsX8_init := List.mem_of_getElem? (i := 5) (by decide +kernel)
set_option maxRecDepth 20000 in
theorem ol_wsX3_init : (.methodLink RX3 3 objectInit : Cond) ∈ wsX3_init := List.mem_of_getElem? (i := 1) (by decide +kernel)
set_option maxRecDepth 20000 in
theorem oi_wsX3_init : (.instanceMethod objectInit : Cond) ∈ wsX3_init := List.mem_of_getElem? (i := 2) (by decide +kernel)
set_option maxRecDepth 20000 in
theorem oc_wsX3_init : (.code objectInit ⟨#[0xb1]⟩ 1 none : Cond) ∈ wsX3_init := List.mem_of_getElem? (i := 3) (by decide +kernel)
set_option maxRecDepth 20000 in
theorem cl9_wsX3_init : (.classLink RX3 9 RX0 : Cond) ∈ wsX3_init := List.mem_of_getElem? (i := 4) (by decide +kernel)
set_option maxRecDepth 20000 in
theorem in0_wsX3_init : (.instantiable RX0 2 : Cond) ∈ wsX3_init := List.mem_of_getElem? (i := 5) (by decide +kernel)
set_option maxRecDepth 20000 in
theorem it0_wsX3_init : (.initialized RX0 : Cond) ∈ wsX3_init := List.mem_of_getElem? (i := 6) (by decide +kernel)
set_option maxRecDepth 20000 in
theorem imyX0_init_wsX3_init : (.instanceMethod yX0_init : Cond) ∈ wsX3_init := List.mem_of_getElem? (i := 18) (by decide +kernel)
set_option maxRecDepth 20000 in
theorem fwwsX3_init_12 : (.fieldLink RX3 12 "NothingJudge$Program" "code" "LNothingJudge$Code;" : Cond) ∈ wsX3_init := List.mem_of_getElem? (i := 7) (by decide +kernel)
set_option maxRecDepth 20000 in
theorem ac_int_wsX3_init : (.arrayClass .int : Cond) ∈ wsX3_init := List.mem_of_getElem? (i := 8) (by decide +kernel)
set_option maxRecDepth 20000 in
theorem fwwsX3_init_18 : (.fieldLink RX3 18 "NothingJudge$Program" "opening" "[I" : Cond) ∈ wsX3_init := List.mem_of_getElem? (i := 9) (by decide +kernel)
set_option maxRecDepth 20000 in
theorem fwwsX3_init_22 : (.fieldLink RX3 22 "NothingJudge$Program" "arity" "[I" : Cond) ∈ wsX3_init := List.mem_of_getElem? (i := 10) (by decide +kernel)
set_option maxRecDepth 20000 in
theorem fwwsX3_init_25 : (.fieldLink RX3 25 "NothingJudge$Program" "parameters" "[I" : Cond) ∈ wsX3_init := List.mem_of_getElem? (i := 11) (by decide +kernel)
set_option maxRecDepth 20000 in
theorem fwwsX3_init_28 : (.fieldLink RX3 28 "NothingJudge$Program" "useOwner" "[I" : Cond) ∈ wsX3_init := List.mem_of_getElem? (i := 12) (by decide +kernel)
set_option maxRecDepth 20000 in
theorem fwwsX3_init_31 : (.fieldLink RX3 31 "NothingJudge$Program" "usePlace" "[I" : Cond) ∈ wsX3_init := List.mem_of_getElem? (i := 13) (by decide +kernel)
set_option maxRecDepth 20000 in
theorem fwwsX3_init_34 : (.fieldLink RX3 34 "NothingJudge$Program" "useName" "[I" : Cond) ∈ wsX3_init := List.mem_of_getElem? (i := 14) (by decide +kernel)
set_option maxRecDepth 20000 in
theorem fwwsX3_init_37 : (.fieldLink RX3 37 "NothingJudge$Program" "testOwner" "[I" : Cond) ∈ wsX3_init := List.mem_of_getElem? (i := 15) (by decide +kernel)
set_option maxRecDepth 20000 in
theorem fwwsX3_init_40 : (.fieldLink RX3 40 "NothingJudge$Program" "testPlace" "[I" : Cond) ∈ wsX3_init := List.mem_of_getElem? (i := 16) (by decide +kernel)
set_option maxRecDepth 20000 in
theorem fwwsX3_init_43 : (.fieldLink RX3 43 "NothingJudge$Program" "first" "I" : Cond) ∈ wsX3_init := List.mem_of_getElem? (i := 17) (by decide +kernel)
set_option maxRecDepth 20000 in
theorem ol_wsX4_init : (.methodLink RX4 3 objectInit : Cond) ∈ wsX4_init := List.mem_of_getElem? (i := 1) (by decide +kernel)
set_option maxRecDepth 20000 in
theorem oi_wsX4_init : (.instanceMethod objectInit : Cond) ∈ wsX4_init := List.mem_of_getElem? (i := 2) (by decide +kernel)
set_option maxRecDepth 20000 in
theorem oc_wsX4_init : (.code objectInit ⟨#[0xb1]⟩ 1 none : Cond) ∈ wsX4_init := List.mem_of_getElem? (i := 3) (by decide +kernel)
set_option maxRecDepth 20000 in
theorem ac_int_wsX4_init : (.arrayClass .int : Cond) ∈ wsX4_init := List.mem_of_getElem? (i := 4) (by decide +kernel)
set_option maxRecDepth 20000 in
theorem fwwsX4_init_9 : (.fieldLink RX4 9 "NothingJudge$Reader" "openKind" "[I" : Cond) ∈ wsX4_init := List.mem_of_getElem? (i := 5) (by decide +kernel)
set_option maxRecDepth 20000 in
theorem fwwsX4_init_15 : (.fieldLink RX4 15 "NothingJudge$Reader" "openAt" "[I" : Cond) ∈ wsX4_init := List.mem_of_getElem? (i := 6) (by decide +kernel)
set_option maxRecDepth 20000 in
theorem fwwsX4_init_18 : (.fieldLink RX4 18 "NothingJudge$Reader" "wrongPlace" "I" : Cond) ∈ wsX4_init := List.mem_of_getElem? (i := 7) (by decide +kernel)
set_option maxRecDepth 20000 in
theorem fwwsX4_init_22 : (.fieldLink RX4 22 "NothingJudge$Reader" "tokens" "LNothingJudge$Tokens;" : Cond) ∈ wsX4_init := List.mem_of_getElem? (i := 8) (by decide +kernel)
set_option maxRecDepth 20000 in
theorem fwwsX4_init_26 : (.fieldLink RX4 26 "NothingJudge$Reader" "program" "LNothingJudge$Program;" : Cond) ∈ wsX4_init := List.mem_of_getElem? (i := 9) (by decide +kernel)
set_option maxRecDepth 20000 in
theorem fwwsX4_init_30 : (.fieldLink RX4 30 "NothingJudge$Program" "code" "LNothingJudge$Code;" : Cond) ∈ wsX4_init := List.mem_of_getElem? (i := 10) (by decide +kernel)
set_option maxRecDepth 20000 in
theorem fwwsX4_init_36 : (.fieldLink RX4 36 "NothingJudge$Reader" "code" "LNothingJudge$Code;" : Cond) ∈ wsX4_init := List.mem_of_getElem? (i := 11) (by decide +kernel)
set_option maxRecDepth 20000 in
theorem ol_wsX7_init : (.methodLink RX7 3 objectInit : Cond) ∈ wsX7_init := List.mem_of_getElem? (i := 1) (by decide +kernel)
set_option maxRecDepth 20000 in
theorem oi_wsX7_init : (.instanceMethod objectInit : Cond) ∈ wsX7_init := List.mem_of_getElem? (i := 2) (by decide +kernel)
set_option maxRecDepth 20000 in
theorem oc_wsX7_init : (.code objectInit ⟨#[0xb1]⟩ 1 none : Cond) ∈ wsX7_init := List.mem_of_getElem? (i := 3) (by decide +kernel)
set_option maxRecDepth 20000 in
theorem fwwsX7_init_9 : (.fieldLink RX7 9 "NothingJudge$Scene" "start" "I" : Cond) ∈ wsX7_init := List.mem_of_getElem? (i := 4) (by decide +kernel)
set_option maxRecDepth 20000 in
theorem ac_int_wsX7_init : (.arrayClass .int : Cond) ∈ wsX7_init := List.mem_of_getElem? (i := 5) (by decide +kernel)
set_option maxRecDepth 20000 in
theorem fwwsX7_init_15 : (.fieldLink RX7 15 "NothingJudge$Scene" "told" "[I" : Cond) ∈ wsX7_init := List.mem_of_getElem? (i := 6) (by decide +kernel)
set_option maxRecDepth 20000 in
theorem fwwsX7_init_19 : (.fieldLink RX7 19 "NothingJudge$Scene" "program" "LNothingJudge$Program;" : Cond) ∈ wsX7_init := List.mem_of_getElem? (i := 7) (by decide +kernel)
set_option maxRecDepth 20000 in
theorem ol_wsX1_init : (.methodLink RX1 3 objectInit : Cond) ∈ wsX1_init := List.mem_of_getElem? (i := 1) (by decide +kernel)
set_option maxRecDepth 20000 in
theorem oi_wsX1_init : (.instanceMethod objectInit : Cond) ∈ wsX1_init := List.mem_of_getElem? (i := 2) (by decide +kernel)
set_option maxRecDepth 20000 in
theorem oc_wsX1_init : (.code objectInit ⟨#[0xb1]⟩ 1 none : Cond) ∈ wsX1_init := List.mem_of_getElem? (i := 3) (by decide +kernel)
set_option maxRecDepth 20000 in
theorem ac_long_wsX1_init : (.arrayClass .long : Cond) ∈ wsX1_init := List.mem_of_getElem? (i := 4) (by decide +kernel)
set_option maxRecDepth 20000 in
theorem fwwsX1_init_9 : (.fieldLink RX1 9 "NothingJudge$Facts" "state" "[J" : Cond) ∈ wsX1_init := List.mem_of_getElem? (i := 5) (by decide +kernel)
set_option maxRecDepth 20000 in
theorem ac_int_wsX1_init : (.arrayClass .int : Cond) ∈ wsX1_init := List.mem_of_getElem? (i := 6) (by decide +kernel)
set_option maxRecDepth 20000 in
theorem fwwsX1_init_15 : (.fieldLink RX1 15 "NothingJudge$Facts" "seenAt" "[I" : Cond) ∈ wsX1_init := List.mem_of_getElem? (i := 7) (by decide +kernel)
set_option maxRecDepth 20000 in
theorem fwwsX1_init_19 : (.fieldLink RX1 19 "NothingJudge$Facts" "marks" "[I" : Cond) ∈ wsX1_init := List.mem_of_getElem? (i := 8) (by decide +kernel)
set_option maxRecDepth 20000 in
theorem fwwsX1_init_22 : (.fieldLink RX1 22 "NothingJudge$Facts" "used" "[I" : Cond) ∈ wsX1_init := List.mem_of_getElem? (i := 9) (by decide +kernel)
set_option maxRecDepth 20000 in
theorem fwwsX1_init_25 : (.fieldLink RX1 25 "NothingJudge$Facts" "tested" "[I" : Cond) ∈ wsX1_init := List.mem_of_getElem? (i := 10) (by decide +kernel)
set_option maxRecDepth 20000 in
theorem fwwsX1_init_28 : (.fieldLink RX1 28 "NothingJudge$Facts" "stale" "Z" : Cond) ∈ wsX1_init := List.mem_of_getElem? (i := 11) (by decide +kernel)
set_option maxRecDepth 20000 in
theorem fwwsX1_init_32 : (.fieldLink RX1 32 "NothingJudge$Facts" "scene" "LNothingJudge$Scene;" : Cond) ∈ wsX1_init := List.mem_of_getElem? (i := 12) (by decide +kernel)
set_option maxRecDepth 20000 in
theorem fwwsX1_init_36 : (.fieldLink RX1 36 "NothingJudge$Scene" "program" "LNothingJudge$Program;" : Cond) ∈ wsX1_init := List.mem_of_getElem? (i := 13) (by decide +kernel)
set_option maxRecDepth 20000 in
theorem fwwsX1_init_42 : (.fieldLink RX1 42 "NothingJudge$Facts" "program" "LNothingJudge$Program;" : Cond) ∈ wsX1_init := List.mem_of_getElem? (i := 14) (by decide +kernel)
set_option maxRecDepth 20000 in
theorem fwwsX1_init_43 : (.fieldLink RX1 43 "NothingJudge$Program" "code" "LNothingJudge$Code;" : Cond) ∈ wsX1_init := List.mem_of_getElem? (i := 15) (by decide +kernel)
set_option maxRecDepth 20000 in
theorem fwwsX1_init_49 : (.fieldLink RX1 49 "NothingJudge$Facts" "code" "LNothingJudge$Code;" : Cond) ∈ wsX1_init := List.mem_of_getElem? (i := 16) (by decide +kernel)
set_option maxRecDepth 20000 in
theorem ol_wsX6_init : (.methodLink RX6 3 objectInit : Cond) ∈ wsX6_init := List.mem_of_getElem? (i := 1) (by decide +kernel)
set_option maxRecDepth 20000 in
theorem oi_wsX6_init : (.instanceMethod objectInit : Cond) ∈ wsX6_init := List.mem_of_getElem? (i := 2) (by decide +kernel)
set_option maxRecDepth 20000 in
theorem oc_wsX6_init : (.code objectInit ⟨#[0xb1]⟩ 1 none : Cond) ∈ wsX6_init := List.mem_of_getElem? (i := 3) (by decide +kernel)
set_option maxRecDepth 20000 in
theorem ac_int_wsX6_init : (.arrayClass .int : Cond) ∈ wsX6_init := List.mem_of_getElem? (i := 4) (by decide +kernel)
set_option maxRecDepth 20000 in
theorem fwwsX6_init_11 : (.fieldLink RX6 11 "NothingJudge$Runner" "names" "[I" : Cond) ∈ wsX6_init := List.mem_of_getElem? (i := 5) (by decide +kernel)
set_option maxRecDepth 20000 in
theorem fwwsX6_init_15 : (.fieldLink RX6 15 "NothingJudge$Runner" "back" "[I" : Cond) ∈ wsX6_init := List.mem_of_getElem? (i := 6) (by decide +kernel)
set_option maxRecDepth 20000 in
theorem fwwsX6_init_18 : (.fieldLink RX6 18 "NothingJudge$Runner" "fields" "[I" : Cond) ∈ wsX6_init := List.mem_of_getElem? (i := 7) (by decide +kernel)
set_option maxRecDepth 20000 in
theorem fwwsX6_init_21 : (.fieldLink RX6 21 "NothingJudge$Runner" "scene" "LNothingJudge$Scene;" : Cond) ∈ wsX6_init := List.mem_of_getElem? (i := 8) (by decide +kernel)
set_option maxRecDepth 20000 in
theorem fwwsX6_init_25 : (.fieldLink RX6 25 "NothingJudge$Scene" "program" "LNothingJudge$Program;" : Cond) ∈ wsX6_init := List.mem_of_getElem? (i := 9) (by decide +kernel)
set_option maxRecDepth 20000 in
theorem fwwsX6_init_31 : (.fieldLink RX6 31 "NothingJudge$Runner" "program" "LNothingJudge$Program;" : Cond) ∈ wsX6_init := List.mem_of_getElem? (i := 10) (by decide +kernel)
set_option maxRecDepth 20000 in
theorem fwwsX6_init_32 : (.fieldLink RX6 32 "NothingJudge$Program" "code" "LNothingJudge$Code;" : Cond) ∈ wsX6_init := List.mem_of_getElem? (i := 11) (by decide +kernel)
set_option maxRecDepth 20000 in
theorem fwwsX6_init_38 : (.fieldLink RX6 38 "NothingJudge$Runner" "code" "LNothingJudge$Code;" : Cond) ∈ wsX6_init := List.mem_of_getElem? (i := 12) (by decide +kernel)
set_option maxRecDepth 20000 in
theorem ol_wsX9_init : (.methodLink RX9 3 objectInit : Cond) ∈ wsX9_init := List.mem_of_getElem? (i := 1) (by decide +kernel)
set_option maxRecDepth 20000 in
theorem oi_wsX9_init : (.instanceMethod objectInit : Cond) ∈ wsX9_init := List.mem_of_getElem? (i := 2) (by decide +kernel)
set_option maxRecDepth 20000 in
theorem oc_wsX9_init : (.code objectInit ⟨#[0xb1]⟩ 1 none : Cond) ∈ wsX9_init := List.mem_of_getElem? (i := 3) (by decide +kernel)
set_option maxRecDepth 20000 in
theorem ac_int_wsX9_init : (.arrayClass .int : Cond) ∈ wsX9_init := List.mem_of_getElem? (i := 4) (by decide +kernel)
set_option maxRecDepth 20000 in
theorem fwwsX9_init_9 : (.fieldLink RX9 9 "NothingJudge$Trials" "first" "[I" : Cond) ∈ wsX9_init := List.mem_of_getElem? (i := 5) (by decide +kernel)
set_option maxRecDepth 20000 in
theorem fwwsX9_init_15 : (.fieldLink RX9 15 "NothingJudge$Trials" "knownFor" "[I" : Cond) ∈ wsX9_init := List.mem_of_getElem? (i := 6) (by decide +kernel)
set_option maxRecDepth 20000 in
theorem fwwsX9_init_18 : (.fieldLink RX9 18 "NothingJudge$Trials" "stale" "Z" : Cond) ∈ wsX9_init := List.mem_of_getElem? (i := 7) (by decide +kernel)
set_option maxRecDepth 20000 in
theorem fwwsX9_init_22 : (.fieldLink RX9 22 "NothingJudge$Trials" "scene" "LNothingJudge$Scene;" : Cond) ∈ wsX9_init := List.mem_of_getElem? (i := 8) (by decide +kernel)
set_option maxRecDepth 20000 in
theorem fwwsX9_init_26 : (.fieldLink RX9 26 "NothingJudge$Trials" "runner" "LNothingJudge$Runner;" : Cond) ∈ wsX9_init := List.mem_of_getElem? (i := 9) (by decide +kernel)
set_option maxRecDepth 20000 in
theorem ol_wsX2_init : (.methodLink RX2 3 objectInit : Cond) ∈ wsX2_init := List.mem_of_getElem? (i := 1) (by decide +kernel)
set_option maxRecDepth 20000 in
theorem oi_wsX2_init : (.instanceMethod objectInit : Cond) ∈ wsX2_init := List.mem_of_getElem? (i := 2) (by decide +kernel)
set_option maxRecDepth 20000 in
theorem oc_wsX2_init : (.code objectInit ⟨#[0xb1]⟩ 1 none : Cond) ∈ wsX2_init := List.mem_of_getElem? (i := 3) (by decide +kernel)
set_option maxRecDepth 20000 in
theorem ac_int_wsX2_init : (.arrayClass .int : Cond) ∈ wsX2_init := List.mem_of_getElem? (i := 4) (by decide +kernel)
set_option maxRecDepth 20000 in
theorem fwwsX2_init_9 : (.fieldLink RX2 9 "NothingJudge$Mender" "prices" "[I" : Cond) ∈ wsX2_init := List.mem_of_getElem? (i := 5) (by decide +kernel)
set_option maxRecDepth 20000 in
theorem fwwsX2_init_15 : (.fieldLink RX2 15 "NothingJudge$Mender" "candidates" "[I" : Cond) ∈ wsX2_init := List.mem_of_getElem? (i := 6) (by decide +kernel)
set_option maxRecDepth 20000 in
theorem fwwsX2_init_18 : (.fieldLink RX2 18 "NothingJudge$Mender" "heldNames" "[I" : Cond) ∈ wsX2_init := List.mem_of_getElem? (i := 7) (by decide +kernel)
set_option maxRecDepth 20000 in
theorem fwwsX2_init_21 : (.fieldLink RX2 21 "NothingJudge$Mender" "stale" "Z" : Cond) ∈ wsX2_init := List.mem_of_getElem? (i := 8) (by decide +kernel)
set_option maxRecDepth 20000 in
theorem fwwsX2_init_25 : (.fieldLink RX2 25 "NothingJudge$Mender" "cost" "I" : Cond) ∈ wsX2_init := List.mem_of_getElem? (i := 9) (by decide +kernel)
set_option maxRecDepth 20000 in
theorem fwwsX2_init_29 : (.fieldLink RX2 29 "NothingJudge$Mender" "facts" "LNothingJudge$Facts;" : Cond) ∈ wsX2_init := List.mem_of_getElem? (i := 10) (by decide +kernel)
set_option maxRecDepth 20000 in
theorem ol_wsX10_init : (.methodLink RX10 3 objectInit : Cond) ∈ wsX10_init := List.mem_of_getElem? (i := 1) (by decide +kernel)
set_option maxRecDepth 20000 in
theorem oi_wsX10_init : (.instanceMethod objectInit : Cond) ∈ wsX10_init := List.mem_of_getElem? (i := 2) (by decide +kernel)
set_option maxRecDepth 20000 in
theorem oc_wsX10_init : (.code objectInit ⟨#[0xb1]⟩ 1 none : Cond) ∈ wsX10_init := List.mem_of_getElem? (i := 3) (by decide +kernel)
set_option maxRecDepth 20000 in
theorem ac_byte_wsX10_init : (.arrayClass .byte : Cond) ∈ wsX10_init := List.mem_of_getElem? (i := 4) (by decide +kernel)
set_option maxRecDepth 20000 in
theorem fwwsX10_init_9 : (.fieldLink RX10 9 "NothingJudge" "tape" "[B" : Cond) ∈ wsX10_init := List.mem_of_getElem? (i := 5) (by decide +kernel)
set_option maxRecDepth 20000 in
theorem cl13_wsX10_init : (.classLink RX10 13 RX8 : Cond) ∈ wsX10_init := List.mem_of_getElem? (i := 6) (by decide +kernel)
set_option maxRecDepth 20000 in
theorem in8_wsX10_init : (.instantiable RX8 3 : Cond) ∈ wsX10_init := List.mem_of_getElem? (i := 7) (by decide +kernel)
set_option maxRecDepth 20000 in
theorem it8_wsX10_init : (.initialized RX8 : Cond) ∈ wsX10_init := List.mem_of_getElem? (i := 8) (by decide +kernel)
set_option maxRecDepth 20000 in
theorem imyX8_init_wsX10_init : (.instanceMethod yX8_init : Cond) ∈ wsX10_init := List.mem_of_getElem? (i := 41) (by decide +kernel)
set_option maxRecDepth 20000 in
theorem fwwsX10_init_16 : (.fieldLink RX10 16 "NothingJudge" "tokens" "LNothingJudge$Tokens;" : Cond) ∈ wsX10_init := List.mem_of_getElem? (i := 9) (by decide +kernel)
set_option maxRecDepth 20000 in
theorem cl20_wsX10_init : (.classLink RX10 20 RX3 : Cond) ∈ wsX10_init := List.mem_of_getElem? (i := 10) (by decide +kernel)
set_option maxRecDepth 20000 in
theorem in3_wsX10_init : (.instantiable RX3 14 : Cond) ∈ wsX10_init := List.mem_of_getElem? (i := 11) (by decide +kernel)
set_option maxRecDepth 20000 in
theorem it3_wsX10_init : (.initialized RX3 : Cond) ∈ wsX10_init := List.mem_of_getElem? (i := 12) (by decide +kernel)
set_option maxRecDepth 20000 in
theorem imyX3_init_wsX10_init : (.instanceMethod yX3_init : Cond) ∈ wsX10_init := List.mem_of_getElem? (i := 45) (by decide +kernel)
set_option maxRecDepth 20000 in
theorem fwwsX10_init_23 : (.fieldLink RX10 23 "NothingJudge" "spare" "LNothingJudge$Program;" : Cond) ∈ wsX10_init := List.mem_of_getElem? (i := 13) (by decide +kernel)
set_option maxRecDepth 20000 in
theorem cl27_wsX10_init : (.classLink RX10 27 RX4 : Cond) ∈ wsX10_init := List.mem_of_getElem? (i := 14) (by decide +kernel)
set_option maxRecDepth 20000 in
theorem in4_wsX10_init : (.instantiable RX4 10 : Cond) ∈ wsX10_init := List.mem_of_getElem? (i := 15) (by decide +kernel)
set_option maxRecDepth 20000 in
theorem it4_wsX10_init : (.initialized RX4 : Cond) ∈ wsX10_init := List.mem_of_getElem? (i := 16) (by decide +kernel)
set_option maxRecDepth 20000 in
theorem imyX4_init_wsX10_init : (.instanceMethod yX4_init : Cond) ∈ wsX10_init := List.mem_of_getElem? (i := 66) (by decide +kernel)
set_option maxRecDepth 20000 in
theorem mk29_wsX10_init : (.methodLink RX10 29 yX4_init : Cond) ∈ wsX10_init := List.mem_of_getElem? (i := 65) (by decide +kernel)
set_option maxRecDepth 20000 in
theorem fwwsX10_init_32 : (.fieldLink RX10 32 "NothingJudge" "reader" "LNothingJudge$Reader;" : Cond) ∈ wsX10_init := List.mem_of_getElem? (i := 17) (by decide +kernel)
set_option maxRecDepth 20000 in
theorem fwwsX10_init_36 : (.fieldLink RX10 36 "NothingJudge" "faultPlace" "I" : Cond) ∈ wsX10_init := List.mem_of_getElem? (i := 18) (by decide +kernel)
set_option maxRecDepth 20000 in
theorem cl40_wsX10_init : (.classLink RX10 40 RX7 : Cond) ∈ wsX10_init := List.mem_of_getElem? (i := 19) (by decide +kernel)
set_option maxRecDepth 20000 in
theorem in7_wsX10_init : (.instantiable RX7 3 : Cond) ∈ wsX10_init := List.mem_of_getElem? (i := 20) (by decide +kernel)
set_option maxRecDepth 20000 in
theorem it7_wsX10_init : (.initialized RX7 : Cond) ∈ wsX10_init := List.mem_of_getElem? (i := 21) (by decide +kernel)
set_option maxRecDepth 20000 in
theorem imyX7_init_wsX10_init : (.instanceMethod yX7_init : Cond) ∈ wsX10_init := List.mem_of_getElem? (i := 77) (by decide +kernel)
set_option maxRecDepth 20000 in
theorem mk42_wsX10_init : (.methodLink RX10 42 yX7_init : Cond) ∈ wsX10_init := List.mem_of_getElem? (i := 76) (by decide +kernel)
set_option maxRecDepth 20000 in
theorem fwwsX10_init_45 : (.fieldLink RX10 45 "NothingJudge" "scene" "LNothingJudge$Scene;" : Cond) ∈ wsX10_init := List.mem_of_getElem? (i := 22) (by decide +kernel)
set_option maxRecDepth 20000 in
theorem cl49_wsX10_init : (.classLink RX10 49 RX1 : Cond) ∈ wsX10_init := List.mem_of_getElem? (i := 23) (by decide +kernel)
set_option maxRecDepth 20000 in
theorem in1_wsX10_init : (.instantiable RX1 14 : Cond) ∈ wsX10_init := List.mem_of_getElem? (i := 24) (by decide +kernel)
set_option maxRecDepth 20000 in
theorem it1_wsX10_init : (.initialized RX1 : Cond) ∈ wsX10_init := List.mem_of_getElem? (i := 25) (by decide +kernel)
set_option maxRecDepth 20000 in
theorem imyX1_init_wsX10_init : (.instanceMethod yX1_init : Cond) ∈ wsX10_init := List.mem_of_getElem? (i := 84) (by decide +kernel)
set_option maxRecDepth 20000 in
theorem mk51_wsX10_init : (.methodLink RX10 51 yX1_init : Cond) ∈ wsX10_init := List.mem_of_getElem? (i := 83) (by decide +kernel)
set_option maxRecDepth 20000 in
theorem fwwsX10_init_54 : (.fieldLink RX10 54 "NothingJudge" "facts" "LNothingJudge$Facts;" : Cond) ∈ wsX10_init := List.mem_of_getElem? (i := 26) (by decide +kernel)
set_option maxRecDepth 20000 in
theorem cl58_wsX10_init : (.classLink RX10 58 RX6 : Cond) ∈ wsX10_init := List.mem_of_getElem? (i := 27) (by decide +kernel)
set_option maxRecDepth 20000 in
theorem in6_wsX10_init : (.instantiable RX6 16 : Cond) ∈ wsX10_init := List.mem_of_getElem? (i := 28) (by decide +kernel)
set_option maxRecDepth 20000 in
theorem it6_wsX10_init : (.initialized RX6 : Cond) ∈ wsX10_init := List.mem_of_getElem? (i := 29) (by decide +kernel)
set_option maxRecDepth 20000 in
theorem imyX6_init_wsX10_init : (.instanceMethod yX6_init : Cond) ∈ wsX10_init := List.mem_of_getElem? (i := 100) (by decide +kernel)
set_option maxRecDepth 20000 in
theorem mk60_wsX10_init : (.methodLink RX10 60 yX6_init : Cond) ∈ wsX10_init := List.mem_of_getElem? (i := 99) (by decide +kernel)
set_option maxRecDepth 20000 in
theorem fwwsX10_init_61 : (.fieldLink RX10 61 "NothingJudge" "runner" "LNothingJudge$Runner;" : Cond) ∈ wsX10_init := List.mem_of_getElem? (i := 30) (by decide +kernel)
set_option maxRecDepth 20000 in
theorem cl65_wsX10_init : (.classLink RX10 65 RX9 : Cond) ∈ wsX10_init := List.mem_of_getElem? (i := 31) (by decide +kernel)
set_option maxRecDepth 20000 in
theorem in9_wsX10_init : (.instantiable RX9 6 : Cond) ∈ wsX10_init := List.mem_of_getElem? (i := 32) (by decide +kernel)
set_option maxRecDepth 20000 in
theorem it9_wsX10_init : (.initialized RX9 : Cond) ∈ wsX10_init := List.mem_of_getElem? (i := 33) (by decide +kernel)
set_option maxRecDepth 20000 in
theorem imyX9_init_wsX10_init : (.instanceMethod yX9_init : Cond) ∈ wsX10_init := List.mem_of_getElem? (i := 112) (by decide +kernel)
set_option maxRecDepth 20000 in
theorem mk67_wsX10_init : (.methodLink RX10 67 yX9_init : Cond) ∈ wsX10_init := List.mem_of_getElem? (i := 111) (by decide +kernel)
set_option maxRecDepth 20000 in
theorem fwwsX10_init_70 : (.fieldLink RX10 70 "NothingJudge" "trials" "LNothingJudge$Trials;" : Cond) ∈ wsX10_init := List.mem_of_getElem? (i := 34) (by decide +kernel)
set_option maxRecDepth 20000 in
theorem cl74_wsX10_init : (.classLink RX10 74 RX2 : Cond) ∈ wsX10_init := List.mem_of_getElem? (i := 35) (by decide +kernel)
set_option maxRecDepth 20000 in
theorem in2_wsX10_init : (.instantiable RX2 10 : Cond) ∈ wsX10_init := List.mem_of_getElem? (i := 36) (by decide +kernel)
set_option maxRecDepth 20000 in
theorem it2_wsX10_init : (.initialized RX2 : Cond) ∈ wsX10_init := List.mem_of_getElem? (i := 37) (by decide +kernel)
set_option maxRecDepth 20000 in
theorem imyX2_init_wsX10_init : (.instanceMethod yX2_init : Cond) ∈ wsX10_init := List.mem_of_getElem? (i := 121) (by decide +kernel)
set_option maxRecDepth 20000 in
theorem mk76_wsX10_init : (.methodLink RX10 76 yX2_init : Cond) ∈ wsX10_init := List.mem_of_getElem? (i := 120) (by decide +kernel)
set_option maxRecDepth 20000 in
theorem fwwsX10_init_79 : (.fieldLink RX10 79 "NothingJudge" "mender" "LNothingJudge$Mender;" : Cond) ∈ wsX10_init := List.mem_of_getElem? (i := 38) (by decide +kernel)
set_option maxRecDepth 20000 in
theorem ac_int_wsX10_init : (.arrayClass .int : Cond) ∈ wsX10_init := List.mem_of_getElem? (i := 39) (by decide +kernel)
set_option maxRecDepth 20000 in
theorem fwwsX10_init_83 : (.fieldLink RX10 83 "NothingJudge" "ranRow" "[I" : Cond) ∈ wsX10_init := List.mem_of_getElem? (i := 40) (by decide +kernel)
set_option maxRecDepth 20000 in
theorem ol_wsX11_init : (.methodLink RX11 1 objectInit : Cond) ∈ wsX11_init := List.mem_of_getElem? (i := 1) (by decide +kernel)
set_option maxRecDepth 20000 in
theorem oi_wsX11_init : (.instanceMethod objectInit : Cond) ∈ wsX11_init := List.mem_of_getElem? (i := 2) (by decide +kernel)
set_option maxRecDepth 20000 in
theorem oc_wsX11_init : (.code objectInit ⟨#[0xb1]⟩ 1 none : Cond) ∈ wsX11_init := List.mem_of_getElem? (i := 3) (by decide +kernel)
set_option maxRecDepth 20000 in
theorem ac_int_wsX11_init : (.arrayClass .int : Cond) ∈ wsX11_init := List.mem_of_getElem? (i := 4) (by decide +kernel)
set_option maxRecDepth 20000 in
theorem fwwsX11_init_7 : (.fieldLink RX11 7 "NothingJudgeModel" "tape" "[I" : Cond) ∈ wsX11_init := List.mem_of_getElem? (i := 5) (by decide +kernel)
set_option maxRecDepth 20000 in
theorem fwwsX11_init_13 : (.fieldLink RX11 13 "NothingJudgeModel" "lastPlace" "I" : Cond) ∈ wsX11_init := List.mem_of_getElem? (i := 6) (by decide +kernel)
set_option maxRecDepth 20000 in
theorem fwwsX11_init_17 : (.fieldLink RX11 17 "NothingJudgeModel" "act" "[I" : Cond) ∈ wsX11_init := List.mem_of_getElem? (i := 7) (by decide +kernel)
set_option maxRecDepth 20000 in
theorem fwwsX11_init_20 : (.fieldLink RX11 20 "NothingJudgeModel" "one" "[I" : Cond) ∈ wsX11_init := List.mem_of_getElem? (i := 8) (by decide +kernel)
set_option maxRecDepth 20000 in
theorem fwwsX11_init_23 : (.fieldLink RX11 23 "NothingJudgeModel" "two" "[I" : Cond) ∈ wsX11_init := List.mem_of_getElem? (i := 9) (by decide +kernel)
set_option maxRecDepth 20000 in
theorem fwwsX11_init_26 : (.fieldLink RX11 26 "NothingJudgeModel" "three" "[I" : Cond) ∈ wsX11_init := List.mem_of_getElem? (i := 10) (by decide +kernel)
set_option maxRecDepth 20000 in
theorem fwwsX11_init_29 : (.fieldLink RX11 29 "NothingJudgeModel" "argsOf" "[I" : Cond) ∈ wsX11_init := List.mem_of_getElem? (i := 11) (by decide +kernel)
set_option maxRecDepth 20000 in
theorem fwwsX11_init_32 : (.fieldLink RX11 32 "NothingJudgeModel" "routineFrom" "[I" : Cond) ∈ wsX11_init := List.mem_of_getElem? (i := 12) (by decide +kernel)
set_option maxRecDepth 20000 in
theorem fwwsX11_init_35 : (.fieldLink RX11 35 "NothingJudgeModel" "params" "[I" : Cond) ∈ wsX11_init := List.mem_of_getElem? (i := 13) (by decide +kernel)
set_option maxRecDepth 20000 in
theorem fwwsX11_init_38 : (.fieldLink RX11 38 "NothingJudgeModel" "paramNames" "[I" : Cond) ∈ wsX11_init := List.mem_of_getElem? (i := 14) (by decide +kernel)
set_option maxRecDepth 20000 in
theorem fwwsX11_init_41 : (.fieldLink RX11 41 "NothingJudgeModel" "firstRoutine" "[I" : Cond) ∈ wsX11_init := List.mem_of_getElem? (i := 15) (by decide +kernel)
set_option maxRecDepth 20000 in
theorem fwwsX11_init_44 : (.fieldLink RX11 44 "NothingJudgeModel" "useRoutine" "[I" : Cond) ∈ wsX11_init := List.mem_of_getElem? (i := 16) (by decide +kernel)
set_option maxRecDepth 20000 in
theorem fwwsX11_init_47 : (.fieldLink RX11 47 "NothingJudgeModel" "usePlace" "[I" : Cond) ∈ wsX11_init := List.mem_of_getElem? (i := 17) (by decide +kernel)
set_option maxRecDepth 20000 in
theorem fwwsX11_init_50 : (.fieldLink RX11 50 "NothingJudgeModel" "useName" "[I" : Cond) ∈ wsX11_init := List.mem_of_getElem? (i := 18) (by decide +kernel)
set_option maxRecDepth 20000 in
theorem fwwsX11_init_53 : (.fieldLink RX11 53 "NothingJudgeModel" "useMany" "[I" : Cond) ∈ wsX11_init := List.mem_of_getElem? (i := 19) (by decide +kernel)
set_option maxRecDepth 20000 in
theorem fwwsX11_init_56 : (.fieldLink RX11 56 "NothingJudgeModel" "testRoutine" "[I" : Cond) ∈ wsX11_init := List.mem_of_getElem? (i := 20) (by decide +kernel)
set_option maxRecDepth 20000 in
theorem fwwsX11_init_59 : (.fieldLink RX11 59 "NothingJudgeModel" "testPlace" "[I" : Cond) ∈ wsX11_init := List.mem_of_getElem? (i := 21) (by decide +kernel)
set_option maxRecDepth 20000 in
theorem fwwsX11_init_62 : (.fieldLink RX11 62 "NothingJudgeModel" "testMany" "[I" : Cond) ∈ wsX11_init := List.mem_of_getElem? (i := 22) (by decide +kernel)
set_option maxRecDepth 20000 in
theorem fwwsX11_init_65 : (.fieldLink RX11 65 "NothingJudgeModel" "callPlace" "[I" : Cond) ∈ wsX11_init := List.mem_of_getElem? (i := 23) (by decide +kernel)
set_option maxRecDepth 20000 in
theorem fwwsX11_init_68 : (.fieldLink RX11 68 "NothingJudgeModel" "callLetter" "[I" : Cond) ∈ wsX11_init := List.mem_of_getElem? (i := 24) (by decide +kernel)
set_option maxRecDepth 20000 in
theorem fwwsX11_init_71 : (.fieldLink RX11 71 "NothingJudgeModel" "callArgs" "[I" : Cond) ∈ wsX11_init := List.mem_of_getElem? (i := 25) (by decide +kernel)
set_option maxRecDepth 20000 in
theorem fwwsX11_init_74 : (.fieldLink RX11 74 "NothingJudgeModel" "blockKind" "[I" : Cond) ∈ wsX11_init := List.mem_of_getElem? (i := 26) (by decide +kernel)
set_option maxRecDepth 20000 in
theorem fwwsX11_init_77 : (.fieldLink RX11 77 "NothingJudgeModel" "blockWaits" "[I" : Cond) ∈ wsX11_init := List.mem_of_getElem? (i := 27) (by decide +kernel)
set_option maxRecDepth 20000 in
theorem fwwsX11_init_80 : (.fieldLink RX11 80 "NothingJudgeModel" "blockTest" "[I" : Cond) ∈ wsX11_init := List.mem_of_getElem? (i := 28) (by decide +kernel)
set_option maxRecDepth 20000 in
theorem fwwsX11_init_83 : (.fieldLink RX11 83 "NothingJudgeModel" "entry" "I" : Cond) ∈ wsX11_init := List.mem_of_getElem? (i := 29) (by decide +kernel)
set_option maxRecDepth 20000 in
theorem fwwsX11_init_86 : (.fieldLink RX11 86 "NothingJudgeModel" "outers" "[I" : Cond) ∈ wsX11_init := List.mem_of_getElem? (i := 30) (by decide +kernel)
set_option maxRecDepth 20000 in
theorem ac_long_wsX11_init : (.arrayClass .long : Cond) ∈ wsX11_init := List.mem_of_getElem? (i := 31) (by decide +kernel)
set_option maxRecDepth 20000 in
theorem fwwsX11_init_89 : (.fieldLink RX11 89 "NothingJudgeModel" "ahead" "[J" : Cond) ∈ wsX11_init := List.mem_of_getElem? (i := 32) (by decide +kernel)
set_option maxRecDepth 20000 in
theorem fwwsX11_init_93 : (.fieldLink RX11 93 "NothingJudgeModel" "marks" "[I" : Cond) ∈ wsX11_init := List.mem_of_getElem? (i := 33) (by decide +kernel)
set_option maxRecDepth 20000 in
theorem ac_boolean_wsX11_init : (.arrayClass .boolean : Cond) ∈ wsX11_init := List.mem_of_getElem? (i := 34) (by decide +kernel)
set_option maxRecDepth 20000 in
theorem fwwsX11_init_96 : (.fieldLink RX11 96 "NothingJudgeModel" "isHeld" "[Z" : Cond) ∈ wsX11_init := List.mem_of_getElem? (i := 35) (by decide +kernel)
set_option maxRecDepth 20000 in
theorem fwwsX11_init_100 : (.fieldLink RX11 100 "NothingJudgeModel" "tested" "[I" : Cond) ∈ wsX11_init := List.mem_of_getElem? (i := 36) (by decide +kernel)
set_option maxRecDepth 20000 in
theorem fwwsX11_init_103 : (.fieldLink RX11 103 "NothingJudgeModel" "fields" "[I" : Cond) ∈ wsX11_init := List.mem_of_getElem? (i := 37) (by decide +kernel)
set_option maxRecDepth 20000 in
theorem fwwsX11_init_106 : (.fieldLink RX11 106 "NothingJudgeModel" "names" "[I" : Cond) ∈ wsX11_init := List.mem_of_getElem? (i := 38) (by decide +kernel)
set_option maxRecDepth 20000 in
theorem fwwsX11_init_109 : (.fieldLink RX11 109 "NothingJudgeModel" "backTo" "[I" : Cond) ∈ wsX11_init := List.mem_of_getElem? (i := 39) (by decide +kernel)
set_option maxRecDepth 20000 in
theorem fwwsX11_init_112 : (.fieldLink RX11 112 "NothingJudgeModel" "prices" "[I" : Cond) ∈ wsX11_init := List.mem_of_getElem? (i := 40) (by decide +kernel)
set_option maxRecDepth 20000 in
theorem fwwsX11_init_115 : (.fieldLink RX11 115 "NothingJudgeModel" "candidates" "[I" : Cond) ∈ wsX11_init := List.mem_of_getElem? (i := 41) (by decide +kernel)
set_option maxRecDepth 20000 in
theorem fwwsX11_init_118 : (.fieldLink RX11 118 "NothingJudgeModel" "mendMarks" "[I" : Cond) ∈ wsX11_init := List.mem_of_getElem? (i := 42) (by decide +kernel)
theorem wL_app {a b c : List Cond} (ha : ∀ w ∈ a, w ∈ c) (hb : ∀ w ∈ b, w ∈ c) : ∀ w ∈ a ++ b, w ∈ c := fun w h => (List.mem_append.mp h).elim (ha w) (hb w)
set_option maxRecDepth 20000 in
theorem wL_wsX100 : ∀ w ∈ wsX100, w ∈ lw_tbl := fun w h => (goodIn_r wsX100 [501, 503, 505, 507, 509, 511, 513, 515, 517, 519, 521, 523, 525] (by decide +kernel) (by decide +kernel) w h).1
set_option maxRecDepth 20000 in
theorem wL_wsX110 : ∀ w ∈ wsX110, w ∈ lw_tbl := fun w h => (goodIn_r wsX110 [1166, 1168, 1170, 1172, 1174, 1176, 1178, 1180, 1182, 1184, 1186, 1188, 1190, 1192, 1194, 1196, 1198, 1200, 1202, 1204, 1206, 1208, 1210, 1212, 1214, 1216, 1218, 1220, 1222, 1224, 1226, 1228, 1230, 1232, 1234, 1236, 1238, 1240, 1242, 1244, 1246, 1248, 1250, 1252, 1254, 1256, 1258, 1260, 1262, 1264, 1266, 1268, 1270, 1272, 1274, 1276, 1278, 1280, 1282, 1284, 1286, 1288, 1290, 1292, 1294, 1296, 1298, 1300] (by decide +kernel) (by decide +kernel) w h).1
set_option maxRecDepth 20000 in
theorem wL_wsX80 : ∀ w ∈ wsX80, w ∈ lw_tbl := fun w h => (goodIn_r wsX80 [142, 144, 146] (by decide +kernel) (by decide +kernel) w h).1
set_option maxRecDepth 20000 in
theorem wL_wsX30 : ∀ w ∈ wsX30, w ∈ lw_tbl := fun w h => (goodIn_r wsX30 [208, 210, 212, 214, 216, 218, 220, 222, 224, 226, 228, 230, 232, 234] (by decide +kernel) (by decide +kernel) w h).1
set_option maxRecDepth 20000 in
theorem wL_wsX40 : ∀ w ∈ wsX40, w ∈ lw_tbl := fun w h => (goodIn_r wsX40 [255, 257, 259, 261, 263, 265, 267, 269, 271, 273] (by decide +kernel) (by decide +kernel) w h).1
set_option maxRecDepth 20000 in
theorem wL_wsX70 : ∀ w ∈ wsX70, w ∈ lw_tbl := fun w h => (goodIn_r wsX70 [294, 296, 298] (by decide +kernel) (by decide +kernel) w h).1
set_option maxRecDepth 20000 in
theorem wL_wsX10 : ∀ w ∈ wsX10, w ∈ lw_tbl := fun w h => (goodIn_r wsX10 [327, 329, 331, 333, 335, 337, 339, 341, 343, 345, 347, 349, 351, 353] (by decide +kernel) (by decide +kernel) w h).1
set_option maxRecDepth 20000 in
theorem wL_wsX60 : ∀ w ∈ wsX60, w ∈ lw_tbl := fun w h => (goodIn_r wsX60 [385, 387, 389, 391, 393, 395, 397, 399, 401, 403, 405, 407, 409, 411, 413, 415] (by decide +kernel) (by decide +kernel) w h).1
set_option maxRecDepth 20000 in
theorem wL_wsX90 : ∀ w ∈ wsX90, w ∈ lw_tbl := fun w h => (goodIn_r wsX90 [432, 434, 436, 438, 440, 442] (by decide +kernel) (by decide +kernel) w h).1
set_option maxRecDepth 20000 in
theorem wL_wsX20 : ∀ w ∈ wsX20, w ∈ lw_tbl := fun w h => (goodIn_r wsX20 [467, 469, 471, 473, 475, 477, 479, 481, 483, 485] (by decide +kernel) (by decide +kernel) w h).1
set_option maxRecDepth 20000 in
theorem wL_wsX00 : ∀ w ∈ wsX00, w ∈ lw_tbl := fun w h => (goodIn_r wsX00 [168, 170] (by decide +kernel) (by decide +kernel) w h).1
theorem pw_0 : (.fieldLink RX1 9 "NothingJudge$Facts" "state" "[J" : Cond) ∈ lw_tbl := List.mem_of_getElem? (i := 309) (by decide +kernel)
theorem pw_2 : (.fieldLink RX1 49 "NothingJudge$Facts" "code" "LNothingJudge$Code;" : Cond) ∈ lw_tbl := List.mem_of_getElem? (i := 319) (by decide +kernel)
theorem pw_5 : (.fieldLink RX1 28 "NothingJudge$Facts" "stale" "Z" : Cond) ∈ lw_tbl := List.mem_of_getElem? (i := 320) (by decide +kernel)
theorem pw_7 : (.initialized RX1 : Cond) ∈ lw_tbl := List.mem_of_getElem? (i := 113) (by decide +kernel)
theorem pw_12 : (.fieldLink RX10 54 "NothingJudge" "facts" "LNothingJudge$Facts;" : Cond) ∈ lw_tbl := List.mem_of_getElem? (i := 496) (by decide +kernel)
theorem pw_14 : (.initialized RX10 : Cond) ∈ lw_tbl := List.mem_of_getElem? (i := 107) (by decide +kernel)
theorem pw_23 : (.fieldLink RX10 45 "NothingJudge" "scene" "LNothingJudge$Scene;" : Cond) ∈ lw_tbl := List.mem_of_getElem? (i := 495) (by decide +kernel)
theorem pw_34 : (.fieldLink RX1 25 "NothingJudge$Facts" "tested" "[I" : Cond) ∈ lw_tbl := List.mem_of_getElem? (i := 316) (by decide +kernel)
theorem pw_35 : (.fieldLink RX1 22 "NothingJudge$Facts" "used" "[I" : Cond) ∈ lw_tbl := List.mem_of_getElem? (i := 314) (by decide +kernel)
theorem pw_36 : (.fieldLink RX1 19 "NothingJudge$Facts" "marks" "[I" : Cond) ∈ lw_tbl := List.mem_of_getElem? (i := 311) (by decide +kernel)
theorem pw_38 : (.fieldLink RX1 43 "NothingJudge$Program" "code" "LNothingJudge$Code;" : Cond) ∈ lw_tbl := List.mem_of_getElem? (i := 176) (by decide +kernel)
theorem pw_39 : (.fieldLink RX1 42 "NothingJudge$Facts" "program" "LNothingJudge$Program;" : Cond) ∈ lw_tbl := List.mem_of_getElem? (i := 318) (by decide +kernel)
theorem pw_40 : (.fieldLink RX1 36 "NothingJudge$Scene" "program" "LNothingJudge$Program;" : Cond) ∈ lw_tbl := List.mem_of_getElem? (i := 284) (by decide +kernel)
theorem pw_41 : (.fieldLink RX1 32 "NothingJudge$Facts" "scene" "LNothingJudge$Scene;" : Cond) ∈ lw_tbl := List.mem_of_getElem? (i := 307) (by decide +kernel)
theorem pw_47 : (.fieldLink RX1 15 "NothingJudge$Facts" "seenAt" "[I" : Cond) ∈ lw_tbl := List.mem_of_getElem? (i := 310) (by decide +kernel)
theorem pw_55 : (.fieldLink RX7 9 "NothingJudge$Scene" "start" "I" : Cond) ∈ lw_tbl := List.mem_of_getElem? (i := 286) (by decide +kernel)
theorem pw_57 : (.fieldLink RX7 19 "NothingJudge$Scene" "program" "LNothingJudge$Program;" : Cond) ∈ lw_tbl := List.mem_of_getElem? (i := 282) (by decide +kernel)
theorem pw_59 : (.initialized RX7 : Cond) ∈ lw_tbl := List.mem_of_getElem? (i := 112) (by decide +kernel)
theorem pw_65 : (.initialized RX3 : Cond) ∈ lw_tbl := List.mem_of_getElem? (i := 109) (by decide +kernel)
theorem pw_74 : (.fieldLink RX3 25 "NothingJudge$Program" "parameters" "[I" : Cond) ∈ lw_tbl := List.mem_of_getElem? (i := 185) (by decide +kernel)
theorem pw_101 : (.fieldLink RX0 11 "NothingJudge$Code" "cells" "[I" : Cond) ∈ lw_tbl := List.mem_of_getElem? (i := 163) (by decide +kernel)
theorem pw_104 : (.initialized RX0 : Cond) ∈ lw_tbl := List.mem_of_getElem? (i := 110) (by decide +kernel)
theorem pw_160 : (.fieldLink RX7 15 "NothingJudge$Scene" "told" "[I" : Cond) ∈ lw_tbl := List.mem_of_getElem? (i := 291) (by decide +kernel)
theorem pw_167 : (.fieldLink RX10 79 "NothingJudge" "mender" "LNothingJudge$Mender;" : Cond) ∈ lw_tbl := List.mem_of_getElem? (i := 499) (by decide +kernel)
theorem pw_169 : (.fieldLink RX10 70 "NothingJudge" "trials" "LNothingJudge$Trials;" : Cond) ∈ lw_tbl := List.mem_of_getElem? (i := 498) (by decide +kernel)
theorem pw_175 : (.fieldLink RX10 36 "NothingJudge" "faultPlace" "I" : Cond) ∈ lw_tbl := List.mem_of_getElem? (i := 494) (by decide +kernel)
theorem pw_181 : (.fieldLink RX10 9 "NothingJudge" "tape" "[B" : Cond) ∈ lw_tbl := List.mem_of_getElem? (i := 488) (by decide +kernel)
theorem pw_191 : (.instantiable RX1 14 : Cond) ∈ lw_tbl := List.mem_of_getElem? (i := 302) (by decide +kernel)
theorem pw_192 : (.classLink RX10 49 RX1 : Cond) ∈ lw_tbl := List.mem_of_getElem? (i := 301) (by decide +kernel)
theorem pw_193 : (.instantiable RX7 3 : Cond) ∈ lw_tbl := List.mem_of_getElem? (i := 277) (by decide +kernel)
theorem pw_194 : (.classLink RX10 40 RX7 : Cond) ∈ lw_tbl := List.mem_of_getElem? (i := 276) (by decide +kernel)
theorem pw_195 : (.fieldLink RX10 32 "NothingJudge" "reader" "LNothingJudge$Reader;" : Cond) ∈ lw_tbl := List.mem_of_getElem? (i := 492) (by decide +kernel)
theorem pw_196 : (.initialized RX4 : Cond) ∈ lw_tbl := List.mem_of_getElem? (i := 111) (by decide +kernel)
theorem pw_197 : (.instantiable RX4 10 : Cond) ∈ lw_tbl := List.mem_of_getElem? (i := 238) (by decide +kernel)
theorem pw_198 : (.classLink RX10 27 RX4 : Cond) ∈ lw_tbl := List.mem_of_getElem? (i := 237) (by decide +kernel)
theorem pw_199 : (.fieldLink RX10 23 "NothingJudge" "spare" "LNothingJudge$Program;" : Cond) ∈ lw_tbl := List.mem_of_getElem? (i := 491) (by decide +kernel)
theorem pw_200 : (.instantiable RX3 14 : Cond) ∈ lw_tbl := List.mem_of_getElem? (i := 152) (by decide +kernel)
theorem pw_201 : (.classLink RX10 20 RX3 : Cond) ∈ lw_tbl := List.mem_of_getElem? (i := 151) (by decide +kernel)
theorem pw_202 : (.fieldLink RX10 16 "NothingJudge" "tokens" "LNothingJudge$Tokens;" : Cond) ∈ lw_tbl := List.mem_of_getElem? (i := 490) (by decide +kernel)
theorem pw_203 : (.initialized RX8 : Cond) ∈ lw_tbl := List.mem_of_getElem? (i := 108) (by decide +kernel)
theorem pw_204 : (.instantiable RX8 3 : Cond) ∈ lw_tbl := List.mem_of_getElem? (i := 134) (by decide +kernel)
theorem pw_205 : (.classLink RX10 13 RX8 : Cond) ∈ lw_tbl := List.mem_of_getElem? (i := 133) (by decide +kernel)
theorem pw_206 : (.arrayClass .byte : Cond) ∈ lw_tbl := List.mem_of_getElem? (i := 149) (by decide +kernel)
set_option maxRecDepth 100000 in
theorem pw_207 : (.code objectInit ⟨#[0xb1]⟩ 1 none : Cond) ∈ lw_tbl := List.mem_of_getElem? (i := 132) rfl
theorem pw_208 : (.instanceMethod objectInit : Cond) ∈ lw_tbl := List.mem_of_getElem? (i := 131) (by decide +kernel)
theorem pw_209 : (.methodLink RX10 3 objectInit : Cond) ∈ lw_tbl := List.mem_of_getElem? (i := 130) (by decide +kernel)
theorem ch_wsX10_init_r1 : ∀ w ∈ wsX10_init_r1, w ∈ lw_tbl := (List.forall_mem_cons.mpr ⟨pw_209, (List.forall_mem_cons.mpr ⟨pw_208, (List.forall_mem_cons.mpr ⟨pw_207, (List.forall_mem_cons.mpr ⟨pw_206, (List.forall_mem_cons.mpr ⟨pw_181, (List.forall_mem_cons.mpr ⟨pw_205, (List.forall_mem_cons.mpr ⟨pw_204, (List.forall_mem_cons.mpr ⟨pw_203, (List.forall_mem_cons.mpr ⟨pw_202, (List.forall_mem_cons.mpr ⟨pw_201, (List.forall_mem_cons.mpr ⟨pw_200, (List.forall_mem_cons.mpr ⟨pw_65, (List.forall_mem_cons.mpr ⟨pw_199, (List.forall_mem_cons.mpr ⟨pw_198, (List.forall_mem_cons.mpr ⟨pw_197, (List.forall_mem_cons.mpr ⟨pw_196, (List.forall_mem_cons.mpr ⟨pw_195, (List.forall_mem_cons.mpr ⟨pw_175, (List.forall_mem_cons.mpr ⟨pw_194, (List.forall_mem_cons.mpr ⟨pw_193, (List.forall_mem_cons.mpr ⟨pw_59, (List.forall_mem_cons.mpr ⟨pw_23, (List.forall_mem_cons.mpr ⟨pw_192, (List.forall_mem_cons.mpr ⟨pw_191, (fun _ h => absurd h List.not_mem_nil)⟩)⟩)⟩)⟩)⟩)⟩)⟩)⟩)⟩)⟩)⟩)⟩)⟩)⟩)⟩)⟩)⟩)⟩)⟩)⟩)⟩)⟩)⟩)⟩)
theorem pw_210 : (.classLink RX3 9 RX0 : Cond) ∈ lw_tbl := List.mem_of_getElem? (i := 157) (by decide +kernel)
theorem pw_211 : (.methodLink RX3 3 objectInit : Cond) ∈ lw_tbl := List.mem_of_getElem? (i := 156) (by decide +kernel)
set_option maxRecDepth 100000 in
theorem pw_212 : (.code yX3_init cX3_init 1 none : Cond) ∈ lw_tbl := List.mem_of_getElem? (i := 155) rfl
theorem pw_213 : (.instanceMethod yX3_init : Cond) ∈ lw_tbl := List.mem_of_getElem? (i := 154) (by decide +kernel)
theorem pw_214 : (.fieldLink RX8 9 "NothingJudge$Tokens" "packed" "[I" : Cond) ∈ lw_tbl := List.mem_of_getElem? (i := 139) (by decide +kernel)
theorem pw_215 : (.methodLink RX8 3 objectInit : Cond) ∈ lw_tbl := List.mem_of_getElem? (i := 138) (by decide +kernel)
set_option maxRecDepth 100000 in
theorem pw_216 : (.code yX8_init cX8_init 1 none : Cond) ∈ lw_tbl := List.mem_of_getElem? (i := 137) rfl
theorem pw_217 : (.instanceMethod yX8_init : Cond) ∈ lw_tbl := List.mem_of_getElem? (i := 136) (by decide +kernel)
theorem pw_218 : (.fieldLink RX10 83 "NothingJudge" "ranRow" "[I" : Cond) ∈ lw_tbl := List.mem_of_getElem? (i := 500) (by decide +kernel)
theorem pw_219 : (.arrayClass .int : Cond) ∈ lw_tbl := List.mem_of_getElem? (i := 150) (by decide +kernel)
theorem pw_220 : (.initialized RX2 : Cond) ∈ lw_tbl := List.mem_of_getElem? (i := 116) (by decide +kernel)
theorem pw_221 : (.instantiable RX2 10 : Cond) ∈ lw_tbl := List.mem_of_getElem? (i := 446) (by decide +kernel)
theorem pw_222 : (.classLink RX10 74 RX2 : Cond) ∈ lw_tbl := List.mem_of_getElem? (i := 445) (by decide +kernel)
theorem pw_223 : (.initialized RX9 : Cond) ∈ lw_tbl := List.mem_of_getElem? (i := 115) (by decide +kernel)
theorem pw_224 : (.instantiable RX9 6 : Cond) ∈ lw_tbl := List.mem_of_getElem? (i := 419) (by decide +kernel)
theorem pw_225 : (.classLink RX10 65 RX9 : Cond) ∈ lw_tbl := List.mem_of_getElem? (i := 418) (by decide +kernel)
theorem pw_226 : (.fieldLink RX10 61 "NothingJudge" "runner" "LNothingJudge$Runner;" : Cond) ∈ lw_tbl := List.mem_of_getElem? (i := 497) (by decide +kernel)
theorem pw_227 : (.initialized RX6 : Cond) ∈ lw_tbl := List.mem_of_getElem? (i := 114) (by decide +kernel)
theorem pw_228 : (.instantiable RX6 16 : Cond) ∈ lw_tbl := List.mem_of_getElem? (i := 358) (by decide +kernel)
theorem pw_229 : (.classLink RX10 58 RX6 : Cond) ∈ lw_tbl := List.mem_of_getElem? (i := 357) (by decide +kernel)
theorem ch_wsX10_init_r2 : ∀ w ∈ wsX10_init_r2, w ∈ lw_tbl := (List.forall_mem_cons.mpr ⟨pw_7, (List.forall_mem_cons.mpr ⟨pw_12, (List.forall_mem_cons.mpr ⟨pw_229, (List.forall_mem_cons.mpr ⟨pw_228, (List.forall_mem_cons.mpr ⟨pw_227, (List.forall_mem_cons.mpr ⟨pw_226, (List.forall_mem_cons.mpr ⟨pw_225, (List.forall_mem_cons.mpr ⟨pw_224, (List.forall_mem_cons.mpr ⟨pw_223, (List.forall_mem_cons.mpr ⟨pw_169, (List.forall_mem_cons.mpr ⟨pw_222, (List.forall_mem_cons.mpr ⟨pw_221, (List.forall_mem_cons.mpr ⟨pw_220, (List.forall_mem_cons.mpr ⟨pw_167, (List.forall_mem_cons.mpr ⟨pw_219, (List.forall_mem_cons.mpr ⟨pw_218, (List.forall_mem_cons.mpr ⟨pw_217, (List.forall_mem_cons.mpr ⟨pw_216, (List.forall_mem_cons.mpr ⟨pw_215, (List.forall_mem_cons.mpr ⟨pw_214, (List.forall_mem_cons.mpr ⟨pw_213, (List.forall_mem_cons.mpr ⟨pw_212, (List.forall_mem_cons.mpr ⟨pw_211, (List.forall_mem_cons.mpr ⟨pw_210, (fun _ h => absurd h List.not_mem_nil)⟩)⟩)⟩)⟩)⟩)⟩)⟩)⟩)⟩)⟩)⟩)⟩)⟩)⟩)⟩)⟩)⟩)⟩)⟩)⟩)⟩)⟩)⟩)⟩)
theorem pw_230 : (.fieldLink RX4 22 "NothingJudge$Reader" "tokens" "LNothingJudge$Tokens;" : Cond) ∈ lw_tbl := List.mem_of_getElem? (i := 243) (by decide +kernel)
theorem pw_231 : (.fieldLink RX4 18 "NothingJudge$Reader" "wrongPlace" "I" : Cond) ∈ lw_tbl := List.mem_of_getElem? (i := 253) (by decide +kernel)
theorem pw_232 : (.fieldLink RX4 15 "NothingJudge$Reader" "openAt" "[I" : Cond) ∈ lw_tbl := List.mem_of_getElem? (i := 245) (by decide +kernel)
theorem pw_233 : (.fieldLink RX4 9 "NothingJudge$Reader" "openKind" "[I" : Cond) ∈ lw_tbl := List.mem_of_getElem? (i := 244) (by decide +kernel)
theorem pw_234 : (.methodLink RX4 3 objectInit : Cond) ∈ lw_tbl := List.mem_of_getElem? (i := 242) (by decide +kernel)
set_option maxRecDepth 100000 in
theorem pw_235 : (.code yX4_init cX4_init 3 none : Cond) ∈ lw_tbl := List.mem_of_getElem? (i := 241) rfl
theorem pw_236 : (.instanceMethod yX4_init : Cond) ∈ lw_tbl := List.mem_of_getElem? (i := 240) (by decide +kernel)
theorem pw_237 : (.methodLink RX10 29 yX4_init : Cond) ∈ lw_tbl := List.mem_of_getElem? (i := 239) (by decide +kernel)
theorem pw_238 : (.methodLink RX0 5 objectInit : Cond) ∈ lw_tbl := List.mem_of_getElem? (i := 162) (by decide +kernel)
set_option maxRecDepth 100000 in
theorem pw_239 : (.code yX0_init cX0_init 1 none : Cond) ∈ lw_tbl := List.mem_of_getElem? (i := 161) rfl
theorem pw_240 : (.instanceMethod yX0_init : Cond) ∈ lw_tbl := List.mem_of_getElem? (i := 160) (by decide +kernel)
theorem pw_241 : (.fieldLink RX3 43 "NothingJudge$Program" "first" "I" : Cond) ∈ lw_tbl := List.mem_of_getElem? (i := 206) (by decide +kernel)
theorem pw_242 : (.fieldLink RX3 40 "NothingJudge$Program" "testPlace" "[I" : Cond) ∈ lw_tbl := List.mem_of_getElem? (i := 194) (by decide +kernel)
theorem pw_243 : (.fieldLink RX3 37 "NothingJudge$Program" "testOwner" "[I" : Cond) ∈ lw_tbl := List.mem_of_getElem? (i := 192) (by decide +kernel)
theorem pw_244 : (.fieldLink RX3 34 "NothingJudge$Program" "useName" "[I" : Cond) ∈ lw_tbl := List.mem_of_getElem? (i := 190) (by decide +kernel)
theorem pw_245 : (.fieldLink RX3 31 "NothingJudge$Program" "usePlace" "[I" : Cond) ∈ lw_tbl := List.mem_of_getElem? (i := 188) (by decide +kernel)
theorem pw_246 : (.fieldLink RX3 28 "NothingJudge$Program" "useOwner" "[I" : Cond) ∈ lw_tbl := List.mem_of_getElem? (i := 186) (by decide +kernel)
theorem pw_247 : (.fieldLink RX3 22 "NothingJudge$Program" "arity" "[I" : Cond) ∈ lw_tbl := List.mem_of_getElem? (i := 180) (by decide +kernel)
theorem pw_248 : (.fieldLink RX3 18 "NothingJudge$Program" "opening" "[I" : Cond) ∈ lw_tbl := List.mem_of_getElem? (i := 177) (by decide +kernel)
theorem pw_249 : (.fieldLink RX3 12 "NothingJudge$Program" "code" "LNothingJudge$Code;" : Cond) ∈ lw_tbl := List.mem_of_getElem? (i := 173) (by decide +kernel)
theorem pw_250 : (.instantiable RX0 2 : Cond) ∈ lw_tbl := List.mem_of_getElem? (i := 158) (by decide +kernel)
theorem ch_wsX10_init_r3 : ∀ w ∈ wsX10_init_r3, w ∈ lw_tbl := (List.forall_mem_cons.mpr ⟨pw_250, (List.forall_mem_cons.mpr ⟨pw_104, (List.forall_mem_cons.mpr ⟨pw_249, (List.forall_mem_cons.mpr ⟨pw_248, (List.forall_mem_cons.mpr ⟨pw_247, (List.forall_mem_cons.mpr ⟨pw_74, (List.forall_mem_cons.mpr ⟨pw_246, (List.forall_mem_cons.mpr ⟨pw_245, (List.forall_mem_cons.mpr ⟨pw_244, (List.forall_mem_cons.mpr ⟨pw_243, (List.forall_mem_cons.mpr ⟨pw_242, (List.forall_mem_cons.mpr ⟨pw_241, (List.forall_mem_cons.mpr ⟨pw_240, (List.forall_mem_cons.mpr ⟨pw_239, (List.forall_mem_cons.mpr ⟨pw_238, (List.forall_mem_cons.mpr ⟨pw_101, (List.forall_mem_cons.mpr ⟨pw_237, (List.forall_mem_cons.mpr ⟨pw_236, (List.forall_mem_cons.mpr ⟨pw_235, (List.forall_mem_cons.mpr ⟨pw_234, (List.forall_mem_cons.mpr ⟨pw_233, (List.forall_mem_cons.mpr ⟨pw_232, (List.forall_mem_cons.mpr ⟨pw_231, (List.forall_mem_cons.mpr ⟨pw_230, (fun _ h => absurd h List.not_mem_nil)⟩)⟩)⟩)⟩)⟩)⟩)⟩)⟩)⟩)⟩)⟩)⟩)⟩)⟩)⟩)⟩)⟩)⟩)⟩)⟩)⟩)⟩)⟩)⟩)
theorem pw_251 : (.arrayClass .long : Cond) ∈ lw_tbl := List.mem_of_getElem? (i := 356) (by decide +kernel)
theorem pw_252 : (.methodLink RX1 3 objectInit : Cond) ∈ lw_tbl := List.mem_of_getElem? (i := 306) (by decide +kernel)
set_option maxRecDepth 100000 in
theorem pw_253 : (.code yX1_init cX1_init 2 none : Cond) ∈ lw_tbl := List.mem_of_getElem? (i := 305) rfl
theorem pw_254 : (.instanceMethod yX1_init : Cond) ∈ lw_tbl := List.mem_of_getElem? (i := 304) (by decide +kernel)
theorem pw_255 : (.methodLink RX10 51 yX1_init : Cond) ∈ lw_tbl := List.mem_of_getElem? (i := 303) (by decide +kernel)
theorem pw_256 : (.methodLink RX7 3 objectInit : Cond) ∈ lw_tbl := List.mem_of_getElem? (i := 281) (by decide +kernel)
set_option maxRecDepth 100000 in
theorem pw_257 : (.code yX7_init cX7_init 2 none : Cond) ∈ lw_tbl := List.mem_of_getElem? (i := 280) rfl
theorem pw_258 : (.instanceMethod yX7_init : Cond) ∈ lw_tbl := List.mem_of_getElem? (i := 279) (by decide +kernel)
theorem pw_259 : (.methodLink RX10 42 yX7_init : Cond) ∈ lw_tbl := List.mem_of_getElem? (i := 278) (by decide +kernel)
theorem pw_260 : (.fieldLink RX4 36 "NothingJudge$Reader" "code" "LNothingJudge$Code;" : Cond) ∈ lw_tbl := List.mem_of_getElem? (i := 247) (by decide +kernel)
theorem pw_261 : (.fieldLink RX4 30 "NothingJudge$Program" "code" "LNothingJudge$Code;" : Cond) ∈ lw_tbl := List.mem_of_getElem? (i := 174) (by decide +kernel)
theorem pw_262 : (.fieldLink RX4 26 "NothingJudge$Reader" "program" "LNothingJudge$Program;" : Cond) ∈ lw_tbl := List.mem_of_getElem? (i := 246) (by decide +kernel)
theorem ch_wsX10_init_r4 : ∀ w ∈ wsX10_init_r4, w ∈ lw_tbl := (List.forall_mem_cons.mpr ⟨pw_262, (List.forall_mem_cons.mpr ⟨pw_261, (List.forall_mem_cons.mpr ⟨pw_260, (List.forall_mem_cons.mpr ⟨pw_259, (List.forall_mem_cons.mpr ⟨pw_258, (List.forall_mem_cons.mpr ⟨pw_257, (List.forall_mem_cons.mpr ⟨pw_256, (List.forall_mem_cons.mpr ⟨pw_55, (List.forall_mem_cons.mpr ⟨pw_160, (List.forall_mem_cons.mpr ⟨pw_57, (List.forall_mem_cons.mpr ⟨pw_255, (List.forall_mem_cons.mpr ⟨pw_254, (List.forall_mem_cons.mpr ⟨pw_253, (List.forall_mem_cons.mpr ⟨pw_252, (List.forall_mem_cons.mpr ⟨pw_251, (List.forall_mem_cons.mpr ⟨pw_0, (List.forall_mem_cons.mpr ⟨pw_47, (List.forall_mem_cons.mpr ⟨pw_36, (List.forall_mem_cons.mpr ⟨pw_35, (List.forall_mem_cons.mpr ⟨pw_34, (List.forall_mem_cons.mpr ⟨pw_5, (List.forall_mem_cons.mpr ⟨pw_41, (List.forall_mem_cons.mpr ⟨pw_40, (List.forall_mem_cons.mpr ⟨pw_39, (fun _ h => absurd h List.not_mem_nil)⟩)⟩)⟩)⟩)⟩)⟩)⟩)⟩)⟩)⟩)⟩)⟩)⟩)⟩)⟩)⟩)⟩)⟩)⟩)⟩)⟩)⟩)⟩)⟩)
theorem pw_263 : (.methodLink RX10 76 yX2_init : Cond) ∈ lw_tbl := List.mem_of_getElem? (i := 447) (by decide +kernel)
theorem pw_264 : (.fieldLink RX9 26 "NothingJudge$Trials" "runner" "LNothingJudge$Runner;" : Cond) ∈ lw_tbl := List.mem_of_getElem? (i := 425) (by decide +kernel)
theorem pw_265 : (.fieldLink RX9 22 "NothingJudge$Trials" "scene" "LNothingJudge$Scene;" : Cond) ∈ lw_tbl := List.mem_of_getElem? (i := 424) (by decide +kernel)
theorem pw_266 : (.fieldLink RX9 18 "NothingJudge$Trials" "stale" "Z" : Cond) ∈ lw_tbl := List.mem_of_getElem? (i := 429) (by decide +kernel)
theorem pw_267 : (.fieldLink RX9 15 "NothingJudge$Trials" "knownFor" "[I" : Cond) ∈ lw_tbl := List.mem_of_getElem? (i := 428) (by decide +kernel)
theorem pw_268 : (.fieldLink RX9 9 "NothingJudge$Trials" "first" "[I" : Cond) ∈ lw_tbl := List.mem_of_getElem? (i := 426) (by decide +kernel)
theorem pw_269 : (.methodLink RX9 3 objectInit : Cond) ∈ lw_tbl := List.mem_of_getElem? (i := 423) (by decide +kernel)
set_option maxRecDepth 100000 in
theorem pw_270 : (.code yX9_init cX9_init 3 none : Cond) ∈ lw_tbl := List.mem_of_getElem? (i := 422) rfl
theorem pw_271 : (.instanceMethod yX9_init : Cond) ∈ lw_tbl := List.mem_of_getElem? (i := 421) (by decide +kernel)
theorem pw_272 : (.methodLink RX10 67 yX9_init : Cond) ∈ lw_tbl := List.mem_of_getElem? (i := 420) (by decide +kernel)
theorem pw_273 : (.fieldLink RX6 38 "NothingJudge$Runner" "code" "LNothingJudge$Code;" : Cond) ∈ lw_tbl := List.mem_of_getElem? (i := 368) (by decide +kernel)
theorem pw_274 : (.fieldLink RX6 32 "NothingJudge$Program" "code" "LNothingJudge$Code;" : Cond) ∈ lw_tbl := List.mem_of_getElem? (i := 175) (by decide +kernel)
theorem pw_275 : (.fieldLink RX6 31 "NothingJudge$Runner" "program" "LNothingJudge$Program;" : Cond) ∈ lw_tbl := List.mem_of_getElem? (i := 367) (by decide +kernel)
theorem pw_276 : (.fieldLink RX6 25 "NothingJudge$Scene" "program" "LNothingJudge$Program;" : Cond) ∈ lw_tbl := List.mem_of_getElem? (i := 283) (by decide +kernel)
theorem pw_277 : (.fieldLink RX6 21 "NothingJudge$Runner" "scene" "LNothingJudge$Scene;" : Cond) ∈ lw_tbl := List.mem_of_getElem? (i := 363) (by decide +kernel)
theorem pw_278 : (.fieldLink RX6 18 "NothingJudge$Runner" "fields" "[I" : Cond) ∈ lw_tbl := List.mem_of_getElem? (i := 366) (by decide +kernel)
theorem pw_279 : (.fieldLink RX6 15 "NothingJudge$Runner" "back" "[I" : Cond) ∈ lw_tbl := List.mem_of_getElem? (i := 365) (by decide +kernel)
theorem pw_280 : (.fieldLink RX6 11 "NothingJudge$Runner" "names" "[I" : Cond) ∈ lw_tbl := List.mem_of_getElem? (i := 364) (by decide +kernel)
theorem pw_281 : (.methodLink RX6 3 objectInit : Cond) ∈ lw_tbl := List.mem_of_getElem? (i := 362) (by decide +kernel)
set_option maxRecDepth 100000 in
theorem pw_282 : (.code yX6_init cX6_init 2 none : Cond) ∈ lw_tbl := List.mem_of_getElem? (i := 361) rfl
theorem pw_283 : (.instanceMethod yX6_init : Cond) ∈ lw_tbl := List.mem_of_getElem? (i := 360) (by decide +kernel)
theorem pw_284 : (.methodLink RX10 60 yX6_init : Cond) ∈ lw_tbl := List.mem_of_getElem? (i := 359) (by decide +kernel)
theorem ch_wsX10_init_r5 : ∀ w ∈ wsX10_init_r5, w ∈ lw_tbl := (List.forall_mem_cons.mpr ⟨pw_38, (List.forall_mem_cons.mpr ⟨pw_2, (List.forall_mem_cons.mpr ⟨pw_284, (List.forall_mem_cons.mpr ⟨pw_283, (List.forall_mem_cons.mpr ⟨pw_282, (List.forall_mem_cons.mpr ⟨pw_281, (List.forall_mem_cons.mpr ⟨pw_280, (List.forall_mem_cons.mpr ⟨pw_279, (List.forall_mem_cons.mpr ⟨pw_278, (List.forall_mem_cons.mpr ⟨pw_277, (List.forall_mem_cons.mpr ⟨pw_276, (List.forall_mem_cons.mpr ⟨pw_275, (List.forall_mem_cons.mpr ⟨pw_274, (List.forall_mem_cons.mpr ⟨pw_273, (List.forall_mem_cons.mpr ⟨pw_272, (List.forall_mem_cons.mpr ⟨pw_271, (List.forall_mem_cons.mpr ⟨pw_270, (List.forall_mem_cons.mpr ⟨pw_269, (List.forall_mem_cons.mpr ⟨pw_268, (List.forall_mem_cons.mpr ⟨pw_267, (List.forall_mem_cons.mpr ⟨pw_266, (List.forall_mem_cons.mpr ⟨pw_265, (List.forall_mem_cons.mpr ⟨pw_264, (List.forall_mem_cons.mpr ⟨pw_263, (fun _ h => absurd h List.not_mem_nil)⟩)⟩)⟩)⟩)⟩)⟩)⟩)⟩)⟩)⟩)⟩)⟩)⟩)⟩)⟩)⟩)⟩)⟩)⟩)⟩)⟩)⟩)⟩)⟩)
theorem pw_285 : (.fieldLink RX2 29 "NothingJudge$Mender" "facts" "LNothingJudge$Facts;" : Cond) ∈ lw_tbl := List.mem_of_getElem? (i := 451) (by decide +kernel)
theorem pw_286 : (.fieldLink RX2 25 "NothingJudge$Mender" "cost" "I" : Cond) ∈ lw_tbl := List.mem_of_getElem? (i := 461) (by decide +kernel)
theorem pw_287 : (.fieldLink RX2 21 "NothingJudge$Mender" "stale" "Z" : Cond) ∈ lw_tbl := List.mem_of_getElem? (i := 457) (by decide +kernel)
theorem pw_288 : (.fieldLink RX2 18 "NothingJudge$Mender" "heldNames" "[I" : Cond) ∈ lw_tbl := List.mem_of_getElem? (i := 455) (by decide +kernel)
theorem pw_289 : (.fieldLink RX2 15 "NothingJudge$Mender" "candidates" "[I" : Cond) ∈ lw_tbl := List.mem_of_getElem? (i := 454) (by decide +kernel)
theorem pw_290 : (.fieldLink RX2 9 "NothingJudge$Mender" "prices" "[I" : Cond) ∈ lw_tbl := List.mem_of_getElem? (i := 452) (by decide +kernel)
theorem pw_291 : (.methodLink RX2 3 objectInit : Cond) ∈ lw_tbl := List.mem_of_getElem? (i := 450) (by decide +kernel)
set_option maxRecDepth 100000 in
theorem pw_292 : (.code yX2_init cX2_init 2 none : Cond) ∈ lw_tbl := List.mem_of_getElem? (i := 449) rfl
theorem pw_293 : (.instanceMethod yX2_init : Cond) ∈ lw_tbl := List.mem_of_getElem? (i := 448) (by decide +kernel)
theorem ch_wsX10_init_r6 : ∀ w ∈ wsX10_init_r6, w ∈ lw_tbl := (List.forall_mem_cons.mpr ⟨pw_293, (List.forall_mem_cons.mpr ⟨pw_292, (List.forall_mem_cons.mpr ⟨pw_291, (List.forall_mem_cons.mpr ⟨pw_290, (List.forall_mem_cons.mpr ⟨pw_289, (List.forall_mem_cons.mpr ⟨pw_288, (List.forall_mem_cons.mpr ⟨pw_287, (List.forall_mem_cons.mpr ⟨pw_286, (List.forall_mem_cons.mpr ⟨pw_285, (fun _ h => absurd h List.not_mem_nil)⟩)⟩)⟩)⟩)⟩)⟩)⟩)⟩)⟩)
set_option maxRecDepth 100000 in
theorem pw_294 : (.code yX10_init cX10_init 1 none : Cond) ∈ lw_tbl := List.mem_of_getElem? (i := 129) rfl
set_option maxRecDepth 20000 in
theorem lm_wsX10_init : ∀ w ∈ wsX10_init, w ∈ lw_tbl := List.forall_mem_cons.mpr ⟨pw_294, (wL_app (wL_app (wL_app (wL_app (wL_app (wL_app (wL_app (wL_app (wL_app (wL_app (wL_app ch_wsX10_init_r1 (wL_app ch_wsX10_init_r2 (wL_app ch_wsX10_init_r3 (wL_app ch_wsX10_init_r4 (wL_app ch_wsX10_init_r5 ch_wsX10_init_r6))))) wL_wsX100) wL_wsX80) wL_wsX30) wL_wsX40) wL_wsX70) wL_wsX10) wL_wsX60) wL_wsX90) wL_wsX20) wL_wsX00)⟩
set_option maxRecDepth 20000 in
theorem gW_X10_init : GoodIn lw_tbl wsX10_init := goodIn_sub lm_wsX10_init (by decide +kernel)
theorem pw_776 : (.fieldLink RX11 86 "NothingJudgeModel" "outers" "[I" : Cond) ∈ lw_tbl := List.mem_of_getElem? (i := 1138) (by decide +kernel)
theorem pw_777 : (.fieldLink RX11 35 "NothingJudgeModel" "params" "[I" : Cond) ∈ lw_tbl := List.mem_of_getElem? (i := 1118) (by decide +kernel)
theorem pw_779 : (.fieldLink RX11 100 "NothingJudgeModel" "tested" "[I" : Cond) ∈ lw_tbl := List.mem_of_getElem? (i := 1142) (by decide +kernel)
theorem pw_780 : (.fieldLink RX11 93 "NothingJudgeModel" "marks" "[I" : Cond) ∈ lw_tbl := List.mem_of_getElem? (i := 1140) (by decide +kernel)
theorem pw_781 : (.fieldLink RX11 89 "NothingJudgeModel" "ahead" "[J" : Cond) ∈ lw_tbl := List.mem_of_getElem? (i := 1139) (by decide +kernel)
theorem pw_787 : (.fieldLink RX11 96 "NothingJudgeModel" "isHeld" "[Z" : Cond) ∈ lw_tbl := List.mem_of_getElem? (i := 1141) (by decide +kernel)
theorem pw_789 : (.initialized RX11 : Cond) ∈ lw_tbl := List.mem_of_getElem? (i := 117) (by decide +kernel)
theorem pw_793 : (.fieldLink RX11 83 "NothingJudgeModel" "entry" "I" : Cond) ∈ lw_tbl := List.mem_of_getElem? (i := 1137) (by decide +kernel)
theorem pw_794 : (.fieldLink RX11 62 "NothingJudgeModel" "testMany" "[I" : Cond) ∈ lw_tbl := List.mem_of_getElem? (i := 1127) (by decide +kernel)
theorem pw_795 : (.fieldLink RX11 53 "NothingJudgeModel" "useMany" "[I" : Cond) ∈ lw_tbl := List.mem_of_getElem? (i := 1124) (by decide +kernel)
theorem pw_809 : (.fieldLink RX11 32 "NothingJudgeModel" "routineFrom" "[I" : Cond) ∈ lw_tbl := List.mem_of_getElem? (i := 1117) (by decide +kernel)
theorem pw_810 : (.fieldLink RX11 38 "NothingJudgeModel" "paramNames" "[I" : Cond) ∈ lw_tbl := List.mem_of_getElem? (i := 1119) (by decide +kernel)
theorem pw_824 : (.fieldLink RX11 26 "NothingJudgeModel" "three" "[I" : Cond) ∈ lw_tbl := List.mem_of_getElem? (i := 1113) (by decide +kernel)
theorem pw_833 : (.fieldLink RX11 29 "NothingJudgeModel" "argsOf" "[I" : Cond) ∈ lw_tbl := List.mem_of_getElem? (i := 1114) (by decide +kernel)
theorem pw_841 : (.fieldLink RX11 23 "NothingJudgeModel" "two" "[I" : Cond) ∈ lw_tbl := List.mem_of_getElem? (i := 1112) (by decide +kernel)
theorem pw_842 : (.fieldLink RX11 20 "NothingJudgeModel" "one" "[I" : Cond) ∈ lw_tbl := List.mem_of_getElem? (i := 1111) (by decide +kernel)
theorem pw_843 : (.fieldLink RX11 17 "NothingJudgeModel" "act" "[I" : Cond) ∈ lw_tbl := List.mem_of_getElem? (i := 1110) (by decide +kernel)
theorem pw_862 : (.fieldLink RX11 13 "NothingJudgeModel" "lastPlace" "I" : Cond) ∈ lw_tbl := List.mem_of_getElem? (i := 1109) (by decide +kernel)
theorem pw_868 : (.fieldLink RX11 7 "NothingJudgeModel" "tape" "[I" : Cond) ∈ lw_tbl := List.mem_of_getElem? (i := 1099) (by decide +kernel)
theorem pw_874 : (.fieldLink RX11 68 "NothingJudgeModel" "callLetter" "[I" : Cond) ∈ lw_tbl := List.mem_of_getElem? (i := 1129) (by decide +kernel)
theorem pw_875 : (.fieldLink RX11 65 "NothingJudgeModel" "callPlace" "[I" : Cond) ∈ lw_tbl := List.mem_of_getElem? (i := 1128) (by decide +kernel)
theorem pw_876 : (.fieldLink RX11 59 "NothingJudgeModel" "testPlace" "[I" : Cond) ∈ lw_tbl := List.mem_of_getElem? (i := 1126) (by decide +kernel)
theorem pw_877 : (.fieldLink RX11 56 "NothingJudgeModel" "testRoutine" "[I" : Cond) ∈ lw_tbl := List.mem_of_getElem? (i := 1125) (by decide +kernel)
theorem pw_878 : (.fieldLink RX11 50 "NothingJudgeModel" "useName" "[I" : Cond) ∈ lw_tbl := List.mem_of_getElem? (i := 1123) (by decide +kernel)
theorem pw_879 : (.fieldLink RX11 47 "NothingJudgeModel" "usePlace" "[I" : Cond) ∈ lw_tbl := List.mem_of_getElem? (i := 1122) (by decide +kernel)
theorem pw_880 : (.fieldLink RX11 44 "NothingJudgeModel" "useRoutine" "[I" : Cond) ∈ lw_tbl := List.mem_of_getElem? (i := 1121) (by decide +kernel)
theorem pw_881 : (.fieldLink RX11 41 "NothingJudgeModel" "firstRoutine" "[I" : Cond) ∈ lw_tbl := List.mem_of_getElem? (i := 1120) (by decide +kernel)
theorem pw_882 : (.methodLink RX11 1 objectInit : Cond) ∈ lw_tbl := List.mem_of_getElem? (i := 1097) (by decide +kernel)
theorem ch_wsX11_init_r1 : ∀ w ∈ wsX11_init_r1, w ∈ lw_tbl := (List.forall_mem_cons.mpr ⟨pw_882, (List.forall_mem_cons.mpr ⟨pw_208, (List.forall_mem_cons.mpr ⟨pw_207, (List.forall_mem_cons.mpr ⟨pw_219, (List.forall_mem_cons.mpr ⟨pw_868, (List.forall_mem_cons.mpr ⟨pw_862, (List.forall_mem_cons.mpr ⟨pw_843, (List.forall_mem_cons.mpr ⟨pw_842, (List.forall_mem_cons.mpr ⟨pw_841, (List.forall_mem_cons.mpr ⟨pw_824, (List.forall_mem_cons.mpr ⟨pw_833, (List.forall_mem_cons.mpr ⟨pw_809, (List.forall_mem_cons.mpr ⟨pw_777, (List.forall_mem_cons.mpr ⟨pw_810, (List.forall_mem_cons.mpr ⟨pw_881, (List.forall_mem_cons.mpr ⟨pw_880, (List.forall_mem_cons.mpr ⟨pw_879, (List.forall_mem_cons.mpr ⟨pw_878, (List.forall_mem_cons.mpr ⟨pw_795, (List.forall_mem_cons.mpr ⟨pw_877, (List.forall_mem_cons.mpr ⟨pw_876, (List.forall_mem_cons.mpr ⟨pw_794, (List.forall_mem_cons.mpr ⟨pw_875, (List.forall_mem_cons.mpr ⟨pw_874, (fun _ h => absurd h List.not_mem_nil)⟩)⟩)⟩)⟩)⟩)⟩)⟩)⟩)⟩)⟩)⟩)⟩)⟩)⟩)⟩)⟩)⟩)⟩)⟩)⟩)⟩)⟩)⟩)⟩)
theorem pw_883 : (.fieldLink RX11 118 "NothingJudgeModel" "mendMarks" "[I" : Cond) ∈ lw_tbl := List.mem_of_getElem? (i := 1164) (by decide +kernel)
theorem pw_884 : (.fieldLink RX11 115 "NothingJudgeModel" "candidates" "[I" : Cond) ∈ lw_tbl := List.mem_of_getElem? (i := 1160) (by decide +kernel)
theorem pw_885 : (.fieldLink RX11 112 "NothingJudgeModel" "prices" "[I" : Cond) ∈ lw_tbl := List.mem_of_getElem? (i := 1159) (by decide +kernel)
theorem pw_886 : (.fieldLink RX11 109 "NothingJudgeModel" "backTo" "[I" : Cond) ∈ lw_tbl := List.mem_of_getElem? (i := 1147) (by decide +kernel)
theorem pw_887 : (.fieldLink RX11 106 "NothingJudgeModel" "names" "[I" : Cond) ∈ lw_tbl := List.mem_of_getElem? (i := 1146) (by decide +kernel)
theorem pw_888 : (.fieldLink RX11 103 "NothingJudgeModel" "fields" "[I" : Cond) ∈ lw_tbl := List.mem_of_getElem? (i := 1144) (by decide +kernel)
theorem pw_889 : (.arrayClass .boolean : Cond) ∈ lw_tbl := List.mem_of_getElem? (i := 1303) (by decide +kernel)
theorem pw_890 : (.fieldLink RX11 80 "NothingJudgeModel" "blockTest" "[I" : Cond) ∈ lw_tbl := List.mem_of_getElem? (i := 1135) (by decide +kernel)
theorem pw_891 : (.fieldLink RX11 77 "NothingJudgeModel" "blockWaits" "[I" : Cond) ∈ lw_tbl := List.mem_of_getElem? (i := 1134) (by decide +kernel)
theorem pw_892 : (.fieldLink RX11 74 "NothingJudgeModel" "blockKind" "[I" : Cond) ∈ lw_tbl := List.mem_of_getElem? (i := 1133) (by decide +kernel)
theorem pw_893 : (.fieldLink RX11 71 "NothingJudgeModel" "callArgs" "[I" : Cond) ∈ lw_tbl := List.mem_of_getElem? (i := 1130) (by decide +kernel)
theorem ch_wsX11_init_r2 : ∀ w ∈ wsX11_init_r2, w ∈ lw_tbl := (List.forall_mem_cons.mpr ⟨pw_893, (List.forall_mem_cons.mpr ⟨pw_892, (List.forall_mem_cons.mpr ⟨pw_891, (List.forall_mem_cons.mpr ⟨pw_890, (List.forall_mem_cons.mpr ⟨pw_793, (List.forall_mem_cons.mpr ⟨pw_776, (List.forall_mem_cons.mpr ⟨pw_251, (List.forall_mem_cons.mpr ⟨pw_781, (List.forall_mem_cons.mpr ⟨pw_780, (List.forall_mem_cons.mpr ⟨pw_889, (List.forall_mem_cons.mpr ⟨pw_787, (List.forall_mem_cons.mpr ⟨pw_779, (List.forall_mem_cons.mpr ⟨pw_888, (List.forall_mem_cons.mpr ⟨pw_887, (List.forall_mem_cons.mpr ⟨pw_886, (List.forall_mem_cons.mpr ⟨pw_885, (List.forall_mem_cons.mpr ⟨pw_884, (List.forall_mem_cons.mpr ⟨pw_883, (fun _ h => absurd h List.not_mem_nil)⟩)⟩)⟩)⟩)⟩)⟩)⟩)⟩)⟩)⟩)⟩)⟩)⟩)⟩)⟩)⟩)⟩)⟩)
set_option maxRecDepth 100000 in
theorem pw_894 : (.code yX11_init cX11_init 2 none : Cond) ∈ lw_tbl := List.mem_of_getElem? (i := 1096) rfl
set_option maxRecDepth 20000 in
theorem lm_wsX11_init : ∀ w ∈ wsX11_init, w ∈ lw_tbl := List.forall_mem_cons.mpr ⟨pw_894, (wL_app (wL_app ch_wsX11_init_r1 ch_wsX11_init_r2) wL_wsX110)⟩
set_option maxRecDepth 20000 in
theorem gW_X11_init : GoodIn lw_tbl wsX11_init := goodIn_sub lm_wsX11_init (by decide +kernel)
theorem pw_1105 : (.instantiable RX10 13 : Cond) ∈ lw_tbl := List.mem_of_getElem? (i := 126) (by decide +kernel)
theorem pw_1106 : (.instantiable RX11 68 : Cond) ∈ lw_tbl := List.mem_of_getElem? (i := 1093) (by decide +kernel)
theorem pw_1107 : (.methodLinkNest RX10 15 yX8_init "NothingJudge" : Cond) ∈ lw_tbl := List.mem_of_getElem? (i := 135) (by decide +kernel)
theorem pw_1108 : (.methodLinkNest RX10 22 yX3_init "NothingJudge" : Cond) ∈ lw_tbl := List.mem_of_getElem? (i := 153) (by decide +kernel)
theorem pw_1109 : (.methodLinkNest RX3 11 yX0_init "NothingJudge" : Cond) ∈ lw_tbl := List.mem_of_getElem? (i := 159) (by decide +kernel)
theorem pw_1110 : (.classLink RL 7 RX10 : Cond) ∈ lw_tbl := List.mem_of_getElem? (i := 125) (by decide +kernel)
theorem pw_1111 : (.instanceMethod yX10_init : Cond) ∈ lw_tbl := List.mem_of_getElem? (i := 128) (by decide +kernel)
theorem pw_1112 : (.methodLink RL 9 yX10_init : Cond) ∈ lw_tbl := List.mem_of_getElem? (i := 127) (by decide +kernel)
theorem pw_1113 : (.classLink RL 10 RX11 : Cond) ∈ lw_tbl := List.mem_of_getElem? (i := 1092) (by decide +kernel)
theorem pw_1114 : (.instanceMethod yX11_init : Cond) ∈ lw_tbl := List.mem_of_getElem? (i := 1095) (by decide +kernel)
theorem pw_1115 : (.methodLink RL 12 yX11_init : Cond) ∈ lw_tbl := List.mem_of_getElem? (i := 1094) (by decide +kernel)
