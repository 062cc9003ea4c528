theorem iwwsX0_init_0 : ∀ w ∈ wsX00, w ∈ wsX0_init := fun _ h => List.mem_cons_of_mem _ (List.mem_append_right _ h)
theorem iwwsX8_init_8 : ∀ w ∈ wsX80, w ∈ wsX8_init := fun _ h => List.mem_cons_of_mem _ (List.mem_append_right _ h)
theorem iwwsX3_init_0 : ∀ w ∈ wsX00, w ∈ wsX3_init := fun _ h => List.mem_cons_of_mem _ (List.mem_append_left _ (List.mem_append_right _ h))
theorem iwwsX3_init_3 : ∀ w ∈ wsX30, w ∈ wsX3_init := fun _ h => List.mem_cons_of_mem _ (List.mem_append_right _ h)
theorem iwwsX4_init_4 : ∀ w ∈ wsX40, w ∈ wsX4_init := fun _ h => List.mem_cons_of_mem _ (List.mem_append_left _ (List.mem_append_right _ h))
theorem iwwsX4_init_3 : ∀ w ∈ wsX30, w ∈ wsX4_init := fun _ h => List.mem_cons_of_mem _ (List.mem_append_right _ h)
theorem iwwsX7_init_7 : ∀ w ∈ wsX70, w ∈ wsX7_init := fun _ h => List.mem_cons_of_mem _ (List.mem_append_right _ h)
theorem iwwsX1_init_1 : ∀ w ∈ wsX10, w ∈ wsX1_init := fun _ h => List.mem_cons_of_mem _ (List.mem_append_left _ (List.mem_append_left _ (List.mem_append_right _ h)))
theorem iwwsX1_init_7 : ∀ w ∈ wsX70, w ∈ wsX1_init := fun _ h => List.mem_cons_of_mem _ (List.mem_append_left _ (List.mem_append_right _ h))
theorem iwwsX1_init_3 : ∀ w ∈ wsX30, w ∈ wsX1_init := fun _ h => List.mem_cons_of_mem _ (List.mem_append_right _ h)
theorem iwwsX6_init_6 : ∀ w ∈ wsX60, w ∈ wsX6_init := fun _ h => List.mem_cons_of_mem _ (List.mem_append_left _ (List.mem_append_left _ (List.mem_append_right _ h)))
theorem iwwsX6_init_7 : ∀ w ∈ wsX70, w ∈ wsX6_init := fun _ h => List.mem_cons_of_mem _ (List.mem_append_left _ (List.mem_append_right _ h))
theorem iwwsX6_init_3 : ∀ w ∈ wsX30, w ∈ wsX6_init := fun _ h => List.mem_cons_of_mem _ (List.mem_append_right _ h)
theorem iwwsX9_init_9 : ∀ w ∈ wsX90, w ∈ wsX9_init := fun _ h => List.mem_cons_of_mem _ (List.mem_append_right _ h)
theorem iwwsX2_init_2 : ∀ w ∈ wsX20, w ∈ wsX2_init := fun _ h => List.mem_cons_of_mem _ (List.mem_append_right _ h)
theorem iwwsX10_init_10 : ∀ w ∈ wsX100, w ∈ wsX10_init := fun _ h => List.mem_cons_of_mem _ (List.mem_append_left _ (List.mem_append_left _ (List.mem_append_left _ (List.mem_append_left _ (List.mem_append_left _ (List.mem_append_left _ (List.mem_append_left _ (List.mem_append_left _ (List.mem_append_left _ (List.mem_append_right _ h))))))))))
theorem iwwsX10_init_8 : ∀ w ∈ wsX80, w ∈ wsX10_init := fun _ h => List.mem_cons_of_mem _ (List.mem_append_left _ (List.mem_append_left _ (List.mem_append_left _ (List.mem_append_left _ (List.mem_append_left _ (List.mem_append_left _ (List.mem_append_left _ (List.mem_append_left _ (List.mem_append_right _ h)))))))))
theorem iwwsX10_init_3 : ∀ w ∈ wsX30, w ∈ wsX10_init := fun _ h => List.mem_cons_of_mem _ (List.mem_append_left _ (List.mem_append_left _ (List.mem_append_left _ (List.mem_append_left _ (List.mem_append_left _ (List.mem_append_left _ (List.mem_append_left _ (List.mem_append_right _ h))))))))
theorem iwwsX10_init_4 : ∀ w ∈ wsX40, w ∈ wsX10_init := fun _ h => List.mem_cons_of_mem _ (List.mem_append_left _ (List.mem_append_left _ (List.mem_append_left _ (List.mem_append_left _ (List.mem_append_left _ (List.mem_append_left _ (List.mem_append_right _ h)))))))
theorem iwwsX10_init_7 : ∀ w ∈ wsX70, w ∈ wsX10_init := fun _ h => List.mem_cons_of_mem _ (List.mem_append_left _ (List.mem_append_left _ (List.mem_append_left _ (List.mem_append_left _ (List.mem_append_left _ (List.mem_append_right _ h))))))
theorem iwwsX10_init_1 : ∀ w ∈ wsX10, w ∈ wsX10_init := fun _ h => List.mem_cons_of_mem _ (List.mem_append_left _ (List.mem_append_left _ (List.mem_append_left _ (List.mem_append_left _ (List.mem_append_right _ h)))))
theorem iwwsX10_init_6 : ∀ w ∈ wsX60, w ∈ wsX10_init := fun _ h => List.mem_cons_of_mem _ (List.mem_append_left _ (List.mem_append_left _ (List.mem_append_left _ (List.mem_append_right _ h))))
theorem iwwsX10_init_9 : ∀ w ∈ wsX90, w ∈ wsX10_init := fun _ h => List.mem_cons_of_mem _ (List.mem_append_left _ (List.mem_append_left _ (List.mem_append_right _ h)))
theorem iwwsX10_init_2 : ∀ w ∈ wsX20, w ∈ wsX10_init := fun _ h => List.mem_cons_of_mem _ (List.mem_append_left _ (List.mem_append_right _ h))
theorem iwwsX3_has_3 : ∀ w ∈ wsX30, w ∈ wsX3_has := fun _ h => List.mem_cons_of_mem _ (List.mem_append_right _ h)
theorem iwwsX7_outers_7 : ∀ w ∈ wsX70, w ∈ wsX7_outers := fun _ h => List.mem_cons_of_mem _ (List.mem_append_left _ (List.mem_append_right _ h))
theorem iwwsX7_outers_3 : ∀ w ∈ wsX30, w ∈ wsX7_outers := fun _ h => List.mem_cons_of_mem _ (List.mem_append_right _ h)
theorem iwwsX7_allows_7 : ∀ w ∈ wsX70, w ∈ wsX7_allows := fun _ h => List.mem_cons_of_mem _ (List.mem_append_left _ (List.mem_append_right _ h))
theorem iwwsX7_startAt_7 : ∀ w ∈ wsX70, w ∈ wsX7_startAt := fun _ h => List.mem_cons_of_mem _ (List.mem_append_right _ h)
theorem iwwsX10_putNumber_10 : ∀ w ∈ wsX100, w ∈ wsX10_putNumber := fun _ h => List.mem_cons_of_mem _ (List.mem_append_right _ h)
theorem iwwsX10_feed_10 : ∀ w ∈ wsX100, w ∈ wsX10_feed := fun _ h => List.mem_cons_of_mem _ (List.mem_append_right _ h)
theorem iwwsX10_fault_10 : ∀ w ∈ wsX100, w ∈ wsX10_fault := fun _ h => List.mem_cons_of_mem _ (List.mem_append_right _ h)
theorem iwwsX10_entry_10 : ∀ w ∈ wsX100, w ∈ wsX10_entry := fun _ h => List.mem_cons_of_mem _ (List.mem_append_left _ (List.mem_append_left _ (List.mem_append_left _ (List.mem_append_left _ (List.mem_append_left _ (List.mem_append_right _ h))))))
theorem iwwsX10_entry_7 : ∀ w ∈ wsX70, w ∈ wsX10_entry := fun _ h => List.mem_cons_of_mem _ (List.mem_append_left _ (List.mem_append_left _ (List.mem_append_left _ (List.mem_append_left _ (List.mem_append_right _ h)))))
theorem iwwsX10_outer_10 : ∀ w ∈ wsX100, w ∈ wsX10_outer := fun _ h => List.mem_cons_of_mem _ (List.mem_append_left _ (List.mem_append_left _ (List.mem_append_left _ (List.mem_append_left _ (List.mem_append_left _ (List.mem_append_right _ h))))))
theorem iwwsX10_use_10 : ∀ w ∈ wsX100, w ∈ wsX10_use := fun _ h => List.mem_cons_of_mem _ (List.mem_append_left _ (List.mem_append_left _ (List.mem_append_left _ (List.mem_append_left _ (List.mem_append_right _ h)))))
theorem iwwsX10_use_7 : ∀ w ∈ wsX70, w ∈ wsX10_use := fun _ h => List.mem_cons_of_mem _ (List.mem_append_left _ (List.mem_append_left _ (List.mem_append_left _ (List.mem_append_right _ h))))
theorem iwwsX10_use_3 : ∀ w ∈ wsX30, w ∈ wsX10_use := fun _ h => List.mem_cons_of_mem _ (List.mem_append_left _ (List.mem_append_left _ (List.mem_append_right _ h)))
theorem iwwsX10_test_10 : ∀ w ∈ wsX100, w ∈ wsX10_test := fun _ h => List.mem_cons_of_mem _ (List.mem_append_left _ (List.mem_append_left _ (List.mem_append_left _ (List.mem_append_left _ (List.mem_append_right _ h)))))
theorem iwwsX10_test_7 : ∀ w ∈ wsX70, w ∈ wsX10_test := fun _ h => List.mem_cons_of_mem _ (List.mem_append_left _ (List.mem_append_left _ (List.mem_append_left _ (List.mem_append_right _ h))))
theorem iwwsX10_test_3 : ∀ w ∈ wsX30, w ∈ wsX10_test := fun _ h => List.mem_cons_of_mem _ (List.mem_append_left _ (List.mem_append_left _ (List.mem_append_right _ h)))
theorem iwwsX10_tries_10 : ∀ w ∈ wsX100, w ∈ wsX10_tries := fun _ h => List.mem_cons_of_mem _ (List.mem_append_left _ (List.mem_append_left _ (List.mem_append_left _ (List.mem_append_left _ (List.mem_append_left _ (List.mem_append_left _ (List.mem_append_right _ h)))))))
theorem iwwsX10_tries_7 : ∀ w ∈ wsX70, w ∈ wsX10_tries := fun _ h => List.mem_cons_of_mem _ (List.mem_append_left _ (List.mem_append_left _ (List.mem_append_left _ (List.mem_append_left _ (List.mem_append_left _ (List.mem_append_right _ h))))))
theorem iwwsX10_tries_3 : ∀ w ∈ wsX30, w ∈ wsX10_tries := fun _ h => List.mem_cons_of_mem _ (List.mem_append_left _ (List.mem_append_left _ (List.mem_append_left _ (List.mem_append_left _ (List.mem_append_right _ h)))))
theorem iwwsX10_run_10 : ∀ w ∈ wsX100, w ∈ wsX10_run := fun _ h => List.mem_cons_of_mem _ (List.mem_append_left _ (List.mem_append_left _ (List.mem_append_left _ (List.mem_append_left _ (List.mem_append_right _ h)))))
theorem iwwsX10_mend_10 : ∀ w ∈ wsX100, w ∈ wsX10_mend := fun _ h => List.mem_cons_of_mem _ (List.mem_append_left _ (List.mem_append_left _ (List.mem_append_left _ (List.mem_append_left _ (List.mem_append_left _ (List.mem_append_right _ h))))))
theorem iwwsX10_mend_7 : ∀ w ∈ wsX70, w ∈ wsX10_mend := fun _ h => List.mem_cons_of_mem _ (List.mem_append_left _ (List.mem_append_left _ (List.mem_append_left _ (List.mem_append_left _ (List.mem_append_right _ h)))))
theorem iwwsX10_mend_3 : ∀ w ∈ wsX30, w ∈ wsX10_mend := fun _ h => List.mem_cons_of_mem _ (List.mem_append_left _ (List.mem_append_left _ (List.mem_append_left _ (List.mem_append_right _ h))))
theorem iwwsX10_mended_10 : ∀ w ∈ wsX100, w ∈ wsX10_mended := fun _ h => List.mem_cons_of_mem _ (List.mem_append_left _ (List.mem_append_right _ h))
theorem iwwsX10_mended_2 : ∀ w ∈ wsX20, w ∈ wsX10_mended := fun _ h => List.mem_cons_of_mem _ (List.mem_append_right _ h)
theorem iwwsX10_ran_10 : ∀ w ∈ wsX100, w ∈ wsX10_ran := fun _ h => List.mem_cons_of_mem _ (List.mem_append_right _ h)
theorem iwwsX10_price_10 : ∀ w ∈ wsX100, w ∈ wsX10_price := fun _ h => List.mem_cons_of_mem _ (List.mem_append_left _ (List.mem_append_right _ h))
theorem iwwsX10_price_2 : ∀ w ∈ wsX20, w ∈ wsX10_price := fun _ h => List.mem_cons_of_mem _ (List.mem_append_right _ h)
theorem iwwsX1_clear_1 : ∀ w ∈ wsX10, w ∈ wsX1_clear := fun _ h => List.mem_cons_of_mem _ (List.mem_append_left _ (List.mem_append_left _ (List.mem_append_right _ h)))
theorem iwwsX1_clear_7 : ∀ w ∈ wsX70, w ∈ wsX1_clear := fun _ h => List.mem_cons_of_mem _ (List.mem_append_left _ (List.mem_append_right _ h))
theorem iwwsX1_clear_3 : ∀ w ∈ wsX30, w ∈ wsX1_clear := fun _ h => List.mem_cons_of_mem _ (List.mem_append_right _ h)
theorem iwwsX1_reachEntry_1 : ∀ w ∈ wsX10, w ∈ wsX1_reachEntry := fun _ h => List.mem_cons_of_mem _ (List.mem_append_left _ (List.mem_append_left _ (List.mem_append_right _ h)))
theorem iwwsX1_reachEntry_7 : ∀ w ∈ wsX70, w ∈ wsX1_reachEntry := fun _ h => List.mem_cons_of_mem _ (List.mem_append_left _ (List.mem_append_right _ h))
theorem iwwsX1_openRoutines_1 : ∀ w ∈ wsX10, w ∈ wsX1_openRoutines := fun _ h => List.mem_cons_of_mem _ (List.mem_append_left _ (List.mem_append_right _ h))
theorem iwwsX1_settle_1 : ∀ w ∈ wsX10, w ∈ wsX1_settle := fun _ h => List.mem_cons_of_mem _ (List.mem_append_left _ (List.mem_append_left _ (List.mem_append_left _ (List.mem_append_right _ h))))
theorem iwwsX1_settle_0 : ∀ w ∈ wsX00, w ∈ wsX1_settle := fun _ h => List.mem_cons_of_mem _ (List.mem_append_left _ (List.mem_append_left _ (List.mem_append_right _ h)))
theorem iwwsX10_markIndex_10 : ∀ w ∈ wsX100, w ∈ wsX10_markIndex := fun _ h => List.mem_cons_of_mem _ (List.mem_append_left _ (List.mem_append_left _ (List.mem_append_right _ h)))
theorem iwwsX10_markIndex_7 : ∀ w ∈ wsX70, w ∈ wsX10_markIndex := fun _ h => List.mem_cons_of_mem _ (List.mem_append_left _ (List.mem_append_right _ h))
theorem iwwsX10_mark_10 : ∀ w ∈ wsX100, w ∈ wsX10_mark := fun _ h => List.mem_cons_of_mem _ (List.mem_append_left _ (List.mem_append_left _ (List.mem_append_left _ (List.mem_append_left _ (List.mem_append_right _ h)))))
theorem iwwsX10_mark_1 : ∀ w ∈ wsX10, w ∈ wsX10_mark := fun _ h => List.mem_cons_of_mem _ (List.mem_append_left _ (List.mem_append_left _ (List.mem_append_left _ (List.mem_append_right _ h))))
theorem iwwsX10_usesOfFact_10 : ∀ w ∈ wsX100, w ∈ wsX10_usesOfFact := fun _ h => List.mem_cons_of_mem _ (List.mem_append_left _ (List.mem_append_left _ (List.mem_append_left _ (List.mem_append_left _ (List.mem_append_right _ h)))))
theorem iwwsX10_usesOfFact_7 : ∀ w ∈ wsX70, w ∈ wsX10_usesOfFact := fun _ h => List.mem_cons_of_mem _ (List.mem_append_left _ (List.mem_append_left _ (List.mem_append_left _ (List.mem_append_right _ h))))
theorem iwwsX10_usesOfFact_3 : ∀ w ∈ wsX30, w ∈ wsX10_usesOfFact := fun _ h => List.mem_cons_of_mem _ (List.mem_append_left _ (List.mem_append_left _ (List.mem_append_right _ h)))
theorem iwwsX10_count_10 : ∀ w ∈ wsX100, w ∈ wsX10_count := fun _ h => List.mem_cons_of_mem _ (List.mem_append_left _ (List.mem_append_left _ (List.mem_append_left _ (List.mem_append_left _ (List.mem_append_right _ h)))))
theorem iwwsX10_count_7 : ∀ w ∈ wsX70, w ∈ wsX10_count := fun _ h => List.mem_cons_of_mem _ (List.mem_append_left _ (List.mem_append_left _ (List.mem_append_left _ (List.mem_append_right _ h))))
theorem iwwsX10_count_3 : ∀ w ∈ wsX30, w ∈ wsX10_count := fun _ h => List.mem_cons_of_mem _ (List.mem_append_left _ (List.mem_append_left _ (List.mem_append_right _ h)))
theorem iwwsX8_scan_8 : ∀ w ∈ wsX80, w ∈ wsX8_scan := fun _ h => List.mem_cons_of_mem _ (List.mem_append_right _ h)
theorem iwwsX8_kindAt_8 : ∀ w ∈ wsX80, w ∈ wsX8_kindAt := fun _ h => List.mem_cons_of_mem _ (List.mem_append_right _ h)
theorem iwwsX4_seen_4 : ∀ w ∈ wsX40, w ∈ wsX4_seen := fun _ h => List.mem_cons_of_mem _ (List.mem_append_left _ (List.mem_append_right _ h))
theorem iwwsX4_checkCalls_4 : ∀ w ∈ wsX40, w ∈ wsX4_checkCalls := fun _ h => List.mem_cons_of_mem _ (List.mem_append_left _ (List.mem_append_left _ (List.mem_append_right _ h)))
theorem iwwsX4_checkCalls_0 : ∀ w ∈ wsX00, w ∈ wsX4_checkCalls := fun _ h => List.mem_cons_of_mem _ (List.mem_append_left _ (List.mem_append_right _ h))
theorem iwwsX3_clear_3 : ∀ w ∈ wsX30, w ∈ wsX3_clear := fun _ h => List.mem_cons_of_mem _ (List.mem_append_left _ (List.mem_append_right _ h))
theorem iwwsX3_clear_0 : ∀ w ∈ wsX00, w ∈ wsX3_clear := fun _ h => List.mem_cons_of_mem _ (List.mem_append_right _ h)
theorem iwwsX4_readInto_4 : ∀ w ∈ wsX40, w ∈ wsX4_readInto := fun _ h => List.mem_cons_of_mem _ (List.mem_append_left _ (List.mem_append_left _ (List.mem_append_left _ (List.mem_append_right _ h))))
theorem iwwsX4_readInto_3 : ∀ w ∈ wsX30, w ∈ wsX4_readInto := fun _ h => List.mem_cons_of_mem _ (List.mem_append_left _ (List.mem_append_left _ (List.mem_append_right _ h)))
theorem iwwsX10_forget_10 : ∀ w ∈ wsX100, w ∈ wsX10_forget := fun _ h => List.mem_cons_of_mem _ (List.mem_append_left _ (List.mem_append_left _ (List.mem_append_left _ (List.mem_append_right _ h))))
theorem iwwsX10_forget_1 : ∀ w ∈ wsX10, w ∈ wsX10_forget := fun _ h => List.mem_cons_of_mem _ (List.mem_append_left _ (List.mem_append_left _ (List.mem_append_right _ h)))
theorem iwwsX10_forget_9 : ∀ w ∈ wsX90, w ∈ wsX10_forget := fun _ h => List.mem_cons_of_mem _ (List.mem_append_left _ (List.mem_append_right _ h))
theorem iwwsX10_forget_2 : ∀ w ∈ wsX20, w ∈ wsX10_forget := fun _ h => List.mem_cons_of_mem _ (List.mem_append_right _ h)
theorem iwwsX10_text_10 : ∀ w ∈ wsX100, w ∈ wsX10_text := fun _ h => List.mem_cons_of_mem _ (List.mem_append_left _ (List.mem_append_left _ (List.mem_append_left _ (List.mem_append_left _ (List.mem_append_left _ (List.mem_append_left _ (List.mem_append_left _ (List.mem_append_left _ (List.mem_append_right _ h)))))))))
theorem iwwsX10_text_4 : ∀ w ∈ wsX40, w ∈ wsX10_text := fun _ h => List.mem_cons_of_mem _ (List.mem_append_left _ (List.mem_append_left _ (List.mem_append_left _ (List.mem_append_left _ (List.mem_append_left _ (List.mem_append_left _ (List.mem_append_left _ (List.mem_append_right _ h))))))))
theorem iwwsX10_text_7 : ∀ w ∈ wsX70, w ∈ wsX10_text := fun _ h => List.mem_cons_of_mem _ (List.mem_append_left _ (List.mem_append_left _ (List.mem_append_left _ (List.mem_append_left _ (List.mem_append_left _ (List.mem_append_left _ (List.mem_append_right _ h)))))))
theorem iwwsX10_text_3 : ∀ w ∈ wsX30, w ∈ wsX10_text := fun _ h => List.mem_cons_of_mem _ (List.mem_append_left _ (List.mem_append_left _ (List.mem_append_left _ (List.mem_append_left _ (List.mem_append_left _ (List.mem_append_right _ h))))))
theorem iwwsX11_here_11 : ∀ w ∈ wsX110, w ∈ wsX11_here := fun _ h => List.mem_cons_of_mem _ (List.mem_append_right _ h)
theorem iwwsX11_next_11 : ∀ w ∈ wsX110, w ∈ wsX11_next := fun _ h => List.mem_cons_of_mem _ (List.mem_append_right _ h)
theorem iwwsX11_enters_11 : ∀ w ∈ wsX110, w ∈ wsX11_enters := fun _ h => List.mem_cons_of_mem _ (List.mem_append_right _ h)
theorem iwwsX11_routinesMany_11 : ∀ w ∈ wsX110, w ∈ wsX11_routinesMany := fun _ h => List.mem_cons_of_mem _ (List.mem_append_right _ h)
theorem iwwsX11_frees_11 : ∀ w ∈ wsX110, w ∈ wsX11_frees := fun _ h => List.mem_cons_of_mem _ (List.mem_append_right _ h)
theorem iwwsX11_reckons_11 : ∀ w ∈ wsX110, w ∈ wsX11_reckons := fun _ h => List.mem_cons_of_mem _ (List.mem_append_right _ h)
theorem iwwsX11_fault_11 : ∀ w ∈ wsX110, w ∈ wsX11_fault := fun _ h => List.mem_cons_of_mem _ (List.mem_append_right _ h)
theorem iwwsX11_entry_11 : ∀ w ∈ wsX110, w ∈ wsX11_entry := fun _ h => List.mem_cons_of_mem _ (List.mem_append_right _ h)
theorem iwwsX11_outer_11 : ∀ w ∈ wsX110, w ∈ wsX11_outer := fun _ h => List.mem_cons_of_mem _ (List.mem_append_right _ h)
theorem iwwsX11_use_11 : ∀ w ∈ wsX110, w ∈ wsX11_use := fun _ h => List.mem_cons_of_mem _ (List.mem_append_right _ h)
theorem iwwsX11_test_11 : ∀ w ∈ wsX110, w ∈ wsX11_test := fun _ h => List.mem_cons_of_mem _ (List.mem_append_right _ h)
theorem iwwsX11_tries_11 : ∀ w ∈ wsX110, w ∈ wsX11_tries := fun _ h => List.mem_cons_of_mem _ (List.mem_append_right _ h)
theorem iwwsX11_canRun_11 : ∀ w ∈ wsX110, w ∈ wsX11_canRun := fun _ h => List.mem_cons_of_mem _ (List.mem_append_right _ h)
theorem iwwsX11_run_11 : ∀ w ∈ wsX110, w ∈ wsX11_run := fun _ h => List.mem_cons_of_mem _ (List.mem_append_right _ h)
theorem iwwsX11_ran_11 : ∀ w ∈ wsX110, w ∈ wsX11_ran := fun _ h => List.mem_cons_of_mem _ (List.mem_append_right _ h)
theorem iwwsX11_mend_11 : ∀ w ∈ wsX110, w ∈ wsX11_mend := fun _ h => List.mem_cons_of_mem _ (List.mem_append_right _ h)
theorem iwwsX11_mended_11 : ∀ w ∈ wsX110, w ∈ wsX11_mended := fun _ h => List.mem_cons_of_mem _ (List.mem_append_right _ h)
theorem iwwsX11_price_11 : ∀ w ∈ wsX110, w ∈ wsX11_price := fun _ h => List.mem_cons_of_mem _ (List.mem_append_right _ h)
theorem iwwsX11_mark_11 : ∀ w ∈ wsX110, w ∈ wsX11_mark := fun _ h => List.mem_cons_of_mem _ (List.mem_append_right _ h)
theorem iwwsX11_count_11 : ∀ w ∈ wsX110, w ∈ wsX11_count := fun _ h => List.mem_cons_of_mem _ (List.mem_append_right _ h)
theorem iwwsX11_feed_11 : ∀ w ∈ wsX110, w ∈ wsX11_feed := fun _ h => List.mem_cons_of_mem _ (List.mem_append_right _ h)
theorem iwwsX11_parses_11 : ∀ w ∈ wsX110, w ∈ wsX11_parses := fun _ h => List.mem_cons_of_mem _ (List.mem_append_right _ h)
theorem iwwsX11_comes_11 : ∀ w ∈ wsX110, w ∈ wsX11_comes := fun _ h => List.mem_cons_of_mem _ (List.mem_append_right _ h)
theorem iwwsX11_text_11 : ∀ w ∈ wsX110, w ∈ wsX11_text := fun _ h => List.mem_cons_of_mem _ (List.mem_append_right _ h)
theorem iwwsX11_init_11 : ∀ w ∈ wsX110, w ∈ wsX11_init := fun _ h => List.mem_cons_of_mem _ (List.mem_append_right _ h)
set_option maxRecDepth 20000 in
theorem ol_wsX0_init : (.methodLink RX0 5 objectInit : Cond) ∈ wsX0_init := List.mem_of_getElem? (i := 1) (by decide +kernel)
set_option maxRecDepth 20000 in
theorem oi_wsX0_init : (.instanceMethod objectInit : Cond) ∈ wsX0_init := List.mem_of_getElem? (i := 2) (by decide +kernel)
set_option maxRecDepth 20000 in
theorem oc_wsX0_init : (.code objectInit ⟨#[0xb1]⟩ 1 none : Cond) ∈ wsX0_init := List.mem_of_getElem? (i := 3) (by decide +kernel)
set_option maxRecDepth 20000 in
theorem ac_int_wsX0_init : (.arrayClass .int : Cond) ∈ wsX0_init := List.mem_of_getElem? (i := 4) (by decide +kernel)
set_option maxRecDepth 20000 in
theorem fwwsX0_init_11 : (.fieldLink RX0 11 "NothingJudge$Code" "cells" "[I" : Cond) ∈ wsX0_init := List.mem_of_getElem? (i := 5) (by decide +kernel)
set_option maxRecDepth 20000 in
theorem ol_wsX8_init : (.methodLink RX8 3 objectInit : Cond) ∈ wsX8_init := List.mem_of_getElem? (i := 1) (by decide +kernel)
set_option maxRecDepth 20000 in
theorem oi_wsX8_init : (.instanceMethod objectInit : Cond) ∈ wsX8_init := List.mem_of_getElem? (i := 2) (by decide +kernel)
set_option maxRecDepth 20000 in
theorem oc_wsX8_init : (.code objectInit ⟨#[0xb1]⟩ 1 none : Cond) ∈ wsX8_init := List.mem_of_getElem? (i := 3) (by decide +kernel)
set_option maxRecDepth 20000 in
theorem ac_int_wsX8_init : (.arrayClass .int : Cond) ∈ wsX8_init := List.mem_of_getElem? (i := 4) (by decide +kernel)
set_option maxRecDepth 20000 in
theorem fwwsX8_init_9 : (.fieldLink RX8 9 "NothingJudge$Tokens" "packed" "[I" : Cond) ∈ wsX8_init := List.mem_of_getElem? (i := 5) (by decide +kernel)
set_option maxRecDepth 20000 in
theorem ol_wsX3_init : (.methodLink RX3 3 objectInit : Cond) ∈ wsX3_init := List.mem_of_getElem? (i := 1) (by decide +kernel)
set_option maxRecDepth 20000 in
theorem oi_wsX3_init : (.instanceMethod objectInit : Cond) ∈ wsX3_init := List.mem_of_getElem? (i := 2) (by decide +kernel)
set_option maxRecDepth 20000 in
theorem oc_wsX3_init : (.code objectInit ⟨#[0xb1]⟩ 1 none : Cond) ∈ wsX3_init := List.mem_of_getElem? (i := 3) (by decide +kernel)
set_option maxRecDepth 20000 in
theorem cl9_wsX3_init : (.classLink RX3 9 RX0 : Cond) ∈ wsX3_init := List.mem_of_getElem? (i := 4) (by decide +kernel)
set_option maxRecDepth 20000 in
theorem in0_wsX3_init : (.instantiable RX0 2 : Cond) ∈ wsX3_init := List.mem_of_getElem? (i := 5) (by decide +kernel)
set_option maxRecDepth 20000 in
theorem it0_wsX3_init : (.initialized RX0 : Cond) ∈ wsX3_init := List.mem_of_getElem? (i := 6) (by decide +kernel)
set_option maxRecDepth 20000 in
theorem imyX0_init_wsX3_init : (.instanceMethod yX0_init : Cond) ∈ wsX3_init := List.mem_of_getElem? (i := 18) (by decide +kernel)
set_option maxRecDepth 20000 in
theorem fwwsX3_init_12 : (.fieldLink RX3 12 "NothingJudge$Program" "code" "LNothingJudge$Code;" : Cond) ∈ wsX3_init := List.mem_of_getElem? (i := 7) (by decide +kernel)
set_option maxRecDepth 20000 in
theorem ac_int_wsX3_init : (.arrayClass .int : Cond) ∈ wsX3_init := List.mem_of_getElem? (i := 8) (by decide +kernel)
set_option maxRecDepth 20000 in
theorem fwwsX3_init_18 : (.fieldLink RX3 18 "NothingJudge$Program" "opening" "[I" : Cond) ∈ wsX3_init := List.mem_of_getElem? (i := 9) (by decide +kernel)
set_option maxRecDepth 20000 in
theorem fwwsX3_init_22 : (.fieldLink RX3 22 "NothingJudge$Program" "arity" "[I" : Cond) ∈ wsX3_init := List.mem_of_getElem? (i := 10) (by decide +kernel)
set_option maxRecDepth 20000 in
theorem fwwsX3_init_25 : (.fieldLink RX3 25 "NothingJudge$Program" "parameters" "[I" : Cond) ∈ wsX3_init := List.mem_of_getElem? (i := 11) (by decide +kernel)
set_option maxRecDepth 20000 in
theorem fwwsX3_init_28 : (.fieldLink RX3 28 "NothingJudge$Program" "useOwner" "[I" : Cond) ∈ wsX3_init := List.mem_of_getElem? (i := 12) (by decide +kernel)
set_option maxRecDepth 20000 in
theorem fwwsX3_init_31 : (.fieldLink RX3 31 "NothingJudge$Program" "usePlace" "[I" : Cond) ∈ wsX3_init := List.mem_of_getElem? (i := 13) (by decide +kernel)
set_option maxRecDepth 20000 in
theorem fwwsX3_init_34 : (.fieldLink RX3 34 "NothingJudge$Program" "useName" "[I" : Cond) ∈ wsX3_init := List.mem_of_getElem? (i := 14) (by decide +kernel)
set_option maxRecDepth 20000 in
theorem fwwsX3_init_37 : (.fieldLink RX3 37 "NothingJudge$Program" "testOwner" "[I" : Cond) ∈ wsX3_init := List.mem_of_getElem? (i := 15) (by decide +kernel)
set_option maxRecDepth 20000 in
theorem fwwsX3_init_40 : (.fieldLink RX3 40 "NothingJudge$Program" "testPlace" "[I" : Cond) ∈ wsX3_init := List.mem_of_getElem? (i := 16) (by decide +kernel)
set_option maxRecDepth 20000 in
theorem fwwsX3_init_43 : (.fieldLink RX3 43 "NothingJudge$Program" "first" "I" : Cond) ∈ wsX3_init := List.mem_of_getElem? (i := 17) (by decide +kernel)
set_option maxRecDepth 20000 in
theorem ol_wsX4_init : (.methodLink RX4 3 objectInit : Cond) ∈ wsX4_init := List.mem_of_getElem? (i := 1) (by decide +kernel)
set_option maxRecDepth 20000 in
theorem oi_wsX4_init : (.instanceMethod objectInit : Cond) ∈ wsX4_init := List.mem_of_getElem? (i := 2) (by decide +kernel)
set_option maxRecDepth 20000 in
theorem oc_wsX4_init : (.code objectInit ⟨#[0xb1]⟩ 1 none : Cond) ∈ wsX4_init := List.mem_of_getElem? (i := 3) (by decide +kernel)
set_option maxRecDepth 20000 in
theorem ac_int_wsX4_init : (.arrayClass .int : Cond) ∈ wsX4_init := List.mem_of_getElem? (i := 4) (by decide +kernel)
set_option maxRecDepth 20000 in
theorem fwwsX4_init_9 : (.fieldLink RX4 9 "NothingJudge$Reader" "openKind" "[I" : Cond) ∈ wsX4_init := List.mem_of_getElem? (i := 5) (by decide +kernel)
set_option maxRecDepth 20000 in
theorem fwwsX4_init_15 : (.fieldLink RX4 15 "NothingJudge$Reader" "openAt" "[I" : Cond) ∈ wsX4_init := List.mem_of_getElem? (i := 6) (by decide +kernel)
set_option maxRecDepth 20000 in
theorem fwwsX4_init_18 : (.fieldLink RX4 18 "NothingJudge$Reader" "wrongPlace" "I" : Cond) ∈ wsX4_init := List.mem_of_getElem? (i := 7) (by decide +kernel)
set_option maxRecDepth 20000 in
theorem fwwsX4_init_22 : (.fieldLink RX4 22 "NothingJudge$Reader" "tokens" "LNothingJudge$Tokens;" : Cond) ∈ wsX4_init := List.mem_of_getElem? (i := 8) (by decide +kernel)
set_option maxRecDepth 20000 in
theorem fwwsX4_init_26 : (.fieldLink RX4 26 "NothingJudge$Reader" "program" "LNothingJudge$Program;" : Cond) ∈ wsX4_init := List.mem_of_getElem? (i := 9) (by decide +kernel)
set_option maxRecDepth 20000 in
theorem fwwsX4_init_30 : (.fieldLink RX4 30 "NothingJudge$Program" "code" "LNothingJudge$Code;" : Cond) ∈ wsX4_init := List.mem_of_getElem? (i := 10) (by decide +kernel)
set_option maxRecDepth 20000 in
theorem fwwsX4_init_36 : (.fieldLink RX4 36 "NothingJudge$Reader" "code" "LNothingJudge$Code;" : Cond) ∈ wsX4_init := List.mem_of_getElem? (i := 11) (by decide +kernel)
set_option maxRecDepth 20000 in
theorem ol_wsX7_init : (.methodLink RX7 3 objectInit : Cond) ∈ wsX7_init := List.mem_of_getElem? (i := 1) (by decide +kernel)
set_option maxRecDepth 20000 in
theorem oi_wsX7_init : (.instanceMethod objectInit : Cond) ∈ wsX7_init := List.mem_of_getElem? (i := 2) (by decide +kernel)
set_option maxRecDepth 20000 in
theorem oc_wsX7_init : (.code objectInit ⟨#[0xb1]⟩ 1 none : Cond) ∈ wsX7_init := List.mem_of_getElem? (i := 3) (by decide +kernel)
set_option maxRecDepth 20000 in
theorem fwwsX7_init_9 : (.fieldLink RX7 9 "NothingJudge$Scene" "start" "I" : Cond) ∈ wsX7_init := List.mem_of_getElem? (i := 4) (by decide +kernel)
set_option maxRecDepth 20000 in
theorem ac_int_wsX7_init : (.arrayClass .int : Cond) ∈ wsX7_init := List.mem_of_getElem? (i := 5) (by decide +kernel)
set_option maxRecDepth 20000 in
theorem fwwsX7_init_15 : (.fieldLink RX7 15 "NothingJudge$Scene" "told" "[I" : Cond) ∈ wsX7_init := List.mem_of_getElem? (i := 6) (by decide +kernel)
set_option maxRecDepth 20000 in
theorem fwwsX7_init_19 : (.fieldLink RX7 19 "NothingJudge$Scene" "program" "LNothingJudge$Program;" : Cond) ∈ wsX7_init := List.mem_of_getElem? (i := 7) (by decide +kernel)
set_option maxRecDepth 20000 in
theorem ol_wsX1_init : (.methodLink RX1 3 objectInit : Cond) ∈ wsX1_init := List.mem_of_getElem? (i := 1) (by decide +kernel)
set_option maxRecDepth 20000 in
theorem oi_wsX1_init : (.instanceMethod objectInit : Cond) ∈ wsX1_init := List.mem_of_getElem? (i := 2) (by decide +kernel)
set_option maxRecDepth 20000 in
theorem oc_wsX1_init : (.code objectInit ⟨#[0xb1]⟩ 1 none : Cond) ∈ wsX1_init := List.mem_of_getElem? (i := 3) (by decide +kernel)
set_option maxRecDepth 20000 in
theorem ac_long_wsX1_init : (.arrayClass .long : Cond) ∈ wsX1_init := List.mem_of_getElem? (i := 4) (by decide +kernel)
set_option maxRecDepth 20000 in
theorem fwwsX1_init_9 : (.fieldLink RX1 9 "NothingJudge$Facts" "state" "[J" : Cond) ∈ wsX1_init := List.mem_of_getElem? (i := 5) (by decide +kernel)
set_option maxRecDepth 20000 in
theorem ac_int_wsX1_init : (.arrayClass .int : Cond) ∈ wsX1_init := List.mem_of_getElem? (i := 6) (by decide +kernel)
set_option maxRecDepth 20000 in
theorem fwwsX1_init_15 : (.fieldLink RX1 15 "NothingJudge$Facts" "seenAt" "[I" : Cond) ∈ wsX1_init := List.mem_of_getElem? (i := 7) (by decide +kernel)
set_option maxRecDepth 20000 in
theorem fwwsX1_init_19 : (.fieldLink RX1 19 "NothingJudge$Facts" "marks" "[I" : Cond) ∈ wsX1_init := List.mem_of_getElem? (i := 8) (by decide +kernel)
set_option maxRecDepth 20000 in
theorem fwwsX1_init_22 : (.fieldLink RX1 22 "NothingJudge$Facts" "used" "[I" : Cond) ∈ wsX1_init := List.mem_of_getElem? (i := 9) (by decide +kernel)
set_option maxRecDepth 20000 in
theorem fwwsX1_init_25 : (.fieldLink RX1 25 "NothingJudge$Facts" "tested" "[I" : Cond) ∈ wsX1_init := List.mem_of_getElem? (i := 10) (by decide +kernel)
set_option maxRecDepth 20000 in
theorem fwwsX1_init_28 : (.fieldLink RX1 28 "NothingJudge$Facts" "stale" "Z" : Cond) ∈ wsX1_init := List.mem_of_getElem? (i := 11) (by decide +kernel)
set_option maxRecDepth 20000 in
theorem fwwsX1_init_32 : (.fieldLink RX1 32 "NothingJudge$Facts" "scene" "LNothingJudge$Scene;" : Cond) ∈ wsX1_init := List.mem_of_getElem? (i := 12) (by decide +kernel)
set_option maxRecDepth 20000 in
theorem fwwsX1_init_36 : (.fieldLink RX1 36 "NothingJudge$Scene" "program" "LNothingJudge$Program;" : Cond) ∈ wsX1_init := List.mem_of_getElem? (i := 13) (by decide +kernel)
set_option maxRecDepth 20000 in
theorem fwwsX1_init_42 : (.fieldLink RX1 42 "NothingJudge$Facts" "program" "LNothingJudge$Program;" : Cond) ∈ wsX1_init := List.mem_of_getElem? (i := 14) (by decide +kernel)
set_option maxRecDepth 20000 in
theorem fwwsX1_init_43 : (.fieldLink RX1 43 "NothingJudge$Program" "code" "LNothingJudge$Code;" : Cond) ∈ wsX1_init := List.mem_of_getElem? (i := 15) (by decide +kernel)
set_option maxRecDepth 20000 in
theorem fwwsX1_init_49 : (.fieldLink RX1 49 "NothingJudge$Facts" "code" "LNothingJudge$Code;" : Cond) ∈ wsX1_init := List.mem_of_getElem? (i := 16) (by decide +kernel)
set_option maxRecDepth 20000 in
theorem ol_wsX6_init : (.methodLink RX6 3 objectInit : Cond) ∈ wsX6_init := List.mem_of_getElem? (i := 1) (by decide +kernel)
set_option maxRecDepth 20000 in
theorem oi_wsX6_init : (.instanceMethod objectInit : Cond) ∈ wsX6_init := List.mem_of_getElem? (i := 2) (by decide +kernel)
set_option maxRecDepth 20000 in
theorem oc_wsX6_init : (.code objectInit ⟨#[0xb1]⟩ 1 none : Cond) ∈ wsX6_init := List.mem_of_getElem? (i := 3) (by decide +kernel)
set_option maxRecDepth 20000 in
theorem ac_int_wsX6_init : (.arrayClass .int : Cond) ∈ wsX6_init := List.mem_of_getElem? (i := 4) (by decide +kernel)
set_option maxRecDepth 20000 in
theorem fwwsX6_init_11 : (.fieldLink RX6 11 "NothingJudge$Runner" "names" "[I" : Cond) ∈ wsX6_init := List.mem_of_getElem? (i := 5) (by decide +kernel)
set_option maxRecDepth 20000 in
theorem fwwsX6_init_15 : (.fieldLink RX6 15 "NothingJudge$Runner" "back" "[I" : Cond) ∈ wsX6_init := List.mem_of_getElem? (i := 6) (by decide +kernel)
set_option maxRecDepth 20000 in
theorem fwwsX6_init_18 : (.fieldLink RX6 18 "NothingJudge$Runner" "fields" "[I" : Cond) ∈ wsX6_init := List.mem_of_getElem? (i := 7) (by decide +kernel)
set_option maxRecDepth 20000 in
theorem fwwsX6_init_21 : (.fieldLink RX6 21 "NothingJudge$Runner" "scene" "LNothingJudge$Scene;" : Cond) ∈ wsX6_init := List.mem_of_getElem? (i := 8) (by decide +kernel)
set_option maxRecDepth 20000 in
theorem fwwsX6_init_25 : (.fieldLink RX6 25 "NothingJudge$Scene" "program" "LNothingJudge$Program;" : Cond) ∈ wsX6_init := List.mem_of_getElem? (i := 9) (by decide +kernel)
set_option maxRecDepth 20000 in
theorem fwwsX6_init_31 : (.fieldLink RX6 31 "NothingJudge$Runner" "program" "LNothingJudge$Program;" : Cond) ∈ wsX6_init := List.mem_of_getElem? (i := 10) (by decide +kernel)
set_option maxRecDepth 20000 in
theorem fwwsX6_init_32 : (.fieldLink RX6 32 "NothingJudge$Program" "code" "LNothingJudge$Code;" : Cond) ∈ wsX6_init := List.mem_of_getElem? (i := 11) (by decide +kernel)
set_option maxRecDepth 20000 in
theorem fwwsX6_init_38 : (.fieldLink RX6 38 "NothingJudge$Runner" "code" "LNothingJudge$Code;" : Cond) ∈ wsX6_init := List.mem_of_getElem? (i := 12) (by decide +kernel)
set_option maxRecDepth 20000 in
theorem ol_wsX9_init : (.methodLink RX9 3 objectInit : Cond) ∈ wsX9_init := List.mem_of_getElem? (i := 1) (by decide +kernel)
set_option maxRecDepth 20000 in
theorem oi_wsX9_init : (.instanceMethod objectInit : Cond) ∈ wsX9_init := List.mem_of_getElem? (i := 2) (by decide +kernel)
set_option maxRecDepth 20000 in
theorem oc_wsX9_init : (.code objectInit ⟨#[0xb1]⟩ 1 none : Cond) ∈ wsX9_init := List.mem_of_getElem? (i := 3) (by decide +kernel)
set_option maxRecDepth 20000 in
theorem ac_int_wsX9_init : (.arrayClass .int : Cond) ∈ wsX9_init := List.mem_of_getElem? (i := 4) (by decide +kernel)
set_option maxRecDepth 20000 in
theorem fwwsX9_init_9 : (.fieldLink RX9 9 "NothingJudge$Trials" "first" "[I" : Cond) ∈ wsX9_init := List.mem_of_getElem? (i := 5) (by decide +kernel)
set_option maxRecDepth 20000 in
theorem fwwsX9_init_15 : (.fieldLink RX9 15 "NothingJudge$Trials" "knownFor" "[I" : Cond) ∈ wsX9_init := List.mem_of_getElem? (i := 6) (by decide +kernel)
set_option maxRecDepth 20000 in
theorem fwwsX9_init_18 : (.fieldLink RX9 18 "NothingJudge$Trials" "stale" "Z" : Cond) ∈ wsX9_init := List.mem_of_getElem? (i := 7) (by decide +kernel)
set_option maxRecDepth 20000 in
theorem fwwsX9_init_22 : (.fieldLink RX9 22 "NothingJudge$Trials" "scene" "LNothingJudge$Scene;" : Cond) ∈ wsX9_init := List.mem_of_getElem? (i := 8) (by decide +kernel)
set_option maxRecDepth 20000 in
theorem fwwsX9_init_26 : (.fieldLink RX9 26 "NothingJudge$Trials" "runner" "LNothingJudge$Runner;" : Cond) ∈ wsX9_init := List.mem_of_getElem? (i := 9) (by decide +kernel)
set_option maxRecDepth 20000 in
theorem ol_wsX2_init : (.methodLink RX2 3 objectInit : Cond) ∈ wsX2_init := List.mem_of_getElem? (i := 1) (by decide +kernel)
set_option maxRecDepth 20000 in
theorem oi_wsX2_init : (.instanceMethod objectInit : Cond) ∈ wsX2_init := List.mem_of_getElem? (i := 2) (by decide +kernel)
set_option maxRecDepth 20000 in
theorem oc_wsX2_init : (.code objectInit ⟨#[0xb1]⟩ 1 none : Cond) ∈ wsX2_init := List.mem_of_getElem? (i := 3) (by decide +kernel)
set_option maxRecDepth 20000 in
theorem ac_int_wsX2_init : (.arrayClass .int : Cond) ∈ wsX2_init := List.mem_of_getElem? (i := 4) (by decide +kernel)
set_option maxRecDepth 20000 in
theorem fwwsX2_init_9 : (.fieldLink RX2 9 "NothingJudge$Mender" "prices" "[I" : Cond) ∈ wsX2_init := List.mem_of_getElem? (i := 5) (by decide +kernel)
set_option maxRecDepth 20000 in
theorem fwwsX2_init_15 : (.fieldLink RX2 15 "NothingJudge$Mender" "candidates" "[I" : Cond) ∈ wsX2_init := List.mem_of_getElem? (i := 6) (by decide +kernel)
set_option maxRecDepth 20000 in
theorem fwwsX2_init_18 : (.fieldLink RX2 18 "NothingJudge$Mender" "heldNames" "[I" : Cond) ∈ wsX2_init := List.mem_of_getElem? (i := 7) (by decide +kernel)
set_option maxRecDepth 20000 in
theorem fwwsX2_init_21 : (.fieldLink RX2 21 "NothingJudge$Mender" "stale" "Z" : Cond) ∈ wsX2_init := List.mem_of_getElem? (i := 8) (by decide +kernel)
set_option maxRecDepth 20000 in
theorem fwwsX2_init_25 : (.fieldLink RX2 25 "NothingJudge$Mender" "cost" "I" : Cond) ∈ wsX2_init := List.mem_of_getElem? (i := 9) (by decide +kernel)
set_option maxRecDepth 20000 in
theorem fwwsX2_init_29 : (.fieldLink RX2 29 "NothingJudge$Mender" "facts" "LNothingJudge$Facts;" : Cond) ∈ wsX2_init := List.mem_of_getElem? (i := 10) (by decide +kernel)
set_option maxRecDepth 20000 in
theorem ol_wsX10_init : (.methodLink RX10 3 objectInit : Cond) ∈ wsX10_init := List.mem_of_getElem? (i := 1) (by decide +kernel)
set_option maxRecDepth 20000 in
theorem oi_wsX10_init : (.instanceMethod objectInit : Cond) ∈ wsX10_init := List.mem_of_getElem? (i := 2) (by decide +kernel)
set_option maxRecDepth 20000 in
theorem oc_wsX10_init : (.code objectInit ⟨#[0xb1]⟩ 1 none : Cond) ∈ wsX10_init := List.mem_of_getElem? (i := 3) (by decide +kernel)
set_option maxRecDepth 20000 in
theorem ac_byte_wsX10_init : (.arrayClass .byte : Cond) ∈ wsX10_init := List.mem_of_getElem? (i := 4) (by decide +kernel)
set_option maxRecDepth 20000 in
theorem fwwsX10_init_9 : (.fieldLink RX10 9 "NothingJudge" "tape" "[B" : Cond) ∈ wsX10_init := List.mem_of_getElem? (i := 5) (by decide +kernel)
set_option maxRecDepth 20000 in
theorem cl13_wsX10_init : (.classLink RX10 13 RX8 : Cond) ∈ wsX10_init := List.mem_of_getElem? (i := 6) (by decide +kernel)
set_option maxRecDepth 20000 in
theorem in8_wsX10_init : (.instantiable RX8 3 : Cond) ∈ wsX10_init := List.mem_of_getElem? (i := 7) (by decide +kernel)
set_option maxRecDepth 20000 in
theorem it8_wsX10_init : (.initialized RX8 : Cond) ∈ wsX10_init := List.mem_of_getElem? (i := 8) (by decide +kernel)
set_option maxRecDepth 20000 in
theorem imyX8_init_wsX10_init : (.instanceMethod yX8_init : Cond) ∈ wsX10_init := List.mem_of_getElem? (i := 41) (by decide +kernel)
set_option maxRecDepth 20000 in
theorem fwwsX10_init_16 : (.fieldLink RX10 16 "NothingJudge" "tokens" "LNothingJudge$Tokens;" : Cond) ∈ wsX10_init := List.mem_of_getElem? (i := 9) (by decide +kernel)
set_option maxRecDepth 20000 in
theorem cl20_wsX10_init : (.classLink RX10 20 RX3 : Cond) ∈ wsX10_init := List.mem_of_getElem? (i := 10) (by decide +kernel)
set_option maxRecDepth 20000 in
theorem in3_wsX10_init : (.instantiable RX3 14 : Cond) ∈ wsX10_init := List.mem_of_getElem? (i := 11) (by decide +kernel)
set_option maxRecDepth 20000 in
theorem it3_wsX10_init : (.initialized RX3 : Cond) ∈ wsX10_init := List.mem_of_getElem? (i := 12) (by decide +kernel)
set_option maxRecDepth 20000 in
theorem imyX3_init_wsX10_init : (.instanceMethod yX3_init : Cond) ∈ wsX10_init := List.mem_of_getElem? (i := 45) (by decide +kernel)
set_option maxRecDepth 20000 in
theorem fwwsX10_init_23 : (.fieldLink RX10 23 "NothingJudge" "spare" "LNothingJudge$Program;" : Cond) ∈ wsX10_init := List.mem_of_getElem? (i := 13) (by decide +kernel)
set_option maxRecDepth 20000 in
theorem cl27_wsX10_init : (.classLink RX10 27 RX4 : Cond) ∈ wsX10_init := List.mem_of_getElem? (i := 14) (by decide +kernel)
set_option maxRecDepth 20000 in
theorem in4_wsX10_init : (.instantiable RX4 10 : Cond) ∈ wsX10_init := List.mem_of_getElem? (i := 15) (by decide +kernel)
set_option maxRecDepth 20000 in
theorem it4_wsX10_init : (.initialized RX4 : Cond) ∈ wsX10_init := List.mem_of_getElem? (i := 16) (by decide +kernel)
set_option maxRecDepth 20000 in
theorem imyX4_init_wsX10_init : (.instanceMethod yX4_init : Cond) ∈ wsX10_init := List.mem_of_getElem? (i := 66) (by decide +kernel)
set_option maxRecDepth 20000 in
theorem mk29_wsX10_init : (.methodLink RX10 29 yX4_init : Cond) ∈ wsX10_init := List.mem_of_getElem? (i := 65) (by decide +kernel)
set_option maxRecDepth 20000 in
theorem fwwsX10_init_32 : (.fieldLink RX10 32 "NothingJudge" "reader" "LNothingJudge$Reader;" : Cond) ∈ wsX10_init := List.mem_of_getElem? (i := 17) (by decide +kernel)
set_option maxRecDepth 20000 in
theorem fwwsX10_init_36 : (.fieldLink RX10 36 "NothingJudge" "faultPlace" "I" : Cond) ∈ wsX10_init := List.mem_of_getElem? (i := 18) (by decide +kernel)
set_option maxRecDepth 20000 in
theorem cl40_wsX10_init : (.classLink RX10 40 RX7 : Cond) ∈ wsX10_init := List.mem_of_getElem? (i := 19) (by decide +kernel)
set_option maxRecDepth 20000 in
theorem in7_wsX10_init : (.instantiable RX7 3 : Cond) ∈ wsX10_init := List.mem_of_getElem? (i := 20) (by decide +kernel)
set_option maxRecDepth 20000 in
theorem it7_wsX10_init : (.initialized RX7 : Cond) ∈ wsX10_init := List.mem_of_getElem? (i := 21) (by decide +kernel)
set_option maxRecDepth 20000 in
theorem imyX7_init_wsX10_init : (.instanceMethod yX7_init : Cond) ∈ wsX10_init := List.mem_of_getElem? (i := 77) (by decide +kernel)
set_option maxRecDepth 20000 in
theorem mk42_wsX10_init : (.methodLink RX10 42 yX7_init : Cond) ∈ wsX10_init := List.mem_of_getElem? (i := 76) (by decide +kernel)
set_option maxRecDepth 20000 in
theorem fwwsX10_init_45 : (.fieldLink RX10 45 "NothingJudge" "scene" "LNothingJudge$Scene;" : Cond) ∈ wsX10_init := List.mem_of_getElem? (i := 22) (by decide +kernel)
set_option maxRecDepth 20000 in
theorem cl49_wsX10_init : (.classLink RX10 49 RX1 : Cond) ∈ wsX10_init := List.mem_of_getElem? (i := 23) (by decide +kernel)
set_option maxRecDepth 20000 in
theorem in1_wsX10_init : (.instantiable RX1 14 : Cond) ∈ wsX10_init := List.mem_of_getElem? (i := 24) (by decide +kernel)
set_option maxRecDepth 20000 in
theorem it1_wsX10_init : (.initialized RX1 : Cond) ∈ wsX10_init := List.mem_of_getElem? (i := 25) (by decide +kernel)
set_option maxRecDepth 20000 in
theorem imyX1_init_wsX10_init : (.instanceMethod yX1_init : Cond) ∈ wsX10_init := List.mem_of_getElem? (i := 84) (by decide +kernel)
set_option maxRecDepth 20000 in
theorem mk51_wsX10_init : (.methodLink RX10 51 yX1_init : Cond) ∈ wsX10_init := List.mem_of_getElem? (i := 83) (by decide +kernel)
set_option maxRecDepth 20000 in
theorem fwwsX10_init_54 : (.fieldLink RX10 54 "NothingJudge" "facts" "LNothingJudge$Facts;" : Cond) ∈ wsX10_init := List.mem_of_getElem? (i := 26) (by decide +kernel)
set_option maxRecDepth 20000 in
theorem cl58_wsX10_init : (.classLink RX10 58 RX6 : Cond) ∈ wsX10_init := List.mem_of_getElem? (i := 27) (by decide +kernel)
set_option maxRecDepth 20000 in
theorem in6_wsX10_init : (.instantiable RX6 16 : Cond) ∈ wsX10_init := List.mem_of_getElem? (i := 28) (by decide +kernel)
set_option maxRecDepth 20000 in
theorem it6_wsX10_init : (.initialized RX6 : Cond) ∈ wsX10_init := List.mem_of_getElem? (i := 29) (by decide +kernel)
set_option maxRecDepth 20000 in
theorem imyX6_init_wsX10_init : (.instanceMethod yX6_init : Cond) ∈ wsX10_init := List.mem_of_getElem? (i := 100) (by decide +kernel)
set_option maxRecDepth 20000 in
theorem mk60_wsX10_init : (.methodLink RX10 60 yX6_init : Cond) ∈ wsX10_init := List.mem_of_getElem? (i := 99) (by decide +kernel)
set_option maxRecDepth 20000 in
theorem fwwsX10_init_61 : (.fieldLink RX10 61 "NothingJudge" "runner" "LNothingJudge$Runner;" : Cond) ∈ wsX10_init := List.mem_of_getElem? (i := 30) (by decide +kernel)
set_option maxRecDepth 20000 in
theorem cl65_wsX10_init : (.classLink RX10 65 RX9 : Cond) ∈ wsX10_init := List.mem_of_getElem? (i := 31) (by decide +kernel)
set_option maxRecDepth 20000 in
theorem in9_wsX10_init : (.instantiable RX9 6 : Cond) ∈ wsX10_init := List.mem_of_getElem? (i := 32) (by decide +kernel)
set_option maxRecDepth 20000 in
theorem it9_wsX10_init : (.initialized RX9 : Cond) ∈ wsX10_init := List.mem_of_getElem? (i := 33) (by decide +kernel)
set_option maxRecDepth 20000 in
theorem imyX9_init_wsX10_init : (.instanceMethod yX9_init : Cond) ∈ wsX10_init := List.mem_of_getElem? (i := 112) (by decide +kernel)
set_option maxRecDepth 20000 in
theorem mk67_wsX10_init : (.methodLink RX10 67 yX9_init : Cond) ∈ wsX10_init := List.mem_of_getElem? (i := 111) (by decide +kernel)
set_option maxRecDepth 20000 in
theorem fwwsX10_init_70 : (.fieldLink RX10 70 "NothingJudge" "trials" "LNothingJudge$Trials;" : Cond) ∈ wsX10_init := List.mem_of_getElem? (i := 34) (by decide +kernel)
set_option maxRecDepth 20000 in
theorem cl74_wsX10_init : (.classLink RX10 74 RX2 : Cond) ∈ wsX10_init := List.mem_of_getElem? (i := 35) (by decide +kernel)
set_option maxRecDepth 20000 in
theorem in2_wsX10_init : (.instantiable RX2 10 : Cond) ∈ wsX10_init := List.mem_of_getElem? (i := 36) (by decide +kernel)
set_option maxRecDepth 20000 in
theorem it2_wsX10_init : (.initialized RX2 : Cond) ∈ wsX10_init := List.mem_of_getElem? (i := 37) (by decide +kernel)
set_option maxRecDepth 20000 in
theorem imyX2_init_wsX10_init : (.instanceMethod yX2_init : Cond) ∈ wsX10_init := List.mem_of_getElem? (i := 121) (by decide +kernel)
set_option maxRecDepth 20000 in
theorem mk76_wsX10_init : (.methodLink RX10 76 yX2_init : Cond) ∈ wsX10_init := List.mem_of_getElem? (i := 120) (by decide +kernel)
set_option maxRecDepth 20000 in
theorem fwwsX10_init_79 : (.fieldLink RX10 79 "NothingJudge" "mender" "LNothingJudge$Mender;" : Cond) ∈ wsX10_init := List.mem_of_getElem? (i := 38) (by decide +kernel)
set_option maxRecDepth 20000 in
theorem ac_int_wsX10_init : (.arrayClass .int : Cond) ∈ wsX10_init := List.mem_of_getElem? (i := 39) (by decide +kernel)
set_option maxRecDepth 20000 in
theorem fwwsX10_init_83 : (.fieldLink RX10 83 "NothingJudge" "ranRow" "[I" : Cond) ∈ wsX10_init := List.mem_of_getElem? (i := 40) (by decide +kernel)
set_option maxRecDepth 20000 in
theorem fwwsX3_has_50 : (.fieldLink RX3 50 "NothingJudge$Program" "told" "I" : Cond) ∈ wsX3_has := List.mem_of_getElem? (i := 1) (by decide +kernel)
set_option maxRecDepth 20000 in
theorem fwwsX7_outers_19 : (.fieldLink RX7 19 "NothingJudge$Scene" "program" "LNothingJudge$Program;" : Cond) ∈ wsX7_outers := List.mem_of_getElem? (i := 1) (by decide +kernel)
set_option maxRecDepth 20000 in
theorem fwwsX7_outers_29 : (.fieldLink RX7 29 "NothingJudge$Program" "arity" "[I" : Cond) ∈ wsX7_outers := List.mem_of_getElem? (i := 2) (by decide +kernel)
set_option maxRecDepth 20000 in
theorem fwwsX7_outers_9 : (.fieldLink RX7 9 "NothingJudge$Scene" "start" "I" : Cond) ∈ wsX7_outers := List.mem_of_getElem? (i := 3) (by decide +kernel)
set_option maxRecDepth 20000 in
theorem ml_wsX7_outers : (.methodLink RX7 44 Lib.Math.min.name : Cond) ∈ wsX7_outers := List.mem_of_getElem? (i := 4) (by decide +kernel)
set_option maxRecDepth 20000 in
theorem ms_wsX7_outers : (.static Lib.Math.min.name : Cond) ∈ wsX7_outers := List.mem_of_getElem? (i := 5) (by decide +kernel)
set_option maxRecDepth 20000 in
theorem mi_wsX7_outers : (.initialized "java/lang/Math" : Cond) ∈ wsX7_outers := List.mem_of_getElem? (i := 6) (by decide +kernel)
set_option maxRecDepth 20000 in
theorem mc_wsX7_outers : (.code Lib.Math.min.name Lib.Math.min.code 2 (some .int) : Cond) ∈ wsX7_outers := List.mem_of_getElem? (i := 7) (by decide +kernel)
set_option maxRecDepth 20000 in
theorem fwwsX7_allows_19 : (.fieldLink RX7 19 "NothingJudge$Scene" "program" "LNothingJudge$Program;" : Cond) ∈ wsX7_allows := List.mem_of_getElem? (i := 1) (by decide +kernel)
set_option maxRecDepth 20000 in
theorem fwwsX7_allows_9 : (.fieldLink RX7 9 "NothingJudge$Scene" "start" "I" : Cond) ∈ wsX7_allows := List.mem_of_getElem? (i := 2) (by decide +kernel)
set_option maxRecDepth 20000 in
theorem fwwsX7_startAt_9 : (.fieldLink RX7 9 "NothingJudge$Scene" "start" "I" : Cond) ∈ wsX7_startAt := List.mem_of_getElem? (i := 1) (by decide +kernel)
set_option maxRecDepth 20000 in
theorem fwwsX7_startAt_15 : (.fieldLink RX7 15 "NothingJudge$Scene" "told" "[I" : Cond) ∈ wsX7_startAt := List.mem_of_getElem? (i := 2) (by decide +kernel)
set_option maxRecDepth 20000 in
theorem fwwsX10_putNumber_87 : (.fieldLink RX10 87 "NothingJudge" "taped" "I" : Cond) ∈ wsX10_putNumber := List.mem_of_getElem? (i := 1) (by decide +kernel)
set_option maxRecDepth 20000 in
theorem fwwsX10_putNumber_9 : (.fieldLink RX10 9 "NothingJudge" "tape" "[B" : Cond) ∈ wsX10_putNumber := List.mem_of_getElem? (i := 2) (by decide +kernel)
set_option maxRecDepth 20000 in
theorem fwwsX10_feed_87 : (.fieldLink RX10 87 "NothingJudge" "taped" "I" : Cond) ∈ wsX10_feed := List.mem_of_getElem? (i := 1) (by decide +kernel)
set_option maxRecDepth 20000 in
theorem fwwsX10_fault_36 : (.fieldLink RX10 36 "NothingJudge" "faultPlace" "I" : Cond) ∈ wsX10_fault := List.mem_of_getElem? (i := 2) (by decide +kernel)
set_option maxRecDepth 20000 in
theorem fwwsX10_fault_104 : (.fieldLink RX10 104 "NothingJudge" "faultKind" "I" : Cond) ∈ wsX10_fault := List.mem_of_getElem? (i := 1) (by decide +kernel)
set_option maxRecDepth 20000 in
theorem fwwsX10_entry_45 : (.fieldLink RX10 45 "NothingJudge" "scene" "LNothingJudge$Scene;" : Cond) ∈ wsX10_entry := List.mem_of_getElem? (i := 1) (by decide +kernel)
set_option maxRecDepth 20000 in
theorem fwwsX10_entry_110 : (.fieldLink RX10 110 "NothingJudge$Scene" "program" "LNothingJudge$Program;" : Cond) ∈ wsX10_entry := List.mem_of_getElem? (i := 2) (by decide +kernel)
set_option maxRecDepth 20000 in
theorem fwwsX10_outer_45 : (.fieldLink RX10 45 "NothingJudge" "scene" "LNothingJudge$Scene;" : Cond) ∈ wsX10_outer := List.mem_of_getElem? (i := 1) (by decide +kernel)
set_option maxRecDepth 20000 in
theorem fwwsX10_use_45 : (.fieldLink RX10 45 "NothingJudge" "scene" "LNothingJudge$Scene;" : Cond) ∈ wsX10_use := List.mem_of_getElem? (i := 1) (by decide +kernel)
set_option maxRecDepth 20000 in
theorem fwwsX10_use_110 : (.fieldLink RX10 110 "NothingJudge$Scene" "program" "LNothingJudge$Program;" : Cond) ∈ wsX10_use := List.mem_of_getElem? (i := 2) (by decide +kernel)
set_option maxRecDepth 20000 in
theorem fwwsX10_use_157 : (.fieldLink RX10 157 "NothingJudge$Program" "uses" "I" : Cond) ∈ wsX10_use := List.mem_of_getElem? (i := 3) (by decide +kernel)
set_option maxRecDepth 20000 in
theorem fwwsX10_test_45 : (.fieldLink RX10 45 "NothingJudge" "scene" "LNothingJudge$Scene;" : Cond) ∈ wsX10_test := List.mem_of_getElem? (i := 1) (by decide +kernel)
set_option maxRecDepth 20000 in
theorem fwwsX10_test_110 : (.fieldLink RX10 110 "NothingJudge$Scene" "program" "LNothingJudge$Program;" : Cond) ∈ wsX10_test := List.mem_of_getElem? (i := 2) (by decide +kernel)
set_option maxRecDepth 20000 in
theorem fwwsX10_test_176 : (.fieldLink RX10 176 "NothingJudge$Program" "tests" "I" : Cond) ∈ wsX10_test := List.mem_of_getElem? (i := 3) (by decide +kernel)
set_option maxRecDepth 20000 in
theorem fwwsX10_tries_45 : (.fieldLink RX10 45 "NothingJudge" "scene" "LNothingJudge$Scene;" : Cond) ∈ wsX10_tries := List.mem_of_getElem? (i := 1) (by decide +kernel)
set_option maxRecDepth 20000 in
theorem fwwsX10_tries_110 : (.fieldLink RX10 110 "NothingJudge$Scene" "program" "LNothingJudge$Program;" : Cond) ∈ wsX10_tries := List.mem_of_getElem? (i := 2) (by decide +kernel)
set_option maxRecDepth 20000 in
theorem fwwsX10_tries_157 : (.fieldLink RX10 157 "NothingJudge$Program" "uses" "I" : Cond) ∈ wsX10_tries := List.mem_of_getElem? (i := 3) (by decide +kernel)
set_option maxRecDepth 20000 in
theorem fwwsX10_run_45 : (.fieldLink RX10 45 "NothingJudge" "scene" "LNothingJudge$Scene;" : Cond) ∈ wsX10_run := List.mem_of_getElem? (i := 1) (by decide +kernel)
set_option maxRecDepth 20000 in
theorem fwwsX10_mend_45 : (.fieldLink RX10 45 "NothingJudge" "scene" "LNothingJudge$Scene;" : Cond) ∈ wsX10_mend := List.mem_of_getElem? (i := 1) (by decide +kernel)
set_option maxRecDepth 20000 in
theorem fwwsX10_mend_110 : (.fieldLink RX10 110 "NothingJudge$Scene" "program" "LNothingJudge$Program;" : Cond) ∈ wsX10_mend := List.mem_of_getElem? (i := 2) (by decide +kernel)
set_option maxRecDepth 20000 in
theorem fwwsX10_mend_122 : (.fieldLink RX10 122 "NothingJudge$Program" "routines" "I" : Cond) ∈ wsX10_mend := List.mem_of_getElem? (i := 3) (by decide +kernel)
set_option maxRecDepth 20000 in
theorem fwwsX10_mended_79 : (.fieldLink RX10 79 "NothingJudge" "mender" "LNothingJudge$Mender;" : Cond) ∈ wsX10_mended := List.mem_of_getElem? (i := 1) (by decide +kernel)
set_option maxRecDepth 20000 in
theorem fwwsX10_mended_228 : (.fieldLink RX10 228 "NothingJudge$Mender" "cost" "I" : Cond) ∈ wsX10_mended := List.mem_of_getElem? (i := 2) (by decide +kernel)
set_option maxRecDepth 20000 in
theorem fwwsX10_ran_83 : (.fieldLink RX10 83 "NothingJudge" "ranRow" "[I" : Cond) ∈ wsX10_ran := List.mem_of_getElem? (i := 1) (by decide +kernel)
set_option maxRecDepth 20000 in
theorem fwwsX10_price_79 : (.fieldLink RX10 79 "NothingJudge" "mender" "LNothingJudge$Mender;" : Cond) ∈ wsX10_price := List.mem_of_getElem? (i := 1) (by decide +kernel)
set_option maxRecDepth 20000 in
theorem fwwsX10_price_218 : (.fieldLink RX10 218 "NothingJudge$Mender" "prices" "[I" : Cond) ∈ wsX10_price := List.mem_of_getElem? (i := 2) (by decide +kernel)
set_option maxRecDepth 20000 in
theorem fwwsX10_price_221 : (.fieldLink RX10 221 "NothingJudge$Mender" "stale" "Z" : Cond) ∈ wsX10_price := List.mem_of_getElem? (i := 3) (by decide +kernel)
set_option maxRecDepth 20000 in
theorem fwwsX1_clear_32 : (.fieldLink RX1 32 "NothingJudge$Facts" "scene" "LNothingJudge$Scene;" : Cond) ∈ wsX1_clear := List.mem_of_getElem? (i := 1) (by decide +kernel)
set_option maxRecDepth 20000 in
theorem fwwsX1_clear_36 : (.fieldLink RX1 36 "NothingJudge$Scene" "program" "LNothingJudge$Program;" : Cond) ∈ wsX1_clear := List.mem_of_getElem? (i := 2) (by decide +kernel)
set_option maxRecDepth 20000 in
theorem fwwsX1_clear_42 : (.fieldLink RX1 42 "NothingJudge$Facts" "program" "LNothingJudge$Program;" : Cond) ∈ wsX1_clear := List.mem_of_getElem? (i := 3) (by decide +kernel)
set_option maxRecDepth 20000 in
theorem fwwsX1_clear_43 : (.fieldLink RX1 43 "NothingJudge$Program" "code" "LNothingJudge$Code;" : Cond) ∈ wsX1_clear := List.mem_of_getElem? (i := 4) (by decide +kernel)
set_option maxRecDepth 20000 in
theorem fwwsX1_clear_49 : (.fieldLink RX1 49 "NothingJudge$Facts" "code" "LNothingJudge$Code;" : Cond) ∈ wsX1_clear := List.mem_of_getElem? (i := 5) (by decide +kernel)
set_option maxRecDepth 20000 in
theorem fwwsX1_clear_92 : (.fieldLink RX1 92 "NothingJudge$Facts" "reached" "I" : Cond) ∈ wsX1_clear := List.mem_of_getElem? (i := 6) (by decide +kernel)
set_option maxRecDepth 20000 in
theorem fwwsX1_clear_78 : (.fieldLink RX1 78 "NothingJudge$Facts" "version" "I" : Cond) ∈ wsX1_clear := List.mem_of_getElem? (i := 7) (by decide +kernel)
set_option maxRecDepth 20000 in
theorem fwwsX1_clear_9 : (.fieldLink RX1 9 "NothingJudge$Facts" "state" "[J" : Cond) ∈ wsX1_clear := List.mem_of_getElem? (i := 8) (by decide +kernel)
set_option maxRecDepth 20000 in
theorem fwwsX1_clear_15 : (.fieldLink RX1 15 "NothingJudge$Facts" "seenAt" "[I" : Cond) ∈ wsX1_clear := List.mem_of_getElem? (i := 9) (by decide +kernel)
set_option maxRecDepth 20000 in
theorem fwwsX1_clear_19 : (.fieldLink RX1 19 "NothingJudge$Facts" "marks" "[I" : Cond) ∈ wsX1_clear := List.mem_of_getElem? (i := 10) (by decide +kernel)
set_option maxRecDepth 20000 in
theorem fwwsX1_clear_22 : (.fieldLink RX1 22 "NothingJudge$Facts" "used" "[I" : Cond) ∈ wsX1_clear := List.mem_of_getElem? (i := 11) (by decide +kernel)
set_option maxRecDepth 20000 in
theorem fwwsX1_clear_25 : (.fieldLink RX1 25 "NothingJudge$Facts" "tested" "[I" : Cond) ∈ wsX1_clear := List.mem_of_getElem? (i := 12) (by decide +kernel)
set_option maxRecDepth 20000 in
theorem fwwsX1_reachEntry_42 : (.fieldLink RX1 42 "NothingJudge$Facts" "program" "LNothingJudge$Program;" : Cond) ∈ wsX1_reachEntry := List.mem_of_getElem? (i := 1) (by decide +kernel)
set_option maxRecDepth 20000 in
theorem fwwsX1_reachEntry_32 : (.fieldLink RX1 32 "NothingJudge$Facts" "scene" "LNothingJudge$Scene;" : Cond) ∈ wsX1_reachEntry := List.mem_of_getElem? (i := 2) (by decide +kernel)
set_option maxRecDepth 20000 in
theorem fwwsX1_reachEntry_104 : (.fieldLink RX1 104 "NothingJudge$Scene" "start" "I" : Cond) ∈ wsX1_reachEntry := List.mem_of_getElem? (i := 3) (by decide +kernel)
set_option maxRecDepth 20000 in
theorem fwwsX1_openRoutines_92 : (.fieldLink RX1 92 "NothingJudge$Facts" "reached" "I" : Cond) ∈ wsX1_openRoutines := List.mem_of_getElem? (i := 1) (by decide +kernel)
set_option maxRecDepth 20000 in
theorem fwwsX1_settle_28 : (.fieldLink RX1 28 "NothingJudge$Facts" "stale" "Z" : Cond) ∈ wsX1_settle := List.mem_of_getElem? (i := 1) (by decide +kernel)
set_option maxRecDepth 20000 in
theorem fwwsX1_settle_50 : (.fieldLink RX1 50 "NothingJudge$Facts" "held" "J" : Cond) ∈ wsX1_settle := List.mem_of_getElem? (i := 2) (by decide +kernel)
set_option maxRecDepth 20000 in
theorem fwwsX1_settle_60 : (.fieldLink RX1 60 "NothingJudge$Facts" "changed" "Z" : Cond) ∈ wsX1_settle := List.mem_of_getElem? (i := 3) (by decide +kernel)
set_option maxRecDepth 20000 in
theorem fwwsX1_settle_49 : (.fieldLink RX1 49 "NothingJudge$Facts" "code" "LNothingJudge$Code;" : Cond) ∈ wsX1_settle := List.mem_of_getElem? (i := 4) (by decide +kernel)
set_option maxRecDepth 20000 in
theorem fwwsX1_settle_66 : (.fieldLink RX1 66 "NothingJudge$Code" "size" "I" : Cond) ∈ wsX1_settle := List.mem_of_getElem? (i := 5) (by decide +kernel)
set_option maxRecDepth 20000 in
theorem fwwsX10_markIndex_45 : (.fieldLink RX10 45 "NothingJudge" "scene" "LNothingJudge$Scene;" : Cond) ∈ wsX10_markIndex := List.mem_of_getElem? (i := 1) (by decide +kernel)
set_option maxRecDepth 20000 in
theorem fwwsX10_markIndex_110 : (.fieldLink RX10 110 "NothingJudge$Scene" "program" "LNothingJudge$Program;" : Cond) ∈ wsX10_markIndex := List.mem_of_getElem? (i := 2) (by decide +kernel)
set_option maxRecDepth 20000 in
theorem fwwsX10_mark_54 : (.fieldLink RX10 54 "NothingJudge" "facts" "LNothingJudge$Facts;" : Cond) ∈ wsX10_mark := List.mem_of_getElem? (i := 1) (by decide +kernel)
set_option maxRecDepth 20000 in
theorem fwwsX10_mark_150 : (.fieldLink RX10 150 "NothingJudge$Facts" "marks" "[I" : Cond) ∈ wsX10_mark := List.mem_of_getElem? (i := 2) (by decide +kernel)
set_option maxRecDepth 20000 in
theorem fwwsX10_usesOfFact_54 : (.fieldLink RX10 54 "NothingJudge" "facts" "LNothingJudge$Facts;" : Cond) ∈ wsX10_usesOfFact := List.mem_of_getElem? (i := 1) (by decide +kernel)
set_option maxRecDepth 20000 in
theorem fwwsX10_usesOfFact_45 : (.fieldLink RX10 45 "NothingJudge" "scene" "LNothingJudge$Scene;" : Cond) ∈ wsX10_usesOfFact := List.mem_of_getElem? (i := 2) (by decide +kernel)
set_option maxRecDepth 20000 in
theorem fwwsX10_usesOfFact_110 : (.fieldLink RX10 110 "NothingJudge$Scene" "program" "LNothingJudge$Program;" : Cond) ∈ wsX10_usesOfFact := List.mem_of_getElem? (i := 3) (by decide +kernel)
set_option maxRecDepth 20000 in
theorem fwwsX10_usesOfFact_157 : (.fieldLink RX10 157 "NothingJudge$Program" "uses" "I" : Cond) ∈ wsX10_usesOfFact := List.mem_of_getElem? (i := 4) (by decide +kernel)
set_option maxRecDepth 20000 in
theorem fwwsX10_count_45 : (.fieldLink RX10 45 "NothingJudge" "scene" "LNothingJudge$Scene;" : Cond) ∈ wsX10_count := List.mem_of_getElem? (i := 1) (by decide +kernel)
set_option maxRecDepth 20000 in
theorem fwwsX10_count_110 : (.fieldLink RX10 110 "NothingJudge$Scene" "program" "LNothingJudge$Program;" : Cond) ∈ wsX10_count := List.mem_of_getElem? (i := 2) (by decide +kernel)
set_option maxRecDepth 20000 in
theorem fwwsX10_count_122 : (.fieldLink RX10 122 "NothingJudge$Program" "routines" "I" : Cond) ∈ wsX10_count := List.mem_of_getElem? (i := 3) (by decide +kernel)
set_option maxRecDepth 20000 in
theorem fwwsX10_count_157 : (.fieldLink RX10 157 "NothingJudge$Program" "uses" "I" : Cond) ∈ wsX10_count := List.mem_of_getElem? (i := 4) (by decide +kernel)
set_option maxRecDepth 20000 in
theorem fwwsX10_count_176 : (.fieldLink RX10 176 "NothingJudge$Program" "tests" "I" : Cond) ∈ wsX10_count := List.mem_of_getElem? (i := 5) (by decide +kernel)
set_option maxRecDepth 20000 in
theorem fwwsX10_count_240 : (.fieldLink RX10 240 "NothingJudge$Scene" "start" "I" : Cond) ∈ wsX10_count := List.mem_of_getElem? (i := 6) (by decide +kernel)
set_option maxRecDepth 20000 in
theorem fwwsX8_scan_15 : (.fieldLink RX8 15 "NothingJudge$Tokens" "size" "I" : Cond) ∈ wsX8_scan := List.mem_of_getElem? (i := 1) (by decide +kernel)
set_option maxRecDepth 20000 in
theorem ml_wsX8_scan : (.methodLink RX8 19 Lib.Math.min.name : Cond) ∈ wsX8_scan := List.mem_of_getElem? (i := 2) (by decide +kernel)
set_option maxRecDepth 20000 in
theorem ms_wsX8_scan : (.static Lib.Math.min.name : Cond) ∈ wsX8_scan := List.mem_of_getElem? (i := 3) (by decide +kernel)
set_option maxRecDepth 20000 in
theorem mi_wsX8_scan : (.initialized "java/lang/Math" : Cond) ∈ wsX8_scan := List.mem_of_getElem? (i := 4) (by decide +kernel)
set_option maxRecDepth 20000 in
theorem mc_wsX8_scan : (.code Lib.Math.min.name Lib.Math.min.code 2 (some .int) : Cond) ∈ wsX8_scan := List.mem_of_getElem? (i := 5) (by decide +kernel)
set_option maxRecDepth 20000 in
theorem fwwsX8_scan_25 : (.fieldLink RX8 25 "NothingJudge$Tokens" "length" "I" : Cond) ∈ wsX8_scan := List.mem_of_getElem? (i := 6) (by decide +kernel)
set_option maxRecDepth 20000 in
theorem fwwsX8_kindAt_15 : (.fieldLink RX8 15 "NothingJudge$Tokens" "size" "I" : Cond) ∈ wsX8_kindAt := List.mem_of_getElem? (i := 1) (by decide +kernel)
set_option maxRecDepth 20000 in
theorem fwwsX4_seen_22 : (.fieldLink RX4 22 "NothingJudge$Reader" "tokens" "LNothingJudge$Tokens;" : Cond) ∈ wsX4_seen := List.mem_of_getElem? (i := 1) (by decide +kernel)
set_option maxRecDepth 20000 in
theorem fwwsX4_seen_40 : (.fieldLink RX4 40 "NothingJudge$Reader" "next" "I" : Cond) ∈ wsX4_seen := List.mem_of_getElem? (i := 2) (by decide +kernel)
set_option maxRecDepth 20000 in
theorem fwwsX4_checkCalls_36 : (.fieldLink RX4 36 "NothingJudge$Reader" "code" "LNothingJudge$Code;" : Cond) ∈ wsX4_checkCalls := List.mem_of_getElem? (i := 1) (by decide +kernel)
set_option maxRecDepth 20000 in
theorem fwwsX4_checkCalls_128 : (.fieldLink RX4 128 "NothingJudge$Code" "size" "I" : Cond) ∈ wsX4_checkCalls := List.mem_of_getElem? (i := 2) (by decide +kernel)
set_option maxRecDepth 20000 in
theorem fwwsX3_clear_12 : (.fieldLink RX3 12 "NothingJudge$Program" "code" "LNothingJudge$Code;" : Cond) ∈ wsX3_clear := List.mem_of_getElem? (i := 1) (by decide +kernel)
set_option maxRecDepth 20000 in
theorem fwwsX3_clear_47 : (.fieldLink RX3 47 "NothingJudge$Code" "size" "I" : Cond) ∈ wsX3_clear := List.mem_of_getElem? (i := 2) (by decide +kernel)
set_option maxRecDepth 20000 in
theorem fwwsX3_clear_50 : (.fieldLink RX3 50 "NothingJudge$Program" "told" "I" : Cond) ∈ wsX3_clear := List.mem_of_getElem? (i := 3) (by decide +kernel)
set_option maxRecDepth 20000 in
theorem fwwsX3_clear_53 : (.fieldLink RX3 53 "NothingJudge$Program" "routines" "I" : Cond) ∈ wsX3_clear := List.mem_of_getElem? (i := 4) (by decide +kernel)
set_option maxRecDepth 20000 in
theorem fwwsX3_clear_56 : (.fieldLink RX3 56 "NothingJudge$Program" "uses" "I" : Cond) ∈ wsX3_clear := List.mem_of_getElem? (i := 5) (by decide +kernel)
set_option maxRecDepth 20000 in
theorem fwwsX3_clear_59 : (.fieldLink RX3 59 "NothingJudge$Program" "tests" "I" : Cond) ∈ wsX3_clear := List.mem_of_getElem? (i := 6) (by decide +kernel)
set_option maxRecDepth 20000 in
theorem fwwsX3_clear_43 : (.fieldLink RX3 43 "NothingJudge$Program" "first" "I" : Cond) ∈ wsX3_clear := List.mem_of_getElem? (i := 7) (by decide +kernel)
set_option maxRecDepth 20000 in
theorem fwwsX4_readInto_26 : (.fieldLink RX4 26 "NothingJudge$Reader" "program" "LNothingJudge$Program;" : Cond) ∈ wsX4_readInto := List.mem_of_getElem? (i := 1) (by decide +kernel)
set_option maxRecDepth 20000 in
theorem fwwsX4_readInto_30 : (.fieldLink RX4 30 "NothingJudge$Program" "code" "LNothingJudge$Code;" : Cond) ∈ wsX4_readInto := List.mem_of_getElem? (i := 2) (by decide +kernel)
set_option maxRecDepth 20000 in
theorem fwwsX4_readInto_36 : (.fieldLink RX4 36 "NothingJudge$Reader" "code" "LNothingJudge$Code;" : Cond) ∈ wsX4_readInto := List.mem_of_getElem? (i := 3) (by decide +kernel)
set_option maxRecDepth 20000 in
theorem fwwsX4_readInto_40 : (.fieldLink RX4 40 "NothingJudge$Reader" "next" "I" : Cond) ∈ wsX4_readInto := List.mem_of_getElem? (i := 4) (by decide +kernel)
set_option maxRecDepth 20000 in
theorem fwwsX4_readInto_43 : (.fieldLink RX4 43 "NothingJudge$Reader" "open" "I" : Cond) ∈ wsX4_readInto := List.mem_of_getElem? (i := 5) (by decide +kernel)
set_option maxRecDepth 20000 in
theorem fwwsX4_readInto_46 : (.fieldLink RX4 46 "NothingJudge$Reader" "wrong" "I" : Cond) ∈ wsX4_readInto := List.mem_of_getElem? (i := 6) (by decide +kernel)
set_option maxRecDepth 20000 in
theorem fwwsX4_readInto_18 : (.fieldLink RX4 18 "NothingJudge$Reader" "wrongPlace" "I" : Cond) ∈ wsX4_readInto := List.mem_of_getElem? (i := 7) (by decide +kernel)
set_option maxRecDepth 20000 in
theorem fwwsX10_forget_54 : (.fieldLink RX10 54 "NothingJudge" "facts" "LNothingJudge$Facts;" : Cond) ∈ wsX10_forget := List.mem_of_getElem? (i := 1) (by decide +kernel)
set_option maxRecDepth 20000 in
theorem fwwsX10_forget_246 : (.fieldLink RX10 246 "NothingJudge$Facts" "stale" "Z" : Cond) ∈ wsX10_forget := List.mem_of_getElem? (i := 2) (by decide +kernel)
set_option maxRecDepth 20000 in
theorem fwwsX10_forget_70 : (.fieldLink RX10 70 "NothingJudge" "trials" "LNothingJudge$Trials;" : Cond) ∈ wsX10_forget := List.mem_of_getElem? (i := 3) (by decide +kernel)
set_option maxRecDepth 20000 in
theorem fwwsX10_forget_247 : (.fieldLink RX10 247 "NothingJudge$Trials" "stale" "Z" : Cond) ∈ wsX10_forget := List.mem_of_getElem? (i := 4) (by decide +kernel)
set_option maxRecDepth 20000 in
theorem fwwsX10_forget_79 : (.fieldLink RX10 79 "NothingJudge" "mender" "LNothingJudge$Mender;" : Cond) ∈ wsX10_forget := List.mem_of_getElem? (i := 5) (by decide +kernel)
set_option maxRecDepth 20000 in
theorem fwwsX10_forget_221 : (.fieldLink RX10 221 "NothingJudge$Mender" "stale" "Z" : Cond) ∈ wsX10_forget := List.mem_of_getElem? (i := 6) (by decide +kernel)
set_option maxRecDepth 20000 in
theorem fwwsX10_text_87 : (.fieldLink RX10 87 "NothingJudge" "taped" "I" : Cond) ∈ wsX10_text := List.mem_of_getElem? (i := 1) (by decide +kernel)
set_option maxRecDepth 20000 in
theorem fwwsX10_text_16 : (.fieldLink RX10 16 "NothingJudge" "tokens" "LNothingJudge$Tokens;" : Cond) ∈ wsX10_text := List.mem_of_getElem? (i := 2) (by decide +kernel)
set_option maxRecDepth 20000 in
theorem fwwsX10_text_9 : (.fieldLink RX10 9 "NothingJudge" "tape" "[B" : Cond) ∈ wsX10_text := List.mem_of_getElem? (i := 3) (by decide +kernel)
set_option maxRecDepth 20000 in
theorem fwwsX10_text_32 : (.fieldLink RX10 32 "NothingJudge" "reader" "LNothingJudge$Reader;" : Cond) ∈ wsX10_text := List.mem_of_getElem? (i := 4) (by decide +kernel)
set_option maxRecDepth 20000 in
theorem fwwsX10_text_23 : (.fieldLink RX10 23 "NothingJudge" "spare" "LNothingJudge$Program;" : Cond) ∈ wsX10_text := List.mem_of_getElem? (i := 5) (by decide +kernel)
set_option maxRecDepth 20000 in
theorem fwwsX10_text_101 : (.fieldLink RX10 101 "NothingJudge$Reader" "wrong" "I" : Cond) ∈ wsX10_text := List.mem_of_getElem? (i := 6) (by decide +kernel)
set_option maxRecDepth 20000 in
theorem fwwsX10_text_104 : (.fieldLink RX10 104 "NothingJudge" "faultKind" "I" : Cond) ∈ wsX10_text := List.mem_of_getElem? (i := 7) (by decide +kernel)
set_option maxRecDepth 20000 in
theorem fwwsX10_text_107 : (.fieldLink RX10 107 "NothingJudge$Reader" "wrongPlace" "I" : Cond) ∈ wsX10_text := List.mem_of_getElem? (i := 8) (by decide +kernel)
set_option maxRecDepth 20000 in
theorem fwwsX10_text_36 : (.fieldLink RX10 36 "NothingJudge" "faultPlace" "I" : Cond) ∈ wsX10_text := List.mem_of_getElem? (i := 9) (by decide +kernel)
set_option maxRecDepth 20000 in
theorem fwwsX10_text_45 : (.fieldLink RX10 45 "NothingJudge" "scene" "LNothingJudge$Scene;" : Cond) ∈ wsX10_text := List.mem_of_getElem? (i := 10) (by decide +kernel)
set_option maxRecDepth 20000 in
theorem fwwsX10_text_110 : (.fieldLink RX10 110 "NothingJudge$Scene" "program" "LNothingJudge$Program;" : Cond) ∈ wsX10_text := List.mem_of_getElem? (i := 11) (by decide +kernel)
set_option maxRecDepth 20000 in
theorem fwwsX10_text_113 : (.fieldLink RX10 113 "NothingJudge$Program" "first" "I" : Cond) ∈ wsX10_text := List.mem_of_getElem? (i := 12) (by decide +kernel)
set_option maxRecDepth 20000 in
theorem fwwsX10_text_122 : (.fieldLink RX10 122 "NothingJudge$Program" "routines" "I" : Cond) ∈ wsX10_text := List.mem_of_getElem? (i := 13) (by decide +kernel)
set_option maxRecDepth 20000 in
theorem fwwsX11_here_127 : (.fieldLink RX11 127 "NothingJudgeModel" "at" "I" : Cond) ∈ wsX11_here := List.mem_of_getElem? (i := 1) (by decide +kernel)
set_option maxRecDepth 20000 in
theorem fwwsX11_here_130 : (.fieldLink RX11 130 "NothingJudgeModel" "size" "I" : Cond) ∈ wsX11_here := List.mem_of_getElem? (i := 2) (by decide +kernel)
set_option maxRecDepth 20000 in
theorem fwwsX11_next_127 : (.fieldLink RX11 127 "NothingJudgeModel" "at" "I" : Cond) ∈ wsX11_next := List.mem_of_getElem? (i := 1) (by decide +kernel)
set_option maxRecDepth 20000 in
theorem fwwsX11_next_137 : (.fieldLink RX11 137 "NothingJudgeModel" "place" "I" : Cond) ∈ wsX11_next := List.mem_of_getElem? (i := 2) (by decide +kernel)
set_option maxRecDepth 20000 in
theorem fwwsX11_next_140 : (.fieldLink RX11 140 "NothingJudgeModel" "sort" "I" : Cond) ∈ wsX11_next := List.mem_of_getElem? (i := 3) (by decide +kernel)
set_option maxRecDepth 20000 in
theorem fwwsX11_enters_83 : (.fieldLink RX11 83 "NothingJudgeModel" "entry" "I" : Cond) ∈ wsX11_enters := List.mem_of_getElem? (i := 1) (by decide +kernel)
set_option maxRecDepth 20000 in
theorem fwwsX11_enters_86 : (.fieldLink RX11 86 "NothingJudgeModel" "outers" "[I" : Cond) ∈ wsX11_enters := List.mem_of_getElem? (i := 2) (by decide +kernel)
set_option maxRecDepth 20000 in
theorem fwwsX11_routinesMany_32 : (.fieldLink RX11 32 "NothingJudgeModel" "routineFrom" "[I" : Cond) ∈ wsX11_routinesMany := List.mem_of_getElem? (i := 1) (by decide +kernel)
set_option maxRecDepth 20000 in
theorem fwwsX11_frees_96 : (.fieldLink RX11 96 "NothingJudgeModel" "isHeld" "[Z" : Cond) ∈ wsX11_frees := List.mem_of_getElem? (i := 1) (by decide +kernel)
set_option maxRecDepth 20000 in
theorem fwwsX11_reckons_251 : (.fieldLink RX11 251 "NothingJudgeModel" "actMany" "I" : Cond) ∈ wsX11_reckons := List.mem_of_getElem? (i := 1) (by decide +kernel)
set_option maxRecDepth 20000 in
theorem fwwsX11_reckons_83 : (.fieldLink RX11 83 "NothingJudgeModel" "entry" "I" : Cond) ∈ wsX11_reckons := List.mem_of_getElem? (i := 5) (by decide +kernel)
set_option maxRecDepth 20000 in
theorem fwwsX11_reckons_261 : (.fieldLink RX11 261 "NothingJudgeModel" "isMore" "Z" : Cond) ∈ wsX11_reckons := List.mem_of_getElem? (i := 6) (by decide +kernel)
set_option maxRecDepth 20000 in
theorem fwwsX11_reckons_100 : (.fieldLink RX11 100 "NothingJudgeModel" "tested" "[I" : Cond) ∈ wsX11_reckons := List.mem_of_getElem? (i := 4) (by decide +kernel)
set_option maxRecDepth 20000 in
theorem fwwsX11_reckons_93 : (.fieldLink RX11 93 "NothingJudgeModel" "marks" "[I" : Cond) ∈ wsX11_reckons := List.mem_of_getElem? (i := 3) (by decide +kernel)
set_option maxRecDepth 20000 in
theorem fwwsX11_fault_121 : (.fieldLink RX11 121 "NothingJudgeModel" "thrown" "I" : Cond) ∈ wsX11_fault := List.mem_of_getElem? (i := 1) (by decide +kernel)
set_option maxRecDepth 20000 in
theorem fwwsX11_fault_13 : (.fieldLink RX11 13 "NothingJudgeModel" "lastPlace" "I" : Cond) ∈ wsX11_fault := List.mem_of_getElem? (i := 3) (by decide +kernel)
set_option maxRecDepth 20000 in
theorem fwwsX11_fault_242 : (.fieldLink RX11 242 "NothingJudgeModel" "lastFault" "I" : Cond) ∈ wsX11_fault := List.mem_of_getElem? (i := 2) (by decide +kernel)
set_option maxRecDepth 20000 in
theorem fwwsX11_entry_121 : (.fieldLink RX11 121 "NothingJudgeModel" "thrown" "I" : Cond) ∈ wsX11_entry := List.mem_of_getElem? (i := 1) (by decide +kernel)
set_option maxRecDepth 20000 in
theorem fwwsX11_entry_32 : (.fieldLink RX11 32 "NothingJudgeModel" "routineFrom" "[I" : Cond) ∈ wsX11_entry := List.mem_of_getElem? (i := 2) (by decide +kernel)
set_option maxRecDepth 20000 in
theorem fwwsX11_outer_121 : (.fieldLink RX11 121 "NothingJudgeModel" "thrown" "I" : Cond) ∈ wsX11_outer := List.mem_of_getElem? (i := 1) (by decide +kernel)
set_option maxRecDepth 20000 in
theorem fwwsX11_outer_83 : (.fieldLink RX11 83 "NothingJudgeModel" "entry" "I" : Cond) ∈ wsX11_outer := List.mem_of_getElem? (i := 2) (by decide +kernel)
set_option maxRecDepth 20000 in
theorem fwwsX11_use_121 : (.fieldLink RX11 121 "NothingJudgeModel" "thrown" "I" : Cond) ∈ wsX11_use := List.mem_of_getElem? (i := 1) (by decide +kernel)
set_option maxRecDepth 20000 in
theorem fwwsX11_use_53 : (.fieldLink RX11 53 "NothingJudgeModel" "useMany" "[I" : Cond) ∈ wsX11_use := List.mem_of_getElem? (i := 2) (by decide +kernel)
set_option maxRecDepth 20000 in
theorem fwwsX11_test_121 : (.fieldLink RX11 121 "NothingJudgeModel" "thrown" "I" : Cond) ∈ wsX11_test := List.mem_of_getElem? (i := 1) (by decide +kernel)
set_option maxRecDepth 20000 in
theorem fwwsX11_test_62 : (.fieldLink RX11 62 "NothingJudgeModel" "testMany" "[I" : Cond) ∈ wsX11_test := List.mem_of_getElem? (i := 2) (by decide +kernel)
set_option maxRecDepth 20000 in
theorem fwwsX11_tries_121 : (.fieldLink RX11 121 "NothingJudgeModel" "thrown" "I" : Cond) ∈ wsX11_tries := List.mem_of_getElem? (i := 1) (by decide +kernel)
set_option maxRecDepth 20000 in
theorem fwwsX11_tries_53 : (.fieldLink RX11 53 "NothingJudgeModel" "useMany" "[I" : Cond) ∈ wsX11_tries := List.mem_of_getElem? (i := 2) (by decide +kernel)
set_option maxRecDepth 20000 in
theorem fwwsX11_canRun_83 : (.fieldLink RX11 83 "NothingJudgeModel" "entry" "I" : Cond) ∈ wsX11_canRun := List.mem_of_getElem? (i := 1) (by decide +kernel)
set_option maxRecDepth 20000 in
theorem fwwsX11_run_121 : (.fieldLink RX11 121 "NothingJudgeModel" "thrown" "I" : Cond) ∈ wsX11_run := List.mem_of_getElem? (i := 1) (by decide +kernel)
set_option maxRecDepth 20000 in
theorem fwwsX11_ran_121 : (.fieldLink RX11 121 "NothingJudgeModel" "thrown" "I" : Cond) ∈ wsX11_ran := List.mem_of_getElem? (i := 1) (by decide +kernel)
set_option maxRecDepth 20000 in
theorem fwwsX11_ran_363 : (.fieldLink RX11 363 "NothingJudgeModel" "hasRun" "Z" : Cond) ∈ wsX11_ran := List.mem_of_getElem? (i := 2) (by decide +kernel)
set_option maxRecDepth 20000 in
theorem fwwsX11_mend_121 : (.fieldLink RX11 121 "NothingJudgeModel" "thrown" "I" : Cond) ∈ wsX11_mend := List.mem_of_getElem? (i := 1) (by decide +kernel)
set_option maxRecDepth 20000 in
theorem fwwsX11_mend_83 : (.fieldLink RX11 83 "NothingJudgeModel" "entry" "I" : Cond) ∈ wsX11_mend := List.mem_of_getElem? (i := 2) (by decide +kernel)
set_option maxRecDepth 20000 in
theorem fwwsX11_mended_121 : (.fieldLink RX11 121 "NothingJudgeModel" "thrown" "I" : Cond) ∈ wsX11_mended := List.mem_of_getElem? (i := 1) (by decide +kernel)
set_option maxRecDepth 20000 in
theorem fwwsX11_mended_393 : (.fieldLink RX11 393 "NothingJudgeModel" "hasMend" "Z" : Cond) ∈ wsX11_mended := List.mem_of_getElem? (i := 2) (by decide +kernel)
set_option maxRecDepth 20000 in
theorem fwwsX11_price_121 : (.fieldLink RX11 121 "NothingJudgeModel" "thrown" "I" : Cond) ∈ wsX11_price := List.mem_of_getElem? (i := 1) (by decide +kernel)
set_option maxRecDepth 20000 in
theorem fwwsX11_price_112 : (.fieldLink RX11 112 "NothingJudgeModel" "prices" "[I" : Cond) ∈ wsX11_price := List.mem_of_getElem? (i := 2) (by decide +kernel)
set_option maxRecDepth 20000 in
theorem fwwsX11_mark_121 : (.fieldLink RX11 121 "NothingJudgeModel" "thrown" "I" : Cond) ∈ wsX11_mark := List.mem_of_getElem? (i := 1) (by decide +kernel)
set_option maxRecDepth 20000 in
theorem fwwsX11_mark_93 : (.fieldLink RX11 93 "NothingJudgeModel" "marks" "[I" : Cond) ∈ wsX11_mark := List.mem_of_getElem? (i := 4) (by decide +kernel)
set_option maxRecDepth 20000 in
theorem fwwsX11_mark_32 : (.fieldLink RX11 32 "NothingJudgeModel" "routineFrom" "[I" : Cond) ∈ wsX11_mark := List.mem_of_getElem? (i := 2) (by decide +kernel)
set_option maxRecDepth 20000 in
theorem fwwsX11_count_121 : (.fieldLink RX11 121 "NothingJudgeModel" "thrown" "I" : Cond) ∈ wsX11_count := List.mem_of_getElem? (i := 1) (by decide +kernel)
set_option maxRecDepth 20000 in
theorem fwwsX11_count_53 : (.fieldLink RX11 53 "NothingJudgeModel" "useMany" "[I" : Cond) ∈ wsX11_count := List.mem_of_getElem? (i := 2) (by decide +kernel)
set_option maxRecDepth 20000 in
theorem fwwsX11_count_62 : (.fieldLink RX11 62 "NothingJudgeModel" "testMany" "[I" : Cond) ∈ wsX11_count := List.mem_of_getElem? (i := 3) (by decide +kernel)
set_option maxRecDepth 20000 in
theorem fwwsX11_count_83 : (.fieldLink RX11 83 "NothingJudgeModel" "entry" "I" : Cond) ∈ wsX11_count := List.mem_of_getElem? (i := 4) (by decide +kernel)
set_option maxRecDepth 20000 in
theorem fwwsX11_feed_121 : (.fieldLink RX11 121 "NothingJudgeModel" "thrown" "I" : Cond) ∈ wsX11_feed := List.mem_of_getElem? (i := 1) (by decide +kernel)
set_option maxRecDepth 20000 in
theorem fwwsX11_feed_124 : (.fieldLink RX11 124 "NothingJudgeModel" "taped" "I" : Cond) ∈ wsX11_feed := List.mem_of_getElem? (i := 2) (by decide +kernel)
set_option maxRecDepth 20000 in
theorem fwwsX11_feed_7 : (.fieldLink RX11 7 "NothingJudgeModel" "tape" "[I" : Cond) ∈ wsX11_feed := List.mem_of_getElem? (i := 3) (by decide +kernel)
set_option maxRecDepth 20000 in
theorem fwwsX11_parses_127 : (.fieldLink RX11 127 "NothingJudgeModel" "at" "I" : Cond) ∈ wsX11_parses := List.mem_of_getElem? (i := 1) (by decide +kernel)
set_option maxRecDepth 20000 in
theorem fwwsX11_parses_164 : (.fieldLink RX11 164 "NothingJudgeModel" "fault" "I" : Cond) ∈ wsX11_parses := List.mem_of_getElem? (i := 2) (by decide +kernel)
set_option maxRecDepth 20000 in
theorem fwwsX11_parses_167 : (.fieldLink RX11 167 "NothingJudgeModel" "faultPlace" "I" : Cond) ∈ wsX11_parses := List.mem_of_getElem? (i := 3) (by decide +kernel)
set_option maxRecDepth 20000 in
theorem fwwsX11_parses_183 : (.fieldLink RX11 183 "NothingJudgeModel" "acts" "I" : Cond) ∈ wsX11_parses := List.mem_of_getElem? (i := 4) (by decide +kernel)
set_option maxRecDepth 20000 in
theorem fwwsX11_parses_186 : (.fieldLink RX11 186 "NothingJudgeModel" "calls" "I" : Cond) ∈ wsX11_parses := List.mem_of_getElem? (i := 5) (by decide +kernel)
set_option maxRecDepth 20000 in
theorem fwwsX11_parses_189 : (.fieldLink RX11 189 "NothingJudgeModel" "blocks" "I" : Cond) ∈ wsX11_parses := List.mem_of_getElem? (i := 6) (by decide +kernel)
set_option maxRecDepth 20000 in
theorem fwwsX11_parses_53 : (.fieldLink RX11 53 "NothingJudgeModel" "useMany" "[I" : Cond) ∈ wsX11_parses := List.mem_of_getElem? (i := 7) (by decide +kernel)
set_option maxRecDepth 20000 in
theorem fwwsX11_parses_62 : (.fieldLink RX11 62 "NothingJudgeModel" "testMany" "[I" : Cond) ∈ wsX11_parses := List.mem_of_getElem? (i := 8) (by decide +kernel)
set_option maxRecDepth 20000 in
theorem fwwsX11_parses_41 : (.fieldLink RX11 41 "NothingJudgeModel" "firstRoutine" "[I" : Cond) ∈ wsX11_parses := List.mem_of_getElem? (i := 9) (by decide +kernel)
set_option maxRecDepth 20000 in
theorem fwwsX11_parses_140 : (.fieldLink RX11 140 "NothingJudgeModel" "sort" "I" : Cond) ∈ wsX11_parses := List.mem_of_getElem? (i := 11) (by decide +kernel)
set_option maxRecDepth 20000 in
theorem fwwsX11_parses_32 : (.fieldLink RX11 32 "NothingJudgeModel" "routineFrom" "[I" : Cond) ∈ wsX11_parses := List.mem_of_getElem? (i := 10) (by decide +kernel)
set_option maxRecDepth 20000 in
theorem fwwsX11_comes_183 : (.fieldLink RX11 183 "NothingJudgeModel" "acts" "I" : Cond) ∈ wsX11_comes := List.mem_of_getElem? (i := 1) (by decide +kernel)
set_option maxRecDepth 20000 in
theorem fwwsX11_comes_251 : (.fieldLink RX11 251 "NothingJudgeModel" "actMany" "I" : Cond) ∈ wsX11_comes := List.mem_of_getElem? (i := 2) (by decide +kernel)
set_option maxRecDepth 20000 in
theorem fwwsX11_comes_41 : (.fieldLink RX11 41 "NothingJudgeModel" "firstRoutine" "[I" : Cond) ∈ wsX11_comes := List.mem_of_getElem? (i := 11) (by decide +kernel)
set_option maxRecDepth 20000 in
theorem fwwsX11_comes_53 : (.fieldLink RX11 53 "NothingJudgeModel" "useMany" "[I" : Cond) ∈ wsX11_comes := List.mem_of_getElem? (i := 15) (by decide +kernel)
set_option maxRecDepth 20000 in
theorem fwwsX11_comes_62 : (.fieldLink RX11 62 "NothingJudgeModel" "testMany" "[I" : Cond) ∈ wsX11_comes := List.mem_of_getElem? (i := 18) (by decide +kernel)
set_option maxRecDepth 20000 in
theorem fwwsX11_comes_56 : (.fieldLink RX11 56 "NothingJudgeModel" "testRoutine" "[I" : Cond) ∈ wsX11_comes := List.mem_of_getElem? (i := 16) (by decide +kernel)
set_option maxRecDepth 20000 in
theorem fwwsX11_comes_59 : (.fieldLink RX11 59 "NothingJudgeModel" "testPlace" "[I" : Cond) ∈ wsX11_comes := List.mem_of_getElem? (i := 17) (by decide +kernel)
set_option maxRecDepth 20000 in
theorem fwwsX11_comes_44 : (.fieldLink RX11 44 "NothingJudgeModel" "useRoutine" "[I" : Cond) ∈ wsX11_comes := List.mem_of_getElem? (i := 12) (by decide +kernel)
set_option maxRecDepth 20000 in
theorem fwwsX11_comes_47 : (.fieldLink RX11 47 "NothingJudgeModel" "usePlace" "[I" : Cond) ∈ wsX11_comes := List.mem_of_getElem? (i := 13) (by decide +kernel)
set_option maxRecDepth 20000 in
theorem fwwsX11_comes_50 : (.fieldLink RX11 50 "NothingJudgeModel" "useName" "[I" : Cond) ∈ wsX11_comes := List.mem_of_getElem? (i := 14) (by decide +kernel)
set_option maxRecDepth 20000 in
theorem fwwsX11_comes_38 : (.fieldLink RX11 38 "NothingJudgeModel" "paramNames" "[I" : Cond) ∈ wsX11_comes := List.mem_of_getElem? (i := 10) (by decide +kernel)
set_option maxRecDepth 20000 in
theorem fwwsX11_comes_32 : (.fieldLink RX11 32 "NothingJudgeModel" "routineFrom" "[I" : Cond) ∈ wsX11_comes := List.mem_of_getElem? (i := 8) (by decide +kernel)
set_option maxRecDepth 20000 in
theorem fwwsX11_comes_35 : (.fieldLink RX11 35 "NothingJudgeModel" "params" "[I" : Cond) ∈ wsX11_comes := List.mem_of_getElem? (i := 9) (by decide +kernel)
set_option maxRecDepth 20000 in
theorem fwwsX11_text_121 : (.fieldLink RX11 121 "NothingJudgeModel" "thrown" "I" : Cond) ∈ wsX11_text := List.mem_of_getElem? (i := 1) (by decide +kernel)
set_option maxRecDepth 20000 in
theorem fwwsX11_text_124 : (.fieldLink RX11 124 "NothingJudgeModel" "taped" "I" : Cond) ∈ wsX11_text := List.mem_of_getElem? (i := 2) (by decide +kernel)
set_option maxRecDepth 20000 in
theorem fwwsX11_text_130 : (.fieldLink RX11 130 "NothingJudgeModel" "size" "I" : Cond) ∈ wsX11_text := List.mem_of_getElem? (i := 3) (by decide +kernel)
set_option maxRecDepth 20000 in
theorem fwwsX11_text_164 : (.fieldLink RX11 164 "NothingJudgeModel" "fault" "I" : Cond) ∈ wsX11_text := List.mem_of_getElem? (i := 4) (by decide +kernel)
set_option maxRecDepth 20000 in
theorem fwwsX11_text_242 : (.fieldLink RX11 242 "NothingJudgeModel" "lastFault" "I" : Cond) ∈ wsX11_text := List.mem_of_getElem? (i := 5) (by decide +kernel)
set_option maxRecDepth 20000 in
theorem fwwsX11_text_167 : (.fieldLink RX11 167 "NothingJudgeModel" "faultPlace" "I" : Cond) ∈ wsX11_text := List.mem_of_getElem? (i := 6) (by decide +kernel)
set_option maxRecDepth 20000 in
theorem fwwsX11_text_13 : (.fieldLink RX11 13 "NothingJudgeModel" "lastPlace" "I" : Cond) ∈ wsX11_text := List.mem_of_getElem? (i := 7) (by decide +kernel)
set_option maxRecDepth 20000 in
theorem ol_wsX11_init : (.methodLink RX11 1 objectInit : Cond) ∈ wsX11_init := List.mem_of_getElem? (i := 1) (by decide +kernel)
set_option maxRecDepth 20000 in
theorem oi_wsX11_init : (.instanceMethod objectInit : Cond) ∈ wsX11_init := List.mem_of_getElem? (i := 2) (by decide +kernel)
set_option maxRecDepth 20000 in
theorem oc_wsX11_init : (.code objectInit ⟨#[0xb1]⟩ 1 none : Cond) ∈ wsX11_init := List.mem_of_getElem? (i := 3) (by decide +kernel)
set_option maxRecDepth 20000 in
theorem ac_int_wsX11_init : (.arrayClass .int : Cond) ∈ wsX11_init := List.mem_of_getElem? (i := 4) (by decide +kernel)
set_option maxRecDepth 20000 in
theorem fwwsX11_init_7 : (.fieldLink RX11 7 "NothingJudgeModel" "tape" "[I" : Cond) ∈ wsX11_init := List.mem_of_getElem? (i := 5) (by decide +kernel)
set_option maxRecDepth 20000 in
theorem fwwsX11_init_13 : (.fieldLink RX11 13 "NothingJudgeModel" "lastPlace" "I" : Cond) ∈ wsX11_init := List.mem_of_getElem? (i := 6) (by decide +kernel)
set_option maxRecDepth 20000 in
theorem fwwsX11_init_17 : (.fieldLink RX11 17 "NothingJudgeModel" "act" "[I" : Cond) ∈ wsX11_init := List.mem_of_getElem? (i := 7) (by decide +kernel)
set_option maxRecDepth 20000 in
theorem fwwsX11_init_20 : (.fieldLink RX11 20 "NothingJudgeModel" "one" "[I" : Cond) ∈ wsX11_init := List.mem_of_getElem? (i := 8) (by decide +kernel)
set_option maxRecDepth 20000 in
theorem fwwsX11_init_23 : (.fieldLink RX11 23 "NothingJudgeModel" "two" "[I" : Cond) ∈ wsX11_init := List.mem_of_getElem? (i := 9) (by decide +kernel)
set_option maxRecDepth 20000 in
theorem fwwsX11_init_26 : (.fieldLink RX11 26 "NothingJudgeModel" "three" "[I" : Cond) ∈ wsX11_init := List.mem_of_getElem? (i := 10) (by decide +kernel)
set_option maxRecDepth 20000 in
theorem fwwsX11_init_29 : (.fieldLink RX11 29 "NothingJudgeModel" "argsOf" "[I" : Cond) ∈ wsX11_init := List.mem_of_getElem? (i := 11) (by decide +kernel)
set_option maxRecDepth 20000 in
theorem fwwsX11_init_32 : (.fieldLink RX11 32 "NothingJudgeModel" "routineFrom" "[I" : Cond) ∈ wsX11_init := List.mem_of_getElem? (i := 12) (by decide +kernel)
set_option maxRecDepth 20000 in
theorem fwwsX11_init_35 : (.fieldLink RX11 35 "NothingJudgeModel" "params" "[I" : Cond) ∈ wsX11_init := List.mem_of_getElem? (i := 13) (by decide +kernel)
set_option maxRecDepth 20000 in
theorem fwwsX11_init_38 : (.fieldLink RX11 38 "NothingJudgeModel" "paramNames" "[I" : Cond) ∈ wsX11_init := List.mem_of_getElem? (i := 14) (by decide +kernel)
set_option maxRecDepth 20000 in
theorem fwwsX11_init_41 : (.fieldLink RX11 41 "NothingJudgeModel" "firstRoutine" "[I" : Cond) ∈ wsX11_init := List.mem_of_getElem? (i := 15) (by decide +kernel)
set_option maxRecDepth 20000 in
theorem fwwsX11_init_44 : (.fieldLink RX11 44 "NothingJudgeModel" "useRoutine" "[I" : Cond) ∈ wsX11_init := List.mem_of_getElem? (i := 16) (by decide +kernel)
set_option maxRecDepth 20000 in
theorem fwwsX11_init_47 : (.fieldLink RX11 47 "NothingJudgeModel" "usePlace" "[I" : Cond) ∈ wsX11_init := List.mem_of_getElem? (i := 17) (by decide +kernel)
set_option maxRecDepth 20000 in
theorem fwwsX11_init_50 : (.fieldLink RX11 50 "NothingJudgeModel" "useName" "[I" : Cond) ∈ wsX11_init := List.mem_of_getElem? (i := 18) (by decide +kernel)
set_option maxRecDepth 20000 in
theorem fwwsX11_init_53 : (.fieldLink RX11 53 "NothingJudgeModel" "useMany" "[I" : Cond) ∈ wsX11_init := List.mem_of_getElem? (i := 19) (by decide +kernel)
set_option maxRecDepth 20000 in
theorem fwwsX11_init_56 : (.fieldLink RX11 56 "NothingJudgeModel" "testRoutine" "[I" : Cond) ∈ wsX11_init := List.mem_of_getElem? (i := 20) (by decide +kernel)
set_option maxRecDepth 20000 in
theorem fwwsX11_init_59 : (.fieldLink RX11 59 "NothingJudgeModel" "testPlace" "[I" : Cond) ∈ wsX11_init := List.mem_of_getElem? (i := 21) (by decide +kernel)
set_option maxRecDepth 20000 in
theorem fwwsX11_init_62 : (.fieldLink RX11 62 "NothingJudgeModel" "testMany" "[I" : Cond) ∈ wsX11_init := List.mem_of_getElem? (i := 22) (by decide +kernel)
set_option maxRecDepth 20000 in
theorem fwwsX11_init_65 : (.fieldLink RX11 65 "NothingJudgeModel" "callPlace" "[I" : Cond) ∈ wsX11_init := List.mem_of_getElem? (i := 23) (by decide +kernel)
set_option maxRecDepth 20000 in
theorem fwwsX11_init_68 : (.fieldLink RX11 68 "NothingJudgeModel" "callLetter" "[I" : Cond) ∈ wsX11_init := List.mem_of_getElem? (i := 24) (by decide +kernel)
set_option maxRecDepth 20000 in
theorem fwwsX11_init_71 : (.fieldLink RX11 71 "NothingJudgeModel" "callArgs" "[I" : Cond) ∈ wsX11_init := List.mem_of_getElem? (i := 25) (by decide +kernel)
set_option maxRecDepth 20000 in
theorem fwwsX11_init_74 : (.fieldLink RX11 74 "NothingJudgeModel" "blockKind" "[I" : Cond) ∈ wsX11_init := List.mem_of_getElem? (i := 26) (by decide +kernel)
set_option maxRecDepth 20000 in
theorem fwwsX11_init_77 : (.fieldLink RX11 77 "NothingJudgeModel" "blockWaits" "[I" : Cond) ∈ wsX11_init := List.mem_of_getElem? (i := 27) (by decide +kernel)
set_option maxRecDepth 20000 in
theorem fwwsX11_init_80 : (.fieldLink RX11 80 "NothingJudgeModel" "blockTest" "[I" : Cond) ∈ wsX11_init := List.mem_of_getElem? (i := 28) (by decide +kernel)
set_option maxRecDepth 20000 in
theorem fwwsX11_init_83 : (.fieldLink RX11 83 "NothingJudgeModel" "entry" "I" : Cond) ∈ wsX11_init := List.mem_of_getElem? (i := 29) (by decide +kernel)
set_option maxRecDepth 20000 in
theorem fwwsX11_init_86 : (.fieldLink RX11 86 "NothingJudgeModel" "outers" "[I" : Cond) ∈ wsX11_init := List.mem_of_getElem? (i := 30) (by decide +kernel)
set_option maxRecDepth 20000 in
theorem ac_long_wsX11_init : (.arrayClass .long : Cond) ∈ wsX11_init := List.mem_of_getElem? (i := 31) (by decide +kernel)
set_option maxRecDepth 20000 in
theorem fwwsX11_init_89 : (.fieldLink RX11 89 "NothingJudgeModel" "ahead" "[J" : Cond) ∈ wsX11_init := List.mem_of_getElem? (i := 32) (by decide +kernel)
set_option maxRecDepth 20000 in
theorem fwwsX11_init_93 : (.fieldLink RX11 93 "NothingJudgeModel" "marks" "[I" : Cond) ∈ wsX11_init := List.mem_of_getElem? (i := 33) (by decide +kernel)
set_option maxRecDepth 20000 in
theorem ac_boolean_wsX11_init : (.arrayClass .boolean : Cond) ∈ wsX11_init := List.mem_of_getElem? (i := 34) (by decide +kernel)
set_option maxRecDepth 20000 in
theorem fwwsX11_init_96 : (.fieldLink RX11 96 "NothingJudgeModel" "isHeld" "[Z" : Cond) ∈ wsX11_init := List.mem_of_getElem? (i := 35) (by decide +kernel)
set_option maxRecDepth 20000 in
theorem fwwsX11_init_100 : (.fieldLink RX11 100 "NothingJudgeModel" "tested" "[I" : Cond) ∈ wsX11_init := List.mem_of_getElem? (i := 36) (by decide +kernel)
set_option maxRecDepth 20000 in
theorem fwwsX11_init_103 : (.fieldLink RX11 103 "NothingJudgeModel" "fields" "[I" : Cond) ∈ wsX11_init := List.mem_of_getElem? (i := 37) (by decide +kernel)
set_option maxRecDepth 20000 in
theorem fwwsX11_init_106 : (.fieldLink RX11 106 "NothingJudgeModel" "names" "[I" : Cond) ∈ wsX11_init := List.mem_of_getElem? (i := 38) (by decide +kernel)
set_option maxRecDepth 20000 in
theorem fwwsX11_init_109 : (.fieldLink RX11 109 "NothingJudgeModel" "backTo" "[I" : Cond) ∈ wsX11_init := List.mem_of_getElem? (i := 39) (by decide +kernel)
set_option maxRecDepth 20000 in
theorem fwwsX11_init_112 : (.fieldLink RX11 112 "NothingJudgeModel" "prices" "[I" : Cond) ∈ wsX11_init := List.mem_of_getElem? (i := 40) (by decide +kernel)
set_option maxRecDepth 20000 in
theorem fwwsX11_init_115 : (.fieldLink RX11 115 "NothingJudgeModel" "candidates" "[I" : Cond) ∈ wsX11_init := List.mem_of_getElem? (i := 41) (by decide +kernel)
set_option maxRecDepth 20000 in
theorem fwwsX11_init_118 : (.fieldLink RX11 118 "NothingJudgeModel" "mendMarks" "[I" : Cond) ∈ wsX11_init := List.mem_of_getElem? (i := 42) (by decide +kernel)
