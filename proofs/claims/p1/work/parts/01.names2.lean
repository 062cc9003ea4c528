theorem inlX0 : ∀ w ∈ wsX00, w ∈ wsL_law := fun _ h => List.mem_append_left _ (List.mem_append_right _ h)
theorem inX0 : ∀ w ∈ wsX00, w ∈ lw_tbl := fun w h => wsL_law_in w (inlX0 w h)
theorem inlX1 : ∀ w ∈ wsX10, w ∈ wsL_law := fun _ h => List.mem_append_left _ (List.mem_append_left _ (List.mem_append_left _ (List.mem_append_left _ (List.mem_append_left _ (List.mem_append_right _ h)))))
theorem inX1 : ∀ w ∈ wsX10, w ∈ lw_tbl := fun w h => wsL_law_in w (inlX1 w h)
theorem inlX2 : ∀ w ∈ wsX20, w ∈ wsL_law := fun _ h => List.mem_append_left _ (List.mem_append_left _ (List.mem_append_right _ h))
theorem inX2 : ∀ w ∈ wsX20, w ∈ lw_tbl := fun w h => wsL_law_in w (inlX2 w h)
theorem inlX3 : ∀ w ∈ wsX30, w ∈ wsL_law := fun _ h => List.mem_append_left _ (List.mem_append_left _ (List.mem_append_left _ (List.mem_append_left _ (List.mem_append_left _ (List.mem_append_left _ (List.mem_append_left _ (List.mem_append_left _ (List.mem_append_right _ h))))))))
theorem inX3 : ∀ w ∈ wsX30, w ∈ lw_tbl := fun w h => wsL_law_in w (inlX3 w h)
theorem inlX4 : ∀ w ∈ wsX40, w ∈ wsL_law := fun _ h => List.mem_append_left _ (List.mem_append_left _ (List.mem_append_left _ (List.mem_append_left _ (List.mem_append_left _ (List.mem_append_left _ (List.mem_append_left _ (List.mem_append_right _ h)))))))
theorem inX4 : ∀ w ∈ wsX40, w ∈ lw_tbl := fun w h => wsL_law_in w (inlX4 w h)
theorem inX5 : ∀ w ∈ wsX50, w ∈ lw_tbl := by decide +kernel
theorem inlX6 : ∀ w ∈ wsX60, w ∈ wsL_law := fun _ h => List.mem_append_left _ (List.mem_append_left _ (List.mem_append_left _ (List.mem_append_left _ (List.mem_append_right _ h))))
theorem inX6 : ∀ w ∈ wsX60, w ∈ lw_tbl := fun w h => wsL_law_in w (inlX6 w h)
theorem inlX7 : ∀ w ∈ wsX70, w ∈ wsL_law := fun _ h => List.mem_append_left _ (List.mem_append_left _ (List.mem_append_left _ (List.mem_append_left _ (List.mem_append_left _ (List.mem_append_left _ (List.mem_append_right _ h))))))
theorem inX7 : ∀ w ∈ wsX70, w ∈ lw_tbl := fun w h => wsL_law_in w (inlX7 w h)
theorem inlX8 : ∀ w ∈ wsX80, w ∈ wsL_law := fun _ h => List.mem_append_left _ (List.mem_append_left _ (List.mem_append_left _ (List.mem_append_left _ (List.mem_append_left _ (List.mem_append_left _ (List.mem_append_left _ (List.mem_append_left _ (List.mem_append_left _ (List.mem_append_right _ h)))))))))
theorem inX8 : ∀ w ∈ wsX80, w ∈ lw_tbl := fun w h => wsL_law_in w (inlX8 w h)
theorem inlX9 : ∀ w ∈ wsX90, w ∈ wsL_law := fun _ h => List.mem_append_left _ (List.mem_append_left _ (List.mem_append_left _ (List.mem_append_right _ h)))
theorem inX9 : ∀ w ∈ wsX90, w ∈ lw_tbl := fun w h => wsL_law_in w (inlX9 w h)
theorem inlX10 : ∀ w ∈ wsX100, w ∈ wsL_law := fun _ h => List.mem_append_left _ (List.mem_append_left _ (List.mem_append_left _ (List.mem_append_left _ (List.mem_append_left _ (List.mem_append_left _ (List.mem_append_left _ (List.mem_append_left _ (List.mem_append_left _ (List.mem_append_left _ (List.mem_append_left _ (List.mem_append_right _ h)))))))))))
theorem inX10 : ∀ w ∈ wsX100, w ∈ lw_tbl := fun w h => wsL_law_in w (inlX10 w h)
theorem inlX11 : ∀ w ∈ wsX110, w ∈ wsL_law := fun _ h => List.mem_append_left _ (List.mem_append_left _ (List.mem_append_left _ (List.mem_append_left _ (List.mem_append_left _ (List.mem_append_left _ (List.mem_append_left _ (List.mem_append_left _ (List.mem_append_left _ (List.mem_append_left _ (List.mem_append_right _ h))))))))))
theorem inX11 : ∀ w ∈ wsX110, w ∈ lw_tbl := fun w h => wsL_law_in w (inlX11 w h)
theorem inJ9 : ∀ w ∈ wsJ90, w ∈ lw_tbl := by decide +kernel
theorem inJ0 : ∀ w ∈ wsJ00, w ∈ lw_tbl := by decide +kernel
theorem inJ1 : ∀ w ∈ wsJ10, w ∈ lw_tbl := by decide +kernel
theorem inJ2 : ∀ w ∈ wsJ20, w ∈ lw_tbl := by decide +kernel
theorem inJ7 : ∀ w ∈ wsJ70, w ∈ lw_tbl := by decide +kernel
theorem inJ3 : ∀ w ∈ wsJ30, w ∈ lw_tbl := by decide +kernel
theorem dX0_init_0 : decode cX0_init 0 = .ok (.aload_n 0, 1) := by decide +kernel
theorem dX0_init_1 : decode cX0_init 1 = .ok (.invokespecial 5, 3) := by decide +kernel
theorem dX0_init_4 : decode cX0_init 4 = .ok (.aload_n 0, 1) := by decide +kernel
theorem dX0_init_5 : decode cX0_init 5 = .ok (.sipush 3648, 3) := by decide +kernel
theorem dX0_init_8 : decode cX0_init 8 = .ok (.newarray .int, 2) := by decide +kernel
theorem dX0_init_10 : decode cX0_init 10 = .ok (.putfield 11, 3) := by decide +kernel
theorem dX0_init_13 : decode cX0_init 13 = .ok (.return_, 1) := by decide +kernel
set_option maxRecDepth 20000 in
theorem ggX0_add_X0_set : GoodIn wsX0_add wsX0_set := goodIn_r _ [6, 1, 7, 8, 9] (by decide +kernel) (by decide +kernel)
set_option maxRecDepth 20000 in
theorem gX0_add_X0_set : GoodIn wsX0_add (wsV RX0 19 RX0 yX0_set wsX0_set) := goodIn_app (goodIn_of _ (by decide +kernel)) ggX0_add_X0_set
theorem dX0_add_0 : decode cX0_add 0 = .ok (.aload_n 0, 1) := by decide +kernel
theorem dX0_add_1 : decode cX0_add 1 = .ok (.getfield 15, 3) := by decide +kernel
theorem dX0_add_4 : decode cX0_add 4 = .ok (.istore_n 3, 1) := by decide +kernel
theorem dX0_add_5 : decode cX0_add 5 = .ok (.iload_n 3, 1) := by decide +kernel
theorem dX0_add_6 : decode cX0_add 6 = .ok (.ifCond .lt 10, 3) := by decide +kernel
theorem dX0_add_9 : decode cX0_add 9 = .ok (.iload_n 3, 1) := by decide +kernel
theorem dX0_add_10 : decode cX0_add 10 = .ok (.sipush 304, 3) := by decide +kernel
theorem dX0_add_13 : decode cX0_add 13 = .ok (.if_icmp .lt 5, 3) := by decide +kernel
theorem dX0_add_16 : decode cX0_add 16 = .ok (.iconst (-1), 1) := by decide +kernel
theorem dX0_add_17 : decode cX0_add 17 = .ok (.ireturn, 1) := by decide +kernel
theorem dX0_add_18 : decode cX0_add 18 = .ok (.aload_n 0, 1) := by decide +kernel
theorem dX0_add_19 : decode cX0_add 19 = .ok (.dup, 1) := by decide +kernel
theorem dX0_add_20 : decode cX0_add 20 = .ok (.getfield 15, 3) := by decide +kernel
theorem dX0_add_23 : decode cX0_add 23 = .ok (.iconst 1, 1) := by decide +kernel
theorem dX0_add_24 : decode cX0_add 24 = .ok (.iadd, 1) := by decide +kernel
theorem dX0_add_25 : decode cX0_add 25 = .ok (.putfield 15, 3) := by decide +kernel
theorem dX0_add_28 : decode cX0_add 28 = .ok (.iconst 0, 1) := by decide +kernel
theorem dX0_add_29 : decode cX0_add 29 = .ok (.istore 4, 2) := by decide +kernel
theorem dX0_add_31 : decode cX0_add 31 = .ok (.iload 4, 2) := by decide +kernel
theorem dX0_add_33 : decode cX0_add 33 = .ok (.bipush 12, 2) := by decide +kernel
theorem dX0_add_35 : decode cX0_add 35 = .ok (.if_icmp .ge 17, 3) := by decide +kernel
theorem dX0_add_38 : decode cX0_add 38 = .ok (.aload_n 0, 1) := by decide +kernel
theorem dX0_add_39 : decode cX0_add 39 = .ok (.iload_n 3, 1) := by decide +kernel
theorem dX0_add_40 : decode cX0_add 40 = .ok (.iload 4, 2) := by decide +kernel
theorem dX0_add_42 : decode cX0_add 42 = .ok (.iconst 0, 1) := by decide +kernel
theorem dX0_add_43 : decode cX0_add 43 = .ok (.invokevirtual 19, 3) := by decide +kernel
theorem dX0_add_46 : decode cX0_add 46 = .ok (.iinc 4 1, 3) := by decide +kernel
theorem dX0_add_49 : decode cX0_add 49 = .ok (.goto (-18), 3) := by decide +kernel
theorem dX0_add_52 : decode cX0_add 52 = .ok (.aload_n 0, 1) := by decide +kernel
theorem dX0_add_53 : decode cX0_add 53 = .ok (.iload_n 3, 1) := by decide +kernel
theorem dX0_add_54 : decode cX0_add 54 = .ok (.iconst 0, 1) := by decide +kernel
theorem dX0_add_55 : decode cX0_add 55 = .ok (.iload_n 1, 1) := by decide +kernel
theorem dX0_add_56 : decode cX0_add 56 = .ok (.invokevirtual 19, 3) := by decide +kernel
theorem dX0_add_59 : decode cX0_add 59 = .ok (.aload_n 0, 1) := by decide +kernel
theorem dX0_add_60 : decode cX0_add 60 = .ok (.iload_n 3, 1) := by decide +kernel
theorem dX0_add_61 : decode cX0_add 61 = .ok (.bipush 11, 2) := by decide +kernel
theorem dX0_add_63 : decode cX0_add 63 = .ok (.iload_n 2, 1) := by decide +kernel
theorem dX0_add_64 : decode cX0_add 64 = .ok (.invokevirtual 19, 3) := by decide +kernel
theorem dX0_add_67 : decode cX0_add 67 = .ok (.iload_n 3, 1) := by decide +kernel
theorem dX0_add_68 : decode cX0_add 68 = .ok (.ireturn, 1) := by decide +kernel
theorem dX0_get_0 : decode cX0_get 0 = .ok (.iload_n 1, 1) := by decide +kernel
theorem dX0_get_1 : decode cX0_get 1 = .ok (.bipush 12, 2) := by decide +kernel
theorem dX0_get_3 : decode cX0_get 3 = .ok (.imul, 1) := by decide +kernel
theorem dX0_get_4 : decode cX0_get 4 = .ok (.iload_n 2, 1) := by decide +kernel
theorem dX0_get_5 : decode cX0_get 5 = .ok (.iadd, 1) := by decide +kernel
theorem dX0_get_6 : decode cX0_get 6 = .ok (.istore_n 3, 1) := by decide +kernel
theorem dX0_get_7 : decode cX0_get 7 = .ok (.iload_n 1, 1) := by decide +kernel
theorem dX0_get_8 : decode cX0_get 8 = .ok (.ifCond .lt 33, 3) := by decide +kernel
theorem dX0_get_11 : decode cX0_get 11 = .ok (.iload_n 1, 1) := by decide +kernel
theorem dX0_get_12 : decode cX0_get 12 = .ok (.aload_n 0, 1) := by decide +kernel
theorem dX0_get_13 : decode cX0_get 13 = .ok (.getfield 15, 3) := by decide +kernel
theorem dX0_get_16 : decode cX0_get 16 = .ok (.if_icmp .ge 25, 3) := by decide +kernel
theorem dX0_get_19 : decode cX0_get 19 = .ok (.iload_n 3, 1) := by decide +kernel
theorem dX0_get_20 : decode cX0_get 20 = .ok (.ifCond .lt 21, 3) := by decide +kernel
theorem dX0_get_23 : decode cX0_get 23 = .ok (.iload_n 3, 1) := by decide +kernel
theorem dX0_get_24 : decode cX0_get 24 = .ok (.aload_n 0, 1) := by decide +kernel
theorem dX0_get_25 : decode cX0_get 25 = .ok (.getfield 11, 3) := by decide +kernel
theorem dX0_get_28 : decode cX0_get 28 = .ok (.arraylength, 1) := by decide +kernel
theorem dX0_get_29 : decode cX0_get 29 = .ok (.if_icmp .ge 12, 3) := by decide +kernel
theorem dX0_get_32 : decode cX0_get 32 = .ok (.aload_n 0, 1) := by decide +kernel
theorem dX0_get_33 : decode cX0_get 33 = .ok (.getfield 11, 3) := by decide +kernel
theorem dX0_get_36 : decode cX0_get 36 = .ok (.iload_n 3, 1) := by decide +kernel
theorem dX0_get_37 : decode cX0_get 37 = .ok (.iaload, 1) := by decide +kernel
theorem dX0_get_38 : decode cX0_get 38 = .ok (.goto 4, 3) := by decide +kernel
theorem dX0_get_41 : decode cX0_get 41 = .ok (.iconst 0, 1) := by decide +kernel
theorem dX0_get_42 : decode cX0_get 42 = .ok (.ireturn, 1) := by decide +kernel
theorem dX0_set_0 : decode cX0_set 0 = .ok (.iload_n 1, 1) := by decide +kernel
theorem dX0_set_1 : decode cX0_set 1 = .ok (.bipush 12, 2) := by decide +kernel
theorem dX0_set_3 : decode cX0_set 3 = .ok (.imul, 1) := by decide +kernel
theorem dX0_set_4 : decode cX0_set 4 = .ok (.iload_n 2, 1) := by decide +kernel
theorem dX0_set_5 : decode cX0_set 5 = .ok (.iadd, 1) := by decide +kernel
theorem dX0_set_6 : decode cX0_set 6 = .ok (.istore 4, 2) := by decide +kernel
theorem dX0_set_8 : decode cX0_set 8 = .ok (.iload_n 1, 1) := by decide +kernel
theorem dX0_set_9 : decode cX0_set 9 = .ok (.ifCond .lt 34, 3) := by decide +kernel
theorem dX0_set_12 : decode cX0_set 12 = .ok (.iload_n 1, 1) := by decide +kernel
theorem dX0_set_13 : decode cX0_set 13 = .ok (.aload_n 0, 1) := by decide +kernel
theorem dX0_set_14 : decode cX0_set 14 = .ok (.getfield 15, 3) := by decide +kernel
theorem dX0_set_17 : decode cX0_set 17 = .ok (.if_icmp .ge 26, 3) := by decide +kernel
theorem dX0_set_20 : decode cX0_set 20 = .ok (.iload 4, 2) := by decide +kernel
theorem dX0_set_22 : decode cX0_set 22 = .ok (.ifCond .lt 21, 3) := by decide +kernel
theorem dX0_set_25 : decode cX0_set 25 = .ok (.iload 4, 2) := by decide +kernel
theorem dX0_set_27 : decode cX0_set 27 = .ok (.aload_n 0, 1) := by decide +kernel
theorem dX0_set_28 : decode cX0_set 28 = .ok (.getfield 11, 3) := by decide +kernel
theorem dX0_set_31 : decode cX0_set 31 = .ok (.arraylength, 1) := by decide +kernel
theorem dX0_set_32 : decode cX0_set 32 = .ok (.if_icmp .ge 11, 3) := by decide +kernel
theorem dX0_set_35 : decode cX0_set 35 = .ok (.aload_n 0, 1) := by decide +kernel
theorem dX0_set_36 : decode cX0_set 36 = .ok (.getfield 11, 3) := by decide +kernel
theorem dX0_set_39 : decode cX0_set 39 = .ok (.iload 4, 2) := by decide +kernel
theorem dX0_set_41 : decode cX0_set 41 = .ok (.iload_n 3, 1) := by decide +kernel
theorem dX0_set_42 : decode cX0_set 42 = .ok (.iastore, 1) := by decide +kernel
theorem dX0_set_43 : decode cX0_set 43 = .ok (.return_, 1) := by decide +kernel
set_option maxRecDepth 20000 in
theorem ggX0_addArgument_X0_get : GoodIn wsX0_addArgument wsX0_get := goodIn_r _ [6, 7, 8, 13, 14] (by decide +kernel) (by decide +kernel)
set_option maxRecDepth 20000 in
theorem gX0_addArgument_X0_get : GoodIn wsX0_addArgument (wsV RX0 23 RX0 yX0_get wsX0_get) := goodIn_app (goodIn_of _ (by decide +kernel)) ggX0_addArgument_X0_get
set_option maxRecDepth 20000 in
theorem ggX0_addArgument_X0_set : GoodIn wsX0_addArgument wsX0_set := goodIn_r _ [12, 7, 8, 13, 14] (by decide +kernel) (by decide +kernel)
set_option maxRecDepth 20000 in
theorem gX0_addArgument_X0_set : GoodIn wsX0_addArgument (wsV RX0 19 RX0 yX0_set wsX0_set) := goodIn_app (goodIn_of _ (by decide +kernel)) ggX0_addArgument_X0_set
theorem dX0_addArgument_0 : decode cX0_addArgument 0 = .ok (.aload_n 0, 1) := by decide +kernel
theorem dX0_addArgument_1 : decode cX0_addArgument 1 = .ok (.iload_n 1, 1) := by decide +kernel
theorem dX0_addArgument_2 : decode cX0_addArgument 2 = .ok (.bipush 8, 2) := by decide +kernel
theorem dX0_addArgument_4 : decode cX0_addArgument 4 = .ok (.invokevirtual 23, 3) := by decide +kernel
theorem dX0_addArgument_7 : decode cX0_addArgument 7 = .ok (.istore_n 3, 1) := by decide +kernel
theorem dX0_addArgument_8 : decode cX0_addArgument 8 = .ok (.iload_n 3, 1) := by decide +kernel
theorem dX0_addArgument_9 : decode cX0_addArgument 9 = .ok (.bipush 20, 2) := by decide +kernel
theorem dX0_addArgument_11 : decode cX0_addArgument 11 = .ok (.ishr, 1) := by decide +kernel
theorem dX0_addArgument_12 : decode cX0_addArgument 12 = .ok (.istore 4, 2) := by decide +kernel
theorem dX0_addArgument_14 : decode cX0_addArgument 14 = .ok (.aload_n 0, 1) := by decide +kernel
theorem dX0_addArgument_15 : decode cX0_addArgument 15 = .ok (.iload_n 1, 1) := by decide +kernel
theorem dX0_addArgument_16 : decode cX0_addArgument 16 = .ok (.bipush 8, 2) := by decide +kernel
theorem dX0_addArgument_18 : decode cX0_addArgument 18 = .ok (.iload_n 3, 1) := by decide +kernel
theorem dX0_addArgument_19 : decode cX0_addArgument 19 = .ok (.ldc 27, 2) := by decide +kernel
theorem dX0_addArgument_21 : decode cX0_addArgument 21 = .ok (.iadd, 1) := by decide +kernel
theorem dX0_addArgument_22 : decode cX0_addArgument 22 = .ok (.iload_n 2, 1) := by decide +kernel
theorem dX0_addArgument_23 : decode cX0_addArgument 23 = .ok (.iload 4, 2) := by decide +kernel
theorem dX0_addArgument_25 : decode cX0_addArgument 25 = .ok (.iconst 5, 1) := by decide +kernel
theorem dX0_addArgument_26 : decode cX0_addArgument 26 = .ok (.imul, 1) := by decide +kernel
theorem dX0_addArgument_27 : decode cX0_addArgument 27 = .ok (.ishl, 1) := by decide +kernel
theorem dX0_addArgument_28 : decode cX0_addArgument 28 = .ok (.iadd, 1) := by decide +kernel
theorem dX0_addArgument_29 : decode cX0_addArgument 29 = .ok (.invokevirtual 19, 3) := by decide +kernel
theorem dX0_addArgument_32 : decode cX0_addArgument 32 = .ok (.return_, 1) := by decide +kernel
set_option maxRecDepth 20000 in
theorem ggX0_arguments_X0_get : GoodIn wsX0_arguments wsX0_get := goodIn_r _ [5, 6, 7, 8, 9] (by decide +kernel) (by decide +kernel)
set_option maxRecDepth 20000 in
theorem gX0_arguments_X0_get : GoodIn wsX0_arguments (wsV RX0 23 RX0 yX0_get wsX0_get) := goodIn_app (goodIn_of _ (by decide +kernel)) ggX0_arguments_X0_get
theorem dX0_arguments_0 : decode cX0_arguments 0 = .ok (.aload_n 0, 1) := by decide +kernel
theorem dX0_arguments_1 : decode cX0_arguments 1 = .ok (.iload_n 1, 1) := by decide +kernel
theorem dX0_arguments_2 : decode cX0_arguments 2 = .ok (.bipush 8, 2) := by decide +kernel
theorem dX0_arguments_4 : decode cX0_arguments 4 = .ok (.invokevirtual 23, 3) := by decide +kernel
theorem dX0_arguments_7 : decode cX0_arguments 7 = .ok (.bipush 20, 2) := by decide +kernel
theorem dX0_arguments_9 : decode cX0_arguments 9 = .ok (.ishr, 1) := by decide +kernel
theorem dX0_arguments_10 : decode cX0_arguments 10 = .ok (.ireturn, 1) := by decide +kernel
set_option maxRecDepth 20000 in
theorem ggX0_argument_X0_get : GoodIn wsX0_argument wsX0_get := goodIn_r _ [5, 6, 7, 8, 9] (by decide +kernel) (by decide +kernel)
set_option maxRecDepth 20000 in
theorem gX0_argument_X0_get : GoodIn wsX0_argument (wsV RX0 23 RX0 yX0_get wsX0_get) := goodIn_app (goodIn_of _ (by decide +kernel)) ggX0_argument_X0_get
theorem dX0_argument_0 : decode cX0_argument 0 = .ok (.aload_n 0, 1) := by decide +kernel
theorem dX0_argument_1 : decode cX0_argument 1 = .ok (.iload_n 1, 1) := by decide +kernel
theorem dX0_argument_2 : decode cX0_argument 2 = .ok (.bipush 8, 2) := by decide +kernel
theorem dX0_argument_4 : decode cX0_argument 4 = .ok (.invokevirtual 23, 3) := by decide +kernel
theorem dX0_argument_7 : decode cX0_argument 7 = .ok (.iload_n 2, 1) := by decide +kernel
theorem dX0_argument_8 : decode cX0_argument 8 = .ok (.iconst 5, 1) := by decide +kernel
theorem dX0_argument_9 : decode cX0_argument 9 = .ok (.imul, 1) := by decide +kernel
theorem dX0_argument_10 : decode cX0_argument 10 = .ok (.ishr, 1) := by decide +kernel
theorem dX0_argument_11 : decode cX0_argument 11 = .ok (.bipush 31, 2) := by decide +kernel
theorem dX0_argument_13 : decode cX0_argument 13 = .ok (.iand, 1) := by decide +kernel
theorem dX0_argument_14 : decode cX0_argument 14 = .ok (.ireturn, 1) := by decide +kernel
theorem dX1_init_0 : decode cX1_init 0 = .ok (.aload_n 0, 1) := by decide +kernel
theorem dX1_init_1 : decode cX1_init 1 = .ok (.invokespecial 3, 3) := by decide +kernel
theorem dX1_init_4 : decode cX1_init 4 = .ok (.aload_n 0, 1) := by decide +kernel
theorem dX1_init_5 : decode cX1_init 5 = .ok (.sipush 304, 3) := by decide +kernel
theorem dX1_init_8 : decode cX1_init 8 = .ok (.newarray .long, 2) := by decide +kernel
theorem dX1_init_10 : decode cX1_init 10 = .ok (.putfield 9, 3) := by decide +kernel
theorem dX1_init_13 : decode cX1_init 13 = .ok (.aload_n 0, 1) := by decide +kernel
theorem dX1_init_14 : decode cX1_init 14 = .ok (.sipush 304, 3) := by decide +kernel
theorem dX1_init_17 : decode cX1_init 17 = .ok (.newarray .int, 2) := by decide +kernel
theorem dX1_init_19 : decode cX1_init 19 = .ok (.putfield 15, 3) := by decide +kernel
theorem dX1_init_22 : decode cX1_init 22 = .ok (.aload_n 0, 1) := by decide +kernel
theorem dX1_init_23 : decode cX1_init 23 = .ok (.bipush 42, 2) := by decide +kernel
theorem dX1_init_25 : decode cX1_init 25 = .ok (.newarray .int, 2) := by decide +kernel
theorem dX1_init_27 : decode cX1_init 27 = .ok (.putfield 19, 3) := by decide +kernel
theorem dX1_init_30 : decode cX1_init 30 = .ok (.aload_n 0, 1) := by decide +kernel
theorem dX1_init_31 : decode cX1_init 31 = .ok (.bipush 40, 2) := by decide +kernel
theorem dX1_init_33 : decode cX1_init 33 = .ok (.newarray .int, 2) := by decide +kernel
theorem dX1_init_35 : decode cX1_init 35 = .ok (.putfield 22, 3) := by decide +kernel
theorem dX1_init_38 : decode cX1_init 38 = .ok (.aload_n 0, 1) := by decide +kernel
theorem dX1_init_39 : decode cX1_init 39 = .ok (.bipush 24, 2) := by decide +kernel
theorem dX1_init_41 : decode cX1_init 41 = .ok (.newarray .int, 2) := by decide +kernel
theorem dX1_init_43 : decode cX1_init 43 = .ok (.putfield 25, 3) := by decide +kernel
theorem dX1_init_46 : decode cX1_init 46 = .ok (.aload_n 0, 1) := by decide +kernel
theorem dX1_init_47 : decode cX1_init 47 = .ok (.iconst 1, 1) := by decide +kernel
theorem dX1_init_48 : decode cX1_init 48 = .ok (.putfield 28, 3) := by decide +kernel
theorem dX1_init_51 : decode cX1_init 51 = .ok (.aload_n 0, 1) := by decide +kernel
theorem dX1_init_52 : decode cX1_init 52 = .ok (.aload_n 1, 1) := by decide +kernel
theorem dX1_init_53 : decode cX1_init 53 = .ok (.putfield 32, 3) := by decide +kernel
theorem dX1_init_56 : decode cX1_init 56 = .ok (.aload_n 0, 1) := by decide +kernel
theorem dX1_init_57 : decode cX1_init 57 = .ok (.aload_n 1, 1) := by decide +kernel
theorem dX1_init_58 : decode cX1_init 58 = .ok (.getfield 36, 3) := by decide +kernel
theorem dX1_init_61 : decode cX1_init 61 = .ok (.putfield 42, 3) := by decide +kernel
theorem dX1_init_64 : decode cX1_init 64 = .ok (.aload_n 0, 1) := by decide +kernel
theorem dX1_init_65 : decode cX1_init 65 = .ok (.aload_n 1, 1) := by decide +kernel
theorem dX1_init_66 : decode cX1_init 66 = .ok (.getfield 36, 3) := by decide +kernel
theorem dX1_init_69 : decode cX1_init 69 = .ok (.getfield 43, 3) := by decide +kernel
theorem dX1_init_72 : decode cX1_init 72 = .ok (.putfield 49, 3) := by decide +kernel
theorem dX1_init_75 : decode cX1_init 75 = .ok (.return_, 1) := by decide +kernel
set_option maxRecDepth 20000 in
theorem ggX1_settle_X1_clear : GoodIn wsX1_settle wsX1_clear := goodIn_r _ [13, 14, 15, 16, 17, 4, 18, 8, 6, 7, 19, 20, 21, 22, 23, 24, 25, 26, 27, 28, 134, 135, 136, 137, 138, 139, 140, 141, 142, 143, 144, 145, 146, 147, 150, 151, 152, 153, 154, 155, 156, 157, 158, 159, 160, 161, 162, 163, 164, 165, 166] (by decide +kernel) (by decide +kernel)
set_option maxRecDepth 20000 in
theorem gX1_settle_X1_clear : GoodIn wsX1_settle (wsV RX1 54 RX1 yX1_clear wsX1_clear) := goodIn_app (goodIn_of _ (by decide +kernel)) ggX1_settle_X1_clear
set_option maxRecDepth 20000 in
theorem ggX1_settle_X1_reachEntry : GoodIn wsX1_settle wsX1_reachEntry := goodIn_r _ [32, 16, 14, 33, 18, 34, 35, 36, 37, 38, 39, 40, 41, 42, 43, 44, 45, 46, 47, 48, 49, 50, 51, 52, 53, 54, 55, 56, 57, 58, 59, 60, 61, 12, 62, 2, 19, 8, 3, 63, 64, 65, 134, 135, 136, 137, 138, 139, 140, 141, 142, 143, 144, 145, 146, 147, 150, 151, 152, 153, 154, 155, 156, 157, 158, 159, 160, 161, 162, 163, 164, 165, 166] (by decide +kernel) (by decide +kernel)
set_option maxRecDepth 20000 in
theorem gX1_settle_X1_reachEntry : GoodIn wsX1_settle (wsV RX1 57 RX1 yX1_reachEntry wsX1_reachEntry) := goodIn_app (goodIn_of _ (by decide +kernel)) ggX1_settle_X1_reachEntry
set_option maxRecDepth 20000 in
theorem ggX1_settle_X1_openRoutines : GoodIn wsX1_settle wsX1_openRoutines := goodIn_r _ [69, 18, 70, 16, 71, 19, 72, 58, 54, 55, 56, 73, 74, 75, 38, 76, 77, 78, 79, 80, 12, 81, 82, 83, 84, 85, 86, 6, 7, 3, 63, 64, 65, 134, 135, 136, 137, 138, 139, 140, 141, 142, 143, 144, 145, 146, 147, 153, 154, 155, 156, 157, 158, 159, 160, 161, 162, 163, 164, 165, 166] (by decide +kernel) (by decide +kernel)
set_option maxRecDepth 20000 in
theorem gX1_settle_X1_openRoutines : GoodIn wsX1_settle (wsV RX1 63 RX1 yX1_openRoutines wsX1_openRoutines) := goodIn_app (goodIn_of _ (by decide +kernel)) ggX1_settle_X1_openRoutines
set_option maxRecDepth 20000 in
theorem ggX1_settle_X5_at : GoodIn wsX1_settle wsX5_at := goodIn_r _ [56] (by decide +kernel) (by decide +kernel)
set_option maxRecDepth 20000 in
theorem gX1_settle_X5_at : GoodIn wsX1_settle (va_wsS RX1 72 yX5_at wsX5_at) := goodIn_app (goodIn_of _ (by decide +kernel)) ggX1_settle_X5_at
set_option maxRecDepth 20000 in
theorem ggX1_settle_X5_put : GoodIn wsX1_settle wsX5_put := goodIn_r _ [65] (by decide +kernel) (by decide +kernel)
set_option maxRecDepth 20000 in
theorem gX1_settle_X5_put : GoodIn wsX1_settle (va_wsS RX1 81 yX5_put wsX5_put) := goodIn_app (goodIn_of _ (by decide +kernel)) ggX1_settle_X5_put
set_option maxRecDepth 20000 in
theorem ggX1_settle_X1_advance : GoodIn wsX1_settle wsX1_advance := goodIn_r _ [90, 4, 91, 92, 93, 94, 95, 96, 97, 98, 83, 84, 85, 12, 86, 6, 7, 3, 63, 64, 55, 65, 59, 60, 61, 62, 2, 19, 8, 58, 54, 56, 99, 100, 101, 102, 21, 103, 104, 105, 106, 107, 108, 79, 80, 81, 82, 109, 110, 111, 112, 113, 114, 115, 116, 20, 117, 118, 119, 120, 18, 121, 122, 123, 124, 125, 126, 127, 128, 129, 130, 131, 132, 133, 134, 135, 136, 137, 138, 139, 140, 141, 142, 143, 144, 145, 146, 147, 148, 149] (by decide +kernel) (by decide +kernel)
set_option maxRecDepth 20000 in
theorem gX1_settle_X1_advance : GoodIn wsX1_settle (wsV RX1 85 RX1 yX1_advance wsX1_advance) := goodIn_app (goodIn_of _ (by decide +kernel)) ggX1_settle_X1_advance
theorem dX1_settle_0 : decode cX1_settle 0 = .ok (.aload_n 0, 1) := by decide +kernel
theorem dX1_settle_1 : decode cX1_settle 1 = .ok (.getfield 28, 3) := by decide +kernel
theorem dX1_settle_4 : decode cX1_settle 4 = .ok (.ifCond .ne 13, 3) := by decide +kernel
theorem dX1_settle_7 : decode cX1_settle 7 = .ok (.aload_n 0, 1) := by decide +kernel
theorem dX1_settle_8 : decode cX1_settle 8 = .ok (.getfield 50, 3) := by decide +kernel
theorem dX1_settle_11 : decode cX1_settle 11 = .ok (.lload_n 1, 1) := by decide +kernel
theorem dX1_settle_12 : decode cX1_settle 12 = .ok (.lcmp, 1) := by decide +kernel
theorem dX1_settle_13 : decode cX1_settle 13 = .ok (.ifCond .ne 4, 3) := by decide +kernel
theorem dX1_settle_16 : decode cX1_settle 16 = .ok (.return_, 1) := by decide +kernel
theorem dX1_settle_17 : decode cX1_settle 17 = .ok (.aload_n 0, 1) := by decide +kernel
theorem dX1_settle_18 : decode cX1_settle 18 = .ok (.invokevirtual 54, 3) := by decide +kernel
theorem dX1_settle_21 : decode cX1_settle 21 = .ok (.aload_n 0, 1) := by decide +kernel
theorem dX1_settle_22 : decode cX1_settle 22 = .ok (.lload_n 1, 1) := by decide +kernel
theorem dX1_settle_23 : decode cX1_settle 23 = .ok (.putfield 50, 3) := by decide +kernel
theorem dX1_settle_26 : decode cX1_settle 26 = .ok (.aload_n 0, 1) := by decide +kernel
theorem dX1_settle_27 : decode cX1_settle 27 = .ok (.invokevirtual 57, 3) := by decide +kernel
theorem dX1_settle_30 : decode cX1_settle 30 = .ok (.aload_n 0, 1) := by decide +kernel
theorem dX1_settle_31 : decode cX1_settle 31 = .ok (.iconst 1, 1) := by decide +kernel
theorem dX1_settle_32 : decode cX1_settle 32 = .ok (.putfield 60, 3) := by decide +kernel
theorem dX1_settle_35 : decode cX1_settle 35 = .ok (.iconst 0, 1) := by decide +kernel
theorem dX1_settle_36 : decode cX1_settle 36 = .ok (.istore_n 3, 1) := by decide +kernel
theorem dX1_settle_37 : decode cX1_settle 37 = .ok (.iload_n 3, 1) := by decide +kernel
theorem dX1_settle_38 : decode cX1_settle 38 = .ok (.sipush 15902, 3) := by decide +kernel
theorem dX1_settle_41 : decode cX1_settle 41 = .ok (.if_icmp .ge 110, 3) := by decide +kernel
theorem dX1_settle_44 : decode cX1_settle 44 = .ok (.aload_n 0, 1) := by decide +kernel
theorem dX1_settle_45 : decode cX1_settle 45 = .ok (.getfield 60, 3) := by decide +kernel
theorem dX1_settle_48 : decode cX1_settle 48 = .ok (.ifCond .eq 103, 3) := by decide +kernel
theorem dX1_settle_51 : decode cX1_settle 51 = .ok (.aload_n 0, 1) := by decide +kernel
theorem dX1_settle_52 : decode cX1_settle 52 = .ok (.iconst 0, 1) := by decide +kernel
theorem dX1_settle_53 : decode cX1_settle 53 = .ok (.putfield 60, 3) := by decide +kernel
theorem dX1_settle_56 : decode cX1_settle 56 = .ok (.aload_n 0, 1) := by decide +kernel
theorem dX1_settle_57 : decode cX1_settle 57 = .ok (.invokevirtual 63, 3) := by decide +kernel
theorem dX1_settle_60 : decode cX1_settle 60 = .ok (.iconst 0, 1) := by decide +kernel
theorem dX1_settle_61 : decode cX1_settle 61 = .ok (.istore 4, 2) := by decide +kernel
theorem dX1_settle_63 : decode cX1_settle 63 = .ok (.iload 4, 2) := by decide +kernel
theorem dX1_settle_65 : decode cX1_settle 65 = .ok (.aload_n 0, 1) := by decide +kernel
theorem dX1_settle_66 : decode cX1_settle 66 = .ok (.getfield 49, 3) := by decide +kernel
theorem dX1_settle_69 : decode cX1_settle 69 = .ok (.getfield 66, 3) := by decide +kernel
theorem dX1_settle_72 : decode cX1_settle 72 = .ok (.if_icmp .ge 73, 3) := by decide +kernel
theorem dX1_settle_75 : decode cX1_settle 75 = .ok (.iload 4, 2) := by decide +kernel
theorem dX1_settle_77 : decode cX1_settle 77 = .ok (.aload_n 0, 1) := by decide +kernel
theorem dX1_settle_78 : decode cX1_settle 78 = .ok (.getfield 9, 3) := by decide +kernel
theorem dX1_settle_81 : decode cX1_settle 81 = .ok (.arraylength, 1) := by decide +kernel
theorem dX1_settle_82 : decode cX1_settle 82 = .ok (.if_icmp .ge 63, 3) := by decide +kernel
theorem dX1_settle_85 : decode cX1_settle 85 = .ok (.aload_n 0, 1) := by decide +kernel
theorem dX1_settle_86 : decode cX1_settle 86 = .ok (.getfield 9, 3) := by decide +kernel
theorem dX1_settle_89 : decode cX1_settle 89 = .ok (.iload 4, 2) := by decide +kernel
theorem dX1_settle_91 : decode cX1_settle 91 = .ok (.laload, 1) := by decide +kernel
theorem dX1_settle_92 : decode cX1_settle 92 = .ok (.lconst 0, 1) := by decide +kernel
theorem dX1_settle_93 : decode cX1_settle 93 = .ok (.lcmp, 1) := by decide +kernel
theorem dX1_settle_94 : decode cX1_settle 94 = .ok (.ifCond .eq 45, 3) := by decide +kernel
theorem dX1_settle_97 : decode cX1_settle 97 = .ok (.aload_n 0, 1) := by decide +kernel
theorem dX1_settle_98 : decode cX1_settle 98 = .ok (.getfield 15, 3) := by decide +kernel
theorem dX1_settle_101 : decode cX1_settle 101 = .ok (.iload 4, 2) := by decide +kernel
theorem dX1_settle_103 : decode cX1_settle 103 = .ok (.invokestatic 72, 3) := by decide +kernel
theorem dX1_settle_106 : decode cX1_settle 106 = .ok (.aload_n 0, 1) := by decide +kernel
theorem dX1_settle_107 : decode cX1_settle 107 = .ok (.getfield 78, 3) := by decide +kernel
theorem dX1_settle_110 : decode cX1_settle 110 = .ok (.if_icmp .eq 29, 3) := by decide +kernel
theorem dX1_settle_113 : decode cX1_settle 113 = .ok (.aload_n 0, 1) := by decide +kernel
theorem dX1_settle_114 : decode cX1_settle 114 = .ok (.getfield 15, 3) := by decide +kernel
theorem dX1_settle_117 : decode cX1_settle 117 = .ok (.iload 4, 2) := by decide +kernel
theorem dX1_settle_119 : decode cX1_settle 119 = .ok (.aload_n 0, 1) := by decide +kernel
theorem dX1_settle_120 : decode cX1_settle 120 = .ok (.getfield 78, 3) := by decide +kernel
theorem dX1_settle_123 : decode cX1_settle 123 = .ok (.invokestatic 81, 3) := by decide +kernel
theorem dX1_settle_126 : decode cX1_settle 126 = .ok (.aload_n 0, 1) := by decide +kernel
theorem dX1_settle_127 : decode cX1_settle 127 = .ok (.iload 4, 2) := by decide +kernel
theorem dX1_settle_129 : decode cX1_settle 129 = .ok (.aload_n 0, 1) := by decide +kernel
theorem dX1_settle_130 : decode cX1_settle 130 = .ok (.getfield 9, 3) := by decide +kernel
theorem dX1_settle_133 : decode cX1_settle 133 = .ok (.iload 4, 2) := by decide +kernel
theorem dX1_settle_135 : decode cX1_settle 135 = .ok (.laload, 1) := by decide +kernel
theorem dX1_settle_136 : decode cX1_settle 136 = .ok (.invokevirtual 85, 3) := by decide +kernel
theorem dX1_settle_139 : decode cX1_settle 139 = .ok (.iinc 4 1, 3) := by decide +kernel
theorem dX1_settle_142 : decode cX1_settle 142 = .ok (.goto (-79), 3) := by decide +kernel
theorem dX1_settle_145 : decode cX1_settle 145 = .ok (.iinc 3 1, 3) := by decide +kernel
theorem dX1_settle_148 : decode cX1_settle 148 = .ok (.goto (-111), 3) := by decide +kernel
theorem dX1_settle_151 : decode cX1_settle 151 = .ok (.aload_n 0, 1) := by decide +kernel
theorem dX1_settle_152 : decode cX1_settle 152 = .ok (.iconst 0, 1) := by decide +kernel
theorem dX1_settle_153 : decode cX1_settle 153 = .ok (.putfield 28, 3) := by decide +kernel
theorem dX1_settle_156 : decode cX1_settle 156 = .ok (.return_, 1) := by decide +kernel
set_option maxRecDepth 20000 in
theorem ggX1_guardsNeeded_X5_at : GoodIn wsX1_guardsNeeded wsX5_at := goodIn_r _ [7] (by decide +kernel) (by decide +kernel)
set_option maxRecDepth 20000 in
theorem gX1_guardsNeeded_X5_at : GoodIn wsX1_guardsNeeded (va_wsS RX1 72 yX5_at wsX5_at) := goodIn_app (goodIn_of _ (by decide +kernel)) ggX1_guardsNeeded_X5_at
theorem dX1_guardsNeeded_0 : decode cX1_guardsNeeded 0 = .ok (.iconst 0, 1) := by decide +kernel
theorem dX1_guardsNeeded_1 : decode cX1_guardsNeeded 1 = .ok (.istore_n 1, 1) := by decide +kernel
theorem dX1_guardsNeeded_2 : decode cX1_guardsNeeded 2 = .ok (.iconst 0, 1) := by decide +kernel
theorem dX1_guardsNeeded_3 : decode cX1_guardsNeeded 3 = .ok (.istore_n 2, 1) := by decide +kernel
theorem dX1_guardsNeeded_4 : decode cX1_guardsNeeded 4 = .ok (.iload_n 2, 1) := by decide +kernel
theorem dX1_guardsNeeded_5 : decode cX1_guardsNeeded 5 = .ok (.aload_n 0, 1) := by decide +kernel
theorem dX1_guardsNeeded_6 : decode cX1_guardsNeeded 6 = .ok (.getfield 42, 3) := by decide +kernel
theorem dX1_guardsNeeded_9 : decode cX1_guardsNeeded 9 = .ok (.getfield 89, 3) := by decide +kernel
theorem dX1_guardsNeeded_12 : decode cX1_guardsNeeded 12 = .ok (.if_icmp .ge 25, 3) := by decide +kernel
theorem dX1_guardsNeeded_15 : decode cX1_guardsNeeded 15 = .ok (.aload_n 0, 1) := by decide +kernel
theorem dX1_guardsNeeded_16 : decode cX1_guardsNeeded 16 = .ok (.getfield 22, 3) := by decide +kernel
theorem dX1_guardsNeeded_19 : decode cX1_guardsNeeded 19 = .ok (.iload_n 2, 1) := by decide +kernel
theorem dX1_guardsNeeded_20 : decode cX1_guardsNeeded 20 = .ok (.invokestatic 72, 3) := by decide +kernel
theorem dX1_guardsNeeded_23 : decode cX1_guardsNeeded 23 = .ok (.iconst 1, 1) := by decide +kernel
theorem dX1_guardsNeeded_24 : decode cX1_guardsNeeded 24 = .ok (.iand, 1) := by decide +kernel
theorem dX1_guardsNeeded_25 : decode cX1_guardsNeeded 25 = .ok (.ifCond .eq 6, 3) := by decide +kernel
theorem dX1_guardsNeeded_28 : decode cX1_guardsNeeded 28 = .ok (.iinc 1 1, 3) := by decide +kernel
theorem dX1_guardsNeeded_31 : decode cX1_guardsNeeded 31 = .ok (.iinc 2 1, 3) := by decide +kernel
theorem dX1_guardsNeeded_34 : decode cX1_guardsNeeded 34 = .ok (.goto (-30), 3) := by decide +kernel
theorem dX1_guardsNeeded_37 : decode cX1_guardsNeeded 37 = .ok (.iload_n 1, 1) := by decide +kernel
theorem dX1_guardsNeeded_38 : decode cX1_guardsNeeded 38 = .ok (.ireturn, 1) := by decide +kernel
set_option maxRecDepth 20000 in
theorem ggX1_clear_J7_fill_d0a16 : GoodIn wsX1_clear wsJ7_fill_d0a16 := goodIn_r _ [16] (by decide +kernel) (by decide +kernel)
set_option maxRecDepth 20000 in
theorem gX1_clear_J7_fill_d0a16 : GoodIn wsX1_clear (va_wsS RX1 95 yJ7_fill_d0a16 wsJ7_fill_d0a16) := goodIn_app (goodIn_of _ (by decide +kernel)) ggX1_clear_J7_fill_d0a16
set_option maxRecDepth 20000 in
theorem ggX1_clear_J7_fill_53178 : GoodIn wsX1_clear wsJ7_fill_53178 := goodIn_r _ [19] (by decide +kernel) (by decide +kernel)
set_option maxRecDepth 20000 in
theorem gX1_clear_J7_fill_53178 : GoodIn wsX1_clear (va_wsS RX1 101 yJ7_fill_53178 wsJ7_fill_53178) := goodIn_app (goodIn_of _ (by decide +kernel)) ggX1_clear_J7_fill_53178
theorem dX1_clear_0 : decode cX1_clear 0 = .ok (.aload_n 0, 1) := by decide +kernel
theorem dX1_clear_1 : decode cX1_clear 1 = .ok (.aload_n 0, 1) := by decide +kernel
theorem dX1_clear_2 : decode cX1_clear 2 = .ok (.getfield 32, 3) := by decide +kernel
theorem dX1_clear_5 : decode cX1_clear 5 = .ok (.getfield 36, 3) := by decide +kernel
theorem dX1_clear_8 : decode cX1_clear 8 = .ok (.putfield 42, 3) := by decide +kernel
theorem dX1_clear_11 : decode cX1_clear 11 = .ok (.aload_n 0, 1) := by decide +kernel
theorem dX1_clear_12 : decode cX1_clear 12 = .ok (.aload_n 0, 1) := by decide +kernel
theorem dX1_clear_13 : decode cX1_clear 13 = .ok (.getfield 42, 3) := by decide +kernel
theorem dX1_clear_16 : decode cX1_clear 16 = .ok (.getfield 43, 3) := by decide +kernel
theorem dX1_clear_19 : decode cX1_clear 19 = .ok (.putfield 49, 3) := by decide +kernel
theorem dX1_clear_22 : decode cX1_clear 22 = .ok (.aload_n 0, 1) := by decide +kernel
theorem dX1_clear_23 : decode cX1_clear 23 = .ok (.iconst 0, 1) := by decide +kernel
theorem dX1_clear_24 : decode cX1_clear 24 = .ok (.putfield 92, 3) := by decide +kernel
theorem dX1_clear_27 : decode cX1_clear 27 = .ok (.aload_n 0, 1) := by decide +kernel
theorem dX1_clear_28 : decode cX1_clear 28 = .ok (.iconst 1, 1) := by decide +kernel
theorem dX1_clear_29 : decode cX1_clear 29 = .ok (.putfield 78, 3) := by decide +kernel
theorem dX1_clear_32 : decode cX1_clear 32 = .ok (.aload_n 0, 1) := by decide +kernel
theorem dX1_clear_33 : decode cX1_clear 33 = .ok (.getfield 9, 3) := by decide +kernel
theorem dX1_clear_36 : decode cX1_clear 36 = .ok (.lconst 0, 1) := by decide +kernel
theorem dX1_clear_37 : decode cX1_clear 37 = .ok (.invokestatic 95, 3) := by decide +kernel
theorem dX1_clear_40 : decode cX1_clear 40 = .ok (.aload_n 0, 1) := by decide +kernel
theorem dX1_clear_41 : decode cX1_clear 41 = .ok (.getfield 15, 3) := by decide +kernel
theorem dX1_clear_44 : decode cX1_clear 44 = .ok (.iconst 0, 1) := by decide +kernel
theorem dX1_clear_45 : decode cX1_clear 45 = .ok (.invokestatic 101, 3) := by decide +kernel
theorem dX1_clear_48 : decode cX1_clear 48 = .ok (.aload_n 0, 1) := by decide +kernel
theorem dX1_clear_49 : decode cX1_clear 49 = .ok (.getfield 19, 3) := by decide +kernel
theorem dX1_clear_52 : decode cX1_clear 52 = .ok (.iconst 0, 1) := by decide +kernel
theorem dX1_clear_53 : decode cX1_clear 53 = .ok (.invokestatic 101, 3) := by decide +kernel
theorem dX1_clear_56 : decode cX1_clear 56 = .ok (.aload_n 0, 1) := by decide +kernel
theorem dX1_clear_57 : decode cX1_clear 57 = .ok (.getfield 22, 3) := by decide +kernel
theorem dX1_clear_60 : decode cX1_clear 60 = .ok (.iconst 0, 1) := by decide +kernel
theorem dX1_clear_61 : decode cX1_clear 61 = .ok (.invokestatic 101, 3) := by decide +kernel
theorem dX1_clear_64 : decode cX1_clear 64 = .ok (.aload_n 0, 1) := by decide +kernel
theorem dX1_clear_65 : decode cX1_clear 65 = .ok (.getfield 25, 3) := by decide +kernel
theorem dX1_clear_68 : decode cX1_clear 68 = .ok (.iconst 0, 1) := by decide +kernel
theorem dX1_clear_69 : decode cX1_clear 69 = .ok (.invokestatic 101, 3) := by decide +kernel
theorem dX1_clear_72 : decode cX1_clear 72 = .ok (.return_, 1) := by decide +kernel
set_option maxRecDepth 20000 in
theorem ggX1_reachEntry_X3_has : GoodIn wsX1_reachEntry wsX3_has := goodIn_r _ [10, 11, 59, 60, 61, 62, 63, 64, 65, 66, 67, 68, 69, 70, 71, 72] (by decide +kernel) (by decide +kernel)
set_option maxRecDepth 20000 in
theorem gX1_reachEntry_X3_has : GoodIn wsX1_reachEntry (wsV RX1 107 RX3 yX3_has wsX3_has) := goodIn_app (goodIn_of _ (by decide +kernel)) ggX1_reachEntry_X3_has
set_option maxRecDepth 20000 in
theorem ggX1_reachEntry_X7_outers : GoodIn wsX1_reachEntry wsX7_outers := goodIn_r _ [16, 17, 18, 19, 20, 21, 22, 23, 24, 25, 26, 27, 28, 7, 8, 9, 10, 11, 56, 57, 58, 59, 60, 61, 62, 63, 64, 65, 66, 67, 68, 69, 70, 71, 72] (by decide +kernel) (by decide +kernel)
set_option maxRecDepth 20000 in
theorem gX1_reachEntry_X7_outers : GoodIn wsX1_reachEntry (wsV RX1 111 RX7 yX7_outers wsX7_outers) := goodIn_app (goodIn_of _ (by decide +kernel)) ggX1_reachEntry_X7_outers
set_option maxRecDepth 20000 in
theorem ggX1_reachEntry_X5_at : GoodIn wsX1_reachEntry wsX5_at := goodIn_r _ [27] (by decide +kernel) (by decide +kernel)
set_option maxRecDepth 20000 in
theorem gX1_reachEntry_X5_at : GoodIn wsX1_reachEntry (va_wsS RX1 72 yX5_at wsX5_at) := goodIn_app (goodIn_of _ (by decide +kernel)) ggX1_reachEntry_X5_at
set_option maxRecDepth 20000 in
theorem ggX1_reachEntry_X1_raise : GoodIn wsX1_reachEntry wsX1_raise := goodIn_r _ [34, 35, 36, 37, 38, 29, 25, 26, 27, 39, 40, 41, 42, 43, 44, 45, 46, 47, 48, 49, 50, 51, 52, 53, 54, 55] (by decide +kernel) (by decide +kernel)
set_option maxRecDepth 20000 in
theorem gX1_reachEntry_X1_raise : GoodIn wsX1_reachEntry (wsV RX1 118 RX1 yX1_raise wsX1_raise) := goodIn_app (goodIn_of _ (by decide +kernel)) ggX1_reachEntry_X1_raise
theorem dX1_reachEntry_0 : decode cX1_reachEntry 0 = .ok (.aload_n 0, 1) := by decide +kernel
theorem dX1_reachEntry_1 : decode cX1_reachEntry 1 = .ok (.getfield 42, 3) := by decide +kernel
theorem dX1_reachEntry_4 : decode cX1_reachEntry 4 = .ok (.aload_n 0, 1) := by decide +kernel
theorem dX1_reachEntry_5 : decode cX1_reachEntry 5 = .ok (.getfield 32, 3) := by decide +kernel
theorem dX1_reachEntry_8 : decode cX1_reachEntry 8 = .ok (.getfield 104, 3) := by decide +kernel
theorem dX1_reachEntry_11 : decode cX1_reachEntry 11 = .ok (.invokevirtual 107, 3) := by decide +kernel
theorem dX1_reachEntry_14 : decode cX1_reachEntry 14 = .ok (.ifCond .ne 4, 3) := by decide +kernel
theorem dX1_reachEntry_17 : decode cX1_reachEntry 17 = .ok (.return_, 1) := by decide +kernel
theorem dX1_reachEntry_18 : decode cX1_reachEntry 18 = .ok (.aload_n 0, 1) := by decide +kernel
theorem dX1_reachEntry_19 : decode cX1_reachEntry 19 = .ok (.iconst 1, 1) := by decide +kernel
theorem dX1_reachEntry_20 : decode cX1_reachEntry 20 = .ok (.aload_n 0, 1) := by decide +kernel
theorem dX1_reachEntry_21 : decode cX1_reachEntry 21 = .ok (.getfield 32, 3) := by decide +kernel
theorem dX1_reachEntry_24 : decode cX1_reachEntry 24 = .ok (.getfield 104, 3) := by decide +kernel
theorem dX1_reachEntry_27 : decode cX1_reachEntry 27 = .ok (.ishl, 1) := by decide +kernel
theorem dX1_reachEntry_28 : decode cX1_reachEntry 28 = .ok (.putfield 92, 3) := by decide +kernel
theorem dX1_reachEntry_31 : decode cX1_reachEntry 31 = .ok (.iconst 0, 1) := by decide +kernel
theorem dX1_reachEntry_32 : decode cX1_reachEntry 32 = .ok (.istore_n 1, 1) := by decide +kernel
theorem dX1_reachEntry_33 : decode cX1_reachEntry 33 = .ok (.iload_n 1, 1) := by decide +kernel
theorem dX1_reachEntry_34 : decode cX1_reachEntry 34 = .ok (.aload_n 0, 1) := by decide +kernel
theorem dX1_reachEntry_35 : decode cX1_reachEntry 35 = .ok (.getfield 32, 3) := by decide +kernel
theorem dX1_reachEntry_38 : decode cX1_reachEntry 38 = .ok (.invokevirtual 111, 3) := by decide +kernel
theorem dX1_reachEntry_41 : decode cX1_reachEntry 41 = .ok (.if_icmp .ge 55, 3) := by decide +kernel
theorem dX1_reachEntry_44 : decode cX1_reachEntry 44 = .ok (.aload_n 0, 1) := by decide +kernel
theorem dX1_reachEntry_45 : decode cX1_reachEntry 45 = .ok (.getfield 32, 3) := by decide +kernel
theorem dX1_reachEntry_48 : decode cX1_reachEntry 48 = .ok (.getfield 115, 3) := by decide +kernel
theorem dX1_reachEntry_51 : decode cX1_reachEntry 51 = .ok (.iload_n 1, 1) := by decide +kernel
theorem dX1_reachEntry_52 : decode cX1_reachEntry 52 = .ok (.invokestatic 72, 3) := by decide +kernel
theorem dX1_reachEntry_55 : decode cX1_reachEntry 55 = .ok (.istore_n 2, 1) := by decide +kernel
theorem dX1_reachEntry_56 : decode cX1_reachEntry 56 = .ok (.aload_n 0, 1) := by decide +kernel
theorem dX1_reachEntry_57 : decode cX1_reachEntry 57 = .ok (.aload_n 0, 1) := by decide +kernel
theorem dX1_reachEntry_58 : decode cX1_reachEntry 58 = .ok (.getfield 32, 3) := by decide +kernel
theorem dX1_reachEntry_61 : decode cX1_reachEntry 61 = .ok (.getfield 104, 3) := by decide +kernel
theorem dX1_reachEntry_64 : decode cX1_reachEntry 64 = .ok (.iconst 4, 1) := by decide +kernel
theorem dX1_reachEntry_65 : decode cX1_reachEntry 65 = .ok (.imul, 1) := by decide +kernel
theorem dX1_reachEntry_66 : decode cX1_reachEntry 66 = .ok (.iload_n 1, 1) := by decide +kernel
theorem dX1_reachEntry_67 : decode cX1_reachEntry 67 = .ok (.iadd, 1) := by decide +kernel
theorem dX1_reachEntry_68 : decode cX1_reachEntry 68 = .ok (.iload_n 2, 1) := by decide +kernel
theorem dX1_reachEntry_69 : decode cX1_reachEntry 69 = .ok (.invokevirtual 118, 3) := by decide +kernel
theorem dX1_reachEntry_72 : decode cX1_reachEntry 72 = .ok (.aload_n 0, 1) := by decide +kernel
theorem dX1_reachEntry_73 : decode cX1_reachEntry 73 = .ok (.bipush 40, 2) := by decide +kernel
theorem dX1_reachEntry_75 : decode cX1_reachEntry 75 = .ok (.iload_n 2, 1) := by decide +kernel
theorem dX1_reachEntry_76 : decode cX1_reachEntry 76 = .ok (.iconst 2, 1) := by decide +kernel
theorem dX1_reachEntry_77 : decode cX1_reachEntry 77 = .ok (.iand, 1) := by decide +kernel
theorem dX1_reachEntry_78 : decode cX1_reachEntry 78 = .ok (.invokevirtual 118, 3) := by decide +kernel
theorem dX1_reachEntry_81 : decode cX1_reachEntry 81 = .ok (.aload_n 0, 1) := by decide +kernel
theorem dX1_reachEntry_82 : decode cX1_reachEntry 82 = .ok (.bipush 41, 2) := by decide +kernel
theorem dX1_reachEntry_84 : decode cX1_reachEntry 84 = .ok (.iload_n 2, 1) := by decide +kernel
theorem dX1_reachEntry_85 : decode cX1_reachEntry 85 = .ok (.iconst 2, 1) := by decide +kernel
theorem dX1_reachEntry_86 : decode cX1_reachEntry 86 = .ok (.iand, 1) := by decide +kernel
theorem dX1_reachEntry_87 : decode cX1_reachEntry 87 = .ok (.invokevirtual 118, 3) := by decide +kernel
theorem dX1_reachEntry_90 : decode cX1_reachEntry 90 = .ok (.iinc 1 1, 3) := by decide +kernel
theorem dX1_reachEntry_93 : decode cX1_reachEntry 93 = .ok (.goto (-60), 3) := by decide +kernel
theorem dX1_reachEntry_96 : decode cX1_reachEntry 96 = .ok (.return_, 1) := by decide +kernel
set_option maxRecDepth 20000 in
theorem ggX1_openRoutines_X5_at : GoodIn wsX1_openRoutines wsX5_at := goodIn_r _ [10] (by decide +kernel) (by decide +kernel)
set_option maxRecDepth 20000 in
theorem gX1_openRoutines_X5_at : GoodIn wsX1_openRoutines (va_wsS RX1 72 yX5_at wsX5_at) := goodIn_app (goodIn_of _ (by decide +kernel)) ggX1_openRoutines_X5_at
set_option maxRecDepth 20000 in
theorem ggX1_openRoutines_X3_parameter : GoodIn wsX1_openRoutines wsX3_parameter := goodIn_r _ [15, 16, 17, 8, 9, 10, 47, 48, 49, 50, 51, 52, 53, 54, 55, 56, 57, 58, 59, 60] (by decide +kernel) (by decide +kernel)
set_option maxRecDepth 20000 in
theorem gX1_openRoutines_X3_parameter : GoodIn wsX1_openRoutines (wsV RX1 127 RX3 yX3_parameter wsX3_parameter) := goodIn_app (goodIn_of _ (by decide +kernel)) ggX1_openRoutines_X3_parameter
set_option maxRecDepth 20000 in
theorem ggX1_openRoutines_X1_with : GoodIn wsX1_openRoutines wsX1_with := goodIn_r _ [21, 22] (by decide +kernel) (by decide +kernel)
set_option maxRecDepth 20000 in
theorem gX1_openRoutines_X1_with : GoodIn wsX1_openRoutines (va_wsS RX1 131 yX1_with wsX1_with) := goodIn_app (goodIn_of _ (by decide +kernel)) ggX1_openRoutines_X1_with
set_option maxRecDepth 20000 in
theorem ggX1_openRoutines_X1_join : GoodIn wsX1_openRoutines wsX1_join := goodIn_r _ [26, 27, 28, 29, 30, 31, 9, 32, 33, 34, 35, 36, 37, 38, 39, 40, 41, 42, 43, 44, 45, 46] (by decide +kernel) (by decide +kernel)
set_option maxRecDepth 20000 in
theorem gX1_openRoutines_X1_join : GoodIn wsX1_openRoutines (wsV RX1 138 RX1 yX1_join wsX1_join) := goodIn_app (goodIn_of _ (by decide +kernel)) ggX1_openRoutines_X1_join
theorem dX1_openRoutines_0 : decode cX1_openRoutines 0 = .ok (.iconst 0, 1) := by decide +kernel
theorem dX1_openRoutines_1 : decode cX1_openRoutines 1 = .ok (.istore_n 1, 1) := by decide +kernel
theorem dX1_openRoutines_2 : decode cX1_openRoutines 2 = .ok (.iload_n 1, 1) := by decide +kernel
theorem dX1_openRoutines_3 : decode cX1_openRoutines 3 = .ok (.bipush 8, 2) := by decide +kernel
theorem dX1_openRoutines_5 : decode cX1_openRoutines 5 = .ok (.if_icmp .ge 97, 3) := by decide +kernel
theorem dX1_openRoutines_8 : decode cX1_openRoutines 8 = .ok (.aload_n 0, 1) := by decide +kernel
theorem dX1_openRoutines_9 : decode cX1_openRoutines 9 = .ok (.getfield 92, 3) := by decide +kernel
theorem dX1_openRoutines_12 : decode cX1_openRoutines 12 = .ok (.iload_n 1, 1) := by decide +kernel
theorem dX1_openRoutines_13 : decode cX1_openRoutines 13 = .ok (.ishr, 1) := by decide +kernel
theorem dX1_openRoutines_14 : decode cX1_openRoutines 14 = .ok (.iconst 1, 1) := by decide +kernel
theorem dX1_openRoutines_15 : decode cX1_openRoutines 15 = .ok (.iand, 1) := by decide +kernel
theorem dX1_openRoutines_16 : decode cX1_openRoutines 16 = .ok (.ifCond .eq 80, 3) := by decide +kernel
theorem dX1_openRoutines_19 : decode cX1_openRoutines 19 = .ok (.ldc2_w 122, 3) := by decide +kernel
theorem dX1_openRoutines_22 : decode cX1_openRoutines 22 = .ok (.lstore_n 2, 1) := by decide +kernel
theorem dX1_openRoutines_23 : decode cX1_openRoutines 23 = .ok (.iconst 0, 1) := by decide +kernel
theorem dX1_openRoutines_24 : decode cX1_openRoutines 24 = .ok (.istore 4, 2) := by decide +kernel
theorem dX1_openRoutines_26 : decode cX1_openRoutines 26 = .ok (.iload 4, 2) := by decide +kernel
theorem dX1_openRoutines_28 : decode cX1_openRoutines 28 = .ok (.aload_n 0, 1) := by decide +kernel
theorem dX1_openRoutines_29 : decode cX1_openRoutines 29 = .ok (.getfield 42, 3) := by decide +kernel
theorem dX1_openRoutines_32 : decode cX1_openRoutines 32 = .ok (.getfield 124, 3) := by decide +kernel
theorem dX1_openRoutines_35 : decode cX1_openRoutines 35 = .ok (.iload_n 1, 1) := by decide +kernel
theorem dX1_openRoutines_36 : decode cX1_openRoutines 36 = .ok (.invokestatic 72, 3) := by decide +kernel
theorem dX1_openRoutines_39 : decode cX1_openRoutines 39 = .ok (.if_icmp .ge 41, 3) := by decide +kernel
theorem dX1_openRoutines_42 : decode cX1_openRoutines 42 = .ok (.aload_n 0, 1) := by decide +kernel
theorem dX1_openRoutines_43 : decode cX1_openRoutines 43 = .ok (.getfield 19, 3) := by decide +kernel
theorem dX1_openRoutines_46 : decode cX1_openRoutines 46 = .ok (.iload_n 1, 1) := by decide +kernel
theorem dX1_openRoutines_47 : decode cX1_openRoutines 47 = .ok (.iconst 4, 1) := by decide +kernel
theorem dX1_openRoutines_48 : decode cX1_openRoutines 48 = .ok (.imul, 1) := by decide +kernel
theorem dX1_openRoutines_49 : decode cX1_openRoutines 49 = .ok (.iload 4, 2) := by decide +kernel
theorem dX1_openRoutines_51 : decode cX1_openRoutines 51 = .ok (.iadd, 1) := by decide +kernel
theorem dX1_openRoutines_52 : decode cX1_openRoutines 52 = .ok (.invokestatic 72, 3) := by decide +kernel
theorem dX1_openRoutines_55 : decode cX1_openRoutines 55 = .ok (.istore 5, 2) := by decide +kernel
theorem dX1_openRoutines_57 : decode cX1_openRoutines 57 = .ok (.lload_n 2, 1) := by decide +kernel
theorem dX1_openRoutines_58 : decode cX1_openRoutines 58 = .ok (.aload_n 0, 1) := by decide +kernel
theorem dX1_openRoutines_59 : decode cX1_openRoutines 59 = .ok (.getfield 42, 3) := by decide +kernel
theorem dX1_openRoutines_62 : decode cX1_openRoutines 62 = .ok (.iload_n 1, 1) := by decide +kernel
theorem dX1_openRoutines_63 : decode cX1_openRoutines 63 = .ok (.iload 4, 2) := by decide +kernel
theorem dX1_openRoutines_65 : decode cX1_openRoutines 65 = .ok (.invokevirtual 127, 3) := by decide +kernel
theorem dX1_openRoutines_68 : decode cX1_openRoutines 68 = .ok (.iload 5, 2) := by decide +kernel
theorem dX1_openRoutines_70 : decode cX1_openRoutines 70 = .ok (.invokestatic 131, 3) := by decide +kernel
theorem dX1_openRoutines_73 : decode cX1_openRoutines 73 = .ok (.lstore_n 2, 1) := by decide +kernel
theorem dX1_openRoutines_74 : decode cX1_openRoutines 74 = .ok (.iinc 4 1, 3) := by decide +kernel
theorem dX1_openRoutines_77 : decode cX1_openRoutines 77 = .ok (.goto (-51), 3) := by decide +kernel
theorem dX1_openRoutines_80 : decode cX1_openRoutines 80 = .ok (.aload_n 0, 1) := by decide +kernel
theorem dX1_openRoutines_81 : decode cX1_openRoutines 81 = .ok (.aload_n 0, 1) := by decide +kernel
theorem dX1_openRoutines_82 : decode cX1_openRoutines 82 = .ok (.getfield 42, 3) := by decide +kernel
theorem dX1_openRoutines_85 : decode cX1_openRoutines 85 = .ok (.getfield 135, 3) := by decide +kernel
theorem dX1_openRoutines_88 : decode cX1_openRoutines 88 = .ok (.iload_n 1, 1) := by decide +kernel
theorem dX1_openRoutines_89 : decode cX1_openRoutines 89 = .ok (.invokestatic 72, 3) := by decide +kernel
theorem dX1_openRoutines_92 : decode cX1_openRoutines 92 = .ok (.lload_n 2, 1) := by decide +kernel
theorem dX1_openRoutines_93 : decode cX1_openRoutines 93 = .ok (.invokevirtual 138, 3) := by decide +kernel
theorem dX1_openRoutines_96 : decode cX1_openRoutines 96 = .ok (.iinc 1 1, 3) := by decide +kernel
theorem dX1_openRoutines_99 : decode cX1_openRoutines 99 = .ok (.goto (-97), 3) := by decide +kernel
theorem dX1_openRoutines_102 : decode cX1_openRoutines 102 = .ok (.return_, 1) := by decide +kernel
set_option maxRecDepth 20000 in
theorem ggX1_advance_X0_get : GoodIn wsX1_advance wsX0_get := goodIn_r _ [7, 8, 9, 88, 89] (by decide +kernel) (by decide +kernel)
set_option maxRecDepth 20000 in
theorem gX1_advance_X0_get : GoodIn wsX1_advance (wsV RX1 141 RX0 yX0_get wsX0_get) := goodIn_app (goodIn_of _ (by decide +kernel)) ggX1_advance_X0_get
set_option maxRecDepth 20000 in
theorem ggX1_advance_X1_join : GoodIn wsX1_advance wsX1_join := goodIn_r _ [14, 15, 16, 17, 18, 19, 20, 21, 74, 75, 76, 77, 78, 79, 80, 81, 82, 83, 84, 85, 86, 87] (by decide +kernel) (by decide +kernel)
set_option maxRecDepth 20000 in
theorem gX1_advance_X1_join : GoodIn wsX1_advance (wsV RX1 138 RX1 yX1_join wsX1_join) := goodIn_app (goodIn_of _ (by decide +kernel)) ggX1_advance_X1_join
set_option maxRecDepth 20000 in
theorem ggX1_advance_X1_raise : GoodIn wsX1_advance wsX1_raise := goodIn_r _ [25, 26, 27, 28, 17, 29, 30, 20, 31, 18, 19, 21, 74, 75, 76, 77, 78, 79, 80, 81, 82, 83, 84, 85, 86, 87] (by decide +kernel) (by decide +kernel)
set_option maxRecDepth 20000 in
theorem gX1_advance_X1_raise : GoodIn wsX1_advance (wsV RX1 118 RX1 yX1_raise wsX1_raise) := goodIn_app (goodIn_of _ (by decide +kernel)) ggX1_advance_X1_raise
set_option maxRecDepth 20000 in
theorem ggX1_advance_X1_fork : GoodIn wsX1_advance wsX1_fork := goodIn_r _ [35, 1, 36, 3, 4, 5, 6, 7, 8, 9, 37, 38, 13, 39, 40, 41, 42, 43, 44, 45, 46, 29, 30, 20, 31, 18, 19, 21, 10, 11, 12, 14, 15, 16, 17, 74, 75, 76, 77, 78, 79, 80, 81, 82, 83, 84, 85, 86, 87, 88, 89] (by decide +kernel) (by decide +kernel)
set_option maxRecDepth 20000 in
theorem gX1_advance_X1_fork : GoodIn wsX1_advance (wsV RX1 144 RX1 yX1_fork wsX1_fork) := goodIn_app (goodIn_of _ (by decide +kernel)) ggX1_advance_X1_fork
set_option maxRecDepth 20000 in
theorem ggX1_advance_X1_work : GoodIn wsX1_advance wsX1_work := goodIn_r _ [50, 1, 2, 27, 3, 4, 5, 6, 7, 8, 9, 22, 23, 24, 13, 25, 26, 28, 17, 29, 30, 20, 31, 18, 19, 21, 40, 41, 42, 51, 52, 53, 54, 55, 37, 38, 39, 43, 44, 45, 46, 56, 57, 58, 59, 60, 61, 62, 63, 64, 65, 66, 67, 68, 69, 74, 75, 76, 77, 78, 79, 80, 81, 82, 83, 84, 85, 86, 87, 88, 89] (by decide +kernel) (by decide +kernel)
set_option maxRecDepth 20000 in
theorem gX1_advance_X1_work : GoodIn wsX1_advance (wsV RX1 147 RX1 yX1_work wsX1_work) := goodIn_app (goodIn_of _ (by decide +kernel)) ggX1_advance_X1_work
set_option maxRecDepth 20000 in
theorem ggX1_advance_X1_finish : GoodIn wsX1_advance wsX1_finish := goodIn_r _ [73, 1, 2, 3, 4, 5, 6, 7, 8, 9, 43, 44, 13, 45, 46, 10, 11, 12, 14, 15, 16, 17, 18, 19, 20, 21, 40, 41, 42, 51, 52, 53, 54, 55, 29, 30, 31, 37, 38, 39, 22, 23, 24, 25, 26, 27, 28, 74, 75, 76, 77, 78, 79, 80, 81, 82, 83, 84, 85, 86, 87, 88, 89] (by decide +kernel) (by decide +kernel)
set_option maxRecDepth 20000 in
theorem gX1_advance_X1_finish : GoodIn wsX1_advance (wsV RX1 154 RX1 yX1_finish wsX1_finish) := goodIn_app (goodIn_of _ (by decide +kernel)) ggX1_advance_X1_finish
theorem dX1_advance_0 : decode cX1_advance 0 = .ok (.aload_n 0, 1) := by decide +kernel
theorem dX1_advance_1 : decode cX1_advance 1 = .ok (.getfield 49, 3) := by decide +kernel
theorem dX1_advance_4 : decode cX1_advance 4 = .ok (.iload_n 1, 1) := by decide +kernel
theorem dX1_advance_5 : decode cX1_advance 5 = .ok (.iconst 0, 1) := by decide +kernel
theorem dX1_advance_6 : decode cX1_advance 6 = .ok (.invokevirtual 141, 3) := by decide +kernel
theorem dX1_advance_9 : decode cX1_advance 9 = .ok (.istore 4, 2) := by decide +kernel
theorem dX1_advance_11 : decode cX1_advance 11 = .ok (.iload 4, 2) := by decide +kernel
theorem dX1_advance_13 : decode cX1_advance 13 = .ok (.iconst 1, 1) := by decide +kernel
theorem dX1_advance_14 : decode cX1_advance 14 = .ok (.if_icmp .ne 21, 3) := by decide +kernel
theorem dX1_advance_17 : decode cX1_advance 17 = .ok (.aload_n 0, 1) := by decide +kernel
theorem dX1_advance_18 : decode cX1_advance 18 = .ok (.aload_n 0, 1) := by decide +kernel
theorem dX1_advance_19 : decode cX1_advance 19 = .ok (.getfield 49, 3) := by decide +kernel
theorem dX1_advance_22 : decode cX1_advance 22 = .ok (.iload_n 1, 1) := by decide +kernel
theorem dX1_advance_23 : decode cX1_advance 23 = .ok (.bipush 10, 2) := by decide +kernel
theorem dX1_advance_25 : decode cX1_advance 25 = .ok (.invokevirtual 141, 3) := by decide +kernel
theorem dX1_advance_28 : decode cX1_advance 28 = .ok (.lload_n 2, 1) := by decide +kernel
theorem dX1_advance_29 : decode cX1_advance 29 = .ok (.invokevirtual 138, 3) := by decide +kernel
theorem dX1_advance_32 : decode cX1_advance 32 = .ok (.goto 70, 3) := by decide +kernel
theorem dX1_advance_35 : decode cX1_advance 35 = .ok (.iload 4, 2) := by decide +kernel
theorem dX1_advance_37 : decode cX1_advance 37 = .ok (.ifCond .ne 24, 3) := by decide +kernel
theorem dX1_advance_40 : decode cX1_advance 40 = .ok (.aload_n 0, 1) := by decide +kernel
theorem dX1_advance_41 : decode cX1_advance 41 = .ok (.bipush 32, 2) := by decide +kernel
theorem dX1_advance_43 : decode cX1_advance 43 = .ok (.aload_n 0, 1) := by decide +kernel
theorem dX1_advance_44 : decode cX1_advance 44 = .ok (.getfield 49, 3) := by decide +kernel
theorem dX1_advance_47 : decode cX1_advance 47 = .ok (.iload_n 1, 1) := by decide +kernel
theorem dX1_advance_48 : decode cX1_advance 48 = .ok (.bipush 11, 2) := by decide +kernel
theorem dX1_advance_50 : decode cX1_advance 50 = .ok (.invokevirtual 141, 3) := by decide +kernel
theorem dX1_advance_53 : decode cX1_advance 53 = .ok (.iadd, 1) := by decide +kernel
theorem dX1_advance_54 : decode cX1_advance 54 = .ok (.iconst 1, 1) := by decide +kernel
theorem dX1_advance_55 : decode cX1_advance 55 = .ok (.invokevirtual 118, 3) := by decide +kernel
theorem dX1_advance_58 : decode cX1_advance 58 = .ok (.goto 44, 3) := by decide +kernel
theorem dX1_advance_61 : decode cX1_advance 61 = .ok (.iload 4, 2) := by decide +kernel
theorem dX1_advance_63 : decode cX1_advance 63 = .ok (.iconst 2, 1) := by decide +kernel
theorem dX1_advance_64 : decode cX1_advance 64 = .ok (.if_icmp .ne 12, 3) := by decide +kernel
theorem dX1_advance_67 : decode cX1_advance 67 = .ok (.aload_n 0, 1) := by decide +kernel
theorem dX1_advance_68 : decode cX1_advance 68 = .ok (.iload_n 1, 1) := by decide +kernel
theorem dX1_advance_69 : decode cX1_advance 69 = .ok (.lload_n 2, 1) := by decide +kernel
theorem dX1_advance_70 : decode cX1_advance 70 = .ok (.invokevirtual 144, 3) := by decide +kernel
theorem dX1_advance_73 : decode cX1_advance 73 = .ok (.goto 29, 3) := by decide +kernel
theorem dX1_advance_76 : decode cX1_advance 76 = .ok (.aload_n 0, 1) := by decide +kernel
theorem dX1_advance_77 : decode cX1_advance 77 = .ok (.iload_n 1, 1) := by decide +kernel
theorem dX1_advance_78 : decode cX1_advance 78 = .ok (.lload_n 2, 1) := by decide +kernel
theorem dX1_advance_79 : decode cX1_advance 79 = .ok (.invokevirtual 147, 3) := by decide +kernel
theorem dX1_advance_82 : decode cX1_advance 82 = .ok (.istore 5, 2) := by decide +kernel
theorem dX1_advance_84 : decode cX1_advance 84 = .ok (.aload_n 0, 1) := by decide +kernel
theorem dX1_advance_85 : decode cX1_advance 85 = .ok (.getfield 151, 3) := by decide +kernel
theorem dX1_advance_88 : decode cX1_advance 88 = .ok (.lconst 0, 1) := by decide +kernel
theorem dX1_advance_89 : decode cX1_advance 89 = .ok (.lcmp, 1) := by decide +kernel
theorem dX1_advance_90 : decode cX1_advance 90 = .ok (.ifCond .eq 12, 3) := by decide +kernel
theorem dX1_advance_93 : decode cX1_advance 93 = .ok (.aload_n 0, 1) := by decide +kernel
theorem dX1_advance_94 : decode cX1_advance 94 = .ok (.iload_n 1, 1) := by decide +kernel
theorem dX1_advance_95 : decode cX1_advance 95 = .ok (.iload 4, 2) := by decide +kernel
theorem dX1_advance_97 : decode cX1_advance 97 = .ok (.iload 5, 2) := by decide +kernel
theorem dX1_advance_99 : decode cX1_advance 99 = .ok (.invokevirtual 154, 3) := by decide +kernel
theorem dX1_advance_102 : decode cX1_advance 102 = .ok (.return_, 1) := by decide +kernel
set_option maxRecDepth 20000 in
theorem ggX1_fork_X0_get : GoodIn wsX1_fork wsX0_get := goodIn_r _ [7, 8, 9, 49, 50] (by decide +kernel) (by decide +kernel)
set_option maxRecDepth 20000 in
theorem gX1_fork_X0_get : GoodIn wsX1_fork (wsV RX1 141 RX0 yX0_get wsX0_get) := goodIn_app (goodIn_of _ (by decide +kernel)) ggX1_fork_X0_get
set_option maxRecDepth 20000 in
theorem ggX1_fork_X1_narrow : GoodIn wsX1_fork wsX1_narrow := goodIn_r _ [13, 14, 15, 12, 16, 17, 18, 19, 20] (by decide +kernel) (by decide +kernel)
set_option maxRecDepth 20000 in
theorem gX1_fork_X1_narrow : GoodIn wsX1_fork (va_wsS RX1 158 yX1_narrow wsX1_narrow) := goodIn_app (goodIn_of _ (by decide +kernel)) ggX1_fork_X1_narrow
set_option maxRecDepth 20000 in
theorem ggX1_fork_X5_at : GoodIn wsX1_fork wsX5_at := goodIn_r _ [24] (by decide +kernel) (by decide +kernel)
set_option maxRecDepth 20000 in
theorem gX1_fork_X5_at : GoodIn wsX1_fork (va_wsS RX1 72 yX5_at wsX5_at) := goodIn_app (goodIn_of _ (by decide +kernel)) ggX1_fork_X5_at
set_option maxRecDepth 20000 in
theorem ggX1_fork_X5_put : GoodIn wsX1_fork wsX5_put := goodIn_r _ [27] (by decide +kernel) (by decide +kernel)
set_option maxRecDepth 20000 in
theorem gX1_fork_X5_put : GoodIn wsX1_fork (va_wsS RX1 81 yX5_put wsX5_put) := goodIn_app (goodIn_of _ (by decide +kernel)) ggX1_fork_X5_put
set_option maxRecDepth 20000 in
theorem ggX1_fork_X1_join : GoodIn wsX1_fork wsX1_join := goodIn_r _ [31, 32, 33, 34, 25, 26, 23, 27, 35, 36, 37, 38, 39, 40, 41, 42, 43, 44, 45, 46, 47, 48] (by decide +kernel) (by decide +kernel)
set_option maxRecDepth 20000 in
theorem gX1_fork_X1_join : GoodIn wsX1_fork (wsV RX1 138 RX1 yX1_join wsX1_join) := goodIn_app (goodIn_of _ (by decide +kernel)) ggX1_fork_X1_join
theorem dX1_fork_0 : decode cX1_fork 0 = .ok (.aload_n 0, 1) := by decide +kernel
theorem dX1_fork_1 : decode cX1_fork 1 = .ok (.getfield 49, 3) := by decide +kernel
theorem dX1_fork_4 : decode cX1_fork 4 = .ok (.iload_n 1, 1) := by decide +kernel
theorem dX1_fork_5 : decode cX1_fork 5 = .ok (.iconst 4, 1) := by decide +kernel
theorem dX1_fork_6 : decode cX1_fork 6 = .ok (.invokevirtual 141, 3) := by decide +kernel
theorem dX1_fork_9 : decode cX1_fork 9 = .ok (.istore 4, 2) := by decide +kernel
theorem dX1_fork_11 : decode cX1_fork 11 = .ok (.aload_n 0, 1) := by decide +kernel
theorem dX1_fork_12 : decode cX1_fork 12 = .ok (.getfield 49, 3) := by decide +kernel
theorem dX1_fork_15 : decode cX1_fork 15 = .ok (.iload_n 1, 1) := by decide +kernel
theorem dX1_fork_16 : decode cX1_fork 16 = .ok (.iconst 1, 1) := by decide +kernel
theorem dX1_fork_17 : decode cX1_fork 17 = .ok (.invokevirtual 141, 3) := by decide +kernel
theorem dX1_fork_20 : decode cX1_fork 20 = .ok (.istore 5, 2) := by decide +kernel
theorem dX1_fork_22 : decode cX1_fork 22 = .ok (.lload_n 2, 1) := by decide +kernel
theorem dX1_fork_23 : decode cX1_fork 23 = .ok (.lstore 6, 2) := by decide +kernel
theorem dX1_fork_25 : decode cX1_fork 25 = .ok (.lload_n 2, 1) := by decide +kernel
theorem dX1_fork_26 : decode cX1_fork 26 = .ok (.lstore 8, 2) := by decide +kernel
theorem dX1_fork_28 : decode cX1_fork 28 = .ok (.iload 4, 2) := by decide +kernel
theorem dX1_fork_30 : decode cX1_fork 30 = .ok (.iconst 1, 1) := by decide +kernel
theorem dX1_fork_31 : decode cX1_fork 31 = .ok (.if_icmp .eq 39, 3) := by decide +kernel
theorem dX1_fork_34 : decode cX1_fork 34 = .ok (.iload 4, 2) := by decide +kernel
theorem dX1_fork_36 : decode cX1_fork 36 = .ok (.bipush 6, 2) := by decide +kernel
theorem dX1_fork_38 : decode cX1_fork 38 = .ok (.if_icmp .ne 7, 3) := by decide +kernel
theorem dX1_fork_41 : decode cX1_fork 41 = .ok (.iconst 1, 1) := by decide +kernel
theorem dX1_fork_42 : decode cX1_fork 42 = .ok (.goto 4, 3) := by decide +kernel
theorem dX1_fork_45 : decode cX1_fork 45 = .ok (.iconst 2, 1) := by decide +kernel
theorem dX1_fork_46 : decode cX1_fork 46 = .ok (.istore 10, 2) := by decide +kernel
theorem dX1_fork_48 : decode cX1_fork 48 = .ok (.lload_n 2, 1) := by decide +kernel
theorem dX1_fork_49 : decode cX1_fork 49 = .ok (.iload 5, 2) := by decide +kernel
theorem dX1_fork_51 : decode cX1_fork 51 = .ok (.iload 10, 2) := by decide +kernel
theorem dX1_fork_53 : decode cX1_fork 53 = .ok (.invokestatic 158, 3) := by decide +kernel
theorem dX1_fork_56 : decode cX1_fork 56 = .ok (.lstore 6, 2) := by decide +kernel
theorem dX1_fork_58 : decode cX1_fork 58 = .ok (.lload_n 2, 1) := by decide +kernel
theorem dX1_fork_59 : decode cX1_fork 59 = .ok (.iload 5, 2) := by decide +kernel
theorem dX1_fork_61 : decode cX1_fork 61 = .ok (.iconst 3, 1) := by decide +kernel
theorem dX1_fork_62 : decode cX1_fork 62 = .ok (.iload 10, 2) := by decide +kernel
theorem dX1_fork_64 : decode cX1_fork 64 = .ok (.isub, 1) := by decide +kernel
theorem dX1_fork_65 : decode cX1_fork 65 = .ok (.invokestatic 158, 3) := by decide +kernel
theorem dX1_fork_68 : decode cX1_fork 68 = .ok (.lstore 8, 2) := by decide +kernel
theorem dX1_fork_70 : decode cX1_fork 70 = .ok (.lload 6, 2) := by decide +kernel
theorem dX1_fork_72 : decode cX1_fork 72 = .ok (.lconst 0, 1) := by decide +kernel
theorem dX1_fork_73 : decode cX1_fork 73 = .ok (.lcmp, 1) := by decide +kernel
theorem dX1_fork_74 : decode cX1_fork 74 = .ok (.ifCond .eq 7, 3) := by decide +kernel
theorem dX1_fork_77 : decode cX1_fork 77 = .ok (.iconst 1, 1) := by decide +kernel
theorem dX1_fork_78 : decode cX1_fork 78 = .ok (.goto 4, 3) := by decide +kernel
theorem dX1_fork_81 : decode cX1_fork 81 = .ok (.iconst 0, 1) := by decide +kernel
theorem dX1_fork_82 : decode cX1_fork 82 = .ok (.lload 8, 2) := by decide +kernel
theorem dX1_fork_84 : decode cX1_fork 84 = .ok (.lconst 0, 1) := by decide +kernel
theorem dX1_fork_85 : decode cX1_fork 85 = .ok (.lcmp, 1) := by decide +kernel
theorem dX1_fork_86 : decode cX1_fork 86 = .ok (.ifCond .eq 7, 3) := by decide +kernel
theorem dX1_fork_89 : decode cX1_fork 89 = .ok (.iconst 2, 1) := by decide +kernel
theorem dX1_fork_90 : decode cX1_fork 90 = .ok (.goto 4, 3) := by decide +kernel
theorem dX1_fork_93 : decode cX1_fork 93 = .ok (.iconst 0, 1) := by decide +kernel
theorem dX1_fork_94 : decode cX1_fork 94 = .ok (.ior, 1) := by decide +kernel
theorem dX1_fork_95 : decode cX1_fork 95 = .ok (.istore 10, 2) := by decide +kernel
theorem dX1_fork_97 : decode cX1_fork 97 = .ok (.aload_n 0, 1) := by decide +kernel
theorem dX1_fork_98 : decode cX1_fork 98 = .ok (.getfield 49, 3) := by decide +kernel
theorem dX1_fork_101 : decode cX1_fork 101 = .ok (.iload_n 1, 1) := by decide +kernel
theorem dX1_fork_102 : decode cX1_fork 102 = .ok (.iconst 3, 1) := by decide +kernel
theorem dX1_fork_103 : decode cX1_fork 103 = .ok (.invokevirtual 141, 3) := by decide +kernel
theorem dX1_fork_106 : decode cX1_fork 106 = .ok (.istore 11, 2) := by decide +kernel
theorem dX1_fork_108 : decode cX1_fork 108 = .ok (.aload_n 0, 1) := by decide +kernel
theorem dX1_fork_109 : decode cX1_fork 109 = .ok (.getfield 25, 3) := by decide +kernel
theorem dX1_fork_112 : decode cX1_fork 112 = .ok (.iload 11, 2) := by decide +kernel
theorem dX1_fork_114 : decode cX1_fork 114 = .ok (.aload_n 0, 1) := by decide +kernel
theorem dX1_fork_115 : decode cX1_fork 115 = .ok (.getfield 25, 3) := by decide +kernel
theorem dX1_fork_118 : decode cX1_fork 118 = .ok (.iload 11, 2) := by decide +kernel
theorem dX1_fork_120 : decode cX1_fork 120 = .ok (.invokestatic 72, 3) := by decide +kernel
theorem dX1_fork_123 : decode cX1_fork 123 = .ok (.iload 10, 2) := by decide +kernel
theorem dX1_fork_125 : decode cX1_fork 125 = .ok (.ior, 1) := by decide +kernel
theorem dX1_fork_126 : decode cX1_fork 126 = .ok (.invokestatic 81, 3) := by decide +kernel
theorem dX1_fork_129 : decode cX1_fork 129 = .ok (.aload_n 0, 1) := by decide +kernel
theorem dX1_fork_130 : decode cX1_fork 130 = .ok (.iload_n 1, 1) := by decide +kernel
theorem dX1_fork_131 : decode cX1_fork 131 = .ok (.iconst 1, 1) := by decide +kernel
theorem dX1_fork_132 : decode cX1_fork 132 = .ok (.iadd, 1) := by decide +kernel
theorem dX1_fork_133 : decode cX1_fork 133 = .ok (.lload 6, 2) := by decide +kernel
theorem dX1_fork_135 : decode cX1_fork 135 = .ok (.invokevirtual 138, 3) := by decide +kernel
theorem dX1_fork_138 : decode cX1_fork 138 = .ok (.aload_n 0, 1) := by decide +kernel
theorem dX1_fork_139 : decode cX1_fork 139 = .ok (.aload_n 0, 1) := by decide +kernel
theorem dX1_fork_140 : decode cX1_fork 140 = .ok (.getfield 49, 3) := by decide +kernel
theorem dX1_fork_143 : decode cX1_fork 143 = .ok (.iload_n 1, 1) := by decide +kernel
theorem dX1_fork_144 : decode cX1_fork 144 = .ok (.bipush 10, 2) := by decide +kernel
theorem dX1_fork_146 : decode cX1_fork 146 = .ok (.invokevirtual 141, 3) := by decide +kernel
theorem dX1_fork_149 : decode cX1_fork 149 = .ok (.lload 8, 2) := by decide +kernel
theorem dX1_fork_151 : decode cX1_fork 151 = .ok (.invokevirtual 138, 3) := by decide +kernel
theorem dX1_fork_154 : decode cX1_fork 154 = .ok (.return_, 1) := by decide +kernel
set_option maxRecDepth 20000 in
theorem ggX1_work_X0_get : GoodIn wsX1_work wsX0_get := goodIn_r _ [8, 9, 10, 69, 70] (by decide +kernel) (by decide +kernel)
set_option maxRecDepth 20000 in
theorem gX1_work_X0_get : GoodIn wsX1_work (wsV RX1 141 RX0 yX0_get wsX0_get) := goodIn_app (goodIn_of _ (by decide +kernel)) ggX1_work_X0_get
set_option maxRecDepth 20000 in
theorem ggX1_work_X1_raise : GoodIn wsX1_work wsX1_raise := goodIn_r _ [15, 16, 3, 17, 18, 19, 20, 21, 22, 23, 24, 25, 55, 56, 57, 58, 59, 60, 61, 62, 63, 64, 65, 66, 67, 68] (by decide +kernel) (by decide +kernel)
set_option maxRecDepth 20000 in
theorem gX1_work_X1_raise : GoodIn wsX1_work (wsV RX1 118 RX1 yX1_raise wsX1_raise) := goodIn_app (goodIn_of _ (by decide +kernel)) ggX1_work_X1_raise
set_option maxRecDepth 20000 in
theorem ggX1_work_X1_factOf : GoodIn wsX1_work wsX1_factOf := goodIn_r _ [28] (by decide +kernel) (by decide +kernel)
set_option maxRecDepth 20000 in
theorem gX1_work_X1_factOf : GoodIn wsX1_work (va_wsS RX1 161 yX1_factOf wsX1_factOf) := goodIn_app (goodIn_of _ (by decide +kernel)) ggX1_work_X1_factOf
set_option maxRecDepth 20000 in
theorem ggX1_work_X1_noteUse : GoodIn wsX1_work wsX1_noteUse := goodIn_r _ [32, 33, 19, 20, 21, 22, 23, 24, 25, 55, 56, 57, 58, 59, 60, 61, 62, 63, 64, 65, 66, 67, 68] (by decide +kernel) (by decide +kernel)
set_option maxRecDepth 20000 in
theorem gX1_work_X1_noteUse : GoodIn wsX1_work (wsV RX1 165 RX1 yX1_noteUse wsX1_noteUse) := goodIn_app (goodIn_of _ (by decide +kernel)) ggX1_work_X1_noteUse
set_option maxRecDepth 20000 in
theorem ggX1_work_X1_narrow : GoodIn wsX1_work wsX1_narrow := goodIn_r _ [36, 26, 27, 14, 28, 37, 38, 39, 40] (by decide +kernel) (by decide +kernel)
set_option maxRecDepth 20000 in
theorem gX1_work_X1_narrow : GoodIn wsX1_work (va_wsS RX1 158 yX1_narrow wsX1_narrow) := goodIn_app (goodIn_of _ (by decide +kernel)) ggX1_work_X1_narrow
set_option maxRecDepth 20000 in
theorem ggX1_work_X5_at : GoodIn wsX1_work wsX5_at := goodIn_r _ [22] (by decide +kernel) (by decide +kernel)
set_option maxRecDepth 20000 in
theorem gX1_work_X5_at : GoodIn wsX1_work (va_wsS RX1 72 yX5_at wsX5_at) := goodIn_app (goodIn_of _ (by decide +kernel)) ggX1_work_X5_at
set_option maxRecDepth 20000 in
theorem ggX1_work_X1_workCall : GoodIn wsX1_work wsX1_workCall := goodIn_r _ [44, 45, 18, 1, 3, 2, 46, 47, 48, 7, 49, 50, 5, 6, 8, 9, 10, 51, 52, 53, 54, 26, 27, 14, 28, 11, 12, 13, 15, 16, 17, 19, 20, 21, 22, 23, 24, 25, 55, 56, 57, 58, 59, 60, 61, 62, 63, 64, 65, 66, 67, 68, 69, 70] (by decide +kernel) (by decide +kernel)
set_option maxRecDepth 20000 in
theorem gX1_work_X1_workCall : GoodIn wsX1_work (wsV RX1 168 RX1 yX1_workCall wsX1_workCall) := goodIn_app (goodIn_of _ (by decide +kernel)) ggX1_work_X1_workCall
theorem dX1_work_0 : decode cX1_work 0 = .ok (.aload_n 0, 1) := by decide +kernel
theorem dX1_work_1 : decode cX1_work 1 = .ok (.getfield 49, 3) := by decide +kernel
theorem dX1_work_4 : decode cX1_work 4 = .ok (.iload_n 1, 1) := by decide +kernel
theorem dX1_work_5 : decode cX1_work 5 = .ok (.iconst 5, 1) := by decide +kernel
theorem dX1_work_6 : decode cX1_work 6 = .ok (.invokevirtual 141, 3) := by decide +kernel
theorem dX1_work_9 : decode cX1_work 9 = .ok (.istore 4, 2) := by decide +kernel
theorem dX1_work_11 : decode cX1_work 11 = .ok (.aload_n 0, 1) := by decide +kernel
theorem dX1_work_12 : decode cX1_work 12 = .ok (.getfield 49, 3) := by decide +kernel
theorem dX1_work_15 : decode cX1_work 15 = .ok (.iload_n 1, 1) := by decide +kernel
theorem dX1_work_16 : decode cX1_work 16 = .ok (.bipush 6, 2) := by decide +kernel
theorem dX1_work_18 : decode cX1_work 18 = .ok (.invokevirtual 141, 3) := by decide +kernel
theorem dX1_work_21 : decode cX1_work 21 = .ok (.istore 5, 2) := by decide +kernel
theorem dX1_work_23 : decode cX1_work 23 = .ok (.aload_n 0, 1) := by decide +kernel
theorem dX1_work_24 : decode cX1_work 24 = .ok (.lload_n 2, 1) := by decide +kernel
theorem dX1_work_25 : decode cX1_work 25 = .ok (.putfield 151, 3) := by decide +kernel
theorem dX1_work_28 : decode cX1_work 28 = .ok (.aload_n 0, 1) := by decide +kernel
theorem dX1_work_29 : decode cX1_work 29 = .ok (.getfield 49, 3) := by decide +kernel
theorem dX1_work_32 : decode cX1_work 32 = .ok (.iload_n 1, 1) := by decide +kernel
theorem dX1_work_33 : decode cX1_work 33 = .ok (.iconst 4, 1) := by decide +kernel
theorem dX1_work_34 : decode cX1_work 34 = .ok (.invokevirtual 141, 3) := by decide +kernel
theorem dX1_work_37 : decode cX1_work 37 = .ok (.tableswitch 137 1 5 #[35, 51, 77, 84, 128], 35) := by decide +kernel
theorem dX1_work_72 : decode cX1_work 72 = .ok (.aload_n 0, 1) := by decide +kernel
theorem dX1_work_73 : decode cX1_work 73 = .ok (.bipush 40, 2) := by decide +kernel
theorem dX1_work_75 : decode cX1_work 75 = .ok (.iconst 2, 1) := by decide +kernel
theorem dX1_work_76 : decode cX1_work 76 = .ok (.invokevirtual 118, 3) := by decide +kernel
theorem dX1_work_79 : decode cX1_work 79 = .ok (.aload_n 0, 1) := by decide +kernel
theorem dX1_work_80 : decode cX1_work 80 = .ok (.bipush 41, 2) := by decide +kernel
theorem dX1_work_82 : decode cX1_work 82 = .ok (.iconst 2, 1) := by decide +kernel
theorem dX1_work_83 : decode cX1_work 83 = .ok (.invokevirtual 118, 3) := by decide +kernel
theorem dX1_work_86 : decode cX1_work 86 = .ok (.iconst 3, 1) := by decide +kernel
theorem dX1_work_87 : decode cX1_work 87 = .ok (.ireturn, 1) := by decide +kernel
theorem dX1_work_88 : decode cX1_work 88 = .ok (.aload_n 0, 1) := by decide +kernel
theorem dX1_work_89 : decode cX1_work 89 = .ok (.bipush 40, 2) := by decide +kernel
theorem dX1_work_91 : decode cX1_work 91 = .ok (.lload_n 2, 1) := by decide +kernel
theorem dX1_work_92 : decode cX1_work 92 = .ok (.iload 4, 2) := by decide +kernel
theorem dX1_work_94 : decode cX1_work 94 = .ok (.invokestatic 161, 3) := by decide +kernel
theorem dX1_work_97 : decode cX1_work 97 = .ok (.invokevirtual 118, 3) := by decide +kernel
theorem dX1_work_100 : decode cX1_work 100 = .ok (.aload_n 0, 1) := by decide +kernel
theorem dX1_work_101 : decode cX1_work 101 = .ok (.bipush 41, 2) := by decide +kernel
theorem dX1_work_103 : decode cX1_work 103 = .ok (.lload_n 2, 1) := by decide +kernel
theorem dX1_work_104 : decode cX1_work 104 = .ok (.iload 5, 2) := by decide +kernel
theorem dX1_work_106 : decode cX1_work 106 = .ok (.invokestatic 161, 3) := by decide +kernel
theorem dX1_work_109 : decode cX1_work 109 = .ok (.invokevirtual 118, 3) := by decide +kernel
theorem dX1_work_112 : decode cX1_work 112 = .ok (.iconst 2, 1) := by decide +kernel
theorem dX1_work_113 : decode cX1_work 113 = .ok (.ireturn, 1) := by decide +kernel
theorem dX1_work_114 : decode cX1_work 114 = .ok (.lload_n 2, 1) := by decide +kernel
theorem dX1_work_115 : decode cX1_work 115 = .ok (.iload 4, 2) := by decide +kernel
theorem dX1_work_117 : decode cX1_work 117 = .ok (.invokestatic 161, 3) := by decide +kernel
theorem dX1_work_120 : decode cX1_work 120 = .ok (.ireturn, 1) := by decide +kernel
theorem dX1_work_121 : decode cX1_work 121 = .ok (.aload_n 0, 1) := by decide +kernel
theorem dX1_work_122 : decode cX1_work 122 = .ok (.aload_n 0, 1) := by decide +kernel
theorem dX1_work_123 : decode cX1_work 123 = .ok (.getfield 49, 3) := by decide +kernel
theorem dX1_work_126 : decode cX1_work 126 = .ok (.iload_n 1, 1) := by decide +kernel
theorem dX1_work_127 : decode cX1_work 127 = .ok (.bipush 7, 2) := by decide +kernel
theorem dX1_work_129 : decode cX1_work 129 = .ok (.invokevirtual 141, 3) := by decide +kernel
theorem dX1_work_132 : decode cX1_work 132 = .ok (.lload_n 2, 1) := by decide +kernel
theorem dX1_work_133 : decode cX1_work 133 = .ok (.iload 4, 2) := by decide +kernel
theorem dX1_work_135 : decode cX1_work 135 = .ok (.invokestatic 161, 3) := by decide +kernel
theorem dX1_work_138 : decode cX1_work 138 = .ok (.invokevirtual 165, 3) := by decide +kernel
theorem dX1_work_141 : decode cX1_work 141 = .ok (.aload_n 0, 1) := by decide +kernel
theorem dX1_work_142 : decode cX1_work 142 = .ok (.lload_n 2, 1) := by decide +kernel
theorem dX1_work_143 : decode cX1_work 143 = .ok (.iload 4, 2) := by decide +kernel
theorem dX1_work_145 : decode cX1_work 145 = .ok (.iconst 2, 1) := by decide +kernel
theorem dX1_work_146 : decode cX1_work 146 = .ok (.invokestatic 158, 3) := by decide +kernel
theorem dX1_work_149 : decode cX1_work 149 = .ok (.putfield 151, 3) := by decide +kernel
theorem dX1_work_152 : decode cX1_work 152 = .ok (.aload_n 0, 1) := by decide +kernel
theorem dX1_work_153 : decode cX1_work 153 = .ok (.getfield 19, 3) := by decide +kernel
theorem dX1_work_156 : decode cX1_work 156 = .ok (.bipush 40, 2) := by decide +kernel
theorem dX1_work_158 : decode cX1_work 158 = .ok (.iload 5, 2) := by decide +kernel
theorem dX1_work_160 : decode cX1_work 160 = .ok (.iadd, 1) := by decide +kernel
theorem dX1_work_161 : decode cX1_work 161 = .ok (.invokestatic 72, 3) := by decide +kernel
theorem dX1_work_164 : decode cX1_work 164 = .ok (.ireturn, 1) := by decide +kernel
theorem dX1_work_165 : decode cX1_work 165 = .ok (.aload_n 0, 1) := by decide +kernel
theorem dX1_work_166 : decode cX1_work 166 = .ok (.iload_n 1, 1) := by decide +kernel
theorem dX1_work_167 : decode cX1_work 167 = .ok (.lload_n 2, 1) := by decide +kernel
theorem dX1_work_168 : decode cX1_work 168 = .ok (.iload 5, 2) := by decide +kernel
theorem dX1_work_170 : decode cX1_work 170 = .ok (.invokevirtual 168, 3) := by decide +kernel
theorem dX1_work_173 : decode cX1_work 173 = .ok (.ireturn, 1) := by decide +kernel
theorem dX1_work_174 : decode cX1_work 174 = .ok (.iconst 1, 1) := by decide +kernel
theorem dX1_work_175 : decode cX1_work 175 = .ok (.ireturn, 1) := by decide +kernel
set_option maxRecDepth 20000 in
theorem ggX1_workCall_X0_arguments : GoodIn wsX1_workCall wsX0_arguments := goodIn_r _ [10, 11, 12, 13, 9, 14, 15, 16, 52, 53] (by decide +kernel) (by decide +kernel)
set_option maxRecDepth 20000 in
theorem gX1_workCall_X0_arguments : GoodIn wsX1_workCall (wsV RX1 172 RX0 yX0_arguments wsX0_arguments) := goodIn_app (goodIn_of _ (by decide +kernel)) ggX1_workCall_X0_arguments
set_option maxRecDepth 20000 in
theorem ggX1_workCall_X0_argument : GoodIn wsX1_workCall wsX0_argument := goodIn_r _ [20, 11, 12, 13, 9, 14, 15, 16, 52, 53] (by decide +kernel) (by decide +kernel)
set_option maxRecDepth 20000 in
theorem gX1_workCall_X0_argument : GoodIn wsX1_workCall (wsV RX1 176 RX0 yX0_argument wsX0_argument) := goodIn_app (goodIn_of _ (by decide +kernel)) ggX1_workCall_X0_argument
set_option maxRecDepth 20000 in
theorem ggX1_workCall_X1_factOf : GoodIn wsX1_workCall wsX1_factOf := goodIn_r _ [24] (by decide +kernel) (by decide +kernel)
set_option maxRecDepth 20000 in
theorem gX1_workCall_X1_factOf : GoodIn wsX1_workCall (va_wsS RX1 161 yX1_factOf wsX1_factOf) := goodIn_app (goodIn_of _ (by decide +kernel)) ggX1_workCall_X1_factOf
set_option maxRecDepth 20000 in
theorem ggX1_workCall_X1_raise : GoodIn wsX1_workCall wsX1_raise := goodIn_r _ [28, 29, 4, 30, 2, 31, 32, 33, 34, 35, 36, 37, 38, 39, 40, 41, 42, 43, 44, 45, 46, 47, 48, 49, 50, 51] (by decide +kernel) (by decide +kernel)
set_option maxRecDepth 20000 in
theorem gX1_workCall_X1_raise : GoodIn wsX1_workCall (wsV RX1 118 RX1 yX1_raise wsX1_raise) := goodIn_app (goodIn_of _ (by decide +kernel)) ggX1_workCall_X1_raise
set_option maxRecDepth 20000 in
theorem ggX1_workCall_X5_at : GoodIn wsX1_workCall wsX5_at := goodIn_r _ [34] (by decide +kernel) (by decide +kernel)
set_option maxRecDepth 20000 in
theorem gX1_workCall_X5_at : GoodIn wsX1_workCall (va_wsS RX1 72 yX5_at wsX5_at) := goodIn_app (goodIn_of _ (by decide +kernel)) ggX1_workCall_X5_at
theorem dX1_workCall_0 : decode cX1_workCall 0 = .ok (.aload_n 0, 1) := by decide +kernel
theorem dX1_workCall_1 : decode cX1_workCall 1 = .ok (.getfield 92, 3) := by decide +kernel
theorem dX1_workCall_4 : decode cX1_workCall 4 = .ok (.iload 4, 2) := by decide +kernel
theorem dX1_workCall_6 : decode cX1_workCall 6 = .ok (.ishr, 1) := by decide +kernel
theorem dX1_workCall_7 : decode cX1_workCall 7 = .ok (.iconst 1, 1) := by decide +kernel
theorem dX1_workCall_8 : decode cX1_workCall 8 = .ok (.iand, 1) := by decide +kernel
theorem dX1_workCall_9 : decode cX1_workCall 9 = .ok (.ifCond .ne 21, 3) := by decide +kernel
theorem dX1_workCall_12 : decode cX1_workCall 12 = .ok (.aload_n 0, 1) := by decide +kernel
theorem dX1_workCall_13 : decode cX1_workCall 13 = .ok (.dup, 1) := by decide +kernel
theorem dX1_workCall_14 : decode cX1_workCall 14 = .ok (.getfield 92, 3) := by decide +kernel
theorem dX1_workCall_17 : decode cX1_workCall 17 = .ok (.iconst 1, 1) := by decide +kernel
theorem dX1_workCall_18 : decode cX1_workCall 18 = .ok (.iload 4, 2) := by decide +kernel
theorem dX1_workCall_20 : decode cX1_workCall 20 = .ok (.ishl, 1) := by decide +kernel
theorem dX1_workCall_21 : decode cX1_workCall 21 = .ok (.ior, 1) := by decide +kernel
theorem dX1_workCall_22 : decode cX1_workCall 22 = .ok (.putfield 92, 3) := by decide +kernel
theorem dX1_workCall_25 : decode cX1_workCall 25 = .ok (.aload_n 0, 1) := by decide +kernel
theorem dX1_workCall_26 : decode cX1_workCall 26 = .ok (.iconst 1, 1) := by decide +kernel
theorem dX1_workCall_27 : decode cX1_workCall 27 = .ok (.putfield 60, 3) := by decide +kernel
theorem dX1_workCall_30 : decode cX1_workCall 30 = .ok (.iconst 0, 1) := by decide +kernel
theorem dX1_workCall_31 : decode cX1_workCall 31 = .ok (.istore 5, 2) := by decide +kernel
theorem dX1_workCall_33 : decode cX1_workCall 33 = .ok (.iload 5, 2) := by decide +kernel
theorem dX1_workCall_35 : decode cX1_workCall 35 = .ok (.aload_n 0, 1) := by decide +kernel
theorem dX1_workCall_36 : decode cX1_workCall 36 = .ok (.getfield 49, 3) := by decide +kernel
theorem dX1_workCall_39 : decode cX1_workCall 39 = .ok (.iload_n 1, 1) := by decide +kernel
theorem dX1_workCall_40 : decode cX1_workCall 40 = .ok (.invokevirtual 172, 3) := by decide +kernel
theorem dX1_workCall_43 : decode cX1_workCall 43 = .ok (.if_icmp .ge 34, 3) := by decide +kernel
theorem dX1_workCall_46 : decode cX1_workCall 46 = .ok (.aload_n 0, 1) := by decide +kernel
theorem dX1_workCall_47 : decode cX1_workCall 47 = .ok (.iload 4, 2) := by decide +kernel
theorem dX1_workCall_49 : decode cX1_workCall 49 = .ok (.iconst 4, 1) := by decide +kernel
theorem dX1_workCall_50 : decode cX1_workCall 50 = .ok (.imul, 1) := by decide +kernel
theorem dX1_workCall_51 : decode cX1_workCall 51 = .ok (.iload 5, 2) := by decide +kernel
theorem dX1_workCall_53 : decode cX1_workCall 53 = .ok (.iadd, 1) := by decide +kernel
theorem dX1_workCall_54 : decode cX1_workCall 54 = .ok (.lload_n 2, 1) := by decide +kernel
theorem dX1_workCall_55 : decode cX1_workCall 55 = .ok (.aload_n 0, 1) := by decide +kernel
theorem dX1_workCall_56 : decode cX1_workCall 56 = .ok (.getfield 49, 3) := by decide +kernel
theorem dX1_workCall_59 : decode cX1_workCall 59 = .ok (.iload_n 1, 1) := by decide +kernel
theorem dX1_workCall_60 : decode cX1_workCall 60 = .ok (.iload 5, 2) := by decide +kernel
theorem dX1_workCall_62 : decode cX1_workCall 62 = .ok (.invokevirtual 176, 3) := by decide +kernel
theorem dX1_workCall_65 : decode cX1_workCall 65 = .ok (.invokestatic 161, 3) := by decide +kernel
theorem dX1_workCall_68 : decode cX1_workCall 68 = .ok (.invokevirtual 118, 3) := by decide +kernel
theorem dX1_workCall_71 : decode cX1_workCall 71 = .ok (.iinc 5 1, 3) := by decide +kernel
theorem dX1_workCall_74 : decode cX1_workCall 74 = .ok (.goto (-41), 3) := by decide +kernel
theorem dX1_workCall_77 : decode cX1_workCall 77 = .ok (.aload_n 0, 1) := by decide +kernel
theorem dX1_workCall_78 : decode cX1_workCall 78 = .ok (.getfield 19, 3) := by decide +kernel
theorem dX1_workCall_81 : decode cX1_workCall 81 = .ok (.bipush 32, 2) := by decide +kernel
theorem dX1_workCall_83 : decode cX1_workCall 83 = .ok (.iload 4, 2) := by decide +kernel
theorem dX1_workCall_85 : decode cX1_workCall 85 = .ok (.iadd, 1) := by decide +kernel
theorem dX1_workCall_86 : decode cX1_workCall 86 = .ok (.invokestatic 72, 3) := by decide +kernel
theorem dX1_workCall_89 : decode cX1_workCall 89 = .ok (.istore 5, 2) := by decide +kernel
theorem dX1_workCall_91 : decode cX1_workCall 91 = .ok (.iload 5, 2) := by decide +kernel
theorem dX1_workCall_93 : decode cX1_workCall 93 = .ok (.ifCond .ne 8, 3) := by decide +kernel
theorem dX1_workCall_96 : decode cX1_workCall 96 = .ok (.aload_n 0, 1) := by decide +kernel
theorem dX1_workCall_97 : decode cX1_workCall 97 = .ok (.lconst 0, 1) := by decide +kernel
theorem dX1_workCall_98 : decode cX1_workCall 98 = .ok (.putfield 151, 3) := by decide +kernel
theorem dX1_workCall_101 : decode cX1_workCall 101 = .ok (.iload 5, 2) := by decide +kernel
theorem dX1_workCall_103 : decode cX1_workCall 103 = .ok (.ireturn, 1) := by decide +kernel
set_option maxRecDepth 20000 in
theorem ggX1_finish_X0_get : GoodIn wsX1_finish wsX0_get := goodIn_r _ [7, 8, 9, 61, 62] (by decide +kernel) (by decide +kernel)
set_option maxRecDepth 20000 in
theorem gX1_finish_X0_get : GoodIn wsX1_finish (wsV RX1 141 RX0 yX0_get wsX0_get) := goodIn_app (goodIn_of _ (by decide +kernel)) ggX1_finish_X0_get
set_option maxRecDepth 20000 in
theorem ggX1_finish_X1_with : GoodIn wsX1_finish wsX1_with := goodIn_r _ [13, 14] (by decide +kernel) (by decide +kernel)
set_option maxRecDepth 20000 in
theorem gX1_finish_X1_with : GoodIn wsX1_finish (va_wsS RX1 131 yX1_with wsX1_with) := goodIn_app (goodIn_of _ (by decide +kernel)) ggX1_finish_X1_with
set_option maxRecDepth 20000 in
theorem ggX1_finish_X1_join : GoodIn wsX1_finish wsX1_join := goodIn_r _ [18, 19, 20, 21, 22, 23, 24, 25, 47, 48, 49, 50, 51, 52, 53, 54, 55, 56, 57, 58, 59, 60] (by decide +kernel) (by decide +kernel)
set_option maxRecDepth 20000 in
theorem gX1_finish_X1_join : GoodIn wsX1_finish (wsV RX1 138 RX1 yX1_join wsX1_join) := goodIn_app (goodIn_of _ (by decide +kernel)) ggX1_finish_X1_join
set_option maxRecDepth 20000 in
theorem ggX1_finish_X1_factOf : GoodIn wsX1_finish wsX1_factOf := goodIn_r _ [28] (by decide +kernel) (by decide +kernel)
set_option maxRecDepth 20000 in
theorem gX1_finish_X1_factOf : GoodIn wsX1_finish (va_wsS RX1 161 yX1_factOf wsX1_factOf) := goodIn_app (goodIn_of _ (by decide +kernel)) ggX1_finish_X1_factOf
set_option maxRecDepth 20000 in
theorem ggX1_finish_X1_noteUse : GoodIn wsX1_finish wsX1_noteUse := goodIn_r _ [32, 33, 34, 35, 24, 36, 22, 23, 25, 47, 48, 49, 50, 51, 52, 53, 54, 55, 56, 57, 58, 59, 60] (by decide +kernel) (by decide +kernel)
set_option maxRecDepth 20000 in
theorem gX1_finish_X1_noteUse : GoodIn wsX1_finish (wsV RX1 165 RX1 yX1_noteUse wsX1_noteUse) := goodIn_app (goodIn_of _ (by decide +kernel)) ggX1_finish_X1_noteUse
set_option maxRecDepth 20000 in
theorem ggX1_finish_X1_narrow : GoodIn wsX1_finish wsX1_narrow := goodIn_r _ [39, 26, 27, 12, 28, 10, 11, 13, 14] (by decide +kernel) (by decide +kernel)
set_option maxRecDepth 20000 in
theorem gX1_finish_X1_narrow : GoodIn wsX1_finish (va_wsS RX1 158 yX1_narrow wsX1_narrow) := goodIn_app (goodIn_of _ (by decide +kernel)) ggX1_finish_X1_narrow
set_option maxRecDepth 20000 in
theorem ggX1_finish_X1_raise : GoodIn wsX1_finish wsX1_raise := goodIn_r _ [43, 44, 45, 46, 21, 34, 35, 24, 36, 22, 23, 25, 47, 48, 49, 50, 51, 52, 53, 54, 55, 56, 57, 58, 59, 60] (by decide +kernel) (by decide +kernel)
set_option maxRecDepth 20000 in
theorem gX1_finish_X1_raise : GoodIn wsX1_finish (wsV RX1 118 RX1 yX1_raise wsX1_raise) := goodIn_app (goodIn_of _ (by decide +kernel)) ggX1_finish_X1_raise
theorem dX1_finish_0 : decode cX1_finish 0 = .ok (.aload_n 0, 1) := by decide +kernel
theorem dX1_finish_1 : decode cX1_finish 1 = .ok (.getfield 49, 3) := by decide +kernel
theorem dX1_finish_4 : decode cX1_finish 4 = .ok (.iload_n 1, 1) := by decide +kernel
theorem dX1_finish_5 : decode cX1_finish 5 = .ok (.iconst 1, 1) := by decide +kernel
theorem dX1_finish_6 : decode cX1_finish 6 = .ok (.invokevirtual 141, 3) := by decide +kernel
theorem dX1_finish_9 : decode cX1_finish 9 = .ok (.istore 4, 2) := by decide +kernel
theorem dX1_finish_11 : decode cX1_finish 11 = .ok (.iload_n 2, 1) := by decide +kernel
theorem dX1_finish_12 : decode cX1_finish 12 = .ok (.iconst 3, 1) := by decide +kernel
theorem dX1_finish_13 : decode cX1_finish 13 = .ok (.if_icmp .ne 23, 3) := by decide +kernel
theorem dX1_finish_16 : decode cX1_finish 16 = .ok (.aload_n 0, 1) := by decide +kernel
theorem dX1_finish_17 : decode cX1_finish 17 = .ok (.iload_n 1, 1) := by decide +kernel
theorem dX1_finish_18 : decode cX1_finish 18 = .ok (.iconst 1, 1) := by decide +kernel
theorem dX1_finish_19 : decode cX1_finish 19 = .ok (.iadd, 1) := by decide +kernel
theorem dX1_finish_20 : decode cX1_finish 20 = .ok (.aload_n 0, 1) := by decide +kernel
theorem dX1_finish_21 : decode cX1_finish 21 = .ok (.getfield 151, 3) := by decide +kernel
theorem dX1_finish_24 : decode cX1_finish 24 = .ok (.iload 4, 2) := by decide +kernel
theorem dX1_finish_26 : decode cX1_finish 26 = .ok (.iload_n 3, 1) := by decide +kernel
theorem dX1_finish_27 : decode cX1_finish 27 = .ok (.invokestatic 131, 3) := by decide +kernel
theorem dX1_finish_30 : decode cX1_finish 30 = .ok (.invokevirtual 138, 3) := by decide +kernel
theorem dX1_finish_33 : decode cX1_finish 33 = .ok (.goto 122, 3) := by decide +kernel
theorem dX1_finish_36 : decode cX1_finish 36 = .ok (.iload_n 2, 1) := by decide +kernel
theorem dX1_finish_37 : decode cX1_finish 37 = .ok (.iconst 4, 1) := by decide +kernel
theorem dX1_finish_38 : decode cX1_finish 38 = .ok (.if_icmp .ne 79, 3) := by decide +kernel
theorem dX1_finish_41 : decode cX1_finish 41 = .ok (.aload_n 0, 1) := by decide +kernel
theorem dX1_finish_42 : decode cX1_finish 42 = .ok (.aload_n 0, 1) := by decide +kernel
theorem dX1_finish_43 : decode cX1_finish 43 = .ok (.getfield 49, 3) := by decide +kernel
theorem dX1_finish_46 : decode cX1_finish 46 = .ok (.iload_n 1, 1) := by decide +kernel
theorem dX1_finish_47 : decode cX1_finish 47 = .ok (.iconst 3, 1) := by decide +kernel
theorem dX1_finish_48 : decode cX1_finish 48 = .ok (.invokevirtual 141, 3) := by decide +kernel
theorem dX1_finish_51 : decode cX1_finish 51 = .ok (.aload_n 0, 1) := by decide +kernel
theorem dX1_finish_52 : decode cX1_finish 52 = .ok (.getfield 151, 3) := by decide +kernel
theorem dX1_finish_55 : decode cX1_finish 55 = .ok (.iload 4, 2) := by decide +kernel
theorem dX1_finish_57 : decode cX1_finish 57 = .ok (.invokestatic 161, 3) := by decide +kernel
theorem dX1_finish_60 : decode cX1_finish 60 = .ok (.invokevirtual 165, 3) := by decide +kernel
theorem dX1_finish_63 : decode cX1_finish 63 = .ok (.aload_n 0, 1) := by decide +kernel
theorem dX1_finish_64 : decode cX1_finish 64 = .ok (.aload_n 0, 1) := by decide +kernel
theorem dX1_finish_65 : decode cX1_finish 65 = .ok (.getfield 151, 3) := by decide +kernel
theorem dX1_finish_68 : decode cX1_finish 68 = .ok (.iload 4, 2) := by decide +kernel
theorem dX1_finish_70 : decode cX1_finish 70 = .ok (.iconst 2, 1) := by decide +kernel
theorem dX1_finish_71 : decode cX1_finish 71 = .ok (.invokestatic 158, 3) := by decide +kernel
theorem dX1_finish_74 : decode cX1_finish 74 = .ok (.putfield 151, 3) := by decide +kernel
theorem dX1_finish_77 : decode cX1_finish 77 = .ok (.aload_n 0, 1) := by decide +kernel
theorem dX1_finish_78 : decode cX1_finish 78 = .ok (.getfield 151, 3) := by decide +kernel
theorem dX1_finish_81 : decode cX1_finish 81 = .ok (.lconst 0, 1) := by decide +kernel
theorem dX1_finish_82 : decode cX1_finish 82 = .ok (.lcmp, 1) := by decide +kernel
theorem dX1_finish_83 : decode cX1_finish 83 = .ok (.ifCond .eq 72, 3) := by decide +kernel
theorem dX1_finish_86 : decode cX1_finish 86 = .ok (.aload_n 0, 1) := by decide +kernel
theorem dX1_finish_87 : decode cX1_finish 87 = .ok (.bipush 40, 2) := by decide +kernel
theorem dX1_finish_89 : decode cX1_finish 89 = .ok (.aload_n 0, 1) := by decide +kernel
theorem dX1_finish_90 : decode cX1_finish 90 = .ok (.getfield 49, 3) := by decide +kernel
theorem dX1_finish_93 : decode cX1_finish 93 = .ok (.iload_n 1, 1) := by decide +kernel
theorem dX1_finish_94 : decode cX1_finish 94 = .ok (.iconst 2, 1) := by decide +kernel
theorem dX1_finish_95 : decode cX1_finish 95 = .ok (.invokevirtual 141, 3) := by decide +kernel
theorem dX1_finish_98 : decode cX1_finish 98 = .ok (.iadd, 1) := by decide +kernel
theorem dX1_finish_99 : decode cX1_finish 99 = .ok (.iload_n 3, 1) := by decide +kernel
theorem dX1_finish_100 : decode cX1_finish 100 = .ok (.invokevirtual 118, 3) := by decide +kernel
theorem dX1_finish_103 : decode cX1_finish 103 = .ok (.aload_n 0, 1) := by decide +kernel
theorem dX1_finish_104 : decode cX1_finish 104 = .ok (.iload_n 1, 1) := by decide +kernel
theorem dX1_finish_105 : decode cX1_finish 105 = .ok (.iconst 1, 1) := by decide +kernel
theorem dX1_finish_106 : decode cX1_finish 106 = .ok (.iadd, 1) := by decide +kernel
theorem dX1_finish_107 : decode cX1_finish 107 = .ok (.aload_n 0, 1) := by decide +kernel
theorem dX1_finish_108 : decode cX1_finish 108 = .ok (.getfield 151, 3) := by decide +kernel
theorem dX1_finish_111 : decode cX1_finish 111 = .ok (.invokevirtual 138, 3) := by decide +kernel
theorem dX1_finish_114 : decode cX1_finish 114 = .ok (.goto 41, 3) := by decide +kernel
theorem dX1_finish_117 : decode cX1_finish 117 = .ok (.iload_n 2, 1) := by decide +kernel
theorem dX1_finish_118 : decode cX1_finish 118 = .ok (.bipush 6, 2) := by decide +kernel
theorem dX1_finish_120 : decode cX1_finish 120 = .ok (.if_icmp .ne 24, 3) := by decide +kernel
theorem dX1_finish_123 : decode cX1_finish 123 = .ok (.aload_n 0, 1) := by decide +kernel
theorem dX1_finish_124 : decode cX1_finish 124 = .ok (.bipush 32, 2) := by decide +kernel
theorem dX1_finish_126 : decode cX1_finish 126 = .ok (.aload_n 0, 1) := by decide +kernel
theorem dX1_finish_127 : decode cX1_finish 127 = .ok (.getfield 49, 3) := by decide +kernel
theorem dX1_finish_130 : decode cX1_finish 130 = .ok (.iload_n 1, 1) := by decide +kernel
theorem dX1_finish_131 : decode cX1_finish 131 = .ok (.bipush 11, 2) := by decide +kernel
theorem dX1_finish_133 : decode cX1_finish 133 = .ok (.invokevirtual 141, 3) := by decide +kernel
theorem dX1_finish_136 : decode cX1_finish 136 = .ok (.iadd, 1) := by decide +kernel
theorem dX1_finish_137 : decode cX1_finish 137 = .ok (.iload_n 3, 1) := by decide +kernel
theorem dX1_finish_138 : decode cX1_finish 138 = .ok (.invokevirtual 118, 3) := by decide +kernel
theorem dX1_finish_141 : decode cX1_finish 141 = .ok (.goto 14, 3) := by decide +kernel
theorem dX1_finish_144 : decode cX1_finish 144 = .ok (.aload_n 0, 1) := by decide +kernel
theorem dX1_finish_145 : decode cX1_finish 145 = .ok (.iload_n 1, 1) := by decide +kernel
theorem dX1_finish_146 : decode cX1_finish 146 = .ok (.iconst 1, 1) := by decide +kernel
theorem dX1_finish_147 : decode cX1_finish 147 = .ok (.iadd, 1) := by decide +kernel
theorem dX1_finish_148 : decode cX1_finish 148 = .ok (.aload_n 0, 1) := by decide +kernel
theorem dX1_finish_149 : decode cX1_finish 149 = .ok (.getfield 151, 3) := by decide +kernel
theorem dX1_finish_152 : decode cX1_finish 152 = .ok (.invokevirtual 138, 3) := by decide +kernel
theorem dX1_finish_155 : decode cX1_finish 155 = .ok (.return_, 1) := by decide +kernel
set_option maxRecDepth 20000 in
theorem ggX1_noteUse_X5_at : GoodIn wsX1_noteUse wsX5_at := goodIn_r _ [5] (by decide +kernel) (by decide +kernel)
set_option maxRecDepth 20000 in
theorem gX1_noteUse_X5_at : GoodIn wsX1_noteUse (va_wsS RX1 72 yX5_at wsX5_at) := goodIn_app (goodIn_of _ (by decide +kernel)) ggX1_noteUse_X5_at
set_option maxRecDepth 20000 in
theorem ggX1_noteUse_X5_put : GoodIn wsX1_noteUse wsX5_put := goodIn_r _ [8] (by decide +kernel) (by decide +kernel)
set_option maxRecDepth 20000 in
theorem gX1_noteUse_X5_put : GoodIn wsX1_noteUse (va_wsS RX1 81 yX5_put wsX5_put) := goodIn_app (goodIn_of _ (by decide +kernel)) ggX1_noteUse_X5_put
theorem dX1_noteUse_0 : decode cX1_noteUse 0 = .ok (.aload_n 0, 1) := by decide +kernel
theorem dX1_noteUse_1 : decode cX1_noteUse 1 = .ok (.getfield 22, 3) := by decide +kernel
theorem dX1_noteUse_4 : decode cX1_noteUse 4 = .ok (.iload_n 1, 1) := by decide +kernel
theorem dX1_noteUse_5 : decode cX1_noteUse 5 = .ok (.aload_n 0, 1) := by decide +kernel
theorem dX1_noteUse_6 : decode cX1_noteUse 6 = .ok (.getfield 22, 3) := by decide +kernel
theorem dX1_noteUse_9 : decode cX1_noteUse 9 = .ok (.iload_n 1, 1) := by decide +kernel
theorem dX1_noteUse_10 : decode cX1_noteUse 10 = .ok (.invokestatic 72, 3) := by decide +kernel
theorem dX1_noteUse_13 : decode cX1_noteUse 13 = .ok (.iload_n 2, 1) := by decide +kernel
theorem dX1_noteUse_14 : decode cX1_noteUse 14 = .ok (.ior, 1) := by decide +kernel
theorem dX1_noteUse_15 : decode cX1_noteUse 15 = .ok (.invokestatic 81, 3) := by decide +kernel
theorem dX1_noteUse_18 : decode cX1_noteUse 18 = .ok (.return_, 1) := by decide +kernel
set_option maxRecDepth 20000 in
theorem ggX1_raise_X5_at : GoodIn wsX1_raise wsX5_at := goodIn_r _ [8] (by decide +kernel) (by decide +kernel)
set_option maxRecDepth 20000 in
theorem gX1_raise_X5_at : GoodIn wsX1_raise (va_wsS RX1 72 yX5_at wsX5_at) := goodIn_app (goodIn_of _ (by decide +kernel)) ggX1_raise_X5_at
set_option maxRecDepth 20000 in
theorem ggX1_raise_X5_put : GoodIn wsX1_raise wsX5_put := goodIn_r _ [11] (by decide +kernel) (by decide +kernel)
set_option maxRecDepth 20000 in
theorem gX1_raise_X5_put : GoodIn wsX1_raise (va_wsS RX1 81 yX5_put wsX5_put) := goodIn_app (goodIn_of _ (by decide +kernel)) ggX1_raise_X5_put
theorem dX1_raise_0 : decode cX1_raise 0 = .ok (.aload_n 0, 1) := by decide +kernel
theorem dX1_raise_1 : decode cX1_raise 1 = .ok (.getfield 50, 3) := by decide +kernel
theorem dX1_raise_4 : decode cX1_raise 4 = .ok (.iload_n 1, 1) := by decide +kernel
theorem dX1_raise_5 : decode cX1_raise 5 = .ok (.lshr, 1) := by decide +kernel
theorem dX1_raise_6 : decode cX1_raise 6 = .ok (.lconst 1, 1) := by decide +kernel
theorem dX1_raise_7 : decode cX1_raise 7 = .ok (.land, 1) := by decide +kernel
theorem dX1_raise_8 : decode cX1_raise 8 = .ok (.lconst 0, 1) := by decide +kernel
theorem dX1_raise_9 : decode cX1_raise 9 = .ok (.lcmp, 1) := by decide +kernel
theorem dX1_raise_10 : decode cX1_raise 10 = .ok (.ifCond .eq 9, 3) := by decide +kernel
theorem dX1_raise_13 : decode cX1_raise 13 = .ok (.iload_n 2, 1) := by decide +kernel
theorem dX1_raise_14 : decode cX1_raise 14 = .ok (.iconst 2, 1) := by decide +kernel
theorem dX1_raise_15 : decode cX1_raise 15 = .ok (.iand, 1) := by decide +kernel
theorem dX1_raise_16 : decode cX1_raise 16 = .ok (.goto 4, 3) := by decide +kernel
theorem dX1_raise_19 : decode cX1_raise 19 = .ok (.iload_n 2, 1) := by decide +kernel
theorem dX1_raise_20 : decode cX1_raise 20 = .ok (.istore_n 3, 1) := by decide +kernel
theorem dX1_raise_21 : decode cX1_raise 21 = .ok (.aload_n 0, 1) := by decide +kernel
theorem dX1_raise_22 : decode cX1_raise 22 = .ok (.getfield 19, 3) := by decide +kernel
theorem dX1_raise_25 : decode cX1_raise 25 = .ok (.iload_n 1, 1) := by decide +kernel
theorem dX1_raise_26 : decode cX1_raise 26 = .ok (.invokestatic 72, 3) := by decide +kernel
theorem dX1_raise_29 : decode cX1_raise 29 = .ok (.istore 4, 2) := by decide +kernel
theorem dX1_raise_31 : decode cX1_raise 31 = .ok (.iload 4, 2) := by decide +kernel
theorem dX1_raise_33 : decode cX1_raise 33 = .ok (.iload_n 3, 1) := by decide +kernel
theorem dX1_raise_34 : decode cX1_raise 34 = .ok (.ior, 1) := by decide +kernel
theorem dX1_raise_35 : decode cX1_raise 35 = .ok (.iload 4, 2) := by decide +kernel
theorem dX1_raise_37 : decode cX1_raise 37 = .ok (.if_icmp .eq 30, 3) := by decide +kernel
theorem dX1_raise_40 : decode cX1_raise 40 = .ok (.aload_n 0, 1) := by decide +kernel
theorem dX1_raise_41 : decode cX1_raise 41 = .ok (.getfield 19, 3) := by decide +kernel
theorem dX1_raise_44 : decode cX1_raise 44 = .ok (.iload_n 1, 1) := by decide +kernel
theorem dX1_raise_45 : decode cX1_raise 45 = .ok (.iload 4, 2) := by decide +kernel
theorem dX1_raise_47 : decode cX1_raise 47 = .ok (.iload_n 3, 1) := by decide +kernel
theorem dX1_raise_48 : decode cX1_raise 48 = .ok (.ior, 1) := by decide +kernel
theorem dX1_raise_49 : decode cX1_raise 49 = .ok (.invokestatic 81, 3) := by decide +kernel
theorem dX1_raise_52 : decode cX1_raise 52 = .ok (.aload_n 0, 1) := by decide +kernel
theorem dX1_raise_53 : decode cX1_raise 53 = .ok (.dup, 1) := by decide +kernel
theorem dX1_raise_54 : decode cX1_raise 54 = .ok (.getfield 78, 3) := by decide +kernel
theorem dX1_raise_57 : decode cX1_raise 57 = .ok (.iconst 1, 1) := by decide +kernel
theorem dX1_raise_58 : decode cX1_raise 58 = .ok (.iadd, 1) := by decide +kernel
theorem dX1_raise_59 : decode cX1_raise 59 = .ok (.putfield 78, 3) := by decide +kernel
theorem dX1_raise_62 : decode cX1_raise 62 = .ok (.aload_n 0, 1) := by decide +kernel
theorem dX1_raise_63 : decode cX1_raise 63 = .ok (.iconst 1, 1) := by decide +kernel
theorem dX1_raise_64 : decode cX1_raise 64 = .ok (.putfield 60, 3) := by decide +kernel
theorem dX1_raise_67 : decode cX1_raise 67 = .ok (.return_, 1) := by decide +kernel
set_option maxRecDepth 20000 in
theorem ggX1_join_X5_put : GoodIn wsX1_join wsX5_put := goodIn_r _ [7] (by decide +kernel) (by decide +kernel)
set_option maxRecDepth 20000 in
theorem gX1_join_X5_put : GoodIn wsX1_join (va_wsS RX1 81 yX5_put wsX5_put) := goodIn_app (goodIn_of _ (by decide +kernel)) ggX1_join_X5_put
theorem dX1_join_0 : decode cX1_join 0 = .ok (.iload_n 1, 1) := by decide +kernel
theorem dX1_join_1 : decode cX1_join 1 = .ok (.ifCond .lt 54, 3) := by decide +kernel
theorem dX1_join_4 : decode cX1_join 4 = .ok (.iload_n 1, 1) := by decide +kernel
theorem dX1_join_5 : decode cX1_join 5 = .ok (.aload_n 0, 1) := by decide +kernel
theorem dX1_join_6 : decode cX1_join 6 = .ok (.getfield 9, 3) := by decide +kernel
theorem dX1_join_9 : decode cX1_join 9 = .ok (.arraylength, 1) := by decide +kernel
theorem dX1_join_10 : decode cX1_join 10 = .ok (.if_icmp .ge 45, 3) := by decide +kernel
theorem dX1_join_13 : decode cX1_join 13 = .ok (.aload_n 0, 1) := by decide +kernel
theorem dX1_join_14 : decode cX1_join 14 = .ok (.getfield 9, 3) := by decide +kernel
theorem dX1_join_17 : decode cX1_join 17 = .ok (.iload_n 1, 1) := by decide +kernel
theorem dX1_join_18 : decode cX1_join 18 = .ok (.laload, 1) := by decide +kernel
theorem dX1_join_19 : decode cX1_join 19 = .ok (.lload_n 2, 1) := by decide +kernel
theorem dX1_join_20 : decode cX1_join 20 = .ok (.lor, 1) := by decide +kernel
theorem dX1_join_21 : decode cX1_join 21 = .ok (.aload_n 0, 1) := by decide +kernel
theorem dX1_join_22 : decode cX1_join 22 = .ok (.getfield 9, 3) := by decide +kernel
theorem dX1_join_25 : decode cX1_join 25 = .ok (.iload_n 1, 1) := by decide +kernel
theorem dX1_join_26 : decode cX1_join 26 = .ok (.laload, 1) := by decide +kernel
theorem dX1_join_27 : decode cX1_join 27 = .ok (.lcmp, 1) := by decide +kernel
theorem dX1_join_28 : decode cX1_join 28 = .ok (.ifCond .eq 27, 3) := by decide +kernel
theorem dX1_join_31 : decode cX1_join 31 = .ok (.aload_n 0, 1) := by decide +kernel
theorem dX1_join_32 : decode cX1_join 32 = .ok (.getfield 9, 3) := by decide +kernel
theorem dX1_join_35 : decode cX1_join 35 = .ok (.iload_n 1, 1) := by decide +kernel
theorem dX1_join_36 : decode cX1_join 36 = .ok (.dup2, 1) := by decide +kernel
theorem dX1_join_37 : decode cX1_join 37 = .ok (.laload, 1) := by decide +kernel
theorem dX1_join_38 : decode cX1_join 38 = .ok (.lload_n 2, 1) := by decide +kernel
theorem dX1_join_39 : decode cX1_join 39 = .ok (.lor, 1) := by decide +kernel
theorem dX1_join_40 : decode cX1_join 40 = .ok (.lastore, 1) := by decide +kernel
theorem dX1_join_41 : decode cX1_join 41 = .ok (.aload_n 0, 1) := by decide +kernel
theorem dX1_join_42 : decode cX1_join 42 = .ok (.getfield 15, 3) := by decide +kernel
theorem dX1_join_45 : decode cX1_join 45 = .ok (.iload_n 1, 1) := by decide +kernel
theorem dX1_join_46 : decode cX1_join 46 = .ok (.iconst 0, 1) := by decide +kernel
theorem dX1_join_47 : decode cX1_join 47 = .ok (.invokestatic 81, 3) := by decide +kernel
theorem dX1_join_50 : decode cX1_join 50 = .ok (.aload_n 0, 1) := by decide +kernel
theorem dX1_join_51 : decode cX1_join 51 = .ok (.iconst 1, 1) := by decide +kernel
theorem dX1_join_52 : decode cX1_join 52 = .ok (.putfield 60, 3) := by decide +kernel
theorem dX1_join_55 : decode cX1_join 55 = .ok (.return_, 1) := by decide +kernel
theorem dX1_factOf_0 : decode cX1_factOf 0 = .ok (.lload_n 0, 1) := by decide +kernel
theorem dX1_factOf_1 : decode cX1_factOf 1 = .ok (.iload_n 2, 1) := by decide +kernel
theorem dX1_factOf_2 : decode cX1_factOf 2 = .ok (.lshr, 1) := by decide +kernel
theorem dX1_factOf_3 : decode cX1_factOf 3 = .ok (.lconst 1, 1) := by decide +kernel
theorem dX1_factOf_4 : decode cX1_factOf 4 = .ok (.land, 1) := by decide +kernel
theorem dX1_factOf_5 : decode cX1_factOf 5 = .ok (.l2i, 1) := by decide +kernel
theorem dX1_factOf_6 : decode cX1_factOf 6 = .ok (.istore_n 3, 1) := by decide +kernel
theorem dX1_factOf_7 : decode cX1_factOf 7 = .ok (.lload_n 0, 1) := by decide +kernel
theorem dX1_factOf_8 : decode cX1_factOf 8 = .ok (.iload_n 2, 1) := by decide +kernel
theorem dX1_factOf_9 : decode cX1_factOf 9 = .ok (.bipush 26, 2) := by decide +kernel
theorem dX1_factOf_11 : decode cX1_factOf 11 = .ok (.iadd, 1) := by decide +kernel
theorem dX1_factOf_12 : decode cX1_factOf 12 = .ok (.lshr, 1) := by decide +kernel
theorem dX1_factOf_13 : decode cX1_factOf 13 = .ok (.lconst 1, 1) := by decide +kernel
theorem dX1_factOf_14 : decode cX1_factOf 14 = .ok (.land, 1) := by decide +kernel
theorem dX1_factOf_15 : decode cX1_factOf 15 = .ok (.l2i, 1) := by decide +kernel
theorem dX1_factOf_16 : decode cX1_factOf 16 = .ok (.istore 4, 2) := by decide +kernel
theorem dX1_factOf_18 : decode cX1_factOf 18 = .ok (.iload_n 3, 1) := by decide +kernel
theorem dX1_factOf_19 : decode cX1_factOf 19 = .ok (.iconst 1, 1) := by decide +kernel
theorem dX1_factOf_20 : decode cX1_factOf 20 = .ok (.imul, 1) := by decide +kernel
theorem dX1_factOf_21 : decode cX1_factOf 21 = .ok (.iload 4, 2) := by decide +kernel
theorem dX1_factOf_23 : decode cX1_factOf 23 = .ok (.iconst 2, 1) := by decide +kernel
theorem dX1_factOf_24 : decode cX1_factOf 24 = .ok (.imul, 1) := by decide +kernel
theorem dX1_factOf_25 : decode cX1_factOf 25 = .ok (.iadd, 1) := by decide +kernel
theorem dX1_factOf_26 : decode cX1_factOf 26 = .ok (.ireturn, 1) := by decide +kernel
theorem dX1_with_0 : decode cX1_with 0 = .ok (.lload_n 0, 1) := by decide +kernel
theorem dX1_with_1 : decode cX1_with 1 = .ok (.lconst 0, 1) := by decide +kernel
theorem dX1_with_2 : decode cX1_with 2 = .ok (.lcmp, 1) := by decide +kernel
theorem dX1_with_3 : decode cX1_with 3 = .ok (.ifCond .eq 7, 3) := by decide +kernel
theorem dX1_with_6 : decode cX1_with 6 = .ok (.iload_n 3, 1) := by decide +kernel
theorem dX1_with_7 : decode cX1_with 7 = .ok (.ifCond .ne 5, 3) := by decide +kernel
theorem dX1_with_10 : decode cX1_with 10 = .ok (.lconst 0, 1) := by decide +kernel
theorem dX1_with_11 : decode cX1_with 11 = .ok (.lreturn, 1) := by decide +kernel
theorem dX1_with_12 : decode cX1_with 12 = .ok (.lload_n 0, 1) := by decide +kernel
theorem dX1_with_13 : decode cX1_with 13 = .ok (.lconst 1, 1) := by decide +kernel
theorem dX1_with_14 : decode cX1_with 14 = .ok (.iload_n 2, 1) := by decide +kernel
theorem dX1_with_15 : decode cX1_with 15 = .ok (.lshl, 1) := by decide +kernel
theorem dX1_with_16 : decode cX1_with 16 = .ok (.ldc2_w 179, 3) := by decide +kernel
theorem dX1_with_19 : decode cX1_with 19 = .ok (.lxor, 1) := by decide +kernel
theorem dX1_with_20 : decode cX1_with 20 = .ok (.land, 1) := by decide +kernel
theorem dX1_with_21 : decode cX1_with 21 = .ok (.lconst 1, 1) := by decide +kernel
theorem dX1_with_22 : decode cX1_with 22 = .ok (.iload_n 2, 1) := by decide +kernel
theorem dX1_with_23 : decode cX1_with 23 = .ok (.bipush 26, 2) := by decide +kernel
theorem dX1_with_25 : decode cX1_with 25 = .ok (.iadd, 1) := by decide +kernel
theorem dX1_with_26 : decode cX1_with 26 = .ok (.lshl, 1) := by decide +kernel
theorem dX1_with_27 : decode cX1_with 27 = .ok (.ldc2_w 179, 3) := by decide +kernel
theorem dX1_with_30 : decode cX1_with 30 = .ok (.lxor, 1) := by decide +kernel
theorem dX1_with_31 : decode cX1_with 31 = .ok (.land, 1) := by decide +kernel
theorem dX1_with_32 : decode cX1_with 32 = .ok (.lstore 4, 2) := by decide +kernel
theorem dX1_with_34 : decode cX1_with 34 = .ok (.iload_n 3, 1) := by decide +kernel
theorem dX1_with_35 : decode cX1_with 35 = .ok (.iconst 1, 1) := by decide +kernel
theorem dX1_with_36 : decode cX1_with 36 = .ok (.iand, 1) := by decide +kernel
theorem dX1_with_37 : decode cX1_with 37 = .ok (.ifCond .eq 9, 3) := by decide +kernel
theorem dX1_with_40 : decode cX1_with 40 = .ok (.lconst 1, 1) := by decide +kernel
theorem dX1_with_41 : decode cX1_with 41 = .ok (.iload_n 2, 1) := by decide +kernel
theorem dX1_with_42 : decode cX1_with 42 = .ok (.lshl, 1) := by decide +kernel
theorem dX1_with_43 : decode cX1_with 43 = .ok (.goto 4, 3) := by decide +kernel
theorem dX1_with_46 : decode cX1_with 46 = .ok (.lconst 0, 1) := by decide +kernel
theorem dX1_with_47 : decode cX1_with 47 = .ok (.lstore 6, 2) := by decide +kernel
theorem dX1_with_49 : decode cX1_with 49 = .ok (.iload_n 3, 1) := by decide +kernel
theorem dX1_with_50 : decode cX1_with 50 = .ok (.iconst 2, 1) := by decide +kernel
theorem dX1_with_51 : decode cX1_with 51 = .ok (.iand, 1) := by decide +kernel
theorem dX1_with_52 : decode cX1_with 52 = .ok (.ifCond .eq 12, 3) := by decide +kernel
theorem dX1_with_55 : decode cX1_with 55 = .ok (.lconst 1, 1) := by decide +kernel
theorem dX1_with_56 : decode cX1_with 56 = .ok (.iload_n 2, 1) := by decide +kernel
theorem dX1_with_57 : decode cX1_with 57 = .ok (.bipush 26, 2) := by decide +kernel
theorem dX1_with_59 : decode cX1_with 59 = .ok (.iadd, 1) := by decide +kernel
theorem dX1_with_60 : decode cX1_with 60 = .ok (.lshl, 1) := by decide +kernel
theorem dX1_with_61 : decode cX1_with 61 = .ok (.goto 4, 3) := by decide +kernel
theorem dX1_with_64 : decode cX1_with 64 = .ok (.lconst 0, 1) := by decide +kernel
theorem dX1_with_65 : decode cX1_with 65 = .ok (.lstore 8, 2) := by decide +kernel
theorem dX1_with_67 : decode cX1_with 67 = .ok (.lload 4, 2) := by decide +kernel
theorem dX1_with_69 : decode cX1_with 69 = .ok (.lload 6, 2) := by decide +kernel
theorem dX1_with_71 : decode cX1_with 71 = .ok (.lor, 1) := by decide +kernel
theorem dX1_with_72 : decode cX1_with 72 = .ok (.lload 8, 2) := by decide +kernel
theorem dX1_with_74 : decode cX1_with 74 = .ok (.lor, 1) := by decide +kernel
theorem dX1_with_75 : decode cX1_with 75 = .ok (.lreturn, 1) := by decide +kernel
set_option maxRecDepth 20000 in
theorem ggX1_narrow_X1_factOf : GoodIn wsX1_narrow wsX1_factOf := goodIn_r _ [4] (by decide +kernel) (by decide +kernel)
set_option maxRecDepth 20000 in
theorem gX1_narrow_X1_factOf : GoodIn wsX1_narrow (va_wsS RX1 161 yX1_factOf wsX1_factOf) := goodIn_app (goodIn_of _ (by decide +kernel)) ggX1_narrow_X1_factOf
set_option maxRecDepth 20000 in
theorem ggX1_narrow_X1_with : GoodIn wsX1_narrow wsX1_with := goodIn_r _ [7, 8] (by decide +kernel) (by decide +kernel)
set_option maxRecDepth 20000 in
theorem gX1_narrow_X1_with : GoodIn wsX1_narrow (va_wsS RX1 131 yX1_with wsX1_with) := goodIn_app (goodIn_of _ (by decide +kernel)) ggX1_narrow_X1_with
theorem dX1_narrow_0 : decode cX1_narrow 0 = .ok (.lload_n 0, 1) := by decide +kernel
theorem dX1_narrow_1 : decode cX1_narrow 1 = .ok (.iload_n 2, 1) := by decide +kernel
theorem dX1_narrow_2 : decode cX1_narrow 2 = .ok (.lload_n 0, 1) := by decide +kernel
theorem dX1_narrow_3 : decode cX1_narrow 3 = .ok (.iload_n 2, 1) := by decide +kernel
theorem dX1_narrow_4 : decode cX1_narrow 4 = .ok (.invokestatic 161, 3) := by decide +kernel
theorem dX1_narrow_7 : decode cX1_narrow 7 = .ok (.iload_n 3, 1) := by decide +kernel
theorem dX1_narrow_8 : decode cX1_narrow 8 = .ok (.iand, 1) := by decide +kernel
theorem dX1_narrow_9 : decode cX1_narrow 9 = .ok (.invokestatic 131, 3) := by decide +kernel
theorem dX1_narrow_12 : decode cX1_narrow 12 = .ok (.lreturn, 1) := by decide +kernel
theorem dX2_init_0 : decode cX2_init 0 = .ok (.aload_n 0, 1) := by decide +kernel
theorem dX2_init_1 : decode cX2_init 1 = .ok (.invokespecial 3, 3) := by decide +kernel
theorem dX2_init_4 : decode cX2_init 4 = .ok (.aload_n 0, 1) := by decide +kernel
theorem dX2_init_5 : decode cX2_init 5 = .ok (.iconst 4, 1) := by decide +kernel
theorem dX2_init_6 : decode cX2_init 6 = .ok (.newarray .int, 2) := by decide +kernel
theorem dX2_init_8 : decode cX2_init 8 = .ok (.dup, 1) := by decide +kernel
theorem dX2_init_9 : decode cX2_init 9 = .ok (.iconst 0, 1) := by decide +kernel
theorem dX2_init_10 : decode cX2_init 10 = .ok (.iconst 3, 1) := by decide +kernel
theorem dX2_init_11 : decode cX2_init 11 = .ok (.iastore, 1) := by decide +kernel
theorem dX2_init_12 : decode cX2_init 12 = .ok (.dup, 1) := by decide +kernel
theorem dX2_init_13 : decode cX2_init 13 = .ok (.iconst 1, 1) := by decide +kernel
theorem dX2_init_14 : decode cX2_init 14 = .ok (.iconst 2, 1) := by decide +kernel
theorem dX2_init_15 : decode cX2_init 15 = .ok (.iastore, 1) := by decide +kernel
theorem dX2_init_16 : decode cX2_init 16 = .ok (.dup, 1) := by decide +kernel
theorem dX2_init_17 : decode cX2_init 17 = .ok (.iconst 2, 1) := by decide +kernel
theorem dX2_init_18 : decode cX2_init 18 = .ok (.iconst 5, 1) := by decide +kernel
theorem dX2_init_19 : decode cX2_init 19 = .ok (.iastore, 1) := by decide +kernel
theorem dX2_init_20 : decode cX2_init 20 = .ok (.dup, 1) := by decide +kernel
theorem dX2_init_21 : decode cX2_init 21 = .ok (.iconst 3, 1) := by decide +kernel
theorem dX2_init_22 : decode cX2_init 22 = .ok (.iconst 4, 1) := by decide +kernel
theorem dX2_init_23 : decode cX2_init 23 = .ok (.iastore, 1) := by decide +kernel
theorem dX2_init_24 : decode cX2_init 24 = .ok (.putfield 9, 3) := by decide +kernel
theorem dX2_init_27 : decode cX2_init 27 = .ok (.aload_n 0, 1) := by decide +kernel
theorem dX2_init_28 : decode cX2_init 28 = .ok (.bipush 10, 2) := by decide +kernel
theorem dX2_init_30 : decode cX2_init 30 = .ok (.newarray .int, 2) := by decide +kernel
theorem dX2_init_32 : decode cX2_init 32 = .ok (.putfield 15, 3) := by decide +kernel
theorem dX2_init_35 : decode cX2_init 35 = .ok (.aload_n 0, 1) := by decide +kernel
theorem dX2_init_36 : decode cX2_init 36 = .ok (.bipush 10, 2) := by decide +kernel
theorem dX2_init_38 : decode cX2_init 38 = .ok (.newarray .int, 2) := by decide +kernel
theorem dX2_init_40 : decode cX2_init 40 = .ok (.putfield 18, 3) := by decide +kernel
theorem dX2_init_43 : decode cX2_init 43 = .ok (.aload_n 0, 1) := by decide +kernel
theorem dX2_init_44 : decode cX2_init 44 = .ok (.iconst 1, 1) := by decide +kernel
theorem dX2_init_45 : decode cX2_init 45 = .ok (.putfield 21, 3) := by decide +kernel
theorem dX2_init_48 : decode cX2_init 48 = .ok (.aload_n 0, 1) := by decide +kernel
theorem dX2_init_49 : decode cX2_init 49 = .ok (.iconst (-1), 1) := by decide +kernel
theorem dX2_init_50 : decode cX2_init 50 = .ok (.putfield 25, 3) := by decide +kernel
theorem dX2_init_53 : decode cX2_init 53 = .ok (.aload_n 0, 1) := by decide +kernel
theorem dX2_init_54 : decode cX2_init 54 = .ok (.aload_n 1, 1) := by decide +kernel
theorem dX2_init_55 : decode cX2_init 55 = .ok (.putfield 29, 3) := by decide +kernel
theorem dX2_init_58 : decode cX2_init 58 = .ok (.return_, 1) := by decide +kernel
set_option maxRecDepth 20000 in
theorem ggX2_search_X1_settle : GoodIn wsX2_search wsX1_settle := goodIn_r _ [16, 17, 18, 19, 20, 21, 22, 23, 24, 25, 26, 27, 15, 28, 29, 30, 31, 32, 33, 34, 35, 36, 37, 38, 39, 40, 41, 42, 43, 44, 45, 46, 47, 48, 49, 50, 51, 52, 53, 54, 55, 56, 57, 58, 59, 60, 61, 62, 63, 64, 9, 10, 11, 65, 66, 67, 68, 69, 70, 71, 72, 73, 74, 75, 76, 77, 78, 79, 80, 81, 82, 83, 84, 85, 86, 87, 88, 89, 90, 91, 92, 93, 94, 95, 96, 97, 98, 99, 100, 101, 102, 103, 104, 105, 106, 107, 108, 109, 110, 111, 112, 113, 114, 115, 116, 117, 118, 119, 120, 121, 122, 123, 124, 125, 126, 127, 128, 129, 130, 131, 132, 133, 134, 135, 136, 137, 138, 139, 140, 141, 142, 143, 144, 145, 204, 205, 206, 207, 208, 209, 210, 211, 212, 213, 214, 215, 216, 217, 218, 219, 220, 221, 222, 223, 224, 225, 226, 227, 228, 229, 230, 231, 232, 233, 234, 235, 236] (by decide +kernel) (by decide +kernel)
set_option maxRecDepth 20000 in
theorem gX2_search_X1_settle : GoodIn wsX2_search (wsV RX2 33 RX1 yX1_settle wsX1_settle) := goodIn_app (goodIn_of _ (by decide +kernel)) ggX2_search_X1_settle
set_option maxRecDepth 20000 in
theorem ggX2_search_X2_findCandidates : GoodIn wsX2_search wsX2_findCandidates := goodIn_r _ [150, 7, 2, 151, 152, 153, 154, 155, 66, 67, 68, 156, 76, 77, 194, 195, 196, 197, 198, 199, 200, 201, 202, 203, 204, 205, 206, 207, 208, 209, 210, 211, 212, 213, 214, 215, 216, 217, 220, 221, 222] (by decide +kernel) (by decide +kernel)
set_option maxRecDepth 20000 in
theorem gX2_search_X2_findCandidates : GoodIn wsX2_search (wsV RX2 39 RX2 yX2_findCandidates wsX2_findCandidates) := goodIn_app (goodIn_of _ (by decide +kernel)) ggX2_search_X2_findCandidates
set_option maxRecDepth 20000 in
theorem ggX2_search_X1_guardsNeeded : GoodIn wsX2_search wsX1_guardsNeeded := goodIn_r _ [160, 31, 161, 35, 70, 66, 67, 68, 204, 205, 206, 207, 208, 209, 210, 211, 212, 213, 214, 215, 216, 217, 223, 224, 225, 226, 227, 228, 229, 230, 231, 232, 233, 234, 235, 236] (by decide +kernel) (by decide +kernel)
set_option maxRecDepth 20000 in
theorem gX2_search_X1_guardsNeeded : GoodIn wsX2_search (wsV RX2 45 RX1 yX1_guardsNeeded wsX1_guardsNeeded) := goodIn_app (goodIn_of _ (by decide +kernel)) ggX2_search_X1_guardsNeeded
set_option maxRecDepth 20000 in
theorem ggX2_search_X5_at : GoodIn wsX2_search wsX5_at := goodIn_r _ [68] (by decide +kernel) (by decide +kernel)
set_option maxRecDepth 20000 in
theorem gX2_search_X5_at : GoodIn wsX2_search (va_wsS RX2 52 yX5_at wsX5_at) := goodIn_app (goodIn_of _ (by decide +kernel)) ggX2_search_X5_at
set_option maxRecDepth 20000 in
theorem ggX2_search_X2_marksOf : GoodIn wsX2_search wsX2_marksOf := goodIn_r _ [165, 7, 154, 155, 66, 67, 68, 194, 195, 196, 197, 198, 199, 200, 201, 202, 203] (by decide +kernel) (by decide +kernel)
set_option maxRecDepth 20000 in
theorem gX2_search_X2_marksOf : GoodIn wsX2_search (wsV RX2 61 RX2 yX2_marksOf wsX2_marksOf) := goodIn_app (goodIn_of _ (by decide +kernel)) ggX2_search_X2_marksOf
set_option maxRecDepth 20000 in
theorem ggX2_search_X2_consider : GoodIn wsX2_search wsX2_consider := goodIn_r _ [169, 5, 6, 3, 4, 170, 171, 172, 149, 173, 7, 154, 155, 66, 67, 68, 174, 175, 176, 194, 195, 196, 197, 198, 199, 200, 201, 202, 203] (by decide +kernel) (by decide +kernel)
set_option maxRecDepth 20000 in
theorem gX2_search_X2_consider : GoodIn wsX2_search (wsV RX2 65 RX2 yX2_consider wsX2_consider) := goodIn_app (goodIn_of _ (by decide +kernel)) ggX2_search_X2_consider
set_option maxRecDepth 20000 in
theorem ggX2_search_X2_nextBelow : GoodIn wsX2_search wsX2_nextBelow := goodIn_r _ [180, 7, 181, 182, 183, 149, 184, 5, 6, 3, 170, 171, 172, 173, 154, 155, 66, 67, 68, 174, 175, 176, 194, 195, 196, 197, 198, 199, 200, 201, 202, 203] (by decide +kernel) (by decide +kernel)
set_option maxRecDepth 20000 in
theorem gX2_search_X2_nextBelow : GoodIn wsX2_search (wsV RX2 69 RX2 yX2_nextBelow wsX2_nextBelow) := goodIn_app (goodIn_of _ (by decide +kernel)) ggX2_search_X2_nextBelow
set_option maxRecDepth 20000 in
theorem ggX2_search_X2_nameHeld : GoodIn wsX2_search wsX2_nameHeld := goodIn_r _ [188, 189, 7, 3, 190, 154, 155, 66, 67, 68, 191, 192, 149, 193, 156, 76, 77, 194, 195, 196, 197, 198, 199, 200, 201, 202, 203] (by decide +kernel) (by decide +kernel)
set_option maxRecDepth 20000 in
theorem gX2_search_X2_nameHeld : GoodIn wsX2_search (wsV RX2 78 RX2 yX2_nameHeld wsX2_nameHeld) := goodIn_app (goodIn_of _ (by decide +kernel)) ggX2_search_X2_nameHeld
theorem dX2_search_0 : decode cX2_search 0 = .ok (.aload_n 0, 1) := by decide +kernel
theorem dX2_search_1 : decode cX2_search 1 = .ok (.getfield 21, 3) := by decide +kernel
theorem dX2_search_4 : decode cX2_search 4 = .ok (.ifCond .ne 4, 3) := by decide +kernel
theorem dX2_search_7 : decode cX2_search 7 = .ok (.return_, 1) := by decide +kernel
theorem dX2_search_8 : decode cX2_search 8 = .ok (.aload_n 0, 1) := by decide +kernel
theorem dX2_search_9 : decode cX2_search 9 = .ok (.getfield 29, 3) := by decide +kernel
theorem dX2_search_12 : decode cX2_search 12 = .ok (.lconst 0, 1) := by decide +kernel
theorem dX2_search_13 : decode cX2_search 13 = .ok (.invokevirtual 33, 3) := by decide +kernel
theorem dX2_search_16 : decode cX2_search 16 = .ok (.aload_n 0, 1) := by decide +kernel
theorem dX2_search_17 : decode cX2_search 17 = .ok (.invokevirtual 39, 3) := by decide +kernel
theorem dX2_search_20 : decode cX2_search 20 = .ok (.aload_n 0, 1) := by decide +kernel
theorem dX2_search_21 : decode cX2_search 21 = .ok (.iconst 0, 1) := by decide +kernel
theorem dX2_search_22 : decode cX2_search 22 = .ok (.putfield 42, 3) := by decide +kernel
theorem dX2_search_25 : decode cX2_search 25 = .ok (.aload_n 0, 1) := by decide +kernel
theorem dX2_search_26 : decode cX2_search 26 = .ok (.aload_n 0, 1) := by decide +kernel
theorem dX2_search_27 : decode cX2_search 27 = .ok (.getfield 29, 3) := by decide +kernel
theorem dX2_search_30 : decode cX2_search 30 = .ok (.invokevirtual 45, 3) := by decide +kernel
theorem dX2_search_33 : decode cX2_search 33 = .ok (.putfield 49, 3) := by decide +kernel
theorem dX2_search_36 : decode cX2_search 36 = .ok (.aload_n 0, 1) := by decide +kernel
theorem dX2_search_37 : decode cX2_search 37 = .ok (.aload_n 0, 1) := by decide +kernel
theorem dX2_search_38 : decode cX2_search 38 = .ok (.getfield 49, 3) := by decide +kernel
theorem dX2_search_41 : decode cX2_search 41 = .ok (.aload_n 0, 1) := by decide +kernel
theorem dX2_search_42 : decode cX2_search 42 = .ok (.getfield 9, 3) := by decide +kernel
theorem dX2_search_45 : decode cX2_search 45 = .ok (.iconst 3, 1) := by decide +kernel
theorem dX2_search_46 : decode cX2_search 46 = .ok (.invokestatic 52, 3) := by decide +kernel
theorem dX2_search_49 : decode cX2_search 49 = .ok (.imul, 1) := by decide +kernel
theorem dX2_search_50 : decode cX2_search 50 = .ok (.putfield 25, 3) := by decide +kernel
theorem dX2_search_53 : decode cX2_search 53 = .ok (.iconst 1, 1) := by decide +kernel
theorem dX2_search_54 : decode cX2_search 54 = .ok (.aload_n 0, 1) := by decide +kernel
theorem dX2_search_55 : decode cX2_search 55 = .ok (.getfield 58, 3) := by decide +kernel
theorem dX2_search_58 : decode cX2_search 58 = .ok (.ishl, 1) := by decide +kernel
theorem dX2_search_59 : decode cX2_search 59 = .ok (.iconst 1, 1) := by decide +kernel
theorem dX2_search_60 : decode cX2_search 60 = .ok (.isub, 1) := by decide +kernel
theorem dX2_search_61 : decode cX2_search 61 = .ok (.istore_n 1, 1) := by decide +kernel
theorem dX2_search_62 : decode cX2_search 62 = .ok (.iload_n 1, 1) := by decide +kernel
theorem dX2_search_63 : decode cX2_search 63 = .ok (.ifCond .le 45, 3) := by decide +kernel
theorem dX2_search_66 : decode cX2_search 66 = .ok (.aload_n 0, 1) := by decide +kernel
theorem dX2_search_67 : decode cX2_search 67 = .ok (.getfield 29, 3) := by decide +kernel
theorem dX2_search_70 : decode cX2_search 70 = .ok (.aload_n 0, 1) := by decide +kernel
theorem dX2_search_71 : decode cX2_search 71 = .ok (.iload_n 1, 1) := by decide +kernel
theorem dX2_search_72 : decode cX2_search 72 = .ok (.invokevirtual 61, 3) := by decide +kernel
theorem dX2_search_75 : decode cX2_search 75 = .ok (.invokevirtual 33, 3) := by decide +kernel
theorem dX2_search_78 : decode cX2_search 78 = .ok (.aload_n 0, 1) := by decide +kernel
theorem dX2_search_79 : decode cX2_search 79 = .ok (.getfield 29, 3) := by decide +kernel
theorem dX2_search_82 : decode cX2_search 82 = .ok (.invokevirtual 45, 3) := by decide +kernel
theorem dX2_search_85 : decode cX2_search 85 = .ok (.istore_n 2, 1) := by decide +kernel
theorem dX2_search_86 : decode cX2_search 86 = .ok (.aload_n 0, 1) := by decide +kernel
theorem dX2_search_87 : decode cX2_search 87 = .ok (.iload_n 1, 1) := by decide +kernel
theorem dX2_search_88 : decode cX2_search 88 = .ok (.iload_n 2, 1) := by decide +kernel
theorem dX2_search_89 : decode cX2_search 89 = .ok (.invokevirtual 65, 3) := by decide +kernel
theorem dX2_search_92 : decode cX2_search 92 = .ok (.iload_n 1, 1) := by decide +kernel
theorem dX2_search_93 : decode cX2_search 93 = .ok (.iconst 1, 1) := by decide +kernel
theorem dX2_search_94 : decode cX2_search 94 = .ok (.isub, 1) := by decide +kernel
theorem dX2_search_95 : decode cX2_search 95 = .ok (.aload_n 0, 1) := by decide +kernel
theorem dX2_search_96 : decode cX2_search 96 = .ok (.iload_n 1, 1) := by decide +kernel
theorem dX2_search_97 : decode cX2_search 97 = .ok (.iload_n 2, 1) := by decide +kernel
theorem dX2_search_98 : decode cX2_search 98 = .ok (.invokevirtual 69, 3) := by decide +kernel
theorem dX2_search_101 : decode cX2_search 101 = .ok (.invokestatic 73, 3) := by decide +kernel
theorem dX2_search_104 : decode cX2_search 104 = .ok (.istore_n 1, 1) := by decide +kernel
theorem dX2_search_105 : decode cX2_search 105 = .ok (.goto (-43), 3) := by decide +kernel
theorem dX2_search_108 : decode cX2_search 108 = .ok (.aload_n 0, 1) := by decide +kernel
theorem dX2_search_109 : decode cX2_search 109 = .ok (.invokevirtual 78, 3) := by decide +kernel
theorem dX2_search_112 : decode cX2_search 112 = .ok (.aload_n 0, 1) := by decide +kernel
theorem dX2_search_113 : decode cX2_search 113 = .ok (.iconst 0, 1) := by decide +kernel
theorem dX2_search_114 : decode cX2_search 114 = .ok (.putfield 21, 3) := by decide +kernel
theorem dX2_search_117 : decode cX2_search 117 = .ok (.return_, 1) := by decide +kernel
set_option maxRecDepth 20000 in
theorem ggX2_consider_X2_priceOf : GoodIn wsX2_consider wsX2_priceOf := goodIn_r _ [9, 10, 1, 11, 12, 13, 14, 15, 16, 17, 8, 18, 19, 20, 21, 22, 23, 24, 25, 26, 27, 28] (by decide +kernel) (by decide +kernel)
set_option maxRecDepth 20000 in
theorem gX2_consider_X2_priceOf : GoodIn wsX2_consider (wsV RX2 81 RX2 yX2_priceOf wsX2_priceOf) := goodIn_app (goodIn_of _ (by decide +kernel)) ggX2_consider_X2_priceOf
set_option maxRecDepth 20000 in
theorem ggX2_consider_X5_at : GoodIn wsX2_consider wsX5_at := goodIn_r _ [15] (by decide +kernel) (by decide +kernel)
set_option maxRecDepth 20000 in
theorem gX2_consider_X5_at : GoodIn wsX2_consider (va_wsS RX2 52 yX5_at wsX5_at) := goodIn_app (goodIn_of _ (by decide +kernel)) ggX2_consider_X5_at
theorem dX2_consider_0 : decode cX2_consider 0 = .ok (.aload_n 0, 1) := by decide +kernel
theorem dX2_consider_1 : decode cX2_consider 1 = .ok (.iload_n 1, 1) := by decide +kernel
theorem dX2_consider_2 : decode cX2_consider 2 = .ok (.invokevirtual 81, 3) := by decide +kernel
theorem dX2_consider_5 : decode cX2_consider 5 = .ok (.iload_n 2, 1) := by decide +kernel
theorem dX2_consider_6 : decode cX2_consider 6 = .ok (.aload_n 0, 1) := by decide +kernel
theorem dX2_consider_7 : decode cX2_consider 7 = .ok (.getfield 9, 3) := by decide +kernel
theorem dX2_consider_10 : decode cX2_consider 10 = .ok (.iconst 3, 1) := by decide +kernel
theorem dX2_consider_11 : decode cX2_consider 11 = .ok (.invokestatic 52, 3) := by decide +kernel
theorem dX2_consider_14 : decode cX2_consider 14 = .ok (.imul, 1) := by decide +kernel
theorem dX2_consider_15 : decode cX2_consider 15 = .ok (.iadd, 1) := by decide +kernel
theorem dX2_consider_16 : decode cX2_consider 16 = .ok (.istore_n 3, 1) := by decide +kernel
theorem dX2_consider_17 : decode cX2_consider 17 = .ok (.iload_n 3, 1) := by decide +kernel
theorem dX2_consider_18 : decode cX2_consider 18 = .ok (.aload_n 0, 1) := by decide +kernel
theorem dX2_consider_19 : decode cX2_consider 19 = .ok (.getfield 25, 3) := by decide +kernel
theorem dX2_consider_22 : decode cX2_consider 22 = .ok (.if_icmp .lt 19, 3) := by decide +kernel
theorem dX2_consider_25 : decode cX2_consider 25 = .ok (.iload_n 3, 1) := by decide +kernel
theorem dX2_consider_26 : decode cX2_consider 26 = .ok (.aload_n 0, 1) := by decide +kernel
theorem dX2_consider_27 : decode cX2_consider 27 = .ok (.getfield 25, 3) := by decide +kernel
theorem dX2_consider_30 : decode cX2_consider 30 = .ok (.if_icmp .ne 26, 3) := by decide +kernel
theorem dX2_consider_33 : decode cX2_consider 33 = .ok (.iload_n 1, 1) := by decide +kernel
theorem dX2_consider_34 : decode cX2_consider 34 = .ok (.aload_n 0, 1) := by decide +kernel
theorem dX2_consider_35 : decode cX2_consider 35 = .ok (.getfield 42, 3) := by decide +kernel
theorem dX2_consider_38 : decode cX2_consider 38 = .ok (.if_icmp .ge 18, 3) := by decide +kernel
theorem dX2_consider_41 : decode cX2_consider 41 = .ok (.aload_n 0, 1) := by decide +kernel
theorem dX2_consider_42 : decode cX2_consider 42 = .ok (.iload_n 1, 1) := by decide +kernel
theorem dX2_consider_43 : decode cX2_consider 43 = .ok (.putfield 42, 3) := by decide +kernel
theorem dX2_consider_46 : decode cX2_consider 46 = .ok (.aload_n 0, 1) := by decide +kernel
theorem dX2_consider_47 : decode cX2_consider 47 = .ok (.iload_n 3, 1) := by decide +kernel
theorem dX2_consider_48 : decode cX2_consider 48 = .ok (.putfield 25, 3) := by decide +kernel
theorem dX2_consider_51 : decode cX2_consider 51 = .ok (.aload_n 0, 1) := by decide +kernel
theorem dX2_consider_52 : decode cX2_consider 52 = .ok (.iload_n 2, 1) := by decide +kernel
theorem dX2_consider_53 : decode cX2_consider 53 = .ok (.putfield 49, 3) := by decide +kernel
theorem dX2_consider_56 : decode cX2_consider 56 = .ok (.return_, 1) := by decide +kernel
set_option maxRecDepth 20000 in
theorem ggX2_nextBelow_X2_isTooDear : GoodIn wsX2_nextBelow wsX2_isTooDear := goodIn_r _ [6, 7, 8, 9, 10, 11, 12, 5, 13, 1, 14, 15, 16, 17, 18, 19, 20, 21, 22, 23, 24, 25, 26, 27, 28, 29, 30, 31] (by decide +kernel) (by decide +kernel)
set_option maxRecDepth 20000 in
theorem gX2_nextBelow_X2_isTooDear : GoodIn wsX2_nextBelow (wsV RX2 85 RX2 yX2_isTooDear wsX2_isTooDear) := goodIn_app (goodIn_of _ (by decide +kernel)) ggX2_nextBelow_X2_isTooDear
theorem dX2_nextBelow_0 : decode cX2_nextBelow 0 = .ok (.aload_n 0, 1) := by decide +kernel
theorem dX2_nextBelow_1 : decode cX2_nextBelow 1 = .ok (.getfield 58, 3) := by decide +kernel
theorem dX2_nextBelow_4 : decode cX2_nextBelow 4 = .ok (.istore_n 3, 1) := by decide +kernel
theorem dX2_nextBelow_5 : decode cX2_nextBelow 5 = .ok (.iload_n 3, 1) := by decide +kernel
theorem dX2_nextBelow_6 : decode cX2_nextBelow 6 = .ok (.ifCond .le 48, 3) := by decide +kernel
theorem dX2_nextBelow_9 : decode cX2_nextBelow 9 = .ok (.iconst 1, 1) := by decide +kernel
theorem dX2_nextBelow_10 : decode cX2_nextBelow 10 = .ok (.iload_n 3, 1) := by decide +kernel
theorem dX2_nextBelow_11 : decode cX2_nextBelow 11 = .ok (.ishl, 1) := by decide +kernel
theorem dX2_nextBelow_12 : decode cX2_nextBelow 12 = .ok (.iconst 1, 1) := by decide +kernel
theorem dX2_nextBelow_13 : decode cX2_nextBelow 13 = .ok (.isub, 1) := by decide +kernel
theorem dX2_nextBelow_14 : decode cX2_nextBelow 14 = .ok (.istore 4, 2) := by decide +kernel
theorem dX2_nextBelow_16 : decode cX2_nextBelow 16 = .ok (.iload_n 1, 1) := by decide +kernel
theorem dX2_nextBelow_17 : decode cX2_nextBelow 17 = .ok (.iload 4, 2) := by decide +kernel
theorem dX2_nextBelow_19 : decode cX2_nextBelow 19 = .ok (.iconst (-1), 1) := by decide +kernel
theorem dX2_nextBelow_20 : decode cX2_nextBelow 20 = .ok (.ixor, 1) := by decide +kernel
theorem dX2_nextBelow_21 : decode cX2_nextBelow 21 = .ok (.iand, 1) := by decide +kernel
theorem dX2_nextBelow_22 : decode cX2_nextBelow 22 = .ok (.istore 5, 2) := by decide +kernel
theorem dX2_nextBelow_24 : decode cX2_nextBelow 24 = .ok (.iload_n 1, 1) := by decide +kernel
theorem dX2_nextBelow_25 : decode cX2_nextBelow 25 = .ok (.iload 4, 2) := by decide +kernel
theorem dX2_nextBelow_27 : decode cX2_nextBelow 27 = .ok (.iand, 1) := by decide +kernel
theorem dX2_nextBelow_28 : decode cX2_nextBelow 28 = .ok (.iload 4, 2) := by decide +kernel
theorem dX2_nextBelow_30 : decode cX2_nextBelow 30 = .ok (.if_icmp .ne 18, 3) := by decide +kernel
theorem dX2_nextBelow_33 : decode cX2_nextBelow 33 = .ok (.aload_n 0, 1) := by decide +kernel
theorem dX2_nextBelow_34 : decode cX2_nextBelow 34 = .ok (.iload 5, 2) := by decide +kernel
theorem dX2_nextBelow_36 : decode cX2_nextBelow 36 = .ok (.iload_n 2, 1) := by decide +kernel
theorem dX2_nextBelow_37 : decode cX2_nextBelow 37 = .ok (.invokevirtual 85, 3) := by decide +kernel
theorem dX2_nextBelow_40 : decode cX2_nextBelow 40 = .ok (.ifCond .eq 8, 3) := by decide +kernel
theorem dX2_nextBelow_43 : decode cX2_nextBelow 43 = .ok (.iload 5, 2) := by decide +kernel
theorem dX2_nextBelow_45 : decode cX2_nextBelow 45 = .ok (.iconst 1, 1) := by decide +kernel
theorem dX2_nextBelow_46 : decode cX2_nextBelow 46 = .ok (.isub, 1) := by decide +kernel
theorem dX2_nextBelow_47 : decode cX2_nextBelow 47 = .ok (.ireturn, 1) := by decide +kernel
theorem dX2_nextBelow_48 : decode cX2_nextBelow 48 = .ok (.iinc 3 (-1), 3) := by decide +kernel
theorem dX2_nextBelow_51 : decode cX2_nextBelow 51 = .ok (.goto (-46), 3) := by decide +kernel
theorem dX2_nextBelow_54 : decode cX2_nextBelow 54 = .ok (.iload_n 1, 1) := by decide +kernel
theorem dX2_nextBelow_55 : decode cX2_nextBelow 55 = .ok (.iconst 1, 1) := by decide +kernel
theorem dX2_nextBelow_56 : decode cX2_nextBelow 56 = .ok (.isub, 1) := by decide +kernel
theorem dX2_nextBelow_57 : decode cX2_nextBelow 57 = .ok (.ireturn, 1) := by decide +kernel
set_option maxRecDepth 20000 in
theorem ggX2_isTooDear_X2_priceOf : GoodIn wsX2_isTooDear wsX2_priceOf := goodIn_r _ [8, 9, 1, 10, 11, 12, 13, 14, 15, 16, 7, 17, 18, 19, 20, 21, 22, 23, 24, 25, 26, 27] (by decide +kernel) (by decide +kernel)
set_option maxRecDepth 20000 in
theorem gX2_isTooDear_X2_priceOf : GoodIn wsX2_isTooDear (wsV RX2 81 RX2 yX2_priceOf wsX2_priceOf) := goodIn_app (goodIn_of _ (by decide +kernel)) ggX2_isTooDear_X2_priceOf
set_option maxRecDepth 20000 in
theorem ggX2_isTooDear_X5_at : GoodIn wsX2_isTooDear wsX5_at := goodIn_r _ [14] (by decide +kernel) (by decide +kernel)
set_option maxRecDepth 20000 in
theorem gX2_isTooDear_X5_at : GoodIn wsX2_isTooDear (va_wsS RX2 52 yX5_at wsX5_at) := goodIn_app (goodIn_of _ (by decide +kernel)) ggX2_isTooDear_X5_at
theorem dX2_isTooDear_0 : decode cX2_isTooDear 0 = .ok (.aload_n 0, 1) := by decide +kernel
theorem dX2_isTooDear_1 : decode cX2_isTooDear 1 = .ok (.iload_n 1, 1) := by decide +kernel
theorem dX2_isTooDear_2 : decode cX2_isTooDear 2 = .ok (.invokevirtual 81, 3) := by decide +kernel
theorem dX2_isTooDear_5 : decode cX2_isTooDear 5 = .ok (.iload_n 2, 1) := by decide +kernel
theorem dX2_isTooDear_6 : decode cX2_isTooDear 6 = .ok (.aload_n 0, 1) := by decide +kernel
theorem dX2_isTooDear_7 : decode cX2_isTooDear 7 = .ok (.getfield 9, 3) := by decide +kernel
theorem dX2_isTooDear_10 : decode cX2_isTooDear 10 = .ok (.iconst 3, 1) := by decide +kernel
theorem dX2_isTooDear_11 : decode cX2_isTooDear 11 = .ok (.invokestatic 52, 3) := by decide +kernel
theorem dX2_isTooDear_14 : decode cX2_isTooDear 14 = .ok (.imul, 1) := by decide +kernel
theorem dX2_isTooDear_15 : decode cX2_isTooDear 15 = .ok (.iadd, 1) := by decide +kernel
theorem dX2_isTooDear_16 : decode cX2_isTooDear 16 = .ok (.istore_n 3, 1) := by decide +kernel
theorem dX2_isTooDear_17 : decode cX2_isTooDear 17 = .ok (.iload_n 3, 1) := by decide +kernel
theorem dX2_isTooDear_18 : decode cX2_isTooDear 18 = .ok (.aload_n 0, 1) := by decide +kernel
theorem dX2_isTooDear_19 : decode cX2_isTooDear 19 = .ok (.getfield 25, 3) := by decide +kernel
theorem dX2_isTooDear_22 : decode cX2_isTooDear 22 = .ok (.if_icmp .gt 19, 3) := by decide +kernel
theorem dX2_isTooDear_25 : decode cX2_isTooDear 25 = .ok (.iload_n 3, 1) := by decide +kernel
theorem dX2_isTooDear_26 : decode cX2_isTooDear 26 = .ok (.aload_n 0, 1) := by decide +kernel
theorem dX2_isTooDear_27 : decode cX2_isTooDear 27 = .ok (.getfield 25, 3) := by decide +kernel
theorem dX2_isTooDear_30 : decode cX2_isTooDear 30 = .ok (.if_icmp .ne 15, 3) := by decide +kernel
theorem dX2_isTooDear_33 : decode cX2_isTooDear 33 = .ok (.iload_n 1, 1) := by decide +kernel
theorem dX2_isTooDear_34 : decode cX2_isTooDear 34 = .ok (.aload_n 0, 1) := by decide +kernel
theorem dX2_isTooDear_35 : decode cX2_isTooDear 35 = .ok (.getfield 42, 3) := by decide +kernel
theorem dX2_isTooDear_38 : decode cX2_isTooDear 38 = .ok (.if_icmp .lt 7, 3) := by decide +kernel
theorem dX2_isTooDear_41 : decode cX2_isTooDear 41 = .ok (.iconst 1, 1) := by decide +kernel
theorem dX2_isTooDear_42 : decode cX2_isTooDear 42 = .ok (.goto 4, 3) := by decide +kernel
theorem dX2_isTooDear_45 : decode cX2_isTooDear 45 = .ok (.iconst 0, 1) := by decide +kernel
theorem dX2_isTooDear_46 : decode cX2_isTooDear 46 = .ok (.ireturn, 1) := by decide +kernel
set_option maxRecDepth 20000 in
theorem ggX2_findCandidates_X5_at : GoodIn wsX2_findCandidates wsX5_at := goodIn_r _ [10] (by decide +kernel) (by decide +kernel)
set_option maxRecDepth 20000 in
theorem gX2_findCandidates_X5_at : GoodIn wsX2_findCandidates (va_wsS RX2 52 yX5_at wsX5_at) := goodIn_app (goodIn_of _ (by decide +kernel)) ggX2_findCandidates_X5_at
set_option maxRecDepth 20000 in
theorem ggX2_findCandidates_X5_put : GoodIn wsX2_findCandidates wsX5_put := goodIn_r _ [13] (by decide +kernel) (by decide +kernel)
set_option maxRecDepth 20000 in
theorem gX2_findCandidates_X5_put : GoodIn wsX2_findCandidates (va_wsS RX2 101 yX5_put wsX5_put) := goodIn_app (goodIn_of _ (by decide +kernel)) ggX2_findCandidates_X5_put
theorem dX2_findCandidates_0 : decode cX2_findCandidates 0 = .ok (.aload_n 0, 1) := by decide +kernel
theorem dX2_findCandidates_1 : decode cX2_findCandidates 1 = .ok (.iconst 0, 1) := by decide +kernel
theorem dX2_findCandidates_2 : decode cX2_findCandidates 2 = .ok (.putfield 58, 3) := by decide +kernel
theorem dX2_findCandidates_5 : decode cX2_findCandidates 5 = .ok (.iconst 0, 1) := by decide +kernel
theorem dX2_findCandidates_6 : decode cX2_findCandidates 6 = .ok (.istore_n 1, 1) := by decide +kernel
theorem dX2_findCandidates_7 : decode cX2_findCandidates 7 = .ok (.iload_n 1, 1) := by decide +kernel
theorem dX2_findCandidates_8 : decode cX2_findCandidates 8 = .ok (.bipush 42, 2) := by decide +kernel
theorem dX2_findCandidates_10 : decode cX2_findCandidates 10 = .ok (.if_icmp .ge 87, 3) := by decide +kernel
theorem dX2_findCandidates_13 : decode cX2_findCandidates 13 = .ok (.aload_n 0, 1) := by decide +kernel
theorem dX2_findCandidates_14 : decode cX2_findCandidates 14 = .ok (.getfield 58, 3) := by decide +kernel
theorem dX2_findCandidates_17 : decode cX2_findCandidates 17 = .ok (.bipush 10, 2) := by decide +kernel
theorem dX2_findCandidates_19 : decode cX2_findCandidates 19 = .ok (.if_icmp .ge 78, 3) := by decide +kernel
theorem dX2_findCandidates_22 : decode cX2_findCandidates 22 = .ok (.iload_n 1, 1) := by decide +kernel
theorem dX2_findCandidates_23 : decode cX2_findCandidates 23 = .ok (.bipush 32, 2) := by decide +kernel
theorem dX2_findCandidates_25 : decode cX2_findCandidates 25 = .ok (.if_icmp .ge 23, 3) := by decide +kernel
theorem dX2_findCandidates_28 : decode cX2_findCandidates 28 = .ok (.iload_n 1, 1) := by decide +kernel
theorem dX2_findCandidates_29 : decode cX2_findCandidates 29 = .ok (.iconst 4, 1) := by decide +kernel
theorem dX2_findCandidates_30 : decode cX2_findCandidates 30 = .ok (.idiv, 1) := by decide +kernel
theorem dX2_findCandidates_31 : decode cX2_findCandidates 31 = .ok (.aload_n 0, 1) := by decide +kernel
theorem dX2_findCandidates_32 : decode cX2_findCandidates 32 = .ok (.getfield 29, 3) := by decide +kernel
theorem dX2_findCandidates_35 : decode cX2_findCandidates 35 = .ok (.getfield 89, 3) := by decide +kernel
theorem dX2_findCandidates_38 : decode cX2_findCandidates 38 = .ok (.getfield 93, 3) := by decide +kernel
theorem dX2_findCandidates_41 : decode cX2_findCandidates 41 = .ok (.if_icmp .ne 7, 3) := by decide +kernel
theorem dX2_findCandidates_44 : decode cX2_findCandidates 44 = .ok (.iconst 1, 1) := by decide +kernel
theorem dX2_findCandidates_45 : decode cX2_findCandidates 45 = .ok (.goto 4, 3) := by decide +kernel
theorem dX2_findCandidates_48 : decode cX2_findCandidates 48 = .ok (.iconst 0, 1) := by decide +kernel
theorem dX2_findCandidates_49 : decode cX2_findCandidates 49 = .ok (.istore_n 2, 1) := by decide +kernel
theorem dX2_findCandidates_50 : decode cX2_findCandidates 50 = .ok (.iload_n 2, 1) := by decide +kernel
theorem dX2_findCandidates_51 : decode cX2_findCandidates 51 = .ok (.ifCond .ne 40, 3) := by decide +kernel
theorem dX2_findCandidates_54 : decode cX2_findCandidates 54 = .ok (.aload_n 0, 1) := by decide +kernel
theorem dX2_findCandidates_55 : decode cX2_findCandidates 55 = .ok (.getfield 29, 3) := by decide +kernel
theorem dX2_findCandidates_58 : decode cX2_findCandidates 58 = .ok (.getfield 98, 3) := by decide +kernel
theorem dX2_findCandidates_61 : decode cX2_findCandidates 61 = .ok (.iload_n 1, 1) := by decide +kernel
theorem dX2_findCandidates_62 : decode cX2_findCandidates 62 = .ok (.invokestatic 52, 3) := by decide +kernel
theorem dX2_findCandidates_65 : decode cX2_findCandidates 65 = .ok (.iconst 3, 1) := by decide +kernel
theorem dX2_findCandidates_66 : decode cX2_findCandidates 66 = .ok (.if_icmp .ne 25, 3) := by decide +kernel
theorem dX2_findCandidates_69 : decode cX2_findCandidates 69 = .ok (.aload_n 0, 1) := by decide +kernel
theorem dX2_findCandidates_70 : decode cX2_findCandidates 70 = .ok (.getfield 15, 3) := by decide +kernel
theorem dX2_findCandidates_73 : decode cX2_findCandidates 73 = .ok (.aload_n 0, 1) := by decide +kernel
theorem dX2_findCandidates_74 : decode cX2_findCandidates 74 = .ok (.getfield 58, 3) := by decide +kernel
theorem dX2_findCandidates_77 : decode cX2_findCandidates 77 = .ok (.iload_n 1, 1) := by decide +kernel
theorem dX2_findCandidates_78 : decode cX2_findCandidates 78 = .ok (.invokestatic 101, 3) := by decide +kernel
theorem dX2_findCandidates_81 : decode cX2_findCandidates 81 = .ok (.aload_n 0, 1) := by decide +kernel
theorem dX2_findCandidates_82 : decode cX2_findCandidates 82 = .ok (.dup, 1) := by decide +kernel
theorem dX2_findCandidates_83 : decode cX2_findCandidates 83 = .ok (.getfield 58, 3) := by decide +kernel
theorem dX2_findCandidates_86 : decode cX2_findCandidates 86 = .ok (.iconst 1, 1) := by decide +kernel
theorem dX2_findCandidates_87 : decode cX2_findCandidates 87 = .ok (.iadd, 1) := by decide +kernel
theorem dX2_findCandidates_88 : decode cX2_findCandidates 88 = .ok (.putfield 58, 3) := by decide +kernel
theorem dX2_findCandidates_91 : decode cX2_findCandidates 91 = .ok (.iinc 1 1, 3) := by decide +kernel
theorem dX2_findCandidates_94 : decode cX2_findCandidates 94 = .ok (.goto (-87), 3) := by decide +kernel
theorem dX2_findCandidates_97 : decode cX2_findCandidates 97 = .ok (.return_, 1) := by decide +kernel
set_option maxRecDepth 20000 in
theorem ggX2_marksOf_X5_at : GoodIn wsX2_marksOf wsX5_at := goodIn_r _ [6] (by decide +kernel) (by decide +kernel)
set_option maxRecDepth 20000 in
theorem gX2_marksOf_X5_at : GoodIn wsX2_marksOf (va_wsS RX2 52 yX5_at wsX5_at) := goodIn_app (goodIn_of _ (by decide +kernel)) ggX2_marksOf_X5_at
theorem dX2_marksOf_0 : decode cX2_marksOf 0 = .ok (.lconst 0, 1) := by decide +kernel
theorem dX2_marksOf_1 : decode cX2_marksOf 1 = .ok (.lstore_n 2, 1) := by decide +kernel
theorem dX2_marksOf_2 : decode cX2_marksOf 2 = .ok (.iconst 0, 1) := by decide +kernel
theorem dX2_marksOf_3 : decode cX2_marksOf 3 = .ok (.istore 4, 2) := by decide +kernel
theorem dX2_marksOf_5 : decode cX2_marksOf 5 = .ok (.iload 4, 2) := by decide +kernel
theorem dX2_marksOf_7 : decode cX2_marksOf 7 = .ok (.aload_n 0, 1) := by decide +kernel
theorem dX2_marksOf_8 : decode cX2_marksOf 8 = .ok (.getfield 58, 3) := by decide +kernel
theorem dX2_marksOf_11 : decode cX2_marksOf 11 = .ok (.if_icmp .ge 32, 3) := by decide +kernel
theorem dX2_marksOf_14 : decode cX2_marksOf 14 = .ok (.iload_n 1, 1) := by decide +kernel
theorem dX2_marksOf_15 : decode cX2_marksOf 15 = .ok (.iload 4, 2) := by decide +kernel
theorem dX2_marksOf_17 : decode cX2_marksOf 17 = .ok (.ishr, 1) := by decide +kernel
theorem dX2_marksOf_18 : decode cX2_marksOf 18 = .ok (.iconst 1, 1) := by decide +kernel
theorem dX2_marksOf_19 : decode cX2_marksOf 19 = .ok (.iand, 1) := by decide +kernel
theorem dX2_marksOf_20 : decode cX2_marksOf 20 = .ok (.ifCond .eq 17, 3) := by decide +kernel
theorem dX2_marksOf_23 : decode cX2_marksOf 23 = .ok (.lload_n 2, 1) := by decide +kernel
theorem dX2_marksOf_24 : decode cX2_marksOf 24 = .ok (.lconst 1, 1) := by decide +kernel
theorem dX2_marksOf_25 : decode cX2_marksOf 25 = .ok (.aload_n 0, 1) := by decide +kernel
theorem dX2_marksOf_26 : decode cX2_marksOf 26 = .ok (.getfield 15, 3) := by decide +kernel
theorem dX2_marksOf_29 : decode cX2_marksOf 29 = .ok (.iload 4, 2) := by decide +kernel
theorem dX2_marksOf_31 : decode cX2_marksOf 31 = .ok (.invokestatic 52, 3) := by decide +kernel
theorem dX2_marksOf_34 : decode cX2_marksOf 34 = .ok (.lshl, 1) := by decide +kernel
theorem dX2_marksOf_35 : decode cX2_marksOf 35 = .ok (.lor, 1) := by decide +kernel
theorem dX2_marksOf_36 : decode cX2_marksOf 36 = .ok (.lstore_n 2, 1) := by decide +kernel
theorem dX2_marksOf_37 : decode cX2_marksOf 37 = .ok (.iinc 4 1, 3) := by decide +kernel
theorem dX2_marksOf_40 : decode cX2_marksOf 40 = .ok (.goto (-35), 3) := by decide +kernel
theorem dX2_marksOf_43 : decode cX2_marksOf 43 = .ok (.lload_n 2, 1) := by decide +kernel
theorem dX2_marksOf_44 : decode cX2_marksOf 44 = .ok (.lreturn, 1) := by decide +kernel
set_option maxRecDepth 20000 in
theorem ggX2_priceOf_X5_at : GoodIn wsX2_priceOf wsX5_at := goodIn_r _ [7] (by decide +kernel) (by decide +kernel)
set_option maxRecDepth 20000 in
theorem gX2_priceOf_X5_at : GoodIn wsX2_priceOf (va_wsS RX2 52 yX5_at wsX5_at) := goodIn_app (goodIn_of _ (by decide +kernel)) ggX2_priceOf_X5_at
set_option maxRecDepth 20000 in
theorem ggX2_priceOf_X2_priceKind : GoodIn wsX2_priceOf wsX2_priceKind := goodIn_r _ [11] (by decide +kernel) (by decide +kernel)
set_option maxRecDepth 20000 in
theorem gX2_priceOf_X2_priceKind : GoodIn wsX2_priceOf (va_wsS RX2 105 yX2_priceKind wsX2_priceKind) := goodIn_app (goodIn_of _ (by decide +kernel)) ggX2_priceOf_X2_priceKind
theorem dX2_priceOf_0 : decode cX2_priceOf 0 = .ok (.iconst 0, 1) := by decide +kernel
theorem dX2_priceOf_1 : decode cX2_priceOf 1 = .ok (.istore_n 2, 1) := by decide +kernel
theorem dX2_priceOf_2 : decode cX2_priceOf 2 = .ok (.iconst 0, 1) := by decide +kernel
theorem dX2_priceOf_3 : decode cX2_priceOf 3 = .ok (.istore_n 3, 1) := by decide +kernel
theorem dX2_priceOf_4 : decode cX2_priceOf 4 = .ok (.iload_n 3, 1) := by decide +kernel
theorem dX2_priceOf_5 : decode cX2_priceOf 5 = .ok (.aload_n 0, 1) := by decide +kernel
theorem dX2_priceOf_6 : decode cX2_priceOf 6 = .ok (.getfield 58, 3) := by decide +kernel
theorem dX2_priceOf_9 : decode cX2_priceOf 9 = .ok (.if_icmp .ge 38, 3) := by decide +kernel
theorem dX2_priceOf_12 : decode cX2_priceOf 12 = .ok (.iload_n 1, 1) := by decide +kernel
theorem dX2_priceOf_13 : decode cX2_priceOf 13 = .ok (.iload_n 3, 1) := by decide +kernel
theorem dX2_priceOf_14 : decode cX2_priceOf 14 = .ok (.ishr, 1) := by decide +kernel
theorem dX2_priceOf_15 : decode cX2_priceOf 15 = .ok (.iconst 1, 1) := by decide +kernel
theorem dX2_priceOf_16 : decode cX2_priceOf 16 = .ok (.iand, 1) := by decide +kernel
theorem dX2_priceOf_17 : decode cX2_priceOf 17 = .ok (.ifCond .eq 24, 3) := by decide +kernel
theorem dX2_priceOf_20 : decode cX2_priceOf 20 = .ok (.iload_n 2, 1) := by decide +kernel
theorem dX2_priceOf_21 : decode cX2_priceOf 21 = .ok (.aload_n 0, 1) := by decide +kernel
theorem dX2_priceOf_22 : decode cX2_priceOf 22 = .ok (.getfield 9, 3) := by decide +kernel
theorem dX2_priceOf_25 : decode cX2_priceOf 25 = .ok (.aload_n 0, 1) := by decide +kernel
theorem dX2_priceOf_26 : decode cX2_priceOf 26 = .ok (.getfield 15, 3) := by decide +kernel
theorem dX2_priceOf_29 : decode cX2_priceOf 29 = .ok (.iload_n 3, 1) := by decide +kernel
theorem dX2_priceOf_30 : decode cX2_priceOf 30 = .ok (.invokestatic 52, 3) := by decide +kernel
theorem dX2_priceOf_33 : decode cX2_priceOf 33 = .ok (.invokestatic 105, 3) := by decide +kernel
theorem dX2_priceOf_36 : decode cX2_priceOf 36 = .ok (.invokestatic 52, 3) := by decide +kernel
theorem dX2_priceOf_39 : decode cX2_priceOf 39 = .ok (.iadd, 1) := by decide +kernel
theorem dX2_priceOf_40 : decode cX2_priceOf 40 = .ok (.istore_n 2, 1) := by decide +kernel
theorem dX2_priceOf_41 : decode cX2_priceOf 41 = .ok (.iinc 3 1, 3) := by decide +kernel
theorem dX2_priceOf_44 : decode cX2_priceOf 44 = .ok (.goto (-40), 3) := by decide +kernel
theorem dX2_priceOf_47 : decode cX2_priceOf 47 = .ok (.iload_n 2, 1) := by decide +kernel
theorem dX2_priceOf_48 : decode cX2_priceOf 48 = .ok (.ireturn, 1) := by decide +kernel
set_option maxRecDepth 20000 in
theorem ggX2_nameHeld_X5_at : GoodIn wsX2_nameHeld wsX5_at := goodIn_r _ [9] (by decide +kernel) (by decide +kernel)
set_option maxRecDepth 20000 in
theorem gX2_nameHeld_X5_at : GoodIn wsX2_nameHeld (va_wsS RX2 52 yX5_at wsX5_at) := goodIn_app (goodIn_of _ (by decide +kernel)) ggX2_nameHeld_X5_at
set_option maxRecDepth 20000 in
theorem ggX2_nameHeld_X2_nameOfMark : GoodIn wsX2_nameHeld wsX2_nameOfMark := goodIn_r _ [13] (by decide +kernel) (by decide +kernel)
set_option maxRecDepth 20000 in
theorem gX2_nameHeld_X2_nameOfMark : GoodIn wsX2_nameHeld (va_wsS RX2 111 yX2_nameOfMark wsX2_nameOfMark) := goodIn_app (goodIn_of _ (by decide +kernel)) ggX2_nameHeld_X2_nameOfMark
set_option maxRecDepth 20000 in
theorem ggX2_nameHeld_X5_put : GoodIn wsX2_nameHeld wsX5_put := goodIn_r _ [16] (by decide +kernel) (by decide +kernel)
set_option maxRecDepth 20000 in
theorem gX2_nameHeld_X5_put : GoodIn wsX2_nameHeld (va_wsS RX2 101 yX5_put wsX5_put) := goodIn_app (goodIn_of _ (by decide +kernel)) ggX2_nameHeld_X5_put
theorem dX2_nameHeld_0 : decode cX2_nameHeld 0 = .ok (.aload_n 0, 1) := by decide +kernel
theorem dX2_nameHeld_1 : decode cX2_nameHeld 1 = .ok (.iconst 0, 1) := by decide +kernel
theorem dX2_nameHeld_2 : decode cX2_nameHeld 2 = .ok (.putfield 108, 3) := by decide +kernel
theorem dX2_nameHeld_5 : decode cX2_nameHeld 5 = .ok (.iconst 0, 1) := by decide +kernel
theorem dX2_nameHeld_6 : decode cX2_nameHeld 6 = .ok (.istore_n 1, 1) := by decide +kernel
theorem dX2_nameHeld_7 : decode cX2_nameHeld 7 = .ok (.iload_n 1, 1) := by decide +kernel
theorem dX2_nameHeld_8 : decode cX2_nameHeld 8 = .ok (.aload_n 0, 1) := by decide +kernel
theorem dX2_nameHeld_9 : decode cX2_nameHeld 9 = .ok (.getfield 58, 3) := by decide +kernel
theorem dX2_nameHeld_12 : decode cX2_nameHeld 12 = .ok (.if_icmp .ge 52, 3) := by decide +kernel
theorem dX2_nameHeld_15 : decode cX2_nameHeld 15 = .ok (.aload_n 0, 1) := by decide +kernel
theorem dX2_nameHeld_16 : decode cX2_nameHeld 16 = .ok (.getfield 42, 3) := by decide +kernel
theorem dX2_nameHeld_19 : decode cX2_nameHeld 19 = .ok (.iload_n 1, 1) := by decide +kernel
theorem dX2_nameHeld_20 : decode cX2_nameHeld 20 = .ok (.ishr, 1) := by decide +kernel
theorem dX2_nameHeld_21 : decode cX2_nameHeld 21 = .ok (.iconst 1, 1) := by decide +kernel
theorem dX2_nameHeld_22 : decode cX2_nameHeld 22 = .ok (.iand, 1) := by decide +kernel
theorem dX2_nameHeld_23 : decode cX2_nameHeld 23 = .ok (.ifCond .eq 35, 3) := by decide +kernel
theorem dX2_nameHeld_26 : decode cX2_nameHeld 26 = .ok (.aload_n 0, 1) := by decide +kernel
theorem dX2_nameHeld_27 : decode cX2_nameHeld 27 = .ok (.getfield 18, 3) := by decide +kernel
theorem dX2_nameHeld_30 : decode cX2_nameHeld 30 = .ok (.aload_n 0, 1) := by decide +kernel
theorem dX2_nameHeld_31 : decode cX2_nameHeld 31 = .ok (.getfield 108, 3) := by decide +kernel
theorem dX2_nameHeld_34 : decode cX2_nameHeld 34 = .ok (.aload_n 0, 1) := by decide +kernel
theorem dX2_nameHeld_35 : decode cX2_nameHeld 35 = .ok (.getfield 15, 3) := by decide +kernel
theorem dX2_nameHeld_38 : decode cX2_nameHeld 38 = .ok (.iload_n 1, 1) := by decide +kernel
theorem dX2_nameHeld_39 : decode cX2_nameHeld 39 = .ok (.invokestatic 52, 3) := by decide +kernel
theorem dX2_nameHeld_42 : decode cX2_nameHeld 42 = .ok (.invokestatic 111, 3) := by decide +kernel
theorem dX2_nameHeld_45 : decode cX2_nameHeld 45 = .ok (.invokestatic 101, 3) := by decide +kernel
theorem dX2_nameHeld_48 : decode cX2_nameHeld 48 = .ok (.aload_n 0, 1) := by decide +kernel
theorem dX2_nameHeld_49 : decode cX2_nameHeld 49 = .ok (.dup, 1) := by decide +kernel
theorem dX2_nameHeld_50 : decode cX2_nameHeld 50 = .ok (.getfield 108, 3) := by decide +kernel
theorem dX2_nameHeld_53 : decode cX2_nameHeld 53 = .ok (.iconst 1, 1) := by decide +kernel
theorem dX2_nameHeld_54 : decode cX2_nameHeld 54 = .ok (.iadd, 1) := by decide +kernel
theorem dX2_nameHeld_55 : decode cX2_nameHeld 55 = .ok (.putfield 108, 3) := by decide +kernel
theorem dX2_nameHeld_58 : decode cX2_nameHeld 58 = .ok (.iinc 1 1, 3) := by decide +kernel
theorem dX2_nameHeld_61 : decode cX2_nameHeld 61 = .ok (.goto (-54), 3) := by decide +kernel
theorem dX2_nameHeld_64 : decode cX2_nameHeld 64 = .ok (.return_, 1) := by decide +kernel
theorem dX2_priceKind_0 : decode cX2_priceKind 0 = .ok (.iload_n 0, 1) := by decide +kernel
theorem dX2_priceKind_1 : decode cX2_priceKind 1 = .ok (.bipush 40, 2) := by decide +kernel
theorem dX2_priceKind_3 : decode cX2_priceKind 3 = .ok (.if_icmp .lt 5, 3) := by decide +kernel
theorem dX2_priceKind_6 : decode cX2_priceKind 6 = .ok (.iconst 2, 1) := by decide +kernel
theorem dX2_priceKind_7 : decode cX2_priceKind 7 = .ok (.ireturn, 1) := by decide +kernel
theorem dX2_priceKind_8 : decode cX2_priceKind 8 = .ok (.iload_n 0, 1) := by decide +kernel
theorem dX2_priceKind_9 : decode cX2_priceKind 9 = .ok (.bipush 32, 2) := by decide +kernel
theorem dX2_priceKind_11 : decode cX2_priceKind 11 = .ok (.if_icmp .lt 7, 3) := by decide +kernel
theorem dX2_priceKind_14 : decode cX2_priceKind 14 = .ok (.iconst 1, 1) := by decide +kernel
theorem dX2_priceKind_15 : decode cX2_priceKind 15 = .ok (.goto 4, 3) := by decide +kernel
theorem dX2_priceKind_18 : decode cX2_priceKind 18 = .ok (.iconst 0, 1) := by decide +kernel
theorem dX2_priceKind_19 : decode cX2_priceKind 19 = .ok (.ireturn, 1) := by decide +kernel
theorem dX2_nameOfMark_0 : decode cX2_nameOfMark 0 = .ok (.iload_n 0, 1) := by decide +kernel
theorem dX2_nameOfMark_1 : decode cX2_nameOfMark 1 = .ok (.bipush 40, 2) := by decide +kernel
theorem dX2_nameOfMark_3 : decode cX2_nameOfMark 3 = .ok (.if_icmp .lt 12, 3) := by decide +kernel
theorem dX2_nameOfMark_6 : decode cX2_nameOfMark 6 = .ok (.sipush 200, 3) := by decide +kernel
theorem dX2_nameOfMark_9 : decode cX2_nameOfMark 9 = .ok (.iload_n 0, 1) := by decide +kernel
theorem dX2_nameOfMark_10 : decode cX2_nameOfMark 10 = .ok (.iadd, 1) := by decide +kernel
theorem dX2_nameOfMark_11 : decode cX2_nameOfMark 11 = .ok (.bipush 40, 2) := by decide +kernel
theorem dX2_nameOfMark_13 : decode cX2_nameOfMark 13 = .ok (.isub, 1) := by decide +kernel
theorem dX2_nameOfMark_14 : decode cX2_nameOfMark 14 = .ok (.ireturn, 1) := by decide +kernel
theorem dX2_nameOfMark_15 : decode cX2_nameOfMark 15 = .ok (.iload_n 0, 1) := by decide +kernel
theorem dX2_nameOfMark_16 : decode cX2_nameOfMark 16 = .ok (.bipush 32, 2) := by decide +kernel
theorem dX2_nameOfMark_18 : decode cX2_nameOfMark 18 = .ok (.if_icmp .lt 14, 3) := by decide +kernel
theorem dX2_nameOfMark_21 : decode cX2_nameOfMark 21 = .ok (.bipush 100, 2) := by decide +kernel
theorem dX2_nameOfMark_23 : decode cX2_nameOfMark 23 = .ok (.iload_n 0, 1) := by decide +kernel
theorem dX2_nameOfMark_24 : decode cX2_nameOfMark 24 = .ok (.bipush 32, 2) := by decide +kernel
theorem dX2_nameOfMark_26 : decode cX2_nameOfMark 26 = .ok (.isub, 1) := by decide +kernel
theorem dX2_nameOfMark_27 : decode cX2_nameOfMark 27 = .ok (.bipush 10, 2) := by decide +kernel
theorem dX2_nameOfMark_29 : decode cX2_nameOfMark 29 = .ok (.imul, 1) := by decide +kernel
theorem dX2_nameOfMark_30 : decode cX2_nameOfMark 30 = .ok (.iadd, 1) := by decide +kernel
theorem dX2_nameOfMark_31 : decode cX2_nameOfMark 31 = .ok (.ireturn, 1) := by decide +kernel
theorem dX2_nameOfMark_32 : decode cX2_nameOfMark 32 = .ok (.iload_n 0, 1) := by decide +kernel
theorem dX2_nameOfMark_33 : decode cX2_nameOfMark 33 = .ok (.iconst 4, 1) := by decide +kernel
theorem dX2_nameOfMark_34 : decode cX2_nameOfMark 34 = .ok (.idiv, 1) := by decide +kernel
theorem dX2_nameOfMark_35 : decode cX2_nameOfMark 35 = .ok (.bipush 10, 2) := by decide +kernel
theorem dX2_nameOfMark_37 : decode cX2_nameOfMark 37 = .ok (.imul, 1) := by decide +kernel
theorem dX2_nameOfMark_38 : decode cX2_nameOfMark 38 = .ok (.iload_n 0, 1) := by decide +kernel
theorem dX2_nameOfMark_39 : decode cX2_nameOfMark 39 = .ok (.iconst 4, 1) := by decide +kernel
theorem dX2_nameOfMark_40 : decode cX2_nameOfMark 40 = .ok (.irem, 1) := by decide +kernel
theorem dX2_nameOfMark_41 : decode cX2_nameOfMark 41 = .ok (.iadd, 1) := by decide +kernel
theorem dX2_nameOfMark_42 : decode cX2_nameOfMark 42 = .ok (.ireturn, 1) := by decide +kernel
set_option maxRecDepth 20000 in
theorem ggX3_init_X0_init : GoodIn wsX3_init wsX0_init := goodIn_r _ [19, 20, 2, 3, 8, 21, 22, 23] (by decide +kernel) (by decide +kernel)
set_option maxRecDepth 20000 in
theorem gX3_init_X0_init_n11 : GoodIn wsX3_init (wsX0_init) := ggX3_init_X0_init
theorem dX3_init_0 : decode cX3_init 0 = .ok (.aload_n 0, 1) := by decide +kernel
theorem dX3_init_1 : decode cX3_init 1 = .ok (.invokespecial 3, 3) := by decide +kernel
theorem dX3_init_4 : decode cX3_init 4 = .ok (.aload_n 0, 1) := by decide +kernel
theorem dX3_init_5 : decode cX3_init 5 = .ok (.new 9, 3) := by decide +kernel
theorem dX3_init_8 : decode cX3_init 8 = .ok (.dup, 1) := by decide +kernel
theorem dX3_init_9 : decode cX3_init 9 = .ok (.invokespecial 11, 3) := by decide +kernel
theorem dX3_init_12 : decode cX3_init 12 = .ok (.putfield 12, 3) := by decide +kernel
theorem dX3_init_15 : decode cX3_init 15 = .ok (.aload_n 0, 1) := by decide +kernel
theorem dX3_init_16 : decode cX3_init 16 = .ok (.bipush 8, 2) := by decide +kernel
theorem dX3_init_18 : decode cX3_init 18 = .ok (.newarray .int, 2) := by decide +kernel
theorem dX3_init_20 : decode cX3_init 20 = .ok (.putfield 18, 3) := by decide +kernel
theorem dX3_init_23 : decode cX3_init 23 = .ok (.aload_n 0, 1) := by decide +kernel
theorem dX3_init_24 : decode cX3_init 24 = .ok (.bipush 8, 2) := by decide +kernel
theorem dX3_init_26 : decode cX3_init 26 = .ok (.newarray .int, 2) := by decide +kernel
theorem dX3_init_28 : decode cX3_init 28 = .ok (.putfield 22, 3) := by decide +kernel
theorem dX3_init_31 : decode cX3_init 31 = .ok (.aload_n 0, 1) := by decide +kernel
theorem dX3_init_32 : decode cX3_init 32 = .ok (.bipush 32, 2) := by decide +kernel
theorem dX3_init_34 : decode cX3_init 34 = .ok (.newarray .int, 2) := by decide +kernel
theorem dX3_init_36 : decode cX3_init 36 = .ok (.putfield 25, 3) := by decide +kernel
theorem dX3_init_39 : decode cX3_init 39 = .ok (.aload_n 0, 1) := by decide +kernel
theorem dX3_init_40 : decode cX3_init 40 = .ok (.bipush 40, 2) := by decide +kernel
theorem dX3_init_42 : decode cX3_init 42 = .ok (.newarray .int, 2) := by decide +kernel
theorem dX3_init_44 : decode cX3_init 44 = .ok (.putfield 28, 3) := by decide +kernel
theorem dX3_init_47 : decode cX3_init 47 = .ok (.aload_n 0, 1) := by decide +kernel
theorem dX3_init_48 : decode cX3_init 48 = .ok (.bipush 40, 2) := by decide +kernel
theorem dX3_init_50 : decode cX3_init 50 = .ok (.newarray .int, 2) := by decide +kernel
theorem dX3_init_52 : decode cX3_init 52 = .ok (.putfield 31, 3) := by decide +kernel
theorem dX3_init_55 : decode cX3_init 55 = .ok (.aload_n 0, 1) := by decide +kernel
theorem dX3_init_56 : decode cX3_init 56 = .ok (.bipush 40, 2) := by decide +kernel
theorem dX3_init_58 : decode cX3_init 58 = .ok (.newarray .int, 2) := by decide +kernel
theorem dX3_init_60 : decode cX3_init 60 = .ok (.putfield 34, 3) := by decide +kernel
theorem dX3_init_63 : decode cX3_init 63 = .ok (.aload_n 0, 1) := by decide +kernel
theorem dX3_init_64 : decode cX3_init 64 = .ok (.bipush 24, 2) := by decide +kernel
theorem dX3_init_66 : decode cX3_init 66 = .ok (.newarray .int, 2) := by decide +kernel
theorem dX3_init_68 : decode cX3_init 68 = .ok (.putfield 37, 3) := by decide +kernel
theorem dX3_init_71 : decode cX3_init 71 = .ok (.aload_n 0, 1) := by decide +kernel
theorem dX3_init_72 : decode cX3_init 72 = .ok (.bipush 24, 2) := by decide +kernel
theorem dX3_init_74 : decode cX3_init 74 = .ok (.newarray .int, 2) := by decide +kernel
theorem dX3_init_76 : decode cX3_init 76 = .ok (.putfield 40, 3) := by decide +kernel
theorem dX3_init_79 : decode cX3_init 79 = .ok (.aload_n 0, 1) := by decide +kernel
theorem dX3_init_80 : decode cX3_init 80 = .ok (.iconst (-1), 1) := by decide +kernel
theorem dX3_init_81 : decode cX3_init 81 = .ok (.putfield 43, 3) := by decide +kernel
theorem dX3_init_84 : decode cX3_init 84 = .ok (.return_, 1) := by decide +kernel
theorem dX3_clear_0 : decode cX3_clear 0 = .ok (.aload_n 0, 1) := by decide +kernel
theorem dX3_clear_1 : decode cX3_clear 1 = .ok (.getfield 12, 3) := by decide +kernel
theorem dX3_clear_4 : decode cX3_clear 4 = .ok (.iconst 0, 1) := by decide +kernel
theorem dX3_clear_5 : decode cX3_clear 5 = .ok (.putfield 47, 3) := by decide +kernel
theorem dX3_clear_8 : decode cX3_clear 8 = .ok (.aload_n 0, 1) := by decide +kernel
theorem dX3_clear_9 : decode cX3_clear 9 = .ok (.iconst 0, 1) := by decide +kernel
theorem dX3_clear_10 : decode cX3_clear 10 = .ok (.putfield 50, 3) := by decide +kernel
theorem dX3_clear_13 : decode cX3_clear 13 = .ok (.aload_n 0, 1) := by decide +kernel
theorem dX3_clear_14 : decode cX3_clear 14 = .ok (.iconst 0, 1) := by decide +kernel
theorem dX3_clear_15 : decode cX3_clear 15 = .ok (.putfield 53, 3) := by decide +kernel
theorem dX3_clear_18 : decode cX3_clear 18 = .ok (.aload_n 0, 1) := by decide +kernel
theorem dX3_clear_19 : decode cX3_clear 19 = .ok (.iconst 0, 1) := by decide +kernel
theorem dX3_clear_20 : decode cX3_clear 20 = .ok (.putfield 56, 3) := by decide +kernel
theorem dX3_clear_23 : decode cX3_clear 23 = .ok (.aload_n 0, 1) := by decide +kernel
theorem dX3_clear_24 : decode cX3_clear 24 = .ok (.iconst 0, 1) := by decide +kernel
theorem dX3_clear_25 : decode cX3_clear 25 = .ok (.putfield 59, 3) := by decide +kernel
theorem dX3_clear_28 : decode cX3_clear 28 = .ok (.aload_n 0, 1) := by decide +kernel
theorem dX3_clear_29 : decode cX3_clear 29 = .ok (.iconst (-1), 1) := by decide +kernel
theorem dX3_clear_30 : decode cX3_clear 30 = .ok (.putfield 43, 3) := by decide +kernel
theorem dX3_clear_33 : decode cX3_clear 33 = .ok (.return_, 1) := by decide +kernel
theorem dX3_has_0 : decode cX3_has 0 = .ok (.iload_n 1, 1) := by decide +kernel
theorem dX3_has_1 : decode cX3_has 1 = .ok (.ifCond .lt 24, 3) := by decide +kernel
theorem dX3_has_4 : decode cX3_has 4 = .ok (.iload_n 1, 1) := by decide +kernel
theorem dX3_has_5 : decode cX3_has 5 = .ok (.bipush 8, 2) := by decide +kernel
theorem dX3_has_7 : decode cX3_has 7 = .ok (.if_icmp .ge 18, 3) := by decide +kernel
theorem dX3_has_10 : decode cX3_has 10 = .ok (.aload_n 0, 1) := by decide +kernel
theorem dX3_has_11 : decode cX3_has 11 = .ok (.getfield 50, 3) := by decide +kernel
theorem dX3_has_14 : decode cX3_has 14 = .ok (.iload_n 1, 1) := by decide +kernel
theorem dX3_has_15 : decode cX3_has 15 = .ok (.ishr, 1) := by decide +kernel
theorem dX3_has_16 : decode cX3_has 16 = .ok (.iconst 1, 1) := by decide +kernel
theorem dX3_has_17 : decode cX3_has 17 = .ok (.iand, 1) := by decide +kernel
theorem dX3_has_18 : decode cX3_has 18 = .ok (.ifCond .eq 7, 3) := by decide +kernel
theorem dX3_has_21 : decode cX3_has 21 = .ok (.iconst 1, 1) := by decide +kernel
theorem dX3_has_22 : decode cX3_has 22 = .ok (.goto 4, 3) := by decide +kernel
theorem dX3_has_25 : decode cX3_has 25 = .ok (.iconst 0, 1) := by decide +kernel
theorem dX3_has_26 : decode cX3_has 26 = .ok (.ireturn, 1) := by decide +kernel
set_option maxRecDepth 20000 in
theorem ggX3_addRoutine_X5_put : GoodIn wsX3_addRoutine wsX5_put := goodIn_r _ [11] (by decide +kernel) (by decide +kernel)
set_option maxRecDepth 20000 in
theorem gX3_addRoutine_X5_put : GoodIn wsX3_addRoutine (va_wsS RX3 62 yX5_put wsX5_put) := goodIn_app (goodIn_of _ (by decide +kernel)) ggX3_addRoutine_X5_put
theorem dX3_addRoutine_0 : decode cX3_addRoutine 0 = .ok (.aload_n 0, 1) := by decide +kernel
theorem dX3_addRoutine_1 : decode cX3_addRoutine 1 = .ok (.getfield 53, 3) := by decide +kernel
theorem dX3_addRoutine_4 : decode cX3_addRoutine 4 = .ok (.ifCond .ne 8, 3) := by decide +kernel
theorem dX3_addRoutine_7 : decode cX3_addRoutine 7 = .ok (.aload_n 0, 1) := by decide +kernel
theorem dX3_addRoutine_8 : decode cX3_addRoutine 8 = .ok (.iload_n 1, 1) := by decide +kernel
theorem dX3_addRoutine_9 : decode cX3_addRoutine 9 = .ok (.putfield 43, 3) := by decide +kernel
theorem dX3_addRoutine_12 : decode cX3_addRoutine 12 = .ok (.aload_n 0, 1) := by decide +kernel
theorem dX3_addRoutine_13 : decode cX3_addRoutine 13 = .ok (.dup, 1) := by decide +kernel
theorem dX3_addRoutine_14 : decode cX3_addRoutine 14 = .ok (.getfield 53, 3) := by decide +kernel
theorem dX3_addRoutine_17 : decode cX3_addRoutine 17 = .ok (.iconst 1, 1) := by decide +kernel
theorem dX3_addRoutine_18 : decode cX3_addRoutine 18 = .ok (.iadd, 1) := by decide +kernel
theorem dX3_addRoutine_19 : decode cX3_addRoutine 19 = .ok (.putfield 53, 3) := by decide +kernel
theorem dX3_addRoutine_22 : decode cX3_addRoutine 22 = .ok (.aload_n 0, 1) := by decide +kernel
theorem dX3_addRoutine_23 : decode cX3_addRoutine 23 = .ok (.dup, 1) := by decide +kernel
theorem dX3_addRoutine_24 : decode cX3_addRoutine 24 = .ok (.getfield 50, 3) := by decide +kernel
theorem dX3_addRoutine_27 : decode cX3_addRoutine 27 = .ok (.iconst 1, 1) := by decide +kernel
theorem dX3_addRoutine_28 : decode cX3_addRoutine 28 = .ok (.iload_n 1, 1) := by decide +kernel
theorem dX3_addRoutine_29 : decode cX3_addRoutine 29 = .ok (.ishl, 1) := by decide +kernel
theorem dX3_addRoutine_30 : decode cX3_addRoutine 30 = .ok (.ior, 1) := by decide +kernel
theorem dX3_addRoutine_31 : decode cX3_addRoutine 31 = .ok (.putfield 50, 3) := by decide +kernel
theorem dX3_addRoutine_34 : decode cX3_addRoutine 34 = .ok (.aload_n 0, 1) := by decide +kernel
theorem dX3_addRoutine_35 : decode cX3_addRoutine 35 = .ok (.getfield 18, 3) := by decide +kernel
theorem dX3_addRoutine_38 : decode cX3_addRoutine 38 = .ok (.iload_n 1, 1) := by decide +kernel
theorem dX3_addRoutine_39 : decode cX3_addRoutine 39 = .ok (.aload_n 0, 1) := by decide +kernel
theorem dX3_addRoutine_40 : decode cX3_addRoutine 40 = .ok (.getfield 12, 3) := by decide +kernel
theorem dX3_addRoutine_43 : decode cX3_addRoutine 43 = .ok (.getfield 47, 3) := by decide +kernel
theorem dX3_addRoutine_46 : decode cX3_addRoutine 46 = .ok (.invokestatic 62, 3) := by decide +kernel
theorem dX3_addRoutine_49 : decode cX3_addRoutine 49 = .ok (.aload_n 0, 1) := by decide +kernel
theorem dX3_addRoutine_50 : decode cX3_addRoutine 50 = .ok (.getfield 22, 3) := by decide +kernel
theorem dX3_addRoutine_53 : decode cX3_addRoutine 53 = .ok (.iload_n 1, 1) := by decide +kernel
theorem dX3_addRoutine_54 : decode cX3_addRoutine 54 = .ok (.iconst 0, 1) := by decide +kernel
theorem dX3_addRoutine_55 : decode cX3_addRoutine 55 = .ok (.invokestatic 62, 3) := by decide +kernel
theorem dX3_addRoutine_58 : decode cX3_addRoutine 58 = .ok (.return_, 1) := by decide +kernel
set_option maxRecDepth 20000 in
theorem ggX3_addParameter_X5_at : GoodIn wsX3_addParameter wsX5_at := goodIn_r _ [6] (by decide +kernel) (by decide +kernel)
set_option maxRecDepth 20000 in
theorem gX3_addParameter_X5_at : GoodIn wsX3_addParameter (va_wsS RX3 68 yX5_at wsX5_at) := goodIn_app (goodIn_of _ (by decide +kernel)) ggX3_addParameter_X5_at
set_option maxRecDepth 20000 in
theorem ggX3_addParameter_X5_put : GoodIn wsX3_addParameter wsX5_put := goodIn_r _ [9] (by decide +kernel) (by decide +kernel)
set_option maxRecDepth 20000 in
theorem gX3_addParameter_X5_put : GoodIn wsX3_addParameter (va_wsS RX3 62 yX5_put wsX5_put) := goodIn_app (goodIn_of _ (by decide +kernel)) ggX3_addParameter_X5_put
theorem dX3_addParameter_0 : decode cX3_addParameter 0 = .ok (.aload_n 0, 1) := by decide +kernel
theorem dX3_addParameter_1 : decode cX3_addParameter 1 = .ok (.getfield 22, 3) := by decide +kernel
theorem dX3_addParameter_4 : decode cX3_addParameter 4 = .ok (.iload_n 1, 1) := by decide +kernel
theorem dX3_addParameter_5 : decode cX3_addParameter 5 = .ok (.invokestatic 68, 3) := by decide +kernel
theorem dX3_addParameter_8 : decode cX3_addParameter 8 = .ok (.istore_n 3, 1) := by decide +kernel
theorem dX3_addParameter_9 : decode cX3_addParameter 9 = .ok (.aload_n 0, 1) := by decide +kernel
theorem dX3_addParameter_10 : decode cX3_addParameter 10 = .ok (.getfield 25, 3) := by decide +kernel
theorem dX3_addParameter_13 : decode cX3_addParameter 13 = .ok (.iload_n 1, 1) := by decide +kernel
theorem dX3_addParameter_14 : decode cX3_addParameter 14 = .ok (.iconst 4, 1) := by decide +kernel
theorem dX3_addParameter_15 : decode cX3_addParameter 15 = .ok (.imul, 1) := by decide +kernel
theorem dX3_addParameter_16 : decode cX3_addParameter 16 = .ok (.iload_n 3, 1) := by decide +kernel
theorem dX3_addParameter_17 : decode cX3_addParameter 17 = .ok (.iadd, 1) := by decide +kernel
theorem dX3_addParameter_18 : decode cX3_addParameter 18 = .ok (.iload_n 2, 1) := by decide +kernel
theorem dX3_addParameter_19 : decode cX3_addParameter 19 = .ok (.invokestatic 62, 3) := by decide +kernel
theorem dX3_addParameter_22 : decode cX3_addParameter 22 = .ok (.aload_n 0, 1) := by decide +kernel
theorem dX3_addParameter_23 : decode cX3_addParameter 23 = .ok (.getfield 22, 3) := by decide +kernel
theorem dX3_addParameter_26 : decode cX3_addParameter 26 = .ok (.iload_n 1, 1) := by decide +kernel
theorem dX3_addParameter_27 : decode cX3_addParameter 27 = .ok (.iload_n 3, 1) := by decide +kernel
theorem dX3_addParameter_28 : decode cX3_addParameter 28 = .ok (.iconst 1, 1) := by decide +kernel
theorem dX3_addParameter_29 : decode cX3_addParameter 29 = .ok (.iadd, 1) := by decide +kernel
theorem dX3_addParameter_30 : decode cX3_addParameter 30 = .ok (.invokestatic 62, 3) := by decide +kernel
theorem dX3_addParameter_33 : decode cX3_addParameter 33 = .ok (.return_, 1) := by decide +kernel
set_option maxRecDepth 20000 in
theorem ggX3_parameter_X5_at : GoodIn wsX3_parameter wsX5_at := goodIn_r _ [5] (by decide +kernel) (by decide +kernel)
set_option maxRecDepth 20000 in
theorem gX3_parameter_X5_at : GoodIn wsX3_parameter (va_wsS RX3 68 yX5_at wsX5_at) := goodIn_app (goodIn_of _ (by decide +kernel)) ggX3_parameter_X5_at
theorem dX3_parameter_0 : decode cX3_parameter 0 = .ok (.aload_n 0, 1) := by decide +kernel
theorem dX3_parameter_1 : decode cX3_parameter 1 = .ok (.getfield 25, 3) := by decide +kernel
theorem dX3_parameter_4 : decode cX3_parameter 4 = .ok (.iload_n 1, 1) := by decide +kernel
theorem dX3_parameter_5 : decode cX3_parameter 5 = .ok (.iconst 4, 1) := by decide +kernel
theorem dX3_parameter_6 : decode cX3_parameter 6 = .ok (.imul, 1) := by decide +kernel
theorem dX3_parameter_7 : decode cX3_parameter 7 = .ok (.iload_n 2, 1) := by decide +kernel
theorem dX3_parameter_8 : decode cX3_parameter 8 = .ok (.iadd, 1) := by decide +kernel
theorem dX3_parameter_9 : decode cX3_parameter 9 = .ok (.invokestatic 68, 3) := by decide +kernel
theorem dX3_parameter_12 : decode cX3_parameter 12 = .ok (.ireturn, 1) := by decide +kernel
set_option maxRecDepth 20000 in
theorem ggX3_hasParameter_X5_at : GoodIn wsX3_hasParameter wsX5_at := goodIn_r _ [5] (by decide +kernel) (by decide +kernel)
set_option maxRecDepth 20000 in
theorem gX3_hasParameter_X5_at : GoodIn wsX3_hasParameter (va_wsS RX3 68 yX5_at wsX5_at) := goodIn_app (goodIn_of _ (by decide +kernel)) ggX3_hasParameter_X5_at
set_option maxRecDepth 20000 in
theorem ggX3_hasParameter_X3_parameter : GoodIn wsX3_hasParameter wsX3_parameter := goodIn_r _ [10, 11, 2, 3, 4, 5, 12, 13, 14, 15, 16, 17, 18, 19, 20, 21, 22, 23, 24, 25] (by decide +kernel) (by decide +kernel)
set_option maxRecDepth 20000 in
theorem gX3_hasParameter_X3_parameter : GoodIn wsX3_hasParameter (wsV RX3 72 RX3 yX3_parameter wsX3_parameter) := goodIn_app (goodIn_of _ (by decide +kernel)) ggX3_hasParameter_X3_parameter
theorem dX3_hasParameter_0 : decode cX3_hasParameter 0 = .ok (.iconst 0, 1) := by decide +kernel
theorem dX3_hasParameter_1 : decode cX3_hasParameter 1 = .ok (.istore_n 3, 1) := by decide +kernel
theorem dX3_hasParameter_2 : decode cX3_hasParameter 2 = .ok (.iload_n 3, 1) := by decide +kernel
theorem dX3_hasParameter_3 : decode cX3_hasParameter 3 = .ok (.aload_n 0, 1) := by decide +kernel
theorem dX3_hasParameter_4 : decode cX3_hasParameter 4 = .ok (.getfield 22, 3) := by decide +kernel
theorem dX3_hasParameter_7 : decode cX3_hasParameter 7 = .ok (.iload_n 1, 1) := by decide +kernel
theorem dX3_hasParameter_8 : decode cX3_hasParameter 8 = .ok (.invokestatic 68, 3) := by decide +kernel
theorem dX3_hasParameter_11 : decode cX3_hasParameter 11 = .ok (.if_icmp .ge 26, 3) := by decide +kernel
theorem dX3_hasParameter_14 : decode cX3_hasParameter 14 = .ok (.iload_n 3, 1) := by decide +kernel
theorem dX3_hasParameter_15 : decode cX3_hasParameter 15 = .ok (.iconst 4, 1) := by decide +kernel
theorem dX3_hasParameter_16 : decode cX3_hasParameter 16 = .ok (.if_icmp .ge 21, 3) := by decide +kernel
theorem dX3_hasParameter_19 : decode cX3_hasParameter 19 = .ok (.aload_n 0, 1) := by decide +kernel
theorem dX3_hasParameter_20 : decode cX3_hasParameter 20 = .ok (.iload_n 1, 1) := by decide +kernel
theorem dX3_hasParameter_21 : decode cX3_hasParameter 21 = .ok (.iload_n 3, 1) := by decide +kernel
theorem dX3_hasParameter_22 : decode cX3_hasParameter 22 = .ok (.invokevirtual 72, 3) := by decide +kernel
theorem dX3_hasParameter_25 : decode cX3_hasParameter 25 = .ok (.iload_n 2, 1) := by decide +kernel
theorem dX3_hasParameter_26 : decode cX3_hasParameter 26 = .ok (.if_icmp .ne 5, 3) := by decide +kernel
theorem dX3_hasParameter_29 : decode cX3_hasParameter 29 = .ok (.iconst 1, 1) := by decide +kernel
theorem dX3_hasParameter_30 : decode cX3_hasParameter 30 = .ok (.ireturn, 1) := by decide +kernel
theorem dX3_hasParameter_31 : decode cX3_hasParameter 31 = .ok (.iinc 3 1, 3) := by decide +kernel
theorem dX3_hasParameter_34 : decode cX3_hasParameter 34 = .ok (.goto (-32), 3) := by decide +kernel
theorem dX3_hasParameter_37 : decode cX3_hasParameter 37 = .ok (.iconst 0, 1) := by decide +kernel
theorem dX3_hasParameter_38 : decode cX3_hasParameter 38 = .ok (.ireturn, 1) := by decide +kernel
theorem dX3_addUse_0 : decode cX3_addUse 0 = .ok (.aload_n 0, 1) := by decide +kernel
theorem dX3_addUse_1 : decode cX3_addUse 1 = .ok (.getfield 56, 3) := by decide +kernel
theorem dX3_addUse_4 : decode cX3_addUse 4 = .ok (.istore 4, 2) := by decide +kernel
theorem dX3_addUse_6 : decode cX3_addUse 6 = .ok (.iload 4, 2) := by decide +kernel
theorem dX3_addUse_8 : decode cX3_addUse 8 = .ok (.ifCond .lt 10, 3) := by decide +kernel
theorem dX3_addUse_11 : decode cX3_addUse 11 = .ok (.iload 4, 2) := by decide +kernel
theorem dX3_addUse_13 : decode cX3_addUse 13 = .ok (.bipush 40, 2) := by decide +kernel
theorem dX3_addUse_15 : decode cX3_addUse 15 = .ok (.if_icmp .lt 5, 3) := by decide +kernel
theorem dX3_addUse_18 : decode cX3_addUse 18 = .ok (.iconst (-1), 1) := by decide +kernel
theorem dX3_addUse_19 : decode cX3_addUse 19 = .ok (.ireturn, 1) := by decide +kernel
theorem dX3_addUse_20 : decode cX3_addUse 20 = .ok (.aload_n 0, 1) := by decide +kernel
theorem dX3_addUse_21 : decode cX3_addUse 21 = .ok (.getfield 28, 3) := by decide +kernel
theorem dX3_addUse_24 : decode cX3_addUse 24 = .ok (.iload 4, 2) := by decide +kernel
theorem dX3_addUse_26 : decode cX3_addUse 26 = .ok (.iload_n 1, 1) := by decide +kernel
theorem dX3_addUse_27 : decode cX3_addUse 27 = .ok (.iastore, 1) := by decide +kernel
theorem dX3_addUse_28 : decode cX3_addUse 28 = .ok (.aload_n 0, 1) := by decide +kernel
theorem dX3_addUse_29 : decode cX3_addUse 29 = .ok (.getfield 31, 3) := by decide +kernel
theorem dX3_addUse_32 : decode cX3_addUse 32 = .ok (.iload 4, 2) := by decide +kernel
theorem dX3_addUse_34 : decode cX3_addUse 34 = .ok (.iload_n 2, 1) := by decide +kernel
theorem dX3_addUse_35 : decode cX3_addUse 35 = .ok (.iastore, 1) := by decide +kernel
theorem dX3_addUse_36 : decode cX3_addUse 36 = .ok (.aload_n 0, 1) := by decide +kernel
theorem dX3_addUse_37 : decode cX3_addUse 37 = .ok (.getfield 34, 3) := by decide +kernel
theorem dX3_addUse_40 : decode cX3_addUse 40 = .ok (.iload 4, 2) := by decide +kernel
theorem dX3_addUse_42 : decode cX3_addUse 42 = .ok (.iload_n 3, 1) := by decide +kernel
theorem dX3_addUse_43 : decode cX3_addUse 43 = .ok (.iastore, 1) := by decide +kernel
theorem dX3_addUse_44 : decode cX3_addUse 44 = .ok (.aload_n 0, 1) := by decide +kernel
theorem dX3_addUse_45 : decode cX3_addUse 45 = .ok (.dup, 1) := by decide +kernel
theorem dX3_addUse_46 : decode cX3_addUse 46 = .ok (.getfield 56, 3) := by decide +kernel
theorem dX3_addUse_49 : decode cX3_addUse 49 = .ok (.iconst 1, 1) := by decide +kernel
theorem dX3_addUse_50 : decode cX3_addUse 50 = .ok (.iadd, 1) := by decide +kernel
theorem dX3_addUse_51 : decode cX3_addUse 51 = .ok (.putfield 56, 3) := by decide +kernel
theorem dX3_addUse_54 : decode cX3_addUse 54 = .ok (.iload 4, 2) := by decide +kernel
theorem dX3_addUse_56 : decode cX3_addUse 56 = .ok (.ireturn, 1) := by decide +kernel
theorem dX3_addTest_0 : decode cX3_addTest 0 = .ok (.aload_n 0, 1) := by decide +kernel
theorem dX3_addTest_1 : decode cX3_addTest 1 = .ok (.getfield 59, 3) := by decide +kernel
theorem dX3_addTest_4 : decode cX3_addTest 4 = .ok (.istore_n 3, 1) := by decide +kernel
theorem dX3_addTest_5 : decode cX3_addTest 5 = .ok (.iload_n 3, 1) := by decide +kernel
theorem dX3_addTest_6 : decode cX3_addTest 6 = .ok (.ifCond .lt 9, 3) := by decide +kernel
theorem dX3_addTest_9 : decode cX3_addTest 9 = .ok (.iload_n 3, 1) := by decide +kernel
theorem dX3_addTest_10 : decode cX3_addTest 10 = .ok (.bipush 24, 2) := by decide +kernel
theorem dX3_addTest_12 : decode cX3_addTest 12 = .ok (.if_icmp .lt 5, 3) := by decide +kernel
theorem dX3_addTest_15 : decode cX3_addTest 15 = .ok (.iconst (-1), 1) := by decide +kernel
theorem dX3_addTest_16 : decode cX3_addTest 16 = .ok (.ireturn, 1) := by decide +kernel
theorem dX3_addTest_17 : decode cX3_addTest 17 = .ok (.aload_n 0, 1) := by decide +kernel
theorem dX3_addTest_18 : decode cX3_addTest 18 = .ok (.getfield 37, 3) := by decide +kernel
theorem dX3_addTest_21 : decode cX3_addTest 21 = .ok (.iload_n 3, 1) := by decide +kernel
theorem dX3_addTest_22 : decode cX3_addTest 22 = .ok (.iload_n 1, 1) := by decide +kernel
theorem dX3_addTest_23 : decode cX3_addTest 23 = .ok (.iastore, 1) := by decide +kernel
theorem dX3_addTest_24 : decode cX3_addTest 24 = .ok (.aload_n 0, 1) := by decide +kernel
theorem dX3_addTest_25 : decode cX3_addTest 25 = .ok (.getfield 40, 3) := by decide +kernel
theorem dX3_addTest_28 : decode cX3_addTest 28 = .ok (.iload_n 3, 1) := by decide +kernel
theorem dX3_addTest_29 : decode cX3_addTest 29 = .ok (.iload_n 2, 1) := by decide +kernel
theorem dX3_addTest_30 : decode cX3_addTest 30 = .ok (.iastore, 1) := by decide +kernel
theorem dX3_addTest_31 : decode cX3_addTest 31 = .ok (.aload_n 0, 1) := by decide +kernel
theorem dX3_addTest_32 : decode cX3_addTest 32 = .ok (.dup, 1) := by decide +kernel
theorem dX3_addTest_33 : decode cX3_addTest 33 = .ok (.getfield 59, 3) := by decide +kernel
theorem dX3_addTest_36 : decode cX3_addTest 36 = .ok (.iconst 1, 1) := by decide +kernel
theorem dX3_addTest_37 : decode cX3_addTest 37 = .ok (.iadd, 1) := by decide +kernel
theorem dX3_addTest_38 : decode cX3_addTest 38 = .ok (.putfield 59, 3) := by decide +kernel
theorem dX3_addTest_41 : decode cX3_addTest 41 = .ok (.iload_n 3, 1) := by decide +kernel
theorem dX3_addTest_42 : decode cX3_addTest 42 = .ok (.ireturn, 1) := by decide +kernel
theorem dX4_init_0 : decode cX4_init 0 = .ok (.aload_n 0, 1) := by decide +kernel
theorem dX4_init_1 : decode cX4_init 1 = .ok (.invokespecial 3, 3) := by decide +kernel
theorem dX4_init_4 : decode cX4_init 4 = .ok (.aload_n 0, 1) := by decide +kernel
theorem dX4_init_5 : decode cX4_init 5 = .ok (.bipush 6, 2) := by decide +kernel
theorem dX4_init_7 : decode cX4_init 7 = .ok (.newarray .int, 2) := by decide +kernel
theorem dX4_init_9 : decode cX4_init 9 = .ok (.putfield 9, 3) := by decide +kernel
theorem dX4_init_12 : decode cX4_init 12 = .ok (.aload_n 0, 1) := by decide +kernel
theorem dX4_init_13 : decode cX4_init 13 = .ok (.bipush 6, 2) := by decide +kernel
theorem dX4_init_15 : decode cX4_init 15 = .ok (.newarray .int, 2) := by decide +kernel
theorem dX4_init_17 : decode cX4_init 17 = .ok (.putfield 15, 3) := by decide +kernel
theorem dX4_init_20 : decode cX4_init 20 = .ok (.aload_n 0, 1) := by decide +kernel
theorem dX4_init_21 : decode cX4_init 21 = .ok (.iconst (-1), 1) := by decide +kernel
theorem dX4_init_22 : decode cX4_init 22 = .ok (.putfield 18, 3) := by decide +kernel
theorem dX4_init_25 : decode cX4_init 25 = .ok (.aload_n 0, 1) := by decide +kernel
theorem dX4_init_26 : decode cX4_init 26 = .ok (.aload_n 1, 1) := by decide +kernel
theorem dX4_init_27 : decode cX4_init 27 = .ok (.putfield 22, 3) := by decide +kernel
theorem dX4_init_30 : decode cX4_init 30 = .ok (.aload_n 0, 1) := by decide +kernel
theorem dX4_init_31 : decode cX4_init 31 = .ok (.aload_n 2, 1) := by decide +kernel
theorem dX4_init_32 : decode cX4_init 32 = .ok (.putfield 26, 3) := by decide +kernel
theorem dX4_init_35 : decode cX4_init 35 = .ok (.aload_n 0, 1) := by decide +kernel
theorem dX4_init_36 : decode cX4_init 36 = .ok (.aload_n 2, 1) := by decide +kernel
theorem dX4_init_37 : decode cX4_init 37 = .ok (.getfield 30, 3) := by decide +kernel
theorem dX4_init_40 : decode cX4_init 40 = .ok (.putfield 36, 3) := by decide +kernel
theorem dX4_init_43 : decode cX4_init 43 = .ok (.return_, 1) := by decide +kernel
set_option maxRecDepth 20000 in
theorem ggX4_readInto_X3_clear : GoodIn wsX4_readInto wsX3_clear := goodIn_r _ [12, 13, 14, 15, 16, 17, 18, 19, 206, 207, 208, 209, 210, 211, 212, 213, 214, 215, 216, 217, 218, 219, 220, 221] (by decide +kernel) (by decide +kernel)
set_option maxRecDepth 20000 in
theorem gX4_readInto_X3_clear : GoodIn wsX4_readInto (wsV RX4 37 RX3 yX3_clear wsX3_clear) := goodIn_app (goodIn_of _ (by decide +kernel)) ggX4_readInto_X3_clear
set_option maxRecDepth 20000 in
theorem ggX4_readInto_X4_seen : GoodIn wsX4_readInto wsX4_seen := goodIn_r _ [24, 25, 4, 26, 27, 28, 29, 30, 31, 32, 196, 197, 198, 199, 200, 201, 202, 203, 204, 205, 222, 223, 224] (by decide +kernel) (by decide +kernel)
set_option maxRecDepth 20000 in
theorem gX4_readInto_X4_seen : GoodIn wsX4_readInto (wsV RX4 51 RX4 yX4_seen wsX4_seen) := goodIn_app (goodIn_of _ (by decide +kernel)) ggX4_readInto_X4_seen
set_option maxRecDepth 20000 in
theorem ggX4_readInto_X4_readHead : GoodIn wsX4_readInto wsX4_readHead := goodIn_r _ [36, 4, 25, 37, 1, 38, 39, 40, 23, 41, 26, 27, 28, 29, 30, 31, 32, 42, 43, 44, 45, 46, 47, 48, 49, 50, 6, 7, 51, 52, 53, 54, 55, 56, 57, 11, 58, 15, 59, 60, 61, 62, 16, 19, 63, 13, 14, 64, 65, 66, 67, 68, 69, 70, 71, 72, 20, 21, 22, 24, 73, 74, 75, 76, 77, 78, 79, 80, 81, 82, 83, 84, 85, 86, 87, 88, 89, 90, 91, 92, 5, 93, 94, 95, 196, 197, 198, 199, 200, 201, 202, 203, 204, 205, 222, 223, 224, 206, 207, 208, 209, 210, 211, 212, 213, 214, 215, 216, 217, 218, 219, 220, 221] (by decide +kernel) (by decide +kernel)
set_option maxRecDepth 20000 in
theorem gX4_readInto_X4_readHead : GoodIn wsX4_readInto (wsV RX4 55 RX4 yX4_readHead wsX4_readHead) := goodIn_app (goodIn_of _ (by decide +kernel)) ggX4_readInto_X4_readHead
set_option maxRecDepth 20000 in
theorem ggX4_readInto_X4_closeBlock : GoodIn wsX4_readInto wsX4_closeBlock := goodIn_r _ [99, 4, 5, 94, 93, 3, 37, 100, 101, 78, 67, 79, 102, 103, 104, 105, 106, 107, 108, 109, 110, 111, 112, 113, 114, 115, 116, 23, 117, 20, 21, 22, 24, 25, 26, 27, 28, 29, 30, 31, 32, 89, 90, 91, 92, 38, 39, 40, 41, 42, 43, 44, 45, 46, 47, 48, 49, 50, 6, 7, 95, 66, 68, 196, 197, 198, 199, 200, 201, 202, 203, 204, 205, 220, 221, 222, 223, 224] (by decide +kernel) (by decide +kernel)
set_option maxRecDepth 20000 in
theorem gX4_readInto_X4_closeBlock : GoodIn wsX4_readInto (wsV RX4 59 RX4 yX4_closeBlock wsX4_closeBlock) := goodIn_app (goodIn_of _ (by decide +kernel)) ggX4_readInto_X4_closeBlock
set_option maxRecDepth 20000 in
theorem ggX4_readInto_X4_readStatement : GoodIn wsX4_readInto wsX4_readStatement := goodIn_r _ [121, 25, 4, 3, 37, 26, 27, 28, 29, 30, 31, 32, 122, 123, 124, 23, 125, 20, 21, 22, 24, 102, 103, 104, 105, 106, 107, 108, 109, 110, 111, 112, 51, 52, 53, 54, 113, 126, 127, 128, 129, 1, 130, 42, 43, 44, 45, 46, 47, 48, 49, 50, 6, 7, 131, 132, 133, 11, 134, 17, 135, 136, 137, 138, 139, 140, 141, 38, 39, 40, 41, 142, 143, 144, 145, 146, 147, 148, 149, 150, 151, 152, 153, 154, 155, 156, 157, 158, 159, 160, 161, 162, 163, 164, 165, 166, 167, 168, 169, 170, 171, 172, 173, 174, 175, 176, 177, 178, 179, 18, 180, 181, 182, 183, 184, 185, 89, 90, 91, 92, 5, 93, 94, 95, 66, 67, 68, 196, 197, 198, 199, 200, 201, 202, 203, 204, 205, 222, 223, 224, 220, 221, 206, 207, 208, 209, 210, 211, 212, 213, 214, 215, 216, 217, 218, 219] (by decide +kernel) (by decide +kernel)
set_option maxRecDepth 20000 in
theorem gX4_readInto_X4_readStatement : GoodIn wsX4_readInto (wsV RX4 62 RX4 yX4_readStatement wsX4_readStatement) := goodIn_app (goodIn_of _ (by decide +kernel)) ggX4_readInto_X4_readStatement
set_option maxRecDepth 20000 in
theorem ggX4_readInto_X4_checkCalls : GoodIn wsX4_readInto wsX4_checkCalls := goodIn_r _ [189, 3, 100, 6, 1, 190, 191, 164, 165, 105, 166, 107, 112, 55, 56, 57, 11, 58, 15, 101, 78, 67, 79, 192, 193, 194, 195, 163, 47, 48, 49, 23, 50, 7, 196, 197, 198, 199, 200, 201, 202, 203, 204, 205, 220, 221, 206, 207, 208, 209, 210, 211, 212, 213, 214, 215, 216, 217, 218, 219] (by decide +kernel) (by decide +kernel)
set_option maxRecDepth 20000 in
theorem gX4_readInto_X4_checkCalls : GoodIn wsX4_readInto (wsV RX4 65 RX4 yX4_checkCalls wsX4_checkCalls) := goodIn_app (goodIn_of _ (by decide +kernel)) ggX4_readInto_X4_checkCalls
theorem dX4_readInto_0 : decode cX4_readInto 0 = .ok (.aload_n 0, 1) := by decide +kernel
theorem dX4_readInto_1 : decode cX4_readInto 1 = .ok (.aload_n 1, 1) := by decide +kernel
theorem dX4_readInto_2 : decode cX4_readInto 2 = .ok (.putfield 26, 3) := by decide +kernel
theorem dX4_readInto_5 : decode cX4_readInto 5 = .ok (.aload_n 0, 1) := by decide +kernel
theorem dX4_readInto_6 : decode cX4_readInto 6 = .ok (.aload_n 1, 1) := by decide +kernel
theorem dX4_readInto_7 : decode cX4_readInto 7 = .ok (.getfield 30, 3) := by decide +kernel
theorem dX4_readInto_10 : decode cX4_readInto 10 = .ok (.putfield 36, 3) := by decide +kernel
theorem dX4_readInto_13 : decode cX4_readInto 13 = .ok (.aload_n 1, 1) := by decide +kernel
theorem dX4_readInto_14 : decode cX4_readInto 14 = .ok (.invokevirtual 37, 3) := by decide +kernel
theorem dX4_readInto_17 : decode cX4_readInto 17 = .ok (.aload_n 0, 1) := by decide +kernel
theorem dX4_readInto_18 : decode cX4_readInto 18 = .ok (.iconst 0, 1) := by decide +kernel
theorem dX4_readInto_19 : decode cX4_readInto 19 = .ok (.putfield 40, 3) := by decide +kernel
theorem dX4_readInto_22 : decode cX4_readInto 22 = .ok (.aload_n 0, 1) := by decide +kernel
theorem dX4_readInto_23 : decode cX4_readInto 23 = .ok (.iconst 0, 1) := by decide +kernel
theorem dX4_readInto_24 : decode cX4_readInto 24 = .ok (.putfield 43, 3) := by decide +kernel
theorem dX4_readInto_27 : decode cX4_readInto 27 = .ok (.aload_n 0, 1) := by decide +kernel
theorem dX4_readInto_28 : decode cX4_readInto 28 = .ok (.iconst 0, 1) := by decide +kernel
theorem dX4_readInto_29 : decode cX4_readInto 29 = .ok (.putfield 46, 3) := by decide +kernel
theorem dX4_readInto_32 : decode cX4_readInto 32 = .ok (.aload_n 0, 1) := by decide +kernel
theorem dX4_readInto_33 : decode cX4_readInto 33 = .ok (.iconst (-1), 1) := by decide +kernel
theorem dX4_readInto_34 : decode cX4_readInto 34 = .ok (.putfield 18, 3) := by decide +kernel
theorem dX4_readInto_37 : decode cX4_readInto 37 = .ok (.iconst 0, 1) := by decide +kernel
theorem dX4_readInto_38 : decode cX4_readInto 38 = .ok (.istore_n 2, 1) := by decide +kernel
theorem dX4_readInto_39 : decode cX4_readInto 39 = .ok (.iload_n 2, 1) := by decide +kernel
theorem dX4_readInto_40 : decode cX4_readInto 40 = .ok (.sipush 1200, 3) := by decide +kernel
theorem dX4_readInto_43 : decode cX4_readInto 43 = .ok (.if_icmp .gt 67, 3) := by decide +kernel
theorem dX4_readInto_46 : decode cX4_readInto 46 = .ok (.aload_n 0, 1) := by decide +kernel
theorem dX4_readInto_47 : decode cX4_readInto 47 = .ok (.getfield 46, 3) := by decide +kernel
theorem dX4_readInto_50 : decode cX4_readInto 50 = .ok (.ifCond .ne 60, 3) := by decide +kernel
theorem dX4_readInto_53 : decode cX4_readInto 53 = .ok (.aload_n 0, 1) := by decide +kernel
theorem dX4_readInto_54 : decode cX4_readInto 54 = .ok (.getfield 43, 3) := by decide +kernel
theorem dX4_readInto_57 : decode cX4_readInto 57 = .ok (.ifCond .gt 11, 3) := by decide +kernel
theorem dX4_readInto_60 : decode cX4_readInto 60 = .ok (.aload_n 0, 1) := by decide +kernel
theorem dX4_readInto_61 : decode cX4_readInto 61 = .ok (.iconst 0, 1) := by decide +kernel
theorem dX4_readInto_62 : decode cX4_readInto 62 = .ok (.invokevirtual 51, 3) := by decide +kernel
theorem dX4_readInto_65 : decode cX4_readInto 65 = .ok (.ifCond .ne 45, 3) := by decide +kernel
theorem dX4_readInto_68 : decode cX4_readInto 68 = .ok (.aload_n 0, 1) := by decide +kernel
theorem dX4_readInto_69 : decode cX4_readInto 69 = .ok (.getfield 43, 3) := by decide +kernel
theorem dX4_readInto_72 : decode cX4_readInto 72 = .ok (.ifCond .ne 11, 3) := by decide +kernel
theorem dX4_readInto_75 : decode cX4_readInto 75 = .ok (.aload_n 0, 1) := by decide +kernel
theorem dX4_readInto_76 : decode cX4_readInto 76 = .ok (.invokevirtual 55, 3) := by decide +kernel
theorem dX4_readInto_79 : decode cX4_readInto 79 = .ok (.pop, 1) := by decide +kernel
theorem dX4_readInto_80 : decode cX4_readInto 80 = .ok (.goto 24, 3) := by decide +kernel
theorem dX4_readInto_83 : decode cX4_readInto 83 = .ok (.aload_n 0, 1) := by decide +kernel
theorem dX4_readInto_84 : decode cX4_readInto 84 = .ok (.bipush 7, 2) := by decide +kernel
theorem dX4_readInto_86 : decode cX4_readInto 86 = .ok (.invokevirtual 51, 3) := by decide +kernel
theorem dX4_readInto_89 : decode cX4_readInto 89 = .ok (.ifCond .eq 10, 3) := by decide +kernel
theorem dX4_readInto_92 : decode cX4_readInto 92 = .ok (.aload_n 0, 1) := by decide +kernel
theorem dX4_readInto_93 : decode cX4_readInto 93 = .ok (.invokevirtual 59, 3) := by decide +kernel
theorem dX4_readInto_96 : decode cX4_readInto 96 = .ok (.goto 8, 3) := by decide +kernel
theorem dX4_readInto_99 : decode cX4_readInto 99 = .ok (.aload_n 0, 1) := by decide +kernel
theorem dX4_readInto_100 : decode cX4_readInto 100 = .ok (.invokevirtual 62, 3) := by decide +kernel
theorem dX4_readInto_103 : decode cX4_readInto 103 = .ok (.pop, 1) := by decide +kernel
theorem dX4_readInto_104 : decode cX4_readInto 104 = .ok (.iinc 2 1, 3) := by decide +kernel
theorem dX4_readInto_107 : decode cX4_readInto 107 = .ok (.goto (-68), 3) := by decide +kernel
theorem dX4_readInto_110 : decode cX4_readInto 110 = .ok (.aload_n 0, 1) := by decide +kernel
theorem dX4_readInto_111 : decode cX4_readInto 111 = .ok (.getfield 46, 3) := by decide +kernel
theorem dX4_readInto_114 : decode cX4_readInto 114 = .ok (.ifCond .ne 7, 3) := by decide +kernel
theorem dX4_readInto_117 : decode cX4_readInto 117 = .ok (.aload_n 0, 1) := by decide +kernel
theorem dX4_readInto_118 : decode cX4_readInto 118 = .ok (.invokevirtual 65, 3) := by decide +kernel
theorem dX4_readInto_121 : decode cX4_readInto 121 = .ok (.return_, 1) := by decide +kernel
theorem dX4_refuse_0 : decode cX4_refuse 0 = .ok (.aload_n 0, 1) := by decide +kernel
theorem dX4_refuse_1 : decode cX4_refuse 1 = .ok (.iload_n 1, 1) := by decide +kernel
theorem dX4_refuse_2 : decode cX4_refuse 2 = .ok (.putfield 46, 3) := by decide +kernel
theorem dX4_refuse_5 : decode cX4_refuse 5 = .ok (.aload_n 0, 1) := by decide +kernel
theorem dX4_refuse_6 : decode cX4_refuse 6 = .ok (.iload_n 2, 1) := by decide +kernel
theorem dX4_refuse_7 : decode cX4_refuse 7 = .ok (.putfield 18, 3) := by decide +kernel
theorem dX4_refuse_10 : decode cX4_refuse 10 = .ok (.iconst 0, 1) := by decide +kernel
theorem dX4_refuse_11 : decode cX4_refuse 11 = .ok (.ireturn, 1) := by decide +kernel
set_option maxRecDepth 20000 in
theorem ggX4_seen_X8_kindAt : GoodIn wsX4_seen wsX8_kindAt := goodIn_r _ [7, 8, 9, 20, 21, 22] (by decide +kernel) (by decide +kernel)
set_option maxRecDepth 20000 in
theorem gX4_seen_X8_kindAt : GoodIn wsX4_seen (wsV RX4 68 RX8 yX8_kindAt wsX8_kindAt) := goodIn_app (goodIn_of _ (by decide +kernel)) ggX4_seen_X8_kindAt
theorem dX4_seen_0 : decode cX4_seen 0 = .ok (.aload_n 0, 1) := by decide +kernel
theorem dX4_seen_1 : decode cX4_seen 1 = .ok (.getfield 22, 3) := by decide +kernel
theorem dX4_seen_4 : decode cX4_seen 4 = .ok (.aload_n 0, 1) := by decide +kernel
theorem dX4_seen_5 : decode cX4_seen 5 = .ok (.getfield 40, 3) := by decide +kernel
theorem dX4_seen_8 : decode cX4_seen 8 = .ok (.invokevirtual 68, 3) := by decide +kernel
theorem dX4_seen_11 : decode cX4_seen 11 = .ok (.iload_n 1, 1) := by decide +kernel
theorem dX4_seen_12 : decode cX4_seen 12 = .ok (.if_icmp .ne 7, 3) := by decide +kernel
theorem dX4_seen_15 : decode cX4_seen 15 = .ok (.iconst 1, 1) := by decide +kernel
theorem dX4_seen_16 : decode cX4_seen 16 = .ok (.goto 4, 3) := by decide +kernel
theorem dX4_seen_19 : decode cX4_seen 19 = .ok (.iconst 0, 1) := by decide +kernel
theorem dX4_seen_20 : decode cX4_seen 20 = .ok (.ireturn, 1) := by decide +kernel
set_option maxRecDepth 20000 in
theorem ggX4_take_X8_kindAt : GoodIn wsX4_take wsX8_kindAt := goodIn_r _ [7, 8, 9, 32, 33, 34] (by decide +kernel) (by decide +kernel)
set_option maxRecDepth 20000 in
theorem gX4_take_X8_kindAt : GoodIn wsX4_take (wsV RX4 68 RX8 yX8_kindAt wsX8_kindAt) := goodIn_app (goodIn_of _ (by decide +kernel)) ggX4_take_X8_kindAt
set_option maxRecDepth 20000 in
theorem ggX4_take_X8_placeAt : GoodIn wsX4_take wsX8_placeAt := goodIn_r _ [13, 8, 9, 14, 32, 33, 34] (by decide +kernel) (by decide +kernel)
set_option maxRecDepth 20000 in
theorem gX4_take_X8_placeAt : GoodIn wsX4_take (wsV RX4 72 RX8 yX8_placeAt wsX8_placeAt) := goodIn_app (goodIn_of _ (by decide +kernel)) ggX4_take_X8_placeAt
set_option maxRecDepth 20000 in
theorem ggX4_take_X4_refuse : GoodIn wsX4_take wsX4_refuse := goodIn_r _ [19, 20, 21, 22, 23, 24, 25, 26, 27, 28, 29, 30, 31] (by decide +kernel) (by decide +kernel)
set_option maxRecDepth 20000 in
theorem gX4_take_X4_refuse : GoodIn wsX4_take (wsV RX4 75 RX4 yX4_refuse wsX4_refuse) := goodIn_app (goodIn_of _ (by decide +kernel)) ggX4_take_X4_refuse
theorem dX4_take_0 : decode cX4_take 0 = .ok (.aload_n 0, 1) := by decide +kernel
theorem dX4_take_1 : decode cX4_take 1 = .ok (.getfield 22, 3) := by decide +kernel
theorem dX4_take_4 : decode cX4_take 4 = .ok (.aload_n 0, 1) := by decide +kernel
theorem dX4_take_5 : decode cX4_take 5 = .ok (.getfield 40, 3) := by decide +kernel
theorem dX4_take_8 : decode cX4_take 8 = .ok (.invokevirtual 68, 3) := by decide +kernel
theorem dX4_take_11 : decode cX4_take 11 = .ok (.iload_n 1, 1) := by decide +kernel
theorem dX4_take_12 : decode cX4_take 12 = .ok (.if_icmp .eq 20, 3) := by decide +kernel
theorem dX4_take_15 : decode cX4_take 15 = .ok (.aload_n 0, 1) := by decide +kernel
theorem dX4_take_16 : decode cX4_take 16 = .ok (.iconst 1, 1) := by decide +kernel
theorem dX4_take_17 : decode cX4_take 17 = .ok (.aload_n 0, 1) := by decide +kernel
theorem dX4_take_18 : decode cX4_take 18 = .ok (.getfield 22, 3) := by decide +kernel
theorem dX4_take_21 : decode cX4_take 21 = .ok (.aload_n 0, 1) := by decide +kernel
theorem dX4_take_22 : decode cX4_take 22 = .ok (.getfield 40, 3) := by decide +kernel
theorem dX4_take_25 : decode cX4_take 25 = .ok (.invokevirtual 72, 3) := by decide +kernel
theorem dX4_take_28 : decode cX4_take 28 = .ok (.invokevirtual 75, 3) := by decide +kernel
theorem dX4_take_31 : decode cX4_take 31 = .ok (.ireturn, 1) := by decide +kernel
theorem dX4_take_32 : decode cX4_take 32 = .ok (.aload_n 0, 1) := by decide +kernel
theorem dX4_take_33 : decode cX4_take 33 = .ok (.dup, 1) := by decide +kernel
theorem dX4_take_34 : decode cX4_take 34 = .ok (.getfield 40, 3) := by decide +kernel
theorem dX4_take_37 : decode cX4_take 37 = .ok (.iconst 1, 1) := by decide +kernel
theorem dX4_take_38 : decode cX4_take 38 = .ok (.iadd, 1) := by decide +kernel
theorem dX4_take_39 : decode cX4_take 39 = .ok (.putfield 40, 3) := by decide +kernel
theorem dX4_take_42 : decode cX4_take 42 = .ok (.iconst 1, 1) := by decide +kernel
theorem dX4_take_43 : decode cX4_take 43 = .ok (.ireturn, 1) := by decide +kernel
set_option maxRecDepth 20000 in
theorem ggX4_readHead_X4_take : GoodIn wsX4_readHead wsX4_take := goodIn_r _ [9, 2, 1, 10, 11, 12, 13, 14, 15, 16, 17, 18, 19, 20, 21, 22, 23, 24, 8, 25, 26, 27, 84, 85, 86, 87, 88, 89, 90, 91, 92, 93, 94, 95, 96] (by decide +kernel) (by decide +kernel)
set_option maxRecDepth 20000 in
theorem gX4_readHead_X4_take : GoodIn wsX4_readHead (wsV RX4 79 RX4 yX4_take wsX4_take) := goodIn_app (goodIn_of _ (by decide +kernel)) ggX4_readHead_X4_take
set_option maxRecDepth 20000 in
theorem ggX4_readHead_X8_letterAt : GoodIn wsX4_readHead wsX8_letterAt := goodIn_r _ [31, 15, 16, 94, 95, 96] (by decide +kernel) (by decide +kernel)
set_option maxRecDepth 20000 in
theorem gX4_readHead_X8_letterAt : GoodIn wsX4_readHead (wsV RX4 82 RX8 yX8_letterAt wsX8_letterAt) := goodIn_app (goodIn_of _ (by decide +kernel)) ggX4_readHead_X8_letterAt
set_option maxRecDepth 20000 in
theorem ggX4_readHead_X3_has : GoodIn wsX4_readHead wsX3_has := goodIn_r _ [36, 37, 97, 98, 99, 100, 101, 102, 103, 104, 105, 106, 107, 108, 109, 110] (by decide +kernel) (by decide +kernel)
set_option maxRecDepth 20000 in
theorem gX4_readHead_X3_has : GoodIn wsX4_readHead (wsV RX4 88 RX3 yX3_has wsX3_has) := goodIn_app (goodIn_of _ (by decide +kernel)) ggX4_readHead_X3_has
set_option maxRecDepth 20000 in
theorem ggX4_readHead_X8_placeAt : GoodIn wsX4_readHead wsX8_placeAt := goodIn_r _ [20, 15, 16, 21, 94, 95, 96] (by decide +kernel) (by decide +kernel)
set_option maxRecDepth 20000 in
theorem gX4_readHead_X8_placeAt : GoodIn wsX4_readHead (wsV RX4 72 RX8 yX8_placeAt wsX8_placeAt) := goodIn_app (goodIn_of _ (by decide +kernel)) ggX4_readHead_X8_placeAt
set_option maxRecDepth 20000 in
theorem ggX4_readHead_X4_refuse : GoodIn wsX4_readHead wsX4_refuse := goodIn_r _ [25, 26, 27, 84, 85, 86, 87, 88, 89, 90, 91, 92, 93] (by decide +kernel) (by decide +kernel)
set_option maxRecDepth 20000 in
theorem gX4_readHead_X4_refuse : GoodIn wsX4_readHead (wsV RX4 75 RX4 yX4_refuse wsX4_refuse) := goodIn_app (goodIn_of _ (by decide +kernel)) ggX4_readHead_X4_refuse
set_option maxRecDepth 20000 in
theorem ggX4_readHead_X3_addRoutine : GoodIn wsX4_readHead wsX3_addRoutine := goodIn_r _ [41, 42, 43, 37, 44, 45, 46, 47, 48, 49, 50, 51, 97, 98, 99, 100, 101, 102, 103, 104, 105, 106, 107, 108, 109, 110, 111, 112] (by decide +kernel) (by decide +kernel)
set_option maxRecDepth 20000 in
theorem gX4_readHead_X3_addRoutine : GoodIn wsX4_readHead (wsV RX4 91 RX3 yX3_addRoutine wsX3_addRoutine) := goodIn_app (goodIn_of _ (by decide +kernel)) ggX4_readHead_X3_addRoutine
set_option maxRecDepth 20000 in
theorem ggX4_readHead_X4_readParameters : GoodIn wsX4_readHead wsX4_readParameters := goodIn_r _ [55, 1, 2, 4, 3, 56, 57, 58, 8, 59, 10, 11, 12, 13, 14, 15, 16, 5, 6, 7, 9, 17, 18, 19, 20, 21, 22, 23, 24, 25, 26, 27, 28, 29, 30, 31, 60, 61, 62, 35, 63, 47, 64, 65, 50, 66, 67, 68, 69, 70, 71, 72, 73, 74, 75, 48, 49, 51, 84, 85, 86, 87, 88, 89, 90, 91, 92, 93, 94, 95, 96, 97, 98, 99, 100, 101, 102, 103, 104, 105, 106, 107, 108, 109, 110] (by decide +kernel) (by decide +kernel)
set_option maxRecDepth 20000 in
theorem gX4_readHead_X4_readParameters : GoodIn wsX4_readHead (wsV RX4 95 RX4 yX4_readParameters wsX4_readParameters) := goodIn_app (goodIn_of _ (by decide +kernel)) ggX4_readHead_X4_readParameters
set_option maxRecDepth 20000 in
theorem ggX4_readHead_X4_openBlock : GoodIn wsX4_readHead wsX4_openBlock := goodIn_r _ [79, 1, 80, 2, 81, 82, 5, 6, 7, 8, 9, 10, 11, 12, 13, 14, 15, 16, 17, 18, 19, 20, 21, 22, 23, 24, 25, 26, 27, 83, 49, 50, 51, 84, 85, 86, 87, 88, 89, 90, 91, 92, 93, 94, 95, 96] (by decide +kernel) (by decide +kernel)
set_option maxRecDepth 20000 in
theorem gX4_readHead_X4_openBlock : GoodIn wsX4_readHead (wsV RX4 98 RX4 yX4_openBlock wsX4_openBlock) := goodIn_app (goodIn_of _ (by decide +kernel)) ggX4_readHead_X4_openBlock
theorem dX4_readHead_0 : decode cX4_readHead 0 = .ok (.aload_n 0, 1) := by decide +kernel
theorem dX4_readHead_1 : decode cX4_readHead 1 = .ok (.getfield 40, 3) := by decide +kernel
theorem dX4_readHead_4 : decode cX4_readHead 4 = .ok (.istore_n 1, 1) := by decide +kernel
theorem dX4_readHead_5 : decode cX4_readHead 5 = .ok (.aload_n 0, 1) := by decide +kernel
theorem dX4_readHead_6 : decode cX4_readHead 6 = .ok (.iconst 3, 1) := by decide +kernel
theorem dX4_readHead_7 : decode cX4_readHead 7 = .ok (.invokevirtual 79, 3) := by decide +kernel
theorem dX4_readHead_10 : decode cX4_readHead 10 = .ok (.ifCond .ne 5, 3) := by decide +kernel
theorem dX4_readHead_13 : decode cX4_readHead 13 = .ok (.iconst 0, 1) := by decide +kernel
theorem dX4_readHead_14 : decode cX4_readHead 14 = .ok (.ireturn, 1) := by decide +kernel
theorem dX4_readHead_15 : decode cX4_readHead 15 = .ok (.aload_n 0, 1) := by decide +kernel
theorem dX4_readHead_16 : decode cX4_readHead 16 = .ok (.aload_n 0, 1) := by decide +kernel
theorem dX4_readHead_17 : decode cX4_readHead 17 = .ok (.getfield 22, 3) := by decide +kernel
theorem dX4_readHead_20 : decode cX4_readHead 20 = .ok (.iload_n 1, 1) := by decide +kernel
theorem dX4_readHead_21 : decode cX4_readHead 21 = .ok (.invokevirtual 82, 3) := by decide +kernel
theorem dX4_readHead_24 : decode cX4_readHead 24 = .ok (.putfield 85, 3) := by decide +kernel
theorem dX4_readHead_27 : decode cX4_readHead 27 = .ok (.aload_n 0, 1) := by decide +kernel
theorem dX4_readHead_28 : decode cX4_readHead 28 = .ok (.getfield 26, 3) := by decide +kernel
theorem dX4_readHead_31 : decode cX4_readHead 31 = .ok (.aload_n 0, 1) := by decide +kernel
theorem dX4_readHead_32 : decode cX4_readHead 32 = .ok (.getfield 85, 3) := by decide +kernel
theorem dX4_readHead_35 : decode cX4_readHead 35 = .ok (.invokevirtual 88, 3) := by decide +kernel
theorem dX4_readHead_38 : decode cX4_readHead 38 = .ok (.ifCond .eq 17, 3) := by decide +kernel
theorem dX4_readHead_41 : decode cX4_readHead 41 = .ok (.aload_n 0, 1) := by decide +kernel
theorem dX4_readHead_42 : decode cX4_readHead 42 = .ok (.iconst 3, 1) := by decide +kernel
theorem dX4_readHead_43 : decode cX4_readHead 43 = .ok (.aload_n 0, 1) := by decide +kernel
theorem dX4_readHead_44 : decode cX4_readHead 44 = .ok (.getfield 22, 3) := by decide +kernel
theorem dX4_readHead_47 : decode cX4_readHead 47 = .ok (.iload_n 1, 1) := by decide +kernel
theorem dX4_readHead_48 : decode cX4_readHead 48 = .ok (.invokevirtual 72, 3) := by decide +kernel
theorem dX4_readHead_51 : decode cX4_readHead 51 = .ok (.invokevirtual 75, 3) := by decide +kernel
theorem dX4_readHead_54 : decode cX4_readHead 54 = .ok (.ireturn, 1) := by decide +kernel
theorem dX4_readHead_55 : decode cX4_readHead 55 = .ok (.aload_n 0, 1) := by decide +kernel
theorem dX4_readHead_56 : decode cX4_readHead 56 = .ok (.getfield 26, 3) := by decide +kernel
theorem dX4_readHead_59 : decode cX4_readHead 59 = .ok (.aload_n 0, 1) := by decide +kernel
theorem dX4_readHead_60 : decode cX4_readHead 60 = .ok (.getfield 85, 3) := by decide +kernel
theorem dX4_readHead_63 : decode cX4_readHead 63 = .ok (.invokevirtual 91, 3) := by decide +kernel
theorem dX4_readHead_66 : decode cX4_readHead 66 = .ok (.aload_n 0, 1) := by decide +kernel
theorem dX4_readHead_67 : decode cX4_readHead 67 = .ok (.iconst 4, 1) := by decide +kernel
theorem dX4_readHead_68 : decode cX4_readHead 68 = .ok (.invokevirtual 79, 3) := by decide +kernel
theorem dX4_readHead_71 : decode cX4_readHead 71 = .ok (.ifCond .eq 23, 3) := by decide +kernel
theorem dX4_readHead_74 : decode cX4_readHead 74 = .ok (.aload_n 0, 1) := by decide +kernel
theorem dX4_readHead_75 : decode cX4_readHead 75 = .ok (.invokevirtual 95, 3) := by decide +kernel
theorem dX4_readHead_78 : decode cX4_readHead 78 = .ok (.ifCond .eq 16, 3) := by decide +kernel
theorem dX4_readHead_81 : decode cX4_readHead 81 = .ok (.aload_n 0, 1) := by decide +kernel
theorem dX4_readHead_82 : decode cX4_readHead 82 = .ok (.iconst 0, 1) := by decide +kernel
theorem dX4_readHead_83 : decode cX4_readHead 83 = .ok (.iconst (-1), 1) := by decide +kernel
theorem dX4_readHead_84 : decode cX4_readHead 84 = .ok (.invokevirtual 98, 3) := by decide +kernel
theorem dX4_readHead_87 : decode cX4_readHead 87 = .ok (.ifCond .eq 7, 3) := by decide +kernel
theorem dX4_readHead_90 : decode cX4_readHead 90 = .ok (.iconst 1, 1) := by decide +kernel
theorem dX4_readHead_91 : decode cX4_readHead 91 = .ok (.goto 4, 3) := by decide +kernel
theorem dX4_readHead_94 : decode cX4_readHead 94 = .ok (.iconst 0, 1) := by decide +kernel
theorem dX4_readHead_95 : decode cX4_readHead 95 = .ok (.ireturn, 1) := by decide +kernel
set_option maxRecDepth 20000 in
theorem ggX4_readParameters_X4_seen : GoodIn wsX4_readParameters wsX4_seen := goodIn_r _ [9, 2, 1, 10, 11, 12, 13, 14, 15, 16, 58, 59, 60, 61, 62, 63, 64, 65, 66, 67, 68, 69, 70] (by decide +kernel) (by decide +kernel)
set_option maxRecDepth 20000 in
theorem gX4_readParameters_X4_seen : GoodIn wsX4_readParameters (wsV RX4 51 RX4 yX4_seen wsX4_seen) := goodIn_app (goodIn_of _ (by decide +kernel)) ggX4_readParameters_X4_seen
set_option maxRecDepth 20000 in
theorem ggX4_readParameters_X4_take : GoodIn wsX4_readParameters wsX4_take := goodIn_r _ [20, 2, 1, 10, 11, 12, 13, 14, 15, 16, 21, 22, 23, 24, 25, 26, 27, 28, 8, 29, 30, 31, 58, 59, 60, 61, 62, 63, 64, 65, 66, 67, 68, 69, 70] (by decide +kernel) (by decide +kernel)
set_option maxRecDepth 20000 in
theorem gX4_readParameters_X4_take : GoodIn wsX4_readParameters (wsV RX4 79 RX4 yX4_take wsX4_take) := goodIn_app (goodIn_of _ (by decide +kernel)) ggX4_readParameters_X4_take
set_option maxRecDepth 20000 in
theorem ggX4_readParameters_X8_letterAt : GoodIn wsX4_readParameters wsX8_letterAt := goodIn_r _ [35, 15, 16, 68, 69, 70] (by decide +kernel) (by decide +kernel)
set_option maxRecDepth 20000 in
theorem gX4_readParameters_X8_letterAt : GoodIn wsX4_readParameters (wsV RX4 82 RX8 yX8_letterAt wsX8_letterAt) := goodIn_app (goodIn_of _ (by decide +kernel)) ggX4_readParameters_X8_letterAt
set_option maxRecDepth 20000 in
theorem ggX4_readParameters_X8_placeAt : GoodIn wsX4_readParameters wsX8_placeAt := goodIn_r _ [24, 15, 16, 25, 68, 69, 70] (by decide +kernel) (by decide +kernel)
set_option maxRecDepth 20000 in
theorem gX4_readParameters_X8_placeAt : GoodIn wsX4_readParameters (wsV RX4 72 RX8 yX8_placeAt wsX8_placeAt) := goodIn_app (goodIn_of _ (by decide +kernel)) ggX4_readParameters_X8_placeAt
set_option maxRecDepth 20000 in
theorem ggX4_readParameters_X4_refuse : GoodIn wsX4_readParameters wsX4_refuse := goodIn_r _ [29, 30, 31, 58, 59, 60, 61, 62, 63, 64, 65, 66, 67] (by decide +kernel) (by decide +kernel)
set_option maxRecDepth 20000 in
theorem gX4_readParameters_X4_refuse : GoodIn wsX4_readParameters (wsV RX4 75 RX4 yX4_refuse wsX4_refuse) := goodIn_app (goodIn_of _ (by decide +kernel)) ggX4_readParameters_X4_refuse
set_option maxRecDepth 20000 in
theorem ggX4_readParameters_X3_hasParameter : GoodIn wsX4_readParameters wsX3_hasParameter := goodIn_r _ [40, 41, 42, 43, 44, 45, 46, 47, 48, 39, 49, 50, 71, 72, 73, 74, 75, 76, 77, 78, 79, 80, 81, 82, 83, 84] (by decide +kernel) (by decide +kernel)
set_option maxRecDepth 20000 in
theorem gX4_readParameters_X3_hasParameter : GoodIn wsX4_readParameters (wsV RX4 101 RX3 yX3_hasParameter wsX3_hasParameter) := goodIn_app (goodIn_of _ (by decide +kernel)) ggX4_readParameters_X3_hasParameter
set_option maxRecDepth 20000 in
theorem ggX4_readParameters_X3_addParameter : GoodIn wsX4_readParameters wsX3_addParameter := goodIn_r _ [54, 41, 50, 42, 43, 44, 45, 55, 56, 57, 71, 72, 73, 74, 75, 76, 77, 78, 79, 80, 81, 82, 83, 84] (by decide +kernel) (by decide +kernel)
set_option maxRecDepth 20000 in
theorem gX4_readParameters_X3_addParameter : GoodIn wsX4_readParameters (wsV RX4 104 RX3 yX3_addParameter wsX3_addParameter) := goodIn_app (goodIn_of _ (by decide +kernel)) ggX4_readParameters_X3_addParameter
theorem dX4_readParameters_0 : decode cX4_readParameters 0 = .ok (.aload_n 0, 1) := by decide +kernel
theorem dX4_readParameters_1 : decode cX4_readParameters 1 = .ok (.iconst 5, 1) := by decide +kernel
theorem dX4_readParameters_2 : decode cX4_readParameters 2 = .ok (.invokevirtual 51, 3) := by decide +kernel
theorem dX4_readParameters_5 : decode cX4_readParameters 5 = .ok (.ifCond .eq 9, 3) := by decide +kernel
theorem dX4_readParameters_8 : decode cX4_readParameters 8 = .ok (.aload_n 0, 1) := by decide +kernel
theorem dX4_readParameters_9 : decode cX4_readParameters 9 = .ok (.iconst 5, 1) := by decide +kernel
theorem dX4_readParameters_10 : decode cX4_readParameters 10 = .ok (.invokevirtual 79, 3) := by decide +kernel
theorem dX4_readParameters_13 : decode cX4_readParameters 13 = .ok (.ireturn, 1) := by decide +kernel
theorem dX4_readParameters_14 : decode cX4_readParameters 14 = .ok (.iconst 0, 1) := by decide +kernel
theorem dX4_readParameters_15 : decode cX4_readParameters 15 = .ok (.istore_n 1, 1) := by decide +kernel
theorem dX4_readParameters_16 : decode cX4_readParameters 16 = .ok (.iload_n 1, 1) := by decide +kernel
theorem dX4_readParameters_17 : decode cX4_readParameters 17 = .ok (.iconst 4, 1) := by decide +kernel
theorem dX4_readParameters_18 : decode cX4_readParameters 18 = .ok (.if_icmp .gt 115, 3) := by decide +kernel
theorem dX4_readParameters_21 : decode cX4_readParameters 21 = .ok (.aload_n 0, 1) := by decide +kernel
theorem dX4_readParameters_22 : decode cX4_readParameters 22 = .ok (.getfield 40, 3) := by decide +kernel
theorem dX4_readParameters_25 : decode cX4_readParameters 25 = .ok (.istore_n 2, 1) := by decide +kernel
theorem dX4_readParameters_26 : decode cX4_readParameters 26 = .ok (.aload_n 0, 1) := by decide +kernel
theorem dX4_readParameters_27 : decode cX4_readParameters 27 = .ok (.iconst 2, 1) := by decide +kernel
theorem dX4_readParameters_28 : decode cX4_readParameters 28 = .ok (.invokevirtual 79, 3) := by decide +kernel
theorem dX4_readParameters_31 : decode cX4_readParameters 31 = .ok (.ifCond .ne 5, 3) := by decide +kernel
theorem dX4_readParameters_34 : decode cX4_readParameters 34 = .ok (.iconst 0, 1) := by decide +kernel
theorem dX4_readParameters_35 : decode cX4_readParameters 35 = .ok (.ireturn, 1) := by decide +kernel
theorem dX4_readParameters_36 : decode cX4_readParameters 36 = .ok (.aload_n 0, 1) := by decide +kernel
theorem dX4_readParameters_37 : decode cX4_readParameters 37 = .ok (.getfield 22, 3) := by decide +kernel
theorem dX4_readParameters_40 : decode cX4_readParameters 40 = .ok (.iload_n 2, 1) := by decide +kernel
theorem dX4_readParameters_41 : decode cX4_readParameters 41 = .ok (.invokevirtual 82, 3) := by decide +kernel
theorem dX4_readParameters_44 : decode cX4_readParameters 44 = .ok (.istore_n 3, 1) := by decide +kernel
theorem dX4_readParameters_45 : decode cX4_readParameters 45 = .ok (.iload_n 1, 1) := by decide +kernel
theorem dX4_readParameters_46 : decode cX4_readParameters 46 = .ok (.iconst 4, 1) := by decide +kernel
theorem dX4_readParameters_47 : decode cX4_readParameters 47 = .ok (.if_icmp .ne 17, 3) := by decide +kernel
theorem dX4_readParameters_50 : decode cX4_readParameters 50 = .ok (.aload_n 0, 1) := by decide +kernel
theorem dX4_readParameters_51 : decode cX4_readParameters 51 = .ok (.iconst 2, 1) := by decide +kernel
theorem dX4_readParameters_52 : decode cX4_readParameters 52 = .ok (.aload_n 0, 1) := by decide +kernel
theorem dX4_readParameters_53 : decode cX4_readParameters 53 = .ok (.getfield 22, 3) := by decide +kernel
theorem dX4_readParameters_56 : decode cX4_readParameters 56 = .ok (.iload_n 2, 1) := by decide +kernel
theorem dX4_readParameters_57 : decode cX4_readParameters 57 = .ok (.invokevirtual 72, 3) := by decide +kernel
theorem dX4_readParameters_60 : decode cX4_readParameters 60 = .ok (.invokevirtual 75, 3) := by decide +kernel
theorem dX4_readParameters_63 : decode cX4_readParameters 63 = .ok (.ireturn, 1) := by decide +kernel
theorem dX4_readParameters_64 : decode cX4_readParameters 64 = .ok (.aload_n 0, 1) := by decide +kernel
theorem dX4_readParameters_65 : decode cX4_readParameters 65 = .ok (.getfield 26, 3) := by decide +kernel
theorem dX4_readParameters_68 : decode cX4_readParameters 68 = .ok (.aload_n 0, 1) := by decide +kernel
theorem dX4_readParameters_69 : decode cX4_readParameters 69 = .ok (.getfield 85, 3) := by decide +kernel
theorem dX4_readParameters_72 : decode cX4_readParameters 72 = .ok (.iload_n 3, 1) := by decide +kernel
theorem dX4_readParameters_73 : decode cX4_readParameters 73 = .ok (.invokevirtual 101, 3) := by decide +kernel
theorem dX4_readParameters_76 : decode cX4_readParameters 76 = .ok (.ifCond .eq 17, 3) := by decide +kernel
theorem dX4_readParameters_79 : decode cX4_readParameters 79 = .ok (.aload_n 0, 1) := by decide +kernel
theorem dX4_readParameters_80 : decode cX4_readParameters 80 = .ok (.iconst 3, 1) := by decide +kernel
theorem dX4_readParameters_81 : decode cX4_readParameters 81 = .ok (.aload_n 0, 1) := by decide +kernel
theorem dX4_readParameters_82 : decode cX4_readParameters 82 = .ok (.getfield 22, 3) := by decide +kernel
theorem dX4_readParameters_85 : decode cX4_readParameters 85 = .ok (.iload_n 2, 1) := by decide +kernel
theorem dX4_readParameters_86 : decode cX4_readParameters 86 = .ok (.invokevirtual 72, 3) := by decide +kernel
theorem dX4_readParameters_89 : decode cX4_readParameters 89 = .ok (.invokevirtual 75, 3) := by decide +kernel
theorem dX4_readParameters_92 : decode cX4_readParameters 92 = .ok (.ireturn, 1) := by decide +kernel
theorem dX4_readParameters_93 : decode cX4_readParameters 93 = .ok (.aload_n 0, 1) := by decide +kernel
theorem dX4_readParameters_94 : decode cX4_readParameters 94 = .ok (.getfield 26, 3) := by decide +kernel
theorem dX4_readParameters_97 : decode cX4_readParameters 97 = .ok (.aload_n 0, 1) := by decide +kernel
theorem dX4_readParameters_98 : decode cX4_readParameters 98 = .ok (.getfield 85, 3) := by decide +kernel
theorem dX4_readParameters_101 : decode cX4_readParameters 101 = .ok (.iload_n 3, 1) := by decide +kernel
theorem dX4_readParameters_102 : decode cX4_readParameters 102 = .ok (.invokevirtual 104, 3) := by decide +kernel
theorem dX4_readParameters_105 : decode cX4_readParameters 105 = .ok (.aload_n 0, 1) := by decide +kernel
theorem dX4_readParameters_106 : decode cX4_readParameters 106 = .ok (.bipush 8, 2) := by decide +kernel
theorem dX4_readParameters_108 : decode cX4_readParameters 108 = .ok (.invokevirtual 51, 3) := by decide +kernel
theorem dX4_readParameters_111 : decode cX4_readParameters 111 = .ok (.ifCond .ne 6, 3) := by decide +kernel
theorem dX4_readParameters_114 : decode cX4_readParameters 114 = .ok (.goto 19, 3) := by decide +kernel
theorem dX4_readParameters_117 : decode cX4_readParameters 117 = .ok (.aload_n 0, 1) := by decide +kernel
theorem dX4_readParameters_118 : decode cX4_readParameters 118 = .ok (.dup, 1) := by decide +kernel
theorem dX4_readParameters_119 : decode cX4_readParameters 119 = .ok (.getfield 40, 3) := by decide +kernel
theorem dX4_readParameters_122 : decode cX4_readParameters 122 = .ok (.iconst 1, 1) := by decide +kernel
theorem dX4_readParameters_123 : decode cX4_readParameters 123 = .ok (.iadd, 1) := by decide +kernel
theorem dX4_readParameters_124 : decode cX4_readParameters 124 = .ok (.putfield 40, 3) := by decide +kernel
theorem dX4_readParameters_127 : decode cX4_readParameters 127 = .ok (.iinc 1 1, 3) := by decide +kernel
theorem dX4_readParameters_130 : decode cX4_readParameters 130 = .ok (.goto (-114), 3) := by decide +kernel
theorem dX4_readParameters_133 : decode cX4_readParameters 133 = .ok (.aload_n 0, 1) := by decide +kernel
theorem dX4_readParameters_134 : decode cX4_readParameters 134 = .ok (.iconst 5, 1) := by decide +kernel
theorem dX4_readParameters_135 : decode cX4_readParameters 135 = .ok (.invokevirtual 79, 3) := by decide +kernel
theorem dX4_readParameters_138 : decode cX4_readParameters 138 = .ok (.ireturn, 1) := by decide +kernel
set_option maxRecDepth 20000 in
theorem ggX4_openBlock_X4_take : GoodIn wsX4_openBlock wsX4_take := goodIn_r _ [10, 3, 1, 11, 12, 13, 14, 15, 16, 17, 18, 19, 20, 21, 22, 23, 24, 25, 9, 26, 27, 28, 33, 34, 35, 36, 37, 38, 39, 40, 41, 42, 43, 44, 45] (by decide +kernel) (by decide +kernel)
set_option maxRecDepth 20000 in
theorem gX4_openBlock_X4_take : GoodIn wsX4_openBlock (wsV RX4 79 RX4 yX4_take wsX4_take) := goodIn_app (goodIn_of _ (by decide +kernel)) ggX4_openBlock_X4_take
set_option maxRecDepth 20000 in
theorem ggX4_openBlock_X8_placeAt : GoodIn wsX4_openBlock wsX8_placeAt := goodIn_r _ [21, 16, 17, 22, 43, 44, 45] (by decide +kernel) (by decide +kernel)
set_option maxRecDepth 20000 in
theorem gX4_openBlock_X8_placeAt : GoodIn wsX4_openBlock (wsV RX4 72 RX8 yX8_placeAt wsX8_placeAt) := goodIn_app (goodIn_of _ (by decide +kernel)) ggX4_openBlock_X8_placeAt
set_option maxRecDepth 20000 in
theorem ggX4_openBlock_X4_refuse : GoodIn wsX4_openBlock wsX4_refuse := goodIn_r _ [26, 27, 28, 33, 34, 35, 36, 37, 38, 39, 40, 41, 42] (by decide +kernel) (by decide +kernel)
set_option maxRecDepth 20000 in
theorem gX4_openBlock_X4_refuse : GoodIn wsX4_openBlock (wsV RX4 75 RX4 yX4_refuse wsX4_refuse) := goodIn_app (goodIn_of _ (by decide +kernel)) ggX4_openBlock_X4_refuse
set_option maxRecDepth 20000 in
theorem ggX4_openBlock_X5_put : GoodIn wsX4_openBlock wsX5_put := goodIn_r _ [32] (by decide +kernel) (by decide +kernel)
set_option maxRecDepth 20000 in
theorem gX4_openBlock_X5_put : GoodIn wsX4_openBlock (va_wsS RX4 108 yX5_put wsX5_put) := goodIn_app (goodIn_of _ (by decide +kernel)) ggX4_openBlock_X5_put
theorem dX4_openBlock_0 : decode cX4_openBlock 0 = .ok (.aload_n 0, 1) := by decide +kernel
theorem dX4_openBlock_1 : decode cX4_openBlock 1 = .ok (.getfield 40, 3) := by decide +kernel
theorem dX4_openBlock_4 : decode cX4_openBlock 4 = .ok (.istore_n 3, 1) := by decide +kernel
theorem dX4_openBlock_5 : decode cX4_openBlock 5 = .ok (.aload_n 0, 1) := by decide +kernel
theorem dX4_openBlock_6 : decode cX4_openBlock 6 = .ok (.bipush 6, 2) := by decide +kernel
theorem dX4_openBlock_8 : decode cX4_openBlock 8 = .ok (.invokevirtual 79, 3) := by decide +kernel
theorem dX4_openBlock_11 : decode cX4_openBlock 11 = .ok (.ifCond .ne 5, 3) := by decide +kernel
theorem dX4_openBlock_14 : decode cX4_openBlock 14 = .ok (.iconst 0, 1) := by decide +kernel
theorem dX4_openBlock_15 : decode cX4_openBlock 15 = .ok (.ireturn, 1) := by decide +kernel
theorem dX4_openBlock_16 : decode cX4_openBlock 16 = .ok (.aload_n 0, 1) := by decide +kernel
theorem dX4_openBlock_17 : decode cX4_openBlock 17 = .ok (.getfield 43, 3) := by decide +kernel
theorem dX4_openBlock_20 : decode cX4_openBlock 20 = .ok (.bipush 6, 2) := by decide +kernel
theorem dX4_openBlock_22 : decode cX4_openBlock 22 = .ok (.if_icmp .lt 17, 3) := by decide +kernel
theorem dX4_openBlock_25 : decode cX4_openBlock 25 = .ok (.aload_n 0, 1) := by decide +kernel
theorem dX4_openBlock_26 : decode cX4_openBlock 26 = .ok (.iconst 2, 1) := by decide +kernel
theorem dX4_openBlock_27 : decode cX4_openBlock 27 = .ok (.aload_n 0, 1) := by decide +kernel
theorem dX4_openBlock_28 : decode cX4_openBlock 28 = .ok (.getfield 22, 3) := by decide +kernel
theorem dX4_openBlock_31 : decode cX4_openBlock 31 = .ok (.iload_n 3, 1) := by decide +kernel
theorem dX4_openBlock_32 : decode cX4_openBlock 32 = .ok (.invokevirtual 72, 3) := by decide +kernel
theorem dX4_openBlock_35 : decode cX4_openBlock 35 = .ok (.invokevirtual 75, 3) := by decide +kernel
theorem dX4_openBlock_38 : decode cX4_openBlock 38 = .ok (.ireturn, 1) := by decide +kernel
theorem dX4_openBlock_39 : decode cX4_openBlock 39 = .ok (.aload_n 0, 1) := by decide +kernel
theorem dX4_openBlock_40 : decode cX4_openBlock 40 = .ok (.getfield 9, 3) := by decide +kernel
theorem dX4_openBlock_43 : decode cX4_openBlock 43 = .ok (.aload_n 0, 1) := by decide +kernel
theorem dX4_openBlock_44 : decode cX4_openBlock 44 = .ok (.getfield 43, 3) := by decide +kernel
theorem dX4_openBlock_47 : decode cX4_openBlock 47 = .ok (.iload_n 1, 1) := by decide +kernel
theorem dX4_openBlock_48 : decode cX4_openBlock 48 = .ok (.invokestatic 108, 3) := by decide +kernel
theorem dX4_openBlock_51 : decode cX4_openBlock 51 = .ok (.aload_n 0, 1) := by decide +kernel
theorem dX4_openBlock_52 : decode cX4_openBlock 52 = .ok (.getfield 15, 3) := by decide +kernel
theorem dX4_openBlock_55 : decode cX4_openBlock 55 = .ok (.aload_n 0, 1) := by decide +kernel
theorem dX4_openBlock_56 : decode cX4_openBlock 56 = .ok (.getfield 43, 3) := by decide +kernel
theorem dX4_openBlock_59 : decode cX4_openBlock 59 = .ok (.iload_n 2, 1) := by decide +kernel
theorem dX4_openBlock_60 : decode cX4_openBlock 60 = .ok (.invokestatic 108, 3) := by decide +kernel
theorem dX4_openBlock_63 : decode cX4_openBlock 63 = .ok (.aload_n 0, 1) := by decide +kernel
theorem dX4_openBlock_64 : decode cX4_openBlock 64 = .ok (.dup, 1) := by decide +kernel
theorem dX4_openBlock_65 : decode cX4_openBlock 65 = .ok (.getfield 43, 3) := by decide +kernel
theorem dX4_openBlock_68 : decode cX4_openBlock 68 = .ok (.iconst 1, 1) := by decide +kernel
theorem dX4_openBlock_69 : decode cX4_openBlock 69 = .ok (.iadd, 1) := by decide +kernel
theorem dX4_openBlock_70 : decode cX4_openBlock 70 = .ok (.putfield 43, 3) := by decide +kernel
theorem dX4_openBlock_73 : decode cX4_openBlock 73 = .ok (.iconst 1, 1) := by decide +kernel
theorem dX4_openBlock_74 : decode cX4_openBlock 74 = .ok (.ireturn, 1) := by decide +kernel
set_option maxRecDepth 20000 in
theorem ggX4_closeBlock_X5_at : GoodIn wsX4_closeBlock wsX5_at := goodIn_r _ [11] (by decide +kernel) (by decide +kernel)
set_option maxRecDepth 20000 in
theorem gX4_closeBlock_X5_at : GoodIn wsX4_closeBlock (va_wsS RX4 114 yX5_at wsX5_at) := goodIn_app (goodIn_of _ (by decide +kernel)) ggX4_closeBlock_X5_at
set_option maxRecDepth 20000 in
theorem ggX4_closeBlock_X0_add : GoodIn wsX4_closeBlock wsX0_add := goodIn_r _ [16, 17, 18, 19, 20, 15, 21, 22, 73, 74] (by decide +kernel) (by decide +kernel)
set_option maxRecDepth 20000 in
theorem gX4_closeBlock_X0_add : GoodIn wsX4_closeBlock (wsV RX4 120 RX0 yX0_add wsX0_add) := goodIn_app (goodIn_of _ (by decide +kernel)) ggX4_closeBlock_X0_add
set_option maxRecDepth 20000 in
theorem ggX4_closeBlock_X0_set : GoodIn wsX4_closeBlock wsX0_set := goodIn_r _ [21, 17, 22, 73, 74] (by decide +kernel) (by decide +kernel)
set_option maxRecDepth 20000 in
theorem gX4_closeBlock_X0_set : GoodIn wsX4_closeBlock (wsV RX4 124 RX0 yX0_set wsX0_set) := goodIn_app (goodIn_of _ (by decide +kernel)) ggX4_closeBlock_X0_set
set_option maxRecDepth 20000 in
theorem ggX4_closeBlock_X4_closeIf : GoodIn wsX4_closeBlock wsX4_closeIf := goodIn_r _ [28, 1, 5, 6, 7, 29, 30, 31, 27, 32, 33, 34, 35, 36, 37, 38, 39, 40, 12, 13, 14, 15, 16, 17, 18, 19, 20, 21, 22, 23, 41, 42, 43, 44, 2, 4, 3, 45, 46, 47, 48, 49, 50, 51, 52, 53, 54, 55, 56, 57, 58, 59, 60, 61, 10, 62, 63, 64, 65, 66, 67, 68, 69, 70, 71, 72, 73, 74, 75, 76, 77] (by decide +kernel) (by decide +kernel)
set_option maxRecDepth 20000 in
theorem gX4_closeBlock_X4_closeIf : GoodIn wsX4_closeBlock (wsV RX4 131 RX4 yX4_closeIf wsX4_closeIf) := goodIn_app (goodIn_of _ (by decide +kernel)) ggX4_closeBlock_X4_closeIf
theorem dX4_closeBlock_0 : decode cX4_closeBlock 0 = .ok (.aload_n 0, 1) := by decide +kernel
theorem dX4_closeBlock_1 : decode cX4_closeBlock 1 = .ok (.dup, 1) := by decide +kernel
theorem dX4_closeBlock_2 : decode cX4_closeBlock 2 = .ok (.getfield 40, 3) := by decide +kernel
theorem dX4_closeBlock_5 : decode cX4_closeBlock 5 = .ok (.iconst 1, 1) := by decide +kernel
theorem dX4_closeBlock_6 : decode cX4_closeBlock 6 = .ok (.iadd, 1) := by decide +kernel
theorem dX4_closeBlock_7 : decode cX4_closeBlock 7 = .ok (.putfield 40, 3) := by decide +kernel
theorem dX4_closeBlock_10 : decode cX4_closeBlock 10 = .ok (.aload_n 0, 1) := by decide +kernel
theorem dX4_closeBlock_11 : decode cX4_closeBlock 11 = .ok (.dup, 1) := by decide +kernel
theorem dX4_closeBlock_12 : decode cX4_closeBlock 12 = .ok (.getfield 43, 3) := by decide +kernel
theorem dX4_closeBlock_15 : decode cX4_closeBlock 15 = .ok (.iconst 1, 1) := by decide +kernel
theorem dX4_closeBlock_16 : decode cX4_closeBlock 16 = .ok (.isub, 1) := by decide +kernel
theorem dX4_closeBlock_17 : decode cX4_closeBlock 17 = .ok (.putfield 43, 3) := by decide +kernel
theorem dX4_closeBlock_20 : decode cX4_closeBlock 20 = .ok (.aload_n 0, 1) := by decide +kernel
theorem dX4_closeBlock_21 : decode cX4_closeBlock 21 = .ok (.getfield 15, 3) := by decide +kernel
theorem dX4_closeBlock_24 : decode cX4_closeBlock 24 = .ok (.aload_n 0, 1) := by decide +kernel
theorem dX4_closeBlock_25 : decode cX4_closeBlock 25 = .ok (.getfield 43, 3) := by decide +kernel
theorem dX4_closeBlock_28 : decode cX4_closeBlock 28 = .ok (.invokestatic 114, 3) := by decide +kernel
theorem dX4_closeBlock_31 : decode cX4_closeBlock 31 = .ok (.istore_n 1, 1) := by decide +kernel
theorem dX4_closeBlock_32 : decode cX4_closeBlock 32 = .ok (.aload_n 0, 1) := by decide +kernel
theorem dX4_closeBlock_33 : decode cX4_closeBlock 33 = .ok (.getfield 9, 3) := by decide +kernel
theorem dX4_closeBlock_36 : decode cX4_closeBlock 36 = .ok (.aload_n 0, 1) := by decide +kernel
theorem dX4_closeBlock_37 : decode cX4_closeBlock 37 = .ok (.getfield 43, 3) := by decide +kernel
theorem dX4_closeBlock_40 : decode cX4_closeBlock 40 = .ok (.invokestatic 114, 3) := by decide +kernel
theorem dX4_closeBlock_43 : decode cX4_closeBlock 43 = .ok (.tableswitch 95 0 3 #[29, 87, 95, 45], 29) := by decide +kernel
theorem dX4_closeBlock_72 : decode cX4_closeBlock 72 = .ok (.aload_n 0, 1) := by decide +kernel
theorem dX4_closeBlock_73 : decode cX4_closeBlock 73 = .ok (.getfield 36, 3) := by decide +kernel
theorem dX4_closeBlock_76 : decode cX4_closeBlock 76 = .ok (.iconst 0, 1) := by decide +kernel
theorem dX4_closeBlock_77 : decode cX4_closeBlock 77 = .ok (.aload_n 0, 1) := by decide +kernel
theorem dX4_closeBlock_78 : decode cX4_closeBlock 78 = .ok (.getfield 85, 3) := by decide +kernel
theorem dX4_closeBlock_81 : decode cX4_closeBlock 81 = .ok (.invokevirtual 120, 3) := by decide +kernel
theorem dX4_closeBlock_84 : decode cX4_closeBlock 84 = .ok (.pop, 1) := by decide +kernel
theorem dX4_closeBlock_85 : decode cX4_closeBlock 85 = .ok (.goto 70, 3) := by decide +kernel
theorem dX4_closeBlock_88 : decode cX4_closeBlock 88 = .ok (.aload_n 0, 1) := by decide +kernel
theorem dX4_closeBlock_89 : decode cX4_closeBlock 89 = .ok (.getfield 36, 3) := by decide +kernel
theorem dX4_closeBlock_92 : decode cX4_closeBlock 92 = .ok (.aload_n 0, 1) := by decide +kernel
theorem dX4_closeBlock_93 : decode cX4_closeBlock 93 = .ok (.getfield 36, 3) := by decide +kernel
theorem dX4_closeBlock_96 : decode cX4_closeBlock 96 = .ok (.iconst 1, 1) := by decide +kernel
theorem dX4_closeBlock_97 : decode cX4_closeBlock 97 = .ok (.aload_n 0, 1) := by decide +kernel
theorem dX4_closeBlock_98 : decode cX4_closeBlock 98 = .ok (.getfield 85, 3) := by decide +kernel
theorem dX4_closeBlock_101 : decode cX4_closeBlock 101 = .ok (.invokevirtual 120, 3) := by decide +kernel
theorem dX4_closeBlock_104 : decode cX4_closeBlock 104 = .ok (.bipush 10, 2) := by decide +kernel
theorem dX4_closeBlock_106 : decode cX4_closeBlock 106 = .ok (.iload_n 1, 1) := by decide +kernel
theorem dX4_closeBlock_107 : decode cX4_closeBlock 107 = .ok (.invokevirtual 124, 3) := by decide +kernel
theorem dX4_closeBlock_110 : decode cX4_closeBlock 110 = .ok (.aload_n 0, 1) := by decide +kernel
theorem dX4_closeBlock_111 : decode cX4_closeBlock 111 = .ok (.getfield 36, 3) := by decide +kernel
theorem dX4_closeBlock_114 : decode cX4_closeBlock 114 = .ok (.iload_n 1, 1) := by decide +kernel
theorem dX4_closeBlock_115 : decode cX4_closeBlock 115 = .ok (.bipush 10, 2) := by decide +kernel
theorem dX4_closeBlock_117 : decode cX4_closeBlock 117 = .ok (.aload_n 0, 1) := by decide +kernel
theorem dX4_closeBlock_118 : decode cX4_closeBlock 118 = .ok (.getfield 36, 3) := by decide +kernel
theorem dX4_closeBlock_121 : decode cX4_closeBlock 121 = .ok (.getfield 128, 3) := by decide +kernel
theorem dX4_closeBlock_124 : decode cX4_closeBlock 124 = .ok (.invokevirtual 124, 3) := by decide +kernel
theorem dX4_closeBlock_127 : decode cX4_closeBlock 127 = .ok (.goto 28, 3) := by decide +kernel
theorem dX4_closeBlock_130 : decode cX4_closeBlock 130 = .ok (.aload_n 0, 1) := by decide +kernel
theorem dX4_closeBlock_131 : decode cX4_closeBlock 131 = .ok (.iload_n 1, 1) := by decide +kernel
theorem dX4_closeBlock_132 : decode cX4_closeBlock 132 = .ok (.invokevirtual 131, 3) := by decide +kernel
theorem dX4_closeBlock_135 : decode cX4_closeBlock 135 = .ok (.goto 20, 3) := by decide +kernel
theorem dX4_closeBlock_138 : decode cX4_closeBlock 138 = .ok (.aload_n 0, 1) := by decide +kernel
theorem dX4_closeBlock_139 : decode cX4_closeBlock 139 = .ok (.getfield 36, 3) := by decide +kernel
theorem dX4_closeBlock_142 : decode cX4_closeBlock 142 = .ok (.iload_n 1, 1) := by decide +kernel
theorem dX4_closeBlock_143 : decode cX4_closeBlock 143 = .ok (.bipush 10, 2) := by decide +kernel
theorem dX4_closeBlock_145 : decode cX4_closeBlock 145 = .ok (.aload_n 0, 1) := by decide +kernel
theorem dX4_closeBlock_146 : decode cX4_closeBlock 146 = .ok (.getfield 36, 3) := by decide +kernel
theorem dX4_closeBlock_149 : decode cX4_closeBlock 149 = .ok (.getfield 128, 3) := by decide +kernel
theorem dX4_closeBlock_152 : decode cX4_closeBlock 152 = .ok (.invokevirtual 124, 3) := by decide +kernel
theorem dX4_closeBlock_155 : decode cX4_closeBlock 155 = .ok (.return_, 1) := by decide +kernel
set_option maxRecDepth 20000 in
theorem ggX4_closeIf_X4_seen : GoodIn wsX4_closeIf wsX4_seen := goodIn_r _ [9, 10, 1, 11, 12, 13, 14, 15, 16, 17, 56, 57, 58, 59, 60, 61, 62, 63, 64, 65, 68, 69, 70] (by decide +kernel) (by decide +kernel)
set_option maxRecDepth 20000 in
theorem gX4_closeIf_X4_seen : GoodIn wsX4_closeIf (wsV RX4 51 RX4 yX4_seen wsX4_seen) := goodIn_app (goodIn_of _ (by decide +kernel)) ggX4_closeIf_X4_seen
set_option maxRecDepth 20000 in
theorem ggX4_closeIf_X0_add : GoodIn wsX4_closeIf wsX0_add := goodIn_r _ [22, 23, 24, 25, 26, 21, 27, 28, 66, 67] (by decide +kernel) (by decide +kernel)
set_option maxRecDepth 20000 in
theorem gX4_closeIf_X0_add : GoodIn wsX4_closeIf (wsV RX4 120 RX0 yX0_add wsX0_add) := goodIn_app (goodIn_of _ (by decide +kernel)) ggX4_closeIf_X0_add
set_option maxRecDepth 20000 in
theorem ggX4_closeIf_X0_set : GoodIn wsX4_closeIf wsX0_set := goodIn_r _ [27, 23, 28, 66, 67] (by decide +kernel) (by decide +kernel)
set_option maxRecDepth 20000 in
theorem gX4_closeIf_X0_set : GoodIn wsX4_closeIf (wsV RX4 124 RX0 yX0_set wsX0_set) := goodIn_app (goodIn_of _ (by decide +kernel)) ggX4_closeIf_X0_set
set_option maxRecDepth 20000 in
theorem ggX4_closeIf_X4_openBlock : GoodIn wsX4_closeIf wsX4_openBlock := goodIn_r _ [33, 1, 34, 10, 35, 36, 37, 38, 39, 8, 40, 11, 12, 13, 14, 15, 16, 17, 41, 42, 43, 44, 45, 46, 47, 48, 49, 50, 51, 52, 53, 54, 55, 56, 57, 58, 59, 60, 61, 62, 63, 64, 65, 68, 69, 70] (by decide +kernel) (by decide +kernel)
set_option maxRecDepth 20000 in
theorem gX4_closeIf_X4_openBlock : GoodIn wsX4_closeIf (wsV RX4 98 RX4 yX4_openBlock wsX4_openBlock) := goodIn_app (goodIn_of _ (by decide +kernel)) ggX4_closeIf_X4_openBlock
theorem dX4_closeIf_0 : decode cX4_closeIf 0 = .ok (.aload_n 0, 1) := by decide +kernel
theorem dX4_closeIf_1 : decode cX4_closeIf 1 = .ok (.bipush 13, 2) := by decide +kernel
theorem dX4_closeIf_3 : decode cX4_closeIf 3 = .ok (.invokevirtual 51, 3) := by decide +kernel
theorem dX4_closeIf_6 : decode cX4_closeIf 6 = .ok (.ifCond .eq 53, 3) := by decide +kernel
theorem dX4_closeIf_9 : decode cX4_closeIf 9 = .ok (.aload_n 0, 1) := by decide +kernel
theorem dX4_closeIf_10 : decode cX4_closeIf 10 = .ok (.dup, 1) := by decide +kernel
theorem dX4_closeIf_11 : decode cX4_closeIf 11 = .ok (.getfield 40, 3) := by decide +kernel
theorem dX4_closeIf_14 : decode cX4_closeIf 14 = .ok (.iconst 1, 1) := by decide +kernel
theorem dX4_closeIf_15 : decode cX4_closeIf 15 = .ok (.iadd, 1) := by decide +kernel
theorem dX4_closeIf_16 : decode cX4_closeIf 16 = .ok (.putfield 40, 3) := by decide +kernel
theorem dX4_closeIf_19 : decode cX4_closeIf 19 = .ok (.aload_n 0, 1) := by decide +kernel
theorem dX4_closeIf_20 : decode cX4_closeIf 20 = .ok (.getfield 36, 3) := by decide +kernel
theorem dX4_closeIf_23 : decode cX4_closeIf 23 = .ok (.iconst 1, 1) := by decide +kernel
theorem dX4_closeIf_24 : decode cX4_closeIf 24 = .ok (.aload_n 0, 1) := by decide +kernel
theorem dX4_closeIf_25 : decode cX4_closeIf 25 = .ok (.getfield 85, 3) := by decide +kernel
theorem dX4_closeIf_28 : decode cX4_closeIf 28 = .ok (.invokevirtual 120, 3) := by decide +kernel
theorem dX4_closeIf_31 : decode cX4_closeIf 31 = .ok (.istore_n 2, 1) := by decide +kernel
theorem dX4_closeIf_32 : decode cX4_closeIf 32 = .ok (.aload_n 0, 1) := by decide +kernel
theorem dX4_closeIf_33 : decode cX4_closeIf 33 = .ok (.getfield 36, 3) := by decide +kernel
theorem dX4_closeIf_36 : decode cX4_closeIf 36 = .ok (.iload_n 1, 1) := by decide +kernel
theorem dX4_closeIf_37 : decode cX4_closeIf 37 = .ok (.bipush 10, 2) := by decide +kernel
theorem dX4_closeIf_39 : decode cX4_closeIf 39 = .ok (.aload_n 0, 1) := by decide +kernel
theorem dX4_closeIf_40 : decode cX4_closeIf 40 = .ok (.getfield 36, 3) := by decide +kernel
theorem dX4_closeIf_43 : decode cX4_closeIf 43 = .ok (.getfield 128, 3) := by decide +kernel
theorem dX4_closeIf_46 : decode cX4_closeIf 46 = .ok (.invokevirtual 124, 3) := by decide +kernel
theorem dX4_closeIf_49 : decode cX4_closeIf 49 = .ok (.aload_n 0, 1) := by decide +kernel
theorem dX4_closeIf_50 : decode cX4_closeIf 50 = .ok (.iconst 2, 1) := by decide +kernel
theorem dX4_closeIf_51 : decode cX4_closeIf 51 = .ok (.iload_n 2, 1) := by decide +kernel
theorem dX4_closeIf_52 : decode cX4_closeIf 52 = .ok (.invokevirtual 98, 3) := by decide +kernel
theorem dX4_closeIf_55 : decode cX4_closeIf 55 = .ok (.pop, 1) := by decide +kernel
theorem dX4_closeIf_56 : decode cX4_closeIf 56 = .ok (.goto 20, 3) := by decide +kernel
theorem dX4_closeIf_59 : decode cX4_closeIf 59 = .ok (.aload_n 0, 1) := by decide +kernel
theorem dX4_closeIf_60 : decode cX4_closeIf 60 = .ok (.getfield 36, 3) := by decide +kernel
theorem dX4_closeIf_63 : decode cX4_closeIf 63 = .ok (.iload_n 1, 1) := by decide +kernel
theorem dX4_closeIf_64 : decode cX4_closeIf 64 = .ok (.bipush 10, 2) := by decide +kernel
theorem dX4_closeIf_66 : decode cX4_closeIf 66 = .ok (.aload_n 0, 1) := by decide +kernel
theorem dX4_closeIf_67 : decode cX4_closeIf 67 = .ok (.getfield 36, 3) := by decide +kernel
theorem dX4_closeIf_70 : decode cX4_closeIf 70 = .ok (.getfield 128, 3) := by decide +kernel
theorem dX4_closeIf_73 : decode cX4_closeIf 73 = .ok (.invokevirtual 124, 3) := by decide +kernel
theorem dX4_closeIf_76 : decode cX4_closeIf 76 = .ok (.return_, 1) := by decide +kernel
set_option maxRecDepth 20000 in
theorem ggX4_readStatement_X8_kindAt : GoodIn wsX4_readStatement wsX8_kindAt := goodIn_r _ [9, 10, 11, 137, 138, 139] (by decide +kernel) (by decide +kernel)
set_option maxRecDepth 20000 in
theorem gX4_readStatement_X8_kindAt : GoodIn wsX4_readStatement (wsV RX4 68 RX8 yX8_kindAt wsX8_kindAt) := goodIn_app (goodIn_of _ (by decide +kernel)) ggX4_readStatement_X8_kindAt
set_option maxRecDepth 20000 in
theorem ggX4_readStatement_X4_readPut : GoodIn wsX4_readStatement wsX4_readPut := goodIn_r _ [16, 2, 3, 4, 1, 17, 18, 19, 15, 20, 5, 6, 7, 8, 9, 10, 11, 21, 22, 23, 24, 25, 26, 27, 28, 29, 30, 31, 32, 33, 34, 35, 36, 37, 38, 39, 40, 41, 42, 43, 44, 45, 46, 47, 48, 49, 50, 51, 52, 53, 54, 55, 56, 57, 58, 59, 60, 61, 62, 63, 64, 65, 66, 67, 68, 69, 70, 71, 72, 73, 74, 75, 76, 77, 78, 79, 80, 81, 82, 83, 84, 85, 86, 87, 88, 89, 90, 91, 92, 93, 94, 95, 127, 128, 129, 130, 131, 132, 133, 134, 135, 136, 137, 138, 139, 140, 141, 142, 143, 144, 145, 146, 147, 148, 149, 150, 151, 152, 153, 154, 155] (by decide +kernel) (by decide +kernel)
set_option maxRecDepth 20000 in
theorem gX4_readStatement_X4_readPut : GoodIn wsX4_readStatement (wsV RX4 134 RX4 yX4_readPut wsX4_readPut) := goodIn_app (goodIn_of _ (by decide +kernel)) ggX4_readStatement_X4_readPut
set_option maxRecDepth 20000 in
theorem ggX4_readStatement_X0_add : GoodIn wsX4_readStatement wsX0_add := goodIn_r _ [25, 26, 27, 28, 29, 24, 30, 31, 140, 141] (by decide +kernel) (by decide +kernel)
set_option maxRecDepth 20000 in
theorem gX4_readStatement_X0_add : GoodIn wsX4_readStatement (wsV RX4 120 RX0 yX0_add wsX0_add) := goodIn_app (goodIn_of _ (by decide +kernel)) ggX4_readStatement_X0_add
set_option maxRecDepth 20000 in
theorem ggX4_readStatement_X4_readCall : GoodIn wsX4_readStatement wsX4_readCall := goodIn_r _ [86, 3, 1, 2, 36, 28, 29, 24, 30, 26, 31, 32, 33, 34, 8, 35, 10, 11, 43, 44, 45, 46, 47, 67, 68, 69, 15, 70, 5, 6, 7, 9, 48, 49, 50, 51, 52, 53, 17, 18, 19, 20, 87, 88, 89, 90, 91, 92, 93, 94, 95, 27, 127, 128, 129, 130, 131, 132, 133, 134, 135, 136, 140, 141, 137, 138, 139] (by decide +kernel) (by decide +kernel)
set_option maxRecDepth 20000 in
theorem gX4_readStatement_X4_readCall : GoodIn wsX4_readStatement (wsV RX4 137 RX4 yX4_readCall wsX4_readCall) := goodIn_app (goodIn_of _ (by decide +kernel)) ggX4_readStatement_X4_readCall
set_option maxRecDepth 20000 in
theorem ggX4_readStatement_X4_take : GoodIn wsX4_readStatement wsX4_take := goodIn_r _ [70, 1, 2, 5, 6, 7, 8, 9, 10, 11, 43, 44, 45, 46, 47, 48, 49, 50, 15, 51, 52, 53, 127, 128, 129, 130, 131, 132, 133, 134, 135, 136, 137, 138, 139] (by decide +kernel) (by decide +kernel)
set_option maxRecDepth 20000 in
theorem gX4_readStatement_X4_take : GoodIn wsX4_readStatement (wsV RX4 79 RX4 yX4_take wsX4_take) := goodIn_app (goodIn_of _ (by decide +kernel)) ggX4_readStatement_X4_take
set_option maxRecDepth 20000 in
theorem ggX4_readStatement_X4_readReturn : GoodIn wsX4_readStatement wsX4_readReturn := goodIn_r _ [99, 2, 3, 4, 21, 22, 23, 24, 25, 26, 27, 28, 29, 30, 31, 17, 18, 19, 15, 20, 1, 5, 6, 7, 8, 9, 10, 11, 36, 71, 72, 73, 74, 75, 76, 77, 78, 32, 33, 34, 35, 67, 68, 69, 70, 43, 44, 45, 46, 47, 48, 49, 50, 51, 52, 53, 79, 80, 81, 82, 37, 38, 39, 40, 41, 42, 54, 55, 56, 57, 58, 59, 60, 61, 62, 63, 64, 65, 66, 83, 84, 85, 86, 87, 88, 89, 90, 91, 92, 93, 94, 95, 127, 128, 129, 130, 131, 132, 133, 134, 135, 136, 140, 141, 137, 138, 139, 142, 143, 144, 145, 146, 147, 148, 149, 150, 151, 152, 153, 154, 155] (by decide +kernel) (by decide +kernel)
set_option maxRecDepth 20000 in
theorem gX4_readStatement_X4_readReturn : GoodIn wsX4_readStatement (wsV RX4 140 RX4 yX4_readReturn wsX4_readReturn) := goodIn_app (goodIn_of _ (by decide +kernel)) ggX4_readStatement_X4_readReturn
set_option maxRecDepth 20000 in
theorem ggX4_readStatement_X4_readBranch : GoodIn wsX4_readStatement wsX4_readBranch := goodIn_r _ [103, 2, 1, 41, 104, 3, 4, 17, 18, 19, 15, 20, 5, 6, 7, 8, 9, 10, 11, 43, 44, 45, 46, 47, 48, 49, 50, 51, 52, 53, 21, 22, 23, 24, 25, 26, 27, 28, 29, 30, 31, 105, 106, 107, 57, 108, 109, 110, 111, 36, 32, 33, 34, 35, 112, 113, 114, 115, 67, 68, 69, 70, 116, 117, 118, 119, 120, 121, 122, 123, 124, 125, 126, 127, 128, 129, 130, 131, 132, 133, 134, 135, 136, 142, 143, 144, 145, 146, 147, 148, 149, 150, 151, 152, 153, 154, 155, 137, 138, 139, 140, 141] (by decide +kernel) (by decide +kernel)
set_option maxRecDepth 20000 in
theorem gX4_readStatement_X4_readBranch : GoodIn wsX4_readStatement (wsV RX4 143 RX4 yX4_readBranch wsX4_readBranch) := goodIn_app (goodIn_of _ (by decide +kernel)) ggX4_readStatement_X4_readBranch
set_option maxRecDepth 20000 in
theorem ggX4_readStatement_X8_placeAt : GoodIn wsX4_readStatement wsX8_placeAt := goodIn_r _ [46, 10, 11, 47, 137, 138, 139] (by decide +kernel) (by decide +kernel)
set_option maxRecDepth 20000 in
theorem gX4_readStatement_X8_placeAt : GoodIn wsX4_readStatement (wsV RX4 72 RX8 yX8_placeAt wsX8_placeAt) := goodIn_app (goodIn_of _ (by decide +kernel)) ggX4_readStatement_X8_placeAt
set_option maxRecDepth 20000 in
theorem ggX4_readStatement_X4_refuse : GoodIn wsX4_readStatement wsX4_refuse := goodIn_r _ [51, 52, 53, 127, 128, 129, 130, 131, 132, 133, 134, 135, 136] (by decide +kernel) (by decide +kernel)
