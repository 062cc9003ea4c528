theorem dX10_test_53 : decode cX10_test 53 = .ok (.invokevirtual 146, 3) := by decide +kernel
theorem dX10_test_56 : decode cX10_test 56 = .ok (.aload_n 0, 1) := by decide +kernel
theorem dX10_test_57 : decode cX10_test 57 = .ok (.getfield 54, 3) := by decide +kernel
theorem dX10_test_60 : decode cX10_test 60 = .ok (.getfield 179, 3) := by decide +kernel
theorem dX10_test_63 : decode cX10_test 63 = .ok (.iload_n 1, 1) := by decide +kernel
theorem dX10_test_64 : decode cX10_test 64 = .ok (.invokestatic 153, 3) := by decide +kernel
theorem dX10_test_67 : decode cX10_test 67 = .ok (.invokestatic 182, 3) := by decide +kernel
theorem dX10_test_70 : decode cX10_test 70 = .ok (.ireturn, 1) := by decide +kernel
theorem dX10_test_71 : decode cX10_test 71 = .ok (.aload_n 3, 1) := by decide +kernel
theorem dX10_test_72 : decode cX10_test 72 = .ok (.getfield 185, 3) := by decide +kernel
theorem dX10_test_75 : decode cX10_test 75 = .ok (.iload_n 1, 1) := by decide +kernel
theorem dX10_test_76 : decode cX10_test 76 = .ok (.invokestatic 153, 3) := by decide +kernel
theorem dX10_test_79 : decode cX10_test 79 = .ok (.ireturn, 1) := by decide +kernel
theorem dX10_test_80 : decode cX10_test 80 = .ok (.aload_n 3, 1) := by decide +kernel
theorem dX10_test_81 : decode cX10_test 81 = .ok (.getfield 188, 3) := by decide +kernel
theorem dX10_test_84 : decode cX10_test 84 = .ok (.iload_n 1, 1) := by decide +kernel
theorem dX10_test_85 : decode cX10_test 85 = .ok (.invokestatic 153, 3) := by decide +kernel
theorem dX10_test_88 : decode cX10_test 88 = .ok (.ireturn, 1) := by decide +kernel
theorem dX10_test_89 : decode cX10_test 89 = .ok (.iconst (-1), 1) := by decide +kernel
theorem dX10_test_90 : decode cX10_test 90 = .ok (.ireturn, 1) := by decide +kernel
set_option maxRecDepth 20000 in
theorem ggX10_run_X7_allows : GoodIn wsX10_run wsX7_allows := goodIn_r _ [12, 13, 14, 15, 16, 17, 18, 19, 20, 21, 22, 23, 24, 11, 25, 26, 27, 28, 29, 30, 31, 32, 33, 34, 182, 183, 184, 185, 186, 187, 188, 189, 190, 191, 192, 193, 194, 195, 196, 197, 198] (by decide +kernel) (by decide +kernel)
set_option maxRecDepth 20000 in
theorem gX10_run_X7_allows : GoodIn wsX10_run (wsV RX10 191 RX7 yX7_allows wsX7_allows) := goodIn_app (goodIn_of _ (by decide +kernel)) ggX10_run_X7_allows
set_option maxRecDepth 20000 in
theorem ggX10_run_X6_go : GoodIn wsX10_run wsX6_go := goodIn_r _ [39, 40, 41, 42, 43, 44, 45, 38, 46, 47, 48, 49, 50, 51, 52, 53, 54, 55, 56, 57, 58, 59, 60, 61, 62, 63, 64, 65, 66, 67, 33, 68, 69, 23, 24, 11, 25, 13, 26, 14, 27, 28, 29, 30, 31, 32, 34, 16, 17, 18, 19, 20, 21, 70, 71, 72, 73, 74, 75, 76, 77, 78, 79, 80, 81, 82, 83, 84, 85, 86, 87, 88, 89, 90, 91, 92, 93, 94, 95, 96, 97, 98, 99, 100, 101, 102, 103, 104, 105, 106, 107, 108, 109, 110, 111, 112, 113, 114, 115, 116, 117, 118, 119, 120, 121, 122, 123, 124, 125, 126, 127, 128, 129, 130, 131, 132, 133, 134, 135, 136, 137, 138, 139, 140, 141, 142, 143, 144, 145, 146, 147, 148, 149, 150, 151, 166, 167, 168, 169, 170, 171, 172, 173, 174, 175, 176, 177, 178, 179, 180, 181, 182, 183, 184, 185, 186, 187, 188, 189, 190, 191, 192, 193, 194, 195, 196, 197, 198, 199, 200] (by decide +kernel) (by decide +kernel)
set_option maxRecDepth 20000 in
theorem gX10_run_X6_go : GoodIn wsX10_run (wsV RX10 194 RX6 yX6_go wsX6_go) := goodIn_app (goodIn_of _ (by decide +kernel)) ggX10_run_X6_go
set_option maxRecDepth 20000 in
theorem ggX10_run_X5_put : GoodIn wsX10_run wsX5_put := goodIn_r _ [68] (by decide +kernel) (by decide +kernel)
set_option maxRecDepth 20000 in
theorem gX10_run_X5_put : GoodIn wsX10_run (va_wsS RX10 136 yX5_put wsX5_put) := goodIn_app (goodIn_of _ (by decide +kernel)) ggX10_run_X5_put
theorem dX10_run_0 : decode cX10_run 0 = .ok (.iload_n 2, 1) := by decide +kernel
theorem dX10_run_1 : decode cX10_run 1 = .ok (.ifCond .lt 21, 3) := by decide +kernel
theorem dX10_run_4 : decode cX10_run 4 = .ok (.iload_n 2, 1) := by decide +kernel
theorem dX10_run_5 : decode cX10_run 5 = .ok (.sipush 256, 3) := by decide +kernel
theorem dX10_run_8 : decode cX10_run 8 = .ok (.if_icmp .ge 14, 3) := by decide +kernel
theorem dX10_run_11 : decode cX10_run 11 = .ok (.aload_n 0, 1) := by decide +kernel
theorem dX10_run_12 : decode cX10_run 12 = .ok (.getfield 45, 3) := by decide +kernel
theorem dX10_run_15 : decode cX10_run 15 = .ok (.iload_n 1, 1) := by decide +kernel
theorem dX10_run_16 : decode cX10_run 16 = .ok (.invokevirtual 191, 3) := by decide +kernel
theorem dX10_run_19 : decode cX10_run 19 = .ok (.ifCond .ne 5, 3) := by decide +kernel
theorem dX10_run_22 : decode cX10_run 22 = .ok (.iconst (-1), 1) := by decide +kernel
theorem dX10_run_23 : decode cX10_run 23 = .ok (.ireturn, 1) := by decide +kernel
theorem dX10_run_24 : decode cX10_run 24 = .ok (.aload_n 0, 1) := by decide +kernel
theorem dX10_run_25 : decode cX10_run 25 = .ok (.getfield 61, 3) := by decide +kernel
theorem dX10_run_28 : decode cX10_run 28 = .ok (.iload_n 1, 1) := by decide +kernel
theorem dX10_run_29 : decode cX10_run 29 = .ok (.iload_n 2, 1) := by decide +kernel
theorem dX10_run_30 : decode cX10_run 30 = .ok (.invokevirtual 194, 3) := by decide +kernel
theorem dX10_run_33 : decode cX10_run 33 = .ok (.istore_n 3, 1) := by decide +kernel
theorem dX10_run_34 : decode cX10_run 34 = .ok (.aload_n 0, 1) := by decide +kernel
theorem dX10_run_35 : decode cX10_run 35 = .ok (.getfield 83, 3) := by decide +kernel
theorem dX10_run_38 : decode cX10_run 38 = .ok (.iconst 0, 1) := by decide +kernel
theorem dX10_run_39 : decode cX10_run 39 = .ok (.aload_n 0, 1) := by decide +kernel
theorem dX10_run_40 : decode cX10_run 40 = .ok (.getfield 61, 3) := by decide +kernel
theorem dX10_run_43 : decode cX10_run 43 = .ok (.getfield 198, 3) := by decide +kernel
theorem dX10_run_46 : decode cX10_run 46 = .ok (.invokestatic 136, 3) := by decide +kernel
theorem dX10_run_49 : decode cX10_run 49 = .ok (.aload_n 0, 1) := by decide +kernel
theorem dX10_run_50 : decode cX10_run 50 = .ok (.getfield 83, 3) := by decide +kernel
theorem dX10_run_53 : decode cX10_run 53 = .ok (.iconst 1, 1) := by decide +kernel
theorem dX10_run_54 : decode cX10_run 54 = .ok (.aload_n 0, 1) := by decide +kernel
theorem dX10_run_55 : decode cX10_run 55 = .ok (.getfield 61, 3) := by decide +kernel
theorem dX10_run_58 : decode cX10_run 58 = .ok (.getfield 201, 3) := by decide +kernel
theorem dX10_run_61 : decode cX10_run 61 = .ok (.invokestatic 136, 3) := by decide +kernel
theorem dX10_run_64 : decode cX10_run 64 = .ok (.aload_n 0, 1) := by decide +kernel
theorem dX10_run_65 : decode cX10_run 65 = .ok (.getfield 83, 3) := by decide +kernel
theorem dX10_run_68 : decode cX10_run 68 = .ok (.iconst 2, 1) := by decide +kernel
theorem dX10_run_69 : decode cX10_run 69 = .ok (.aload_n 0, 1) := by decide +kernel
theorem dX10_run_70 : decode cX10_run 70 = .ok (.getfield 61, 3) := by decide +kernel
theorem dX10_run_73 : decode cX10_run 73 = .ok (.getfield 204, 3) := by decide +kernel
theorem dX10_run_76 : decode cX10_run 76 = .ok (.invokestatic 136, 3) := by decide +kernel
theorem dX10_run_79 : decode cX10_run 79 = .ok (.aload_n 0, 1) := by decide +kernel
theorem dX10_run_80 : decode cX10_run 80 = .ok (.getfield 83, 3) := by decide +kernel
theorem dX10_run_83 : decode cX10_run 83 = .ok (.iconst 3, 1) := by decide +kernel
theorem dX10_run_84 : decode cX10_run 84 = .ok (.aload_n 0, 1) := by decide +kernel
theorem dX10_run_85 : decode cX10_run 85 = .ok (.getfield 61, 3) := by decide +kernel
theorem dX10_run_88 : decode cX10_run 88 = .ok (.getfield 207, 3) := by decide +kernel
theorem dX10_run_91 : decode cX10_run 91 = .ok (.invokestatic 136, 3) := by decide +kernel
theorem dX10_run_94 : decode cX10_run 94 = .ok (.iload_n 3, 1) := by decide +kernel
theorem dX10_run_95 : decode cX10_run 95 = .ok (.ireturn, 1) := by decide +kernel
theorem dX10_ran_0 : decode cX10_ran 0 = .ok (.iload_n 1, 1) := by decide +kernel
theorem dX10_ran_1 : decode cX10_ran 1 = .ok (.ifCond .lt 12, 3) := by decide +kernel
theorem dX10_ran_4 : decode cX10_ran 4 = .ok (.iload_n 1, 1) := by decide +kernel
theorem dX10_ran_5 : decode cX10_ran 5 = .ok (.aload_n 0, 1) := by decide +kernel
theorem dX10_ran_6 : decode cX10_ran 6 = .ok (.getfield 83, 3) := by decide +kernel
theorem dX10_ran_9 : decode cX10_ran 9 = .ok (.arraylength, 1) := by decide +kernel
theorem dX10_ran_10 : decode cX10_ran 10 = .ok (.if_icmp .lt 7, 3) := by decide +kernel
theorem dX10_ran_13 : decode cX10_ran 13 = .ok (.iconst (-1), 1) := by decide +kernel
theorem dX10_ran_14 : decode cX10_ran 14 = .ok (.goto 9, 3) := by decide +kernel
theorem dX10_ran_17 : decode cX10_ran 17 = .ok (.aload_n 0, 1) := by decide +kernel
theorem dX10_ran_18 : decode cX10_ran 18 = .ok (.getfield 83, 3) := by decide +kernel
theorem dX10_ran_21 : decode cX10_ran 21 = .ok (.iload_n 1, 1) := by decide +kernel
theorem dX10_ran_22 : decode cX10_ran 22 = .ok (.iaload, 1) := by decide +kernel
theorem dX10_ran_23 : decode cX10_ran 23 = .ok (.ireturn, 1) := by decide +kernel
set_option maxRecDepth 20000 in
theorem ggX10_tries_X1_settle : GoodIn wsX10_tries wsX1_settle := goodIn_r _ [11, 12, 13, 14, 15, 16, 17, 18, 19, 20, 21, 22, 10, 23, 24, 25, 26, 27, 28, 29, 30, 31, 32, 33, 34, 35, 36, 37, 38, 39, 40, 41, 42, 43, 44, 45, 46, 47, 48, 49, 50, 51, 52, 53, 54, 55, 56, 57, 58, 59, 60, 61, 62, 63, 64, 65, 66, 67, 68, 69, 70, 71, 72, 73, 74, 75, 76, 77, 78, 79, 80, 81, 82, 83, 84, 85, 86, 87, 88, 89, 90, 91, 92, 93, 94, 95, 96, 97, 98, 99, 100, 101, 102, 103, 104, 105, 106, 107, 108, 109, 110, 111, 112, 113, 114, 115, 116, 117, 118, 119, 120, 121, 122, 123, 124, 125, 126, 127, 128, 129, 130, 131, 132, 133, 134, 135, 136, 137, 138, 139, 140, 141, 142, 143, 313, 314, 315, 316, 317, 318, 319, 320, 321, 322, 323, 324, 325, 326, 327, 328, 290, 291, 292, 293, 294, 295, 296, 297, 298, 299, 300, 301, 302, 303, 304, 305, 306] (by decide +kernel) (by decide +kernel)
set_option maxRecDepth 20000 in
theorem gX10_tries_X1_settle : GoodIn wsX10_tries (wsV RX10 146 RX1 yX1_settle wsX1_settle) := goodIn_app (goodIn_of _ (by decide +kernel)) ggX10_tries_X1_settle
set_option maxRecDepth 20000 in
theorem ggX10_tries_X1_guardsNeeded : GoodIn wsX10_tries wsX1_guardsNeeded := goodIn_r _ [147, 26, 148, 30, 68, 64, 65, 66, 313, 314, 315, 316, 317, 318, 319, 320, 321, 322, 323, 324, 325, 326, 293, 294, 295, 296, 297, 298, 299, 300, 301, 302, 303, 304, 305, 306] (by decide +kernel) (by decide +kernel)
set_option maxRecDepth 20000 in
theorem gX10_tries_X1_guardsNeeded : GoodIn wsX10_tries (wsV RX10 210 RX1 yX1_guardsNeeded wsX1_guardsNeeded) := goodIn_app (goodIn_of _ (by decide +kernel)) ggX10_tries_X1_guardsNeeded
set_option maxRecDepth 20000 in
theorem ggX10_tries_X9_fill : GoodIn wsX10_tries wsX9_fill := goodIn_r _ [153, 154, 155, 156, 157, 158, 159, 160, 37, 34, 38, 161, 64, 65, 66, 162, 163, 164, 54, 165, 56, 58, 166, 67, 46, 47, 48, 49, 50, 167, 52, 53, 55, 57, 59, 60, 61, 62, 63, 168, 169, 170, 171, 172, 173, 174, 175, 176, 177, 178, 179, 180, 181, 182, 183, 184, 185, 186, 187, 188, 189, 190, 191, 192, 193, 194, 195, 196, 197, 198, 199, 74, 75, 200, 201, 84, 85, 86, 87, 88, 202, 203, 204, 205, 206, 207, 208, 209, 210, 211, 212, 213, 214, 215, 216, 217, 218, 219, 220, 221, 103, 104, 105, 106, 107, 108, 222, 223, 224, 225, 226, 227, 228, 229, 230, 231, 232, 233, 234, 235, 236, 237, 238, 239, 240, 241, 242, 243, 244, 245, 246, 247, 248, 249, 250, 251, 252, 253, 254, 255, 256, 257, 258, 259, 260, 261, 262, 263, 132, 133, 134, 135, 264, 137, 138, 139, 265, 266, 267, 152, 268, 269, 270, 271, 272, 273, 274, 275, 307, 308, 309, 310, 311, 312, 290, 291, 292, 293, 294, 295, 296, 297, 298, 299, 300, 301, 302, 303, 304, 305, 306, 329, 330, 331, 332, 333, 334, 335, 336, 337, 338, 339, 340, 341, 342, 343, 344, 327, 328] (by decide +kernel) (by decide +kernel)
set_option maxRecDepth 20000 in
theorem gX10_tries_X9_fill : GoodIn wsX10_tries (wsV RX10 213 RX9 yX9_fill wsX9_fill) := goodIn_app (goodIn_of _ (by decide +kernel)) ggX10_tries_X9_fill
set_option maxRecDepth 20000 in
theorem ggX10_tries_X5_at : GoodIn wsX10_tries wsX5_at := goodIn_r _ [66] (by decide +kernel) (by decide +kernel)
set_option maxRecDepth 20000 in
theorem gX10_tries_X5_at : GoodIn wsX10_tries (va_wsS RX10 153 yX5_at wsX5_at) := goodIn_app (goodIn_of _ (by decide +kernel)) ggX10_tries_X5_at
theorem dX10_tries_0 : decode cX10_tries 0 = .ok (.iload_n 1, 1) := by decide +kernel
theorem dX10_tries_1 : decode cX10_tries 1 = .ok (.ifCond .lt 17, 3) := by decide +kernel
theorem dX10_tries_4 : decode cX10_tries 4 = .ok (.iload_n 1, 1) := by decide +kernel
theorem dX10_tries_5 : decode cX10_tries 5 = .ok (.aload_n 0, 1) := by decide +kernel
theorem dX10_tries_6 : decode cX10_tries 6 = .ok (.getfield 45, 3) := by decide +kernel
theorem dX10_tries_9 : decode cX10_tries 9 = .ok (.getfield 110, 3) := by decide +kernel
theorem dX10_tries_12 : decode cX10_tries 12 = .ok (.getfield 157, 3) := by decide +kernel
theorem dX10_tries_15 : decode cX10_tries 15 = .ok (.if_icmp .lt 5, 3) := by decide +kernel
theorem dX10_tries_18 : decode cX10_tries 18 = .ok (.iconst (-1), 1) := by decide +kernel
theorem dX10_tries_19 : decode cX10_tries 19 = .ok (.ireturn, 1) := by decide +kernel
theorem dX10_tries_20 : decode cX10_tries 20 = .ok (.aload_n 0, 1) := by decide +kernel
theorem dX10_tries_21 : decode cX10_tries 21 = .ok (.getfield 54, 3) := by decide +kernel
theorem dX10_tries_24 : decode cX10_tries 24 = .ok (.lconst 0, 1) := by decide +kernel
theorem dX10_tries_25 : decode cX10_tries 25 = .ok (.invokevirtual 146, 3) := by decide +kernel
theorem dX10_tries_28 : decode cX10_tries 28 = .ok (.aload_n 0, 1) := by decide +kernel
theorem dX10_tries_29 : decode cX10_tries 29 = .ok (.getfield 70, 3) := by decide +kernel
theorem dX10_tries_32 : decode cX10_tries 32 = .ok (.aload_n 0, 1) := by decide +kernel
theorem dX10_tries_33 : decode cX10_tries 33 = .ok (.getfield 54, 3) := by decide +kernel
theorem dX10_tries_36 : decode cX10_tries 36 = .ok (.invokevirtual 210, 3) := by decide +kernel
theorem dX10_tries_39 : decode cX10_tries 39 = .ok (.invokevirtual 213, 3) := by decide +kernel
theorem dX10_tries_42 : decode cX10_tries 42 = .ok (.aload_n 0, 1) := by decide +kernel
theorem dX10_tries_43 : decode cX10_tries 43 = .ok (.getfield 70, 3) := by decide +kernel
theorem dX10_tries_46 : decode cX10_tries 46 = .ok (.getfield 216, 3) := by decide +kernel
theorem dX10_tries_49 : decode cX10_tries 49 = .ok (.iload_n 1, 1) := by decide +kernel
theorem dX10_tries_50 : decode cX10_tries 50 = .ok (.invokestatic 153, 3) := by decide +kernel
theorem dX10_tries_53 : decode cX10_tries 53 = .ok (.ireturn, 1) := by decide +kernel
set_option maxRecDepth 20000 in
theorem ggX10_price_X5_put : GoodIn wsX10_price wsX5_put := goodIn_r _ [7] (by decide +kernel) (by decide +kernel)
set_option maxRecDepth 20000 in
theorem gX10_price_X5_put : GoodIn wsX10_price (va_wsS RX10 136 yX5_put wsX5_put) := goodIn_app (goodIn_of _ (by decide +kernel)) ggX10_price_X5_put
theorem dX10_price_0 : decode cX10_price 0 = .ok (.iload_n 1, 1) := by decide +kernel
theorem dX10_price_1 : decode cX10_price 1 = .ok (.ifCond .lt 19, 3) := by decide +kernel
theorem dX10_price_4 : decode cX10_price 4 = .ok (.iload_n 1, 1) := by decide +kernel
theorem dX10_price_5 : decode cX10_price 5 = .ok (.iconst 3, 1) := by decide +kernel
theorem dX10_price_6 : decode cX10_price 6 = .ok (.if_icmp .gt 14, 3) := by decide +kernel
theorem dX10_price_9 : decode cX10_price 9 = .ok (.iload_n 2, 1) := by decide +kernel
theorem dX10_price_10 : decode cX10_price 10 = .ok (.iconst 1, 1) := by decide +kernel
theorem dX10_price_11 : decode cX10_price 11 = .ok (.if_icmp .lt 9, 3) := by decide +kernel
theorem dX10_price_14 : decode cX10_price 14 = .ok (.iload_n 2, 1) := by decide +kernel
theorem dX10_price_15 : decode cX10_price 15 = .ok (.bipush 99, 2) := by decide +kernel
theorem dX10_price_17 : decode cX10_price 17 = .ok (.if_icmp .le 5, 3) := by decide +kernel
theorem dX10_price_20 : decode cX10_price 20 = .ok (.iconst 0, 1) := by decide +kernel
theorem dX10_price_21 : decode cX10_price 21 = .ok (.ireturn, 1) := by decide +kernel
theorem dX10_price_22 : decode cX10_price 22 = .ok (.aload_n 0, 1) := by decide +kernel
theorem dX10_price_23 : decode cX10_price 23 = .ok (.getfield 79, 3) := by decide +kernel
theorem dX10_price_26 : decode cX10_price 26 = .ok (.getfield 218, 3) := by decide +kernel
theorem dX10_price_29 : decode cX10_price 29 = .ok (.iload_n 1, 1) := by decide +kernel
theorem dX10_price_30 : decode cX10_price 30 = .ok (.iload_n 2, 1) := by decide +kernel
theorem dX10_price_31 : decode cX10_price 31 = .ok (.invokestatic 136, 3) := by decide +kernel
theorem dX10_price_34 : decode cX10_price 34 = .ok (.aload_n 0, 1) := by decide +kernel
theorem dX10_price_35 : decode cX10_price 35 = .ok (.getfield 79, 3) := by decide +kernel
theorem dX10_price_38 : decode cX10_price 38 = .ok (.iconst 1, 1) := by decide +kernel
theorem dX10_price_39 : decode cX10_price 39 = .ok (.putfield 221, 3) := by decide +kernel
theorem dX10_price_42 : decode cX10_price 42 = .ok (.iconst 1, 1) := by decide +kernel
theorem dX10_price_43 : decode cX10_price 43 = .ok (.ireturn, 1) := by decide +kernel
set_option maxRecDepth 20000 in
theorem ggX10_mend_X2_search : GoodIn wsX10_mend wsX2_search := goodIn_r _ [10, 11, 12, 13, 14, 15, 16, 17, 18, 19, 20, 21, 22, 23, 24, 25, 26, 27, 28, 29, 30, 31, 32, 33, 34, 35, 36, 37, 38, 39, 40, 41, 42, 43, 44, 45, 46, 47, 48, 49, 50, 51, 52, 53, 54, 55, 56, 57, 58, 59, 60, 61, 62, 63, 64, 65, 66, 67, 68, 69, 70, 71, 72, 73, 74, 75, 76, 77, 78, 79, 80, 81, 82, 83, 84, 85, 86, 87, 88, 89, 90, 91, 92, 93, 94, 95, 96, 97, 98, 99, 100, 101, 102, 103, 104, 105, 106, 107, 108, 109, 110, 111, 112, 113, 114, 115, 116, 117, 118, 119, 120, 121, 122, 123, 124, 125, 126, 127, 128, 129, 130, 131, 132, 133, 134, 135, 136, 137, 138, 139, 140, 141, 142, 143, 144, 145, 146, 147, 148, 149, 150, 151, 152, 153, 154, 155, 156, 157, 158, 9, 159, 160, 161, 162, 163, 164, 165, 166, 167, 168, 169, 170, 171, 172, 173, 174, 175, 176, 177, 178, 179, 180, 181, 182, 183, 184, 185, 186, 187, 188, 189, 190, 191, 192, 193, 194, 195, 196, 197, 198, 199, 200, 201, 202, 233, 234, 235, 236, 237, 238, 239, 240, 241, 242, 243, 244, 245, 246, 247, 248, 249, 250, 251, 252, 253, 254, 255, 256, 257, 258, 216, 217, 218, 219, 220, 221, 222, 223, 224, 225, 226, 227, 228, 229, 230, 231, 232] (by decide +kernel) (by decide +kernel)
set_option maxRecDepth 20000 in
theorem gX10_mend_X2_search : GoodIn wsX10_mend (wsV RX10 225 RX2 yX2_search wsX2_search) := goodIn_app (goodIn_of _ (by decide +kernel)) ggX10_mend_X2_search
theorem dX10_mend_0 : decode cX10_mend 0 = .ok (.aload_n 0, 1) := by decide +kernel
theorem dX10_mend_1 : decode cX10_mend 1 = .ok (.getfield 45, 3) := by decide +kernel
theorem dX10_mend_4 : decode cX10_mend 4 = .ok (.getfield 110, 3) := by decide +kernel
theorem dX10_mend_7 : decode cX10_mend 7 = .ok (.getfield 122, 3) := by decide +kernel
theorem dX10_mend_10 : decode cX10_mend 10 = .ok (.ifCond .ne 5, 3) := by decide +kernel
theorem dX10_mend_13 : decode cX10_mend 13 = .ok (.iconst (-1), 1) := by decide +kernel
theorem dX10_mend_14 : decode cX10_mend 14 = .ok (.ireturn, 1) := by decide +kernel
theorem dX10_mend_15 : decode cX10_mend 15 = .ok (.aload_n 0, 1) := by decide +kernel
theorem dX10_mend_16 : decode cX10_mend 16 = .ok (.getfield 79, 3) := by decide +kernel
theorem dX10_mend_19 : decode cX10_mend 19 = .ok (.invokevirtual 225, 3) := by decide +kernel
theorem dX10_mend_22 : decode cX10_mend 22 = .ok (.aload_n 0, 1) := by decide +kernel
theorem dX10_mend_23 : decode cX10_mend 23 = .ok (.getfield 79, 3) := by decide +kernel
theorem dX10_mend_26 : decode cX10_mend 26 = .ok (.getfield 228, 3) := by decide +kernel
theorem dX10_mend_29 : decode cX10_mend 29 = .ok (.ireturn, 1) := by decide +kernel
set_option maxRecDepth 20000 in
theorem ggX10_mended_X5_at : GoodIn wsX10_mended wsX5_at := goodIn_r _ [9] (by decide +kernel) (by decide +kernel)
set_option maxRecDepth 20000 in
theorem gX10_mended_X5_at : GoodIn wsX10_mended (va_wsS RX10 153 yX5_at wsX5_at) := goodIn_app (goodIn_of _ (by decide +kernel)) ggX10_mended_X5_at
theorem dX10_mended_0 : decode cX10_mended 0 = .ok (.aload_n 0, 1) := by decide +kernel
theorem dX10_mended_1 : decode cX10_mended 1 = .ok (.getfield 79, 3) := by decide +kernel
theorem dX10_mended_4 : decode cX10_mended 4 = .ok (.getfield 228, 3) := by decide +kernel
theorem dX10_mended_7 : decode cX10_mended 7 = .ok (.iconst (-1), 1) := by decide +kernel
theorem dX10_mended_8 : decode cX10_mended 8 = .ok (.if_icmp .ne 5, 3) := by decide +kernel
theorem dX10_mended_11 : decode cX10_mended 11 = .ok (.iconst (-1), 1) := by decide +kernel
theorem dX10_mended_12 : decode cX10_mended 12 = .ok (.ireturn, 1) := by decide +kernel
theorem dX10_mended_13 : decode cX10_mended 13 = .ok (.iload_n 1, 1) := by decide +kernel
theorem dX10_mended_14 : decode cX10_mended 14 = .ok (.ifCond .ne 11, 3) := by decide +kernel
theorem dX10_mended_17 : decode cX10_mended 17 = .ok (.aload_n 0, 1) := by decide +kernel
theorem dX10_mended_18 : decode cX10_mended 18 = .ok (.getfield 79, 3) := by decide +kernel
theorem dX10_mended_21 : decode cX10_mended 21 = .ok (.getfield 231, 3) := by decide +kernel
theorem dX10_mended_24 : decode cX10_mended 24 = .ok (.ireturn, 1) := by decide +kernel
theorem dX10_mended_25 : decode cX10_mended 25 = .ok (.iload_n 1, 1) := by decide +kernel
theorem dX10_mended_26 : decode cX10_mended 26 = .ok (.iconst 1, 1) := by decide +kernel
theorem dX10_mended_27 : decode cX10_mended 27 = .ok (.if_icmp .ne 11, 3) := by decide +kernel
theorem dX10_mended_30 : decode cX10_mended 30 = .ok (.aload_n 0, 1) := by decide +kernel
theorem dX10_mended_31 : decode cX10_mended 31 = .ok (.getfield 79, 3) := by decide +kernel
theorem dX10_mended_34 : decode cX10_mended 34 = .ok (.getfield 234, 3) := by decide +kernel
theorem dX10_mended_37 : decode cX10_mended 37 = .ok (.ireturn, 1) := by decide +kernel
theorem dX10_mended_38 : decode cX10_mended 38 = .ok (.iload_n 1, 1) := by decide +kernel
theorem dX10_mended_39 : decode cX10_mended 39 = .ok (.iconst 2, 1) := by decide +kernel
theorem dX10_mended_40 : decode cX10_mended 40 = .ok (.if_icmp .lt 16, 3) := by decide +kernel
theorem dX10_mended_43 : decode cX10_mended 43 = .ok (.iload_n 1, 1) := by decide +kernel
theorem dX10_mended_44 : decode cX10_mended 44 = .ok (.iconst 2, 1) := by decide +kernel
theorem dX10_mended_45 : decode cX10_mended 45 = .ok (.isub, 1) := by decide +kernel
theorem dX10_mended_46 : decode cX10_mended 46 = .ok (.aload_n 0, 1) := by decide +kernel
theorem dX10_mended_47 : decode cX10_mended 47 = .ok (.getfield 79, 3) := by decide +kernel
theorem dX10_mended_50 : decode cX10_mended 50 = .ok (.getfield 231, 3) := by decide +kernel
theorem dX10_mended_53 : decode cX10_mended 53 = .ok (.if_icmp .lt 7, 3) := by decide +kernel
theorem dX10_mended_56 : decode cX10_mended 56 = .ok (.iconst (-1), 1) := by decide +kernel
theorem dX10_mended_57 : decode cX10_mended 57 = .ok (.goto 16, 3) := by decide +kernel
theorem dX10_mended_60 : decode cX10_mended 60 = .ok (.aload_n 0, 1) := by decide +kernel
theorem dX10_mended_61 : decode cX10_mended 61 = .ok (.getfield 79, 3) := by decide +kernel
theorem dX10_mended_64 : decode cX10_mended 64 = .ok (.getfield 237, 3) := by decide +kernel
theorem dX10_mended_67 : decode cX10_mended 67 = .ok (.iload_n 1, 1) := by decide +kernel
theorem dX10_mended_68 : decode cX10_mended 68 = .ok (.iconst 2, 1) := by decide +kernel
theorem dX10_mended_69 : decode cX10_mended 69 = .ok (.isub, 1) := by decide +kernel
theorem dX10_mended_70 : decode cX10_mended 70 = .ok (.invokestatic 153, 3) := by decide +kernel
theorem dX10_mended_73 : decode cX10_mended 73 = .ok (.ireturn, 1) := by decide +kernel
set_option maxRecDepth 20000 in
theorem ggX10_count_X10_usesOfFact : GoodIn wsX10_count wsX10_usesOfFact := goodIn_r _ [11, 12, 1, 2, 4, 13, 14, 15, 16, 17, 18, 19, 20, 21, 22, 23, 24, 25, 26, 27, 28, 29, 30, 31, 32, 33, 34, 35, 36, 37, 38, 39, 40, 41, 42, 43, 44, 45, 46, 47, 48, 49, 50, 51, 52, 53, 54, 55, 56, 57, 58, 59, 60, 61, 62, 63, 64, 65, 66, 67, 68, 69, 70, 71, 72, 73, 74, 75, 76, 77, 78, 79, 80, 81, 82, 83, 84, 85, 86, 87, 88, 89, 90, 91, 92, 93, 94, 95, 96, 97, 98, 99, 100, 101, 102, 103, 104, 105, 106, 107, 108, 109, 110, 111, 112, 113, 114, 115, 116, 117, 118, 119, 120, 121, 122, 123, 124, 125, 126, 127, 128, 129, 130, 131, 132, 133, 134, 135, 136, 137, 138, 139, 140, 141, 142, 143, 144, 145, 146, 147, 148, 149, 150, 151, 152, 153, 154, 155, 156, 157, 158, 159, 160, 161, 162, 163, 164, 165, 166, 167, 168, 169, 170, 171, 172, 173, 174, 175, 176, 177, 178, 179, 180, 181, 182, 183, 184, 185, 186, 187, 188, 189, 190, 191, 192, 193, 194, 195, 196, 197] (by decide +kernel) (by decide +kernel)
set_option maxRecDepth 20000 in
theorem gX10_count_X10_usesOfFact : GoodIn wsX10_count (wsV RX10 243 RX10 yX10_usesOfFact wsX10_usesOfFact) := goodIn_app (goodIn_of _ (by decide +kernel)) ggX10_count_X10_usesOfFact
theorem dX10_count_0 : decode cX10_count 0 = .ok (.iload_n 1, 1) := by decide +kernel
theorem dX10_count_1 : decode cX10_count 1 = .ok (.tableswitch 92 0 5 #[39, 50, 61, 72, 80, 86], 39) := by decide +kernel
theorem dX10_count_40 : decode cX10_count 40 = .ok (.aload_n 0, 1) := by decide +kernel
theorem dX10_count_41 : decode cX10_count 41 = .ok (.getfield 45, 3) := by decide +kernel
theorem dX10_count_44 : decode cX10_count 44 = .ok (.getfield 110, 3) := by decide +kernel
theorem dX10_count_47 : decode cX10_count 47 = .ok (.getfield 122, 3) := by decide +kernel
theorem dX10_count_50 : decode cX10_count 50 = .ok (.ireturn, 1) := by decide +kernel
theorem dX10_count_51 : decode cX10_count 51 = .ok (.aload_n 0, 1) := by decide +kernel
theorem dX10_count_52 : decode cX10_count 52 = .ok (.getfield 45, 3) := by decide +kernel
theorem dX10_count_55 : decode cX10_count 55 = .ok (.getfield 110, 3) := by decide +kernel
theorem dX10_count_58 : decode cX10_count 58 = .ok (.getfield 157, 3) := by decide +kernel
theorem dX10_count_61 : decode cX10_count 61 = .ok (.ireturn, 1) := by decide +kernel
theorem dX10_count_62 : decode cX10_count 62 = .ok (.aload_n 0, 1) := by decide +kernel
theorem dX10_count_63 : decode cX10_count 63 = .ok (.getfield 45, 3) := by decide +kernel
theorem dX10_count_66 : decode cX10_count 66 = .ok (.getfield 110, 3) := by decide +kernel
theorem dX10_count_69 : decode cX10_count 69 = .ok (.getfield 176, 3) := by decide +kernel
theorem dX10_count_72 : decode cX10_count 72 = .ok (.ireturn, 1) := by decide +kernel
theorem dX10_count_73 : decode cX10_count 73 = .ok (.aload_n 0, 1) := by decide +kernel
theorem dX10_count_74 : decode cX10_count 74 = .ok (.getfield 45, 3) := by decide +kernel
theorem dX10_count_77 : decode cX10_count 77 = .ok (.getfield 240, 3) := by decide +kernel
theorem dX10_count_80 : decode cX10_count 80 = .ok (.ireturn, 1) := by decide +kernel
theorem dX10_count_81 : decode cX10_count 81 = .ok (.aload_n 0, 1) := by decide +kernel
theorem dX10_count_82 : decode cX10_count 82 = .ok (.iconst 3, 1) := by decide +kernel
theorem dX10_count_83 : decode cX10_count 83 = .ok (.invokevirtual 243, 3) := by decide +kernel
theorem dX10_count_86 : decode cX10_count 86 = .ok (.ireturn, 1) := by decide +kernel
theorem dX10_count_87 : decode cX10_count 87 = .ok (.aload_n 0, 1) := by decide +kernel
theorem dX10_count_88 : decode cX10_count 88 = .ok (.iconst 1, 1) := by decide +kernel
theorem dX10_count_89 : decode cX10_count 89 = .ok (.invokevirtual 243, 3) := by decide +kernel
theorem dX10_count_92 : decode cX10_count 92 = .ok (.ireturn, 1) := by decide +kernel
theorem dX10_count_93 : decode cX10_count 93 = .ok (.iconst (-1), 1) := by decide +kernel
theorem dX10_count_94 : decode cX10_count 94 = .ok (.ireturn, 1) := by decide +kernel
theorem dX10_putNumber_0 : decode cX10_putNumber 0 = .ok (.bipush 24, 2) := by decide +kernel
theorem dX10_putNumber_2 : decode cX10_putNumber 2 = .ok (.istore_n 2, 1) := by decide +kernel
theorem dX10_putNumber_3 : decode cX10_putNumber 3 = .ok (.iload_n 2, 1) := by decide +kernel
theorem dX10_putNumber_4 : decode cX10_putNumber 4 = .ok (.ifCond .lt 51, 3) := by decide +kernel
theorem dX10_putNumber_7 : decode cX10_putNumber 7 = .ok (.aload_n 0, 1) := by decide +kernel
theorem dX10_putNumber_8 : decode cX10_putNumber 8 = .ok (.getfield 87, 3) := by decide +kernel
theorem dX10_putNumber_11 : decode cX10_putNumber 11 = .ok (.ifCond .lt 38, 3) := by decide +kernel
theorem dX10_putNumber_14 : decode cX10_putNumber 14 = .ok (.aload_n 0, 1) := by decide +kernel
theorem dX10_putNumber_15 : decode cX10_putNumber 15 = .ok (.getfield 87, 3) := by decide +kernel
theorem dX10_putNumber_18 : decode cX10_putNumber 18 = .ok (.aload_n 0, 1) := by decide +kernel
theorem dX10_putNumber_19 : decode cX10_putNumber 19 = .ok (.getfield 9, 3) := by decide +kernel
theorem dX10_putNumber_22 : decode cX10_putNumber 22 = .ok (.arraylength, 1) := by decide +kernel
theorem dX10_putNumber_23 : decode cX10_putNumber 23 = .ok (.if_icmp .ge 26, 3) := by decide +kernel
theorem dX10_putNumber_26 : decode cX10_putNumber 26 = .ok (.aload_n 0, 1) := by decide +kernel
theorem dX10_putNumber_27 : decode cX10_putNumber 27 = .ok (.getfield 9, 3) := by decide +kernel
theorem dX10_putNumber_30 : decode cX10_putNumber 30 = .ok (.aload_n 0, 1) := by decide +kernel
theorem dX10_putNumber_31 : decode cX10_putNumber 31 = .ok (.getfield 87, 3) := by decide +kernel
theorem dX10_putNumber_34 : decode cX10_putNumber 34 = .ok (.iload_n 1, 1) := by decide +kernel
theorem dX10_putNumber_35 : decode cX10_putNumber 35 = .ok (.iload_n 2, 1) := by decide +kernel
theorem dX10_putNumber_36 : decode cX10_putNumber 36 = .ok (.ishr, 1) := by decide +kernel
theorem dX10_putNumber_37 : decode cX10_putNumber 37 = .ok (.i2b, 1) := by decide +kernel
theorem dX10_putNumber_38 : decode cX10_putNumber 38 = .ok (.bastore, 1) := by decide +kernel
theorem dX10_putNumber_39 : decode cX10_putNumber 39 = .ok (.aload_n 0, 1) := by decide +kernel
theorem dX10_putNumber_40 : decode cX10_putNumber 40 = .ok (.dup, 1) := by decide +kernel
theorem dX10_putNumber_41 : decode cX10_putNumber 41 = .ok (.getfield 87, 3) := by decide +kernel
theorem dX10_putNumber_44 : decode cX10_putNumber 44 = .ok (.iconst 1, 1) := by decide +kernel
theorem dX10_putNumber_45 : decode cX10_putNumber 45 = .ok (.iadd, 1) := by decide +kernel
theorem dX10_putNumber_46 : decode cX10_putNumber 46 = .ok (.putfield 87, 3) := by decide +kernel
theorem dX10_putNumber_49 : decode cX10_putNumber 49 = .ok (.iinc 2 (-8), 3) := by decide +kernel
theorem dX10_putNumber_52 : decode cX10_putNumber 52 = .ok (.goto (-49), 3) := by decide +kernel
theorem dX10_putNumber_55 : decode cX10_putNumber 55 = .ok (.return_, 1) := by decide +kernel
theorem dX10_forget_0 : decode cX10_forget 0 = .ok (.aload_n 0, 1) := by decide +kernel
theorem dX10_forget_1 : decode cX10_forget 1 = .ok (.getfield 54, 3) := by decide +kernel
theorem dX10_forget_4 : decode cX10_forget 4 = .ok (.iconst 1, 1) := by decide +kernel
theorem dX10_forget_5 : decode cX10_forget 5 = .ok (.putfield 246, 3) := by decide +kernel
theorem dX10_forget_8 : decode cX10_forget 8 = .ok (.aload_n 0, 1) := by decide +kernel
theorem dX10_forget_9 : decode cX10_forget 9 = .ok (.getfield 70, 3) := by decide +kernel
theorem dX10_forget_12 : decode cX10_forget 12 = .ok (.iconst 1, 1) := by decide +kernel
theorem dX10_forget_13 : decode cX10_forget 13 = .ok (.putfield 247, 3) := by decide +kernel
theorem dX10_forget_16 : decode cX10_forget 16 = .ok (.aload_n 0, 1) := by decide +kernel
theorem dX10_forget_17 : decode cX10_forget 17 = .ok (.getfield 79, 3) := by decide +kernel
theorem dX10_forget_20 : decode cX10_forget 20 = .ok (.iconst 1, 1) := by decide +kernel
theorem dX10_forget_21 : decode cX10_forget 21 = .ok (.putfield 221, 3) := by decide +kernel
theorem dX10_forget_24 : decode cX10_forget 24 = .ok (.return_, 1) := by decide +kernel
set_option maxRecDepth 20000 in
theorem ggX10_markIndex_X3_has : GoodIn wsX10_markIndex wsX3_has := goodIn_r _ [8, 9, 30, 31, 32, 33, 34, 35, 36, 37, 38, 39, 40, 41, 42, 43] (by decide +kernel) (by decide +kernel)
set_option maxRecDepth 20000 in
theorem gX10_markIndex_X3_has : GoodIn wsX10_markIndex (wsV RX10 125 RX3 yX3_has wsX3_has) := goodIn_app (goodIn_of _ (by decide +kernel)) ggX10_markIndex_X3_has
set_option maxRecDepth 20000 in
theorem ggX10_markIndex_X5_at : GoodIn wsX10_markIndex wsX5_at := goodIn_r _ [13] (by decide +kernel) (by decide +kernel)
set_option maxRecDepth 20000 in
theorem gX10_markIndex_X5_at : GoodIn wsX10_markIndex (va_wsS RX10 153 yX5_at wsX5_at) := goodIn_app (goodIn_of _ (by decide +kernel)) ggX10_markIndex_X5_at
theorem dX10_markIndex_0 : decode cX10_markIndex 0 = .ok (.iload_n 1, 1) := by decide +kernel
theorem dX10_markIndex_1 : decode cX10_markIndex 1 = .ok (.iconst 2, 1) := by decide +kernel
theorem dX10_markIndex_2 : decode cX10_markIndex 2 = .ok (.if_icmp .ne 21, 3) := by decide +kernel
theorem dX10_markIndex_5 : decode cX10_markIndex 5 = .ok (.iload_n 3, 1) := by decide +kernel
theorem dX10_markIndex_6 : decode cX10_markIndex 6 = .ok (.ifCond .eq 8, 3) := by decide +kernel
theorem dX10_markIndex_9 : decode cX10_markIndex 9 = .ok (.iload_n 3, 1) := by decide +kernel
theorem dX10_markIndex_10 : decode cX10_markIndex 10 = .ok (.iconst 1, 1) := by decide +kernel
theorem dX10_markIndex_11 : decode cX10_markIndex 11 = .ok (.if_icmp .ne 10, 3) := by decide +kernel
theorem dX10_markIndex_14 : decode cX10_markIndex 14 = .ok (.bipush 40, 2) := by decide +kernel
theorem dX10_markIndex_16 : decode cX10_markIndex 16 = .ok (.iload_n 3, 1) := by decide +kernel
theorem dX10_markIndex_17 : decode cX10_markIndex 17 = .ok (.iadd, 1) := by decide +kernel
theorem dX10_markIndex_18 : decode cX10_markIndex 18 = .ok (.goto 4, 3) := by decide +kernel
theorem dX10_markIndex_21 : decode cX10_markIndex 21 = .ok (.iconst (-1), 1) := by decide +kernel
theorem dX10_markIndex_22 : decode cX10_markIndex 22 = .ok (.ireturn, 1) := by decide +kernel
theorem dX10_markIndex_23 : decode cX10_markIndex 23 = .ok (.aload_n 0, 1) := by decide +kernel
theorem dX10_markIndex_24 : decode cX10_markIndex 24 = .ok (.getfield 45, 3) := by decide +kernel
theorem dX10_markIndex_27 : decode cX10_markIndex 27 = .ok (.getfield 110, 3) := by decide +kernel
theorem dX10_markIndex_30 : decode cX10_markIndex 30 = .ok (.iload_n 2, 1) := by decide +kernel
theorem dX10_markIndex_31 : decode cX10_markIndex 31 = .ok (.invokevirtual 125, 3) := by decide +kernel
theorem dX10_markIndex_34 : decode cX10_markIndex 34 = .ok (.ifCond .ne 5, 3) := by decide +kernel
theorem dX10_markIndex_37 : decode cX10_markIndex 37 = .ok (.iconst (-1), 1) := by decide +kernel
theorem dX10_markIndex_38 : decode cX10_markIndex 38 = .ok (.ireturn, 1) := by decide +kernel
theorem dX10_markIndex_39 : decode cX10_markIndex 39 = .ok (.iload_n 1, 1) := by decide +kernel
theorem dX10_markIndex_40 : decode cX10_markIndex 40 = .ok (.iconst 1, 1) := by decide +kernel
theorem dX10_markIndex_41 : decode cX10_markIndex 41 = .ok (.if_icmp .ne 8, 3) := by decide +kernel
theorem dX10_markIndex_44 : decode cX10_markIndex 44 = .ok (.bipush 32, 2) := by decide +kernel
theorem dX10_markIndex_46 : decode cX10_markIndex 46 = .ok (.iload_n 2, 1) := by decide +kernel
theorem dX10_markIndex_47 : decode cX10_markIndex 47 = .ok (.iadd, 1) := by decide +kernel
theorem dX10_markIndex_48 : decode cX10_markIndex 48 = .ok (.ireturn, 1) := by decide +kernel
theorem dX10_markIndex_49 : decode cX10_markIndex 49 = .ok (.iload_n 1, 1) := by decide +kernel
theorem dX10_markIndex_50 : decode cX10_markIndex 50 = .ok (.ifCond .ne 29, 3) := by decide +kernel
theorem dX10_markIndex_53 : decode cX10_markIndex 53 = .ok (.iload_n 3, 1) := by decide +kernel
theorem dX10_markIndex_54 : decode cX10_markIndex 54 = .ok (.ifCond .lt 25, 3) := by decide +kernel
theorem dX10_markIndex_57 : decode cX10_markIndex 57 = .ok (.iload_n 3, 1) := by decide +kernel
theorem dX10_markIndex_58 : decode cX10_markIndex 58 = .ok (.aload_n 0, 1) := by decide +kernel
theorem dX10_markIndex_59 : decode cX10_markIndex 59 = .ok (.getfield 45, 3) := by decide +kernel
theorem dX10_markIndex_62 : decode cX10_markIndex 62 = .ok (.getfield 110, 3) := by decide +kernel
theorem dX10_markIndex_65 : decode cX10_markIndex 65 = .ok (.getfield 248, 3) := by decide +kernel
theorem dX10_markIndex_68 : decode cX10_markIndex 68 = .ok (.iload_n 2, 1) := by decide +kernel
theorem dX10_markIndex_69 : decode cX10_markIndex 69 = .ok (.invokestatic 153, 3) := by decide +kernel
theorem dX10_markIndex_72 : decode cX10_markIndex 72 = .ok (.if_icmp .ge 7, 3) := by decide +kernel
theorem dX10_markIndex_75 : decode cX10_markIndex 75 = .ok (.iconst 1, 1) := by decide +kernel
theorem dX10_markIndex_76 : decode cX10_markIndex 76 = .ok (.goto 4, 3) := by decide +kernel
theorem dX10_markIndex_79 : decode cX10_markIndex 79 = .ok (.iconst 0, 1) := by decide +kernel
theorem dX10_markIndex_80 : decode cX10_markIndex 80 = .ok (.istore 4, 2) := by decide +kernel
theorem dX10_markIndex_82 : decode cX10_markIndex 82 = .ok (.iload 4, 2) := by decide +kernel
theorem dX10_markIndex_84 : decode cX10_markIndex 84 = .ok (.ifCond .eq 11, 3) := by decide +kernel
theorem dX10_markIndex_87 : decode cX10_markIndex 87 = .ok (.iload_n 2, 1) := by decide +kernel
theorem dX10_markIndex_88 : decode cX10_markIndex 88 = .ok (.iconst 4, 1) := by decide +kernel
theorem dX10_markIndex_89 : decode cX10_markIndex 89 = .ok (.imul, 1) := by decide +kernel
theorem dX10_markIndex_90 : decode cX10_markIndex 90 = .ok (.iload_n 3, 1) := by decide +kernel
theorem dX10_markIndex_91 : decode cX10_markIndex 91 = .ok (.iadd, 1) := by decide +kernel
theorem dX10_markIndex_92 : decode cX10_markIndex 92 = .ok (.goto 4, 3) := by decide +kernel
theorem dX10_markIndex_95 : decode cX10_markIndex 95 = .ok (.iconst (-1), 1) := by decide +kernel
theorem dX10_markIndex_96 : decode cX10_markIndex 96 = .ok (.ireturn, 1) := by decide +kernel
set_option maxRecDepth 20000 in
theorem ggX10_usesOfFact_X1_settle : GoodIn wsX10_usesOfFact wsX1_settle := goodIn_r _ [10, 11, 12, 13, 14, 15, 16, 17, 18, 19, 20, 21, 9, 22, 23, 24, 25, 26, 27, 28, 29, 30, 31, 32, 33, 34, 35, 36, 37, 38, 39, 40, 41, 42, 43, 44, 45, 46, 47, 48, 49, 50, 51, 52, 53, 54, 55, 56, 57, 58, 59, 60, 61, 62, 63, 64, 65, 66, 67, 68, 69, 70, 71, 72, 73, 74, 75, 76, 77, 78, 79, 80, 81, 82, 83, 84, 85, 86, 87, 88, 89, 90, 91, 92, 93, 94, 95, 96, 97, 98, 99, 100, 101, 102, 103, 104, 105, 106, 107, 108, 109, 110, 111, 112, 113, 114, 115, 116, 117, 118, 119, 120, 121, 122, 123, 124, 125, 126, 127, 128, 129, 130, 131, 132, 133, 134, 135, 136, 137, 138, 139, 140, 141, 142, 174, 175, 176, 177, 178, 179, 180, 181, 182, 183, 184, 185, 186, 187, 188, 189, 157, 158, 159, 160, 161, 162, 163, 164, 165, 166, 167, 168, 169, 170, 171, 172, 173] (by decide +kernel) (by decide +kernel)
set_option maxRecDepth 20000 in
theorem gX10_usesOfFact_X1_settle : GoodIn wsX10_usesOfFact (wsV RX10 146 RX1 yX1_settle wsX1_settle) := goodIn_app (goodIn_of _ (by decide +kernel)) ggX10_usesOfFact_X1_settle
set_option maxRecDepth 20000 in
theorem ggX10_usesOfFact_X5_at : GoodIn wsX10_usesOfFact wsX5_at := goodIn_r _ [65] (by decide +kernel) (by decide +kernel)
set_option maxRecDepth 20000 in
theorem gX10_usesOfFact_X5_at : GoodIn wsX10_usesOfFact (va_wsS RX10 153 yX5_at wsX5_at) := goodIn_app (goodIn_of _ (by decide +kernel)) ggX10_usesOfFact_X5_at
theorem dX10_usesOfFact_0 : decode cX10_usesOfFact 0 = .ok (.aload_n 0, 1) := by decide +kernel
theorem dX10_usesOfFact_1 : decode cX10_usesOfFact 1 = .ok (.getfield 54, 3) := by decide +kernel
theorem dX10_usesOfFact_4 : decode cX10_usesOfFact 4 = .ok (.lconst 0, 1) := by decide +kernel
theorem dX10_usesOfFact_5 : decode cX10_usesOfFact 5 = .ok (.invokevirtual 146, 3) := by decide +kernel
theorem dX10_usesOfFact_8 : decode cX10_usesOfFact 8 = .ok (.iconst 0, 1) := by decide +kernel
theorem dX10_usesOfFact_9 : decode cX10_usesOfFact 9 = .ok (.istore_n 2, 1) := by decide +kernel
theorem dX10_usesOfFact_10 : decode cX10_usesOfFact 10 = .ok (.iconst 0, 1) := by decide +kernel
theorem dX10_usesOfFact_11 : decode cX10_usesOfFact 11 = .ok (.istore_n 3, 1) := by decide +kernel
theorem dX10_usesOfFact_12 : decode cX10_usesOfFact 12 = .ok (.iload_n 3, 1) := by decide +kernel
theorem dX10_usesOfFact_13 : decode cX10_usesOfFact 13 = .ok (.aload_n 0, 1) := by decide +kernel
theorem dX10_usesOfFact_14 : decode cX10_usesOfFact 14 = .ok (.getfield 45, 3) := by decide +kernel
theorem dX10_usesOfFact_17 : decode cX10_usesOfFact 17 = .ok (.getfield 110, 3) := by decide +kernel
theorem dX10_usesOfFact_20 : decode cX10_usesOfFact 20 = .ok (.getfield 157, 3) := by decide +kernel
theorem dX10_usesOfFact_23 : decode cX10_usesOfFact 23 = .ok (.if_icmp .ge 27, 3) := by decide +kernel
theorem dX10_usesOfFact_26 : decode cX10_usesOfFact 26 = .ok (.aload_n 0, 1) := by decide +kernel
theorem dX10_usesOfFact_27 : decode cX10_usesOfFact 27 = .ok (.getfield 54, 3) := by decide +kernel
theorem dX10_usesOfFact_30 : decode cX10_usesOfFact 30 = .ok (.getfield 160, 3) := by decide +kernel
theorem dX10_usesOfFact_33 : decode cX10_usesOfFact 33 = .ok (.iload_n 3, 1) := by decide +kernel
theorem dX10_usesOfFact_34 : decode cX10_usesOfFact 34 = .ok (.invokestatic 153, 3) := by decide +kernel
theorem dX10_usesOfFact_37 : decode cX10_usesOfFact 37 = .ok (.iload_n 1, 1) := by decide +kernel
theorem dX10_usesOfFact_38 : decode cX10_usesOfFact 38 = .ok (.if_icmp .ne 6, 3) := by decide +kernel
theorem dX10_usesOfFact_41 : decode cX10_usesOfFact 41 = .ok (.iinc 2 1, 3) := by decide +kernel
theorem dX10_usesOfFact_44 : decode cX10_usesOfFact 44 = .ok (.iinc 3 1, 3) := by decide +kernel
theorem dX10_usesOfFact_47 : decode cX10_usesOfFact 47 = .ok (.goto (-35), 3) := by decide +kernel
theorem dX10_usesOfFact_50 : decode cX10_usesOfFact 50 = .ok (.iload_n 2, 1) := by decide +kernel
theorem dX10_usesOfFact_51 : decode cX10_usesOfFact 51 = .ok (.ireturn, 1) := by decide +kernel
theorem dX10_verdictOfUse_0 : decode cX10_verdictOfUse 0 = .ok (.iload_n 0, 1) := by decide +kernel
theorem dX10_verdictOfUse_1 : decode cX10_verdictOfUse 1 = .ok (.tableswitch 33 1 3 #[31, 27, 29], 27) := by decide +kernel
theorem dX10_verdictOfUse_28 : decode cX10_verdictOfUse 28 = .ok (.iconst 1, 1) := by decide +kernel
theorem dX10_verdictOfUse_29 : decode cX10_verdictOfUse 29 = .ok (.ireturn, 1) := by decide +kernel
theorem dX10_verdictOfUse_30 : decode cX10_verdictOfUse 30 = .ok (.iconst 2, 1) := by decide +kernel
theorem dX10_verdictOfUse_31 : decode cX10_verdictOfUse 31 = .ok (.ireturn, 1) := by decide +kernel
theorem dX10_verdictOfUse_32 : decode cX10_verdictOfUse 32 = .ok (.iconst 3, 1) := by decide +kernel
theorem dX10_verdictOfUse_33 : decode cX10_verdictOfUse 33 = .ok (.ireturn, 1) := by decide +kernel
theorem dX10_verdictOfUse_34 : decode cX10_verdictOfUse 34 = .ok (.iconst 0, 1) := by decide +kernel
theorem dX10_verdictOfUse_35 : decode cX10_verdictOfUse 35 = .ok (.ireturn, 1) := by decide +kernel
theorem dX10_verdictOfTest_0 : decode cX10_verdictOfTest 0 = .ok (.iload_n 0, 1) := by decide +kernel
theorem dX10_verdictOfTest_1 : decode cX10_verdictOfTest 1 = .ok (.tableswitch 33 0 2 #[31, 27, 29], 27) := by decide +kernel
theorem dX10_verdictOfTest_28 : decode cX10_verdictOfTest 28 = .ok (.iconst 1, 1) := by decide +kernel
theorem dX10_verdictOfTest_29 : decode cX10_verdictOfTest 29 = .ok (.ireturn, 1) := by decide +kernel
theorem dX10_verdictOfTest_30 : decode cX10_verdictOfTest 30 = .ok (.iconst 2, 1) := by decide +kernel
theorem dX10_verdictOfTest_31 : decode cX10_verdictOfTest 31 = .ok (.ireturn, 1) := by decide +kernel
theorem dX10_verdictOfTest_32 : decode cX10_verdictOfTest 32 = .ok (.iconst 3, 1) := by decide +kernel
theorem dX10_verdictOfTest_33 : decode cX10_verdictOfTest 33 = .ok (.ireturn, 1) := by decide +kernel
theorem dX10_verdictOfTest_34 : decode cX10_verdictOfTest 34 = .ok (.iconst 0, 1) := by decide +kernel
theorem dX10_verdictOfTest_35 : decode cX10_verdictOfTest 35 = .ok (.ireturn, 1) := by decide +kernel
theorem dX11_init_0 : decode cX11_init 0 = .ok (.aload_n 0, 1) := by decide +kernel
theorem dX11_init_1 : decode cX11_init 1 = .ok (.invokespecial 1, 3) := by decide +kernel
theorem dX11_init_4 : decode cX11_init 4 = .ok (.aload_n 0, 1) := by decide +kernel
theorem dX11_init_5 : decode cX11_init 5 = .ok (.sipush 1200, 3) := by decide +kernel
theorem dX11_init_8 : decode cX11_init 8 = .ok (.newarray .int, 2) := by decide +kernel
theorem dX11_init_10 : decode cX11_init 10 = .ok (.putfield 7, 3) := by decide +kernel
theorem dX11_init_13 : decode cX11_init 13 = .ok (.aload_n 0, 1) := by decide +kernel
theorem dX11_init_14 : decode cX11_init 14 = .ok (.iconst (-1), 1) := by decide +kernel
theorem dX11_init_15 : decode cX11_init 15 = .ok (.putfield 13, 3) := by decide +kernel
theorem dX11_init_18 : decode cX11_init 18 = .ok (.aload_n 0, 1) := by decide +kernel
theorem dX11_init_19 : decode cX11_init 19 = .ok (.sipush 2600, 3) := by decide +kernel
theorem dX11_init_22 : decode cX11_init 22 = .ok (.newarray .int, 2) := by decide +kernel
theorem dX11_init_24 : decode cX11_init 24 = .ok (.putfield 17, 3) := by decide +kernel
theorem dX11_init_27 : decode cX11_init 27 = .ok (.aload_n 0, 1) := by decide +kernel
theorem dX11_init_28 : decode cX11_init 28 = .ok (.sipush 2600, 3) := by decide +kernel
theorem dX11_init_31 : decode cX11_init 31 = .ok (.newarray .int, 2) := by decide +kernel
theorem dX11_init_33 : decode cX11_init 33 = .ok (.putfield 20, 3) := by decide +kernel
theorem dX11_init_36 : decode cX11_init 36 = .ok (.aload_n 0, 1) := by decide +kernel
theorem dX11_init_37 : decode cX11_init 37 = .ok (.sipush 2600, 3) := by decide +kernel
theorem dX11_init_40 : decode cX11_init 40 = .ok (.newarray .int, 2) := by decide +kernel
theorem dX11_init_42 : decode cX11_init 42 = .ok (.putfield 23, 3) := by decide +kernel
theorem dX11_init_45 : decode cX11_init 45 = .ok (.aload_n 0, 1) := by decide +kernel
theorem dX11_init_46 : decode cX11_init 46 = .ok (.sipush 2600, 3) := by decide +kernel
theorem dX11_init_49 : decode cX11_init 49 = .ok (.newarray .int, 2) := by decide +kernel
theorem dX11_init_51 : decode cX11_init 51 = .ok (.putfield 26, 3) := by decide +kernel
theorem dX11_init_54 : decode cX11_init 54 = .ok (.aload_n 0, 1) := by decide +kernel
theorem dX11_init_55 : decode cX11_init 55 = .ok (.sipush 2600, 3) := by decide +kernel
theorem dX11_init_58 : decode cX11_init 58 = .ok (.newarray .int, 2) := by decide +kernel
theorem dX11_init_60 : decode cX11_init 60 = .ok (.putfield 29, 3) := by decide +kernel
theorem dX11_init_63 : decode cX11_init 63 = .ok (.aload_n 0, 1) := by decide +kernel
theorem dX11_init_64 : decode cX11_init 64 = .ok (.bipush 16, 2) := by decide +kernel
theorem dX11_init_66 : decode cX11_init 66 = .ok (.newarray .int, 2) := by decide +kernel
theorem dX11_init_68 : decode cX11_init 68 = .ok (.putfield 32, 3) := by decide +kernel
theorem dX11_init_71 : decode cX11_init 71 = .ok (.aload_n 0, 1) := by decide +kernel
theorem dX11_init_72 : decode cX11_init 72 = .ok (.bipush 16, 2) := by decide +kernel
theorem dX11_init_74 : decode cX11_init 74 = .ok (.newarray .int, 2) := by decide +kernel
theorem dX11_init_76 : decode cX11_init 76 = .ok (.putfield 35, 3) := by decide +kernel
theorem dX11_init_79 : decode cX11_init 79 = .ok (.aload_n 0, 1) := by decide +kernel
theorem dX11_init_80 : decode cX11_init 80 = .ok (.bipush 64, 2) := by decide +kernel
theorem dX11_init_82 : decode cX11_init 82 = .ok (.newarray .int, 2) := by decide +kernel
theorem dX11_init_84 : decode cX11_init 84 = .ok (.putfield 38, 3) := by decide +kernel
theorem dX11_init_87 : decode cX11_init 87 = .ok (.aload_n 0, 1) := by decide +kernel
theorem dX11_init_88 : decode cX11_init 88 = .ok (.iconst 2, 1) := by decide +kernel
theorem dX11_init_89 : decode cX11_init 89 = .ok (.newarray .int, 2) := by decide +kernel
theorem dX11_init_91 : decode cX11_init 91 = .ok (.putfield 41, 3) := by decide +kernel
theorem dX11_init_94 : decode cX11_init 94 = .ok (.aload_n 0, 1) := by decide +kernel
theorem dX11_init_95 : decode cX11_init 95 = .ok (.bipush 82, 2) := by decide +kernel
theorem dX11_init_97 : decode cX11_init 97 = .ok (.newarray .int, 2) := by decide +kernel
theorem dX11_init_99 : decode cX11_init 99 = .ok (.putfield 44, 3) := by decide +kernel
theorem dX11_init_102 : decode cX11_init 102 = .ok (.aload_n 0, 1) := by decide +kernel
theorem dX11_init_103 : decode cX11_init 103 = .ok (.bipush 82, 2) := by decide +kernel
theorem dX11_init_105 : decode cX11_init 105 = .ok (.newarray .int, 2) := by decide +kernel
theorem dX11_init_107 : decode cX11_init 107 = .ok (.putfield 47, 3) := by decide +kernel
theorem dX11_init_110 : decode cX11_init 110 = .ok (.aload_n 0, 1) := by decide +kernel
theorem dX11_init_111 : decode cX11_init 111 = .ok (.bipush 82, 2) := by decide +kernel
theorem dX11_init_113 : decode cX11_init 113 = .ok (.newarray .int, 2) := by decide +kernel
theorem dX11_init_115 : decode cX11_init 115 = .ok (.putfield 50, 3) := by decide +kernel
theorem dX11_init_118 : decode cX11_init 118 = .ok (.aload_n 0, 1) := by decide +kernel
theorem dX11_init_119 : decode cX11_init 119 = .ok (.iconst 2, 1) := by decide +kernel
theorem dX11_init_120 : decode cX11_init 120 = .ok (.newarray .int, 2) := by decide +kernel
theorem dX11_init_122 : decode cX11_init 122 = .ok (.putfield 53, 3) := by decide +kernel
theorem dX11_init_125 : decode cX11_init 125 = .ok (.aload_n 0, 1) := by decide +kernel
theorem dX11_init_126 : decode cX11_init 126 = .ok (.bipush 50, 2) := by decide +kernel
theorem dX11_init_128 : decode cX11_init 128 = .ok (.newarray .int, 2) := by decide +kernel
theorem dX11_init_130 : decode cX11_init 130 = .ok (.putfield 56, 3) := by decide +kernel
theorem dX11_init_133 : decode cX11_init 133 = .ok (.aload_n 0, 1) := by decide +kernel
theorem dX11_init_134 : decode cX11_init 134 = .ok (.bipush 50, 2) := by decide +kernel
theorem dX11_init_136 : decode cX11_init 136 = .ok (.newarray .int, 2) := by decide +kernel
theorem dX11_init_138 : decode cX11_init 138 = .ok (.putfield 59, 3) := by decide +kernel
theorem dX11_init_141 : decode cX11_init 141 = .ok (.aload_n 0, 1) := by decide +kernel
theorem dX11_init_142 : decode cX11_init 142 = .ok (.iconst 2, 1) := by decide +kernel
theorem dX11_init_143 : decode cX11_init 143 = .ok (.newarray .int, 2) := by decide +kernel
theorem dX11_init_145 : decode cX11_init 145 = .ok (.putfield 62, 3) := by decide +kernel
theorem dX11_init_148 : decode cX11_init 148 = .ok (.aload_n 0, 1) := by decide +kernel
theorem dX11_init_149 : decode cX11_init 149 = .ok (.sipush 400, 3) := by decide +kernel
theorem dX11_init_152 : decode cX11_init 152 = .ok (.newarray .int, 2) := by decide +kernel
theorem dX11_init_154 : decode cX11_init 154 = .ok (.putfield 65, 3) := by decide +kernel
theorem dX11_init_157 : decode cX11_init 157 = .ok (.aload_n 0, 1) := by decide +kernel
theorem dX11_init_158 : decode cX11_init 158 = .ok (.sipush 400, 3) := by decide +kernel
theorem dX11_init_161 : decode cX11_init 161 = .ok (.newarray .int, 2) := by decide +kernel
theorem dX11_init_163 : decode cX11_init 163 = .ok (.putfield 68, 3) := by decide +kernel
theorem dX11_init_166 : decode cX11_init 166 = .ok (.aload_n 0, 1) := by decide +kernel
theorem dX11_init_167 : decode cX11_init 167 = .ok (.sipush 400, 3) := by decide +kernel
theorem dX11_init_170 : decode cX11_init 170 = .ok (.newarray .int, 2) := by decide +kernel
theorem dX11_init_172 : decode cX11_init 172 = .ok (.putfield 71, 3) := by decide +kernel
theorem dX11_init_175 : decode cX11_init 175 = .ok (.aload_n 0, 1) := by decide +kernel
theorem dX11_init_176 : decode cX11_init 176 = .ok (.bipush 8, 2) := by decide +kernel
theorem dX11_init_178 : decode cX11_init 178 = .ok (.newarray .int, 2) := by decide +kernel
theorem dX11_init_180 : decode cX11_init 180 = .ok (.putfield 74, 3) := by decide +kernel
theorem dX11_init_183 : decode cX11_init 183 = .ok (.aload_n 0, 1) := by decide +kernel
theorem dX11_init_184 : decode cX11_init 184 = .ok (.bipush 8, 2) := by decide +kernel
theorem dX11_init_186 : decode cX11_init 186 = .ok (.newarray .int, 2) := by decide +kernel
theorem dX11_init_188 : decode cX11_init 188 = .ok (.putfield 77, 3) := by decide +kernel
theorem dX11_init_191 : decode cX11_init 191 = .ok (.aload_n 0, 1) := by decide +kernel
theorem dX11_init_192 : decode cX11_init 192 = .ok (.bipush 8, 2) := by decide +kernel
theorem dX11_init_194 : decode cX11_init 194 = .ok (.newarray .int, 2) := by decide +kernel
theorem dX11_init_196 : decode cX11_init 196 = .ok (.putfield 80, 3) := by decide +kernel
theorem dX11_init_199 : decode cX11_init 199 = .ok (.aload_n 0, 1) := by decide +kernel
theorem dX11_init_200 : decode cX11_init 200 = .ok (.iconst (-1), 1) := by decide +kernel
theorem dX11_init_201 : decode cX11_init 201 = .ok (.putfield 83, 3) := by decide +kernel
theorem dX11_init_204 : decode cX11_init 204 = .ok (.aload_n 0, 1) := by decide +kernel
theorem dX11_init_205 : decode cX11_init 205 = .ok (.iconst 4, 1) := by decide +kernel
theorem dX11_init_206 : decode cX11_init 206 = .ok (.newarray .int, 2) := by decide +kernel
theorem dX11_init_208 : decode cX11_init 208 = .ok (.putfield 86, 3) := by decide +kernel
theorem dX11_init_211 : decode cX11_init 211 = .ok (.aload_n 0, 1) := by decide +kernel
theorem dX11_init_212 : decode cX11_init 212 = .ok (.sipush 1300, 3) := by decide +kernel
theorem dX11_init_215 : decode cX11_init 215 = .ok (.newarray .long, 2) := by decide +kernel
theorem dX11_init_217 : decode cX11_init 217 = .ok (.putfield 89, 3) := by decide +kernel
theorem dX11_init_220 : decode cX11_init 220 = .ok (.aload_n 0, 1) := by decide +kernel
theorem dX11_init_221 : decode cX11_init 221 = .ok (.bipush 42, 2) := by decide +kernel
theorem dX11_init_223 : decode cX11_init 223 = .ok (.newarray .int, 2) := by decide +kernel
theorem dX11_init_225 : decode cX11_init 225 = .ok (.putfield 93, 3) := by decide +kernel
theorem dX11_init_228 : decode cX11_init 228 = .ok (.aload_n 0, 1) := by decide +kernel
theorem dX11_init_229 : decode cX11_init 229 = .ok (.bipush 42, 2) := by decide +kernel
theorem dX11_init_231 : decode cX11_init 231 = .ok (.newarray .boolean, 2) := by decide +kernel
theorem dX11_init_233 : decode cX11_init 233 = .ok (.putfield 96, 3) := by decide +kernel
theorem dX11_init_236 : decode cX11_init 236 = .ok (.aload_n 0, 1) := by decide +kernel
theorem dX11_init_237 : decode cX11_init 237 = .ok (.bipush 25, 2) := by decide +kernel
theorem dX11_init_239 : decode cX11_init 239 = .ok (.newarray .int, 2) := by decide +kernel
theorem dX11_init_241 : decode cX11_init 241 = .ok (.putfield 100, 3) := by decide +kernel
theorem dX11_init_244 : decode cX11_init 244 = .ok (.aload_n 0, 1) := by decide +kernel
theorem dX11_init_245 : decode cX11_init 245 = .ok (.sipush 602, 3) := by decide +kernel
theorem dX11_init_248 : decode cX11_init 248 = .ok (.newarray .int, 2) := by decide +kernel
theorem dX11_init_250 : decode cX11_init 250 = .ok (.putfield 103, 3) := by decide +kernel
theorem dX11_init_253 : decode cX11_init 253 = .ok (.aload_n 0, 1) := by decide +kernel
theorem dX11_init_254 : decode cX11_init 254 = .ok (.sipush 364, 3) := by decide +kernel
theorem dX11_init_257 : decode cX11_init 257 = .ok (.newarray .int, 2) := by decide +kernel
theorem dX11_init_259 : decode cX11_init 259 = .ok (.putfield 106, 3) := by decide +kernel
theorem dX11_init_262 : decode cX11_init 262 = .ok (.aload_n 0, 1) := by decide +kernel
theorem dX11_init_263 : decode cX11_init 263 = .ok (.bipush 14, 2) := by decide +kernel
theorem dX11_init_265 : decode cX11_init 265 = .ok (.newarray .int, 2) := by decide +kernel
theorem dX11_init_267 : decode cX11_init 267 = .ok (.putfield 109, 3) := by decide +kernel
theorem dX11_init_270 : decode cX11_init 270 = .ok (.aload_n 0, 1) := by decide +kernel
theorem dX11_init_271 : decode cX11_init 271 = .ok (.iconst 4, 1) := by decide +kernel
theorem dX11_init_272 : decode cX11_init 272 = .ok (.newarray .int, 2) := by decide +kernel
theorem dX11_init_274 : decode cX11_init 274 = .ok (.putfield 112, 3) := by decide +kernel
theorem dX11_init_277 : decode cX11_init 277 = .ok (.aload_n 0, 1) := by decide +kernel
theorem dX11_init_278 : decode cX11_init 278 = .ok (.bipush 10, 2) := by decide +kernel
theorem dX11_init_280 : decode cX11_init 280 = .ok (.newarray .int, 2) := by decide +kernel
theorem dX11_init_282 : decode cX11_init 282 = .ok (.putfield 115, 3) := by decide +kernel
theorem dX11_init_285 : decode cX11_init 285 = .ok (.aload_n 0, 1) := by decide +kernel
theorem dX11_init_286 : decode cX11_init 286 = .ok (.bipush 10, 2) := by decide +kernel
theorem dX11_init_288 : decode cX11_init 288 = .ok (.newarray .int, 2) := by decide +kernel
theorem dX11_init_290 : decode cX11_init 290 = .ok (.putfield 118, 3) := by decide +kernel
theorem dX11_init_293 : decode cX11_init 293 = .ok (.iconst 0, 1) := by decide +kernel
theorem dX11_init_294 : decode cX11_init 294 = .ok (.istore_n 1, 1) := by decide +kernel
theorem dX11_init_295 : decode cX11_init 295 = .ok (.iload_n 1, 1) := by decide +kernel
theorem dX11_init_296 : decode cX11_init 296 = .ok (.bipush 16, 2) := by decide +kernel
theorem dX11_init_298 : decode cX11_init 298 = .ok (.if_icmp .ge 16, 3) := by decide +kernel
theorem dX11_init_301 : decode cX11_init 301 = .ok (.aload_n 0, 1) := by decide +kernel
theorem dX11_init_302 : decode cX11_init 302 = .ok (.getfield 32, 3) := by decide +kernel
theorem dX11_init_305 : decode cX11_init 305 = .ok (.iload_n 1, 1) := by decide +kernel
theorem dX11_init_306 : decode cX11_init 306 = .ok (.iconst (-1), 1) := by decide +kernel
theorem dX11_init_307 : decode cX11_init 307 = .ok (.iastore, 1) := by decide +kernel
theorem dX11_init_308 : decode cX11_init 308 = .ok (.iinc 1 1, 3) := by decide +kernel
theorem dX11_init_311 : decode cX11_init 311 = .ok (.goto (-16), 3) := by decide +kernel
theorem dX11_init_314 : decode cX11_init 314 = .ok (.aload_n 0, 1) := by decide +kernel
theorem dX11_init_315 : decode cX11_init 315 = .ok (.getfield 112, 3) := by decide +kernel
theorem dX11_init_318 : decode cX11_init 318 = .ok (.iconst 0, 1) := by decide +kernel
theorem dX11_init_319 : decode cX11_init 319 = .ok (.iconst 3, 1) := by decide +kernel
theorem dX11_init_320 : decode cX11_init 320 = .ok (.iastore, 1) := by decide +kernel
theorem dX11_init_321 : decode cX11_init 321 = .ok (.aload_n 0, 1) := by decide +kernel
theorem dX11_init_322 : decode cX11_init 322 = .ok (.getfield 112, 3) := by decide +kernel
theorem dX11_init_325 : decode cX11_init 325 = .ok (.iconst 1, 1) := by decide +kernel
theorem dX11_init_326 : decode cX11_init 326 = .ok (.iconst 2, 1) := by decide +kernel
theorem dX11_init_327 : decode cX11_init 327 = .ok (.iastore, 1) := by decide +kernel
theorem dX11_init_328 : decode cX11_init 328 = .ok (.aload_n 0, 1) := by decide +kernel
theorem dX11_init_329 : decode cX11_init 329 = .ok (.getfield 112, 3) := by decide +kernel
theorem dX11_init_332 : decode cX11_init 332 = .ok (.iconst 2, 1) := by decide +kernel
theorem dX11_init_333 : decode cX11_init 333 = .ok (.iconst 5, 1) := by decide +kernel
theorem dX11_init_334 : decode cX11_init 334 = .ok (.iastore, 1) := by decide +kernel
theorem dX11_init_335 : decode cX11_init 335 = .ok (.aload_n 0, 1) := by decide +kernel
theorem dX11_init_336 : decode cX11_init 336 = .ok (.getfield 112, 3) := by decide +kernel
theorem dX11_init_339 : decode cX11_init 339 = .ok (.iconst 3, 1) := by decide +kernel
theorem dX11_init_340 : decode cX11_init 340 = .ok (.iconst 4, 1) := by decide +kernel
theorem dX11_init_341 : decode cX11_init 341 = .ok (.iastore, 1) := by decide +kernel
theorem dX11_init_342 : decode cX11_init 342 = .ok (.return_, 1) := by decide +kernel
theorem dX11_feed_0 : decode cX11_feed 0 = .ok (.aload_n 0, 1) := by decide +kernel
theorem dX11_feed_1 : decode cX11_feed 1 = .ok (.iconst 0, 1) := by decide +kernel
theorem dX11_feed_2 : decode cX11_feed 2 = .ok (.putfield 121, 3) := by decide +kernel
theorem dX11_feed_5 : decode cX11_feed 5 = .ok (.aload_n 0, 1) := by decide +kernel
theorem dX11_feed_6 : decode cX11_feed 6 = .ok (.getfield 124, 3) := by decide +kernel
theorem dX11_feed_9 : decode cX11_feed 9 = .ok (.sipush 1180, 3) := by decide +kernel
theorem dX11_feed_12 : decode cX11_feed 12 = .ok (.if_icmp .le 5, 3) := by decide +kernel
theorem dX11_feed_15 : decode cX11_feed 15 = .ok (.iconst (-1), 1) := by decide +kernel
theorem dX11_feed_16 : decode cX11_feed 16 = .ok (.ireturn, 1) := by decide +kernel
theorem dX11_feed_17 : decode cX11_feed 17 = .ok (.iconst 0, 1) := by decide +kernel
theorem dX11_feed_18 : decode cX11_feed 18 = .ok (.istore 6, 2) := by decide +kernel
theorem dX11_feed_20 : decode cX11_feed 20 = .ok (.iload 6, 2) := by decide +kernel
theorem dX11_feed_22 : decode cX11_feed 22 = .ok (.bipush 20, 2) := by decide +kernel
theorem dX11_feed_24 : decode cX11_feed 24 = .ok (.if_icmp .ge 86, 3) := by decide +kernel
theorem dX11_feed_27 : decode cX11_feed 27 = .ok (.iload 6, 2) := by decide +kernel
theorem dX11_feed_29 : decode cX11_feed 29 = .ok (.iconst 4, 1) := by decide +kernel
theorem dX11_feed_30 : decode cX11_feed 30 = .ok (.if_icmp .ge 7, 3) := by decide +kernel
theorem dX11_feed_33 : decode cX11_feed 33 = .ok (.iload_n 1, 1) := by decide +kernel
theorem dX11_feed_34 : decode cX11_feed 34 = .ok (.goto 39, 3) := by decide +kernel
theorem dX11_feed_37 : decode cX11_feed 37 = .ok (.iload 6, 2) := by decide +kernel
theorem dX11_feed_39 : decode cX11_feed 39 = .ok (.bipush 8, 2) := by decide +kernel
theorem dX11_feed_41 : decode cX11_feed 41 = .ok (.if_icmp .ge 7, 3) := by decide +kernel
theorem dX11_feed_44 : decode cX11_feed 44 = .ok (.iload_n 2, 1) := by decide +kernel
theorem dX11_feed_45 : decode cX11_feed 45 = .ok (.goto 28, 3) := by decide +kernel
theorem dX11_feed_48 : decode cX11_feed 48 = .ok (.iload 6, 2) := by decide +kernel
theorem dX11_feed_50 : decode cX11_feed 50 = .ok (.bipush 12, 2) := by decide +kernel
theorem dX11_feed_52 : decode cX11_feed 52 = .ok (.if_icmp .ge 7, 3) := by decide +kernel
theorem dX11_feed_55 : decode cX11_feed 55 = .ok (.iload_n 3, 1) := by decide +kernel
theorem dX11_feed_56 : decode cX11_feed 56 = .ok (.goto 17, 3) := by decide +kernel
theorem dX11_feed_59 : decode cX11_feed 59 = .ok (.iload 6, 2) := by decide +kernel
theorem dX11_feed_61 : decode cX11_feed 61 = .ok (.bipush 16, 2) := by decide +kernel
theorem dX11_feed_63 : decode cX11_feed 63 = .ok (.if_icmp .ge 8, 3) := by decide +kernel
theorem dX11_feed_66 : decode cX11_feed 66 = .ok (.iload 4, 2) := by decide +kernel
theorem dX11_feed_68 : decode cX11_feed 68 = .ok (.goto 5, 3) := by decide +kernel
theorem dX11_feed_71 : decode cX11_feed 71 = .ok (.iload 5, 2) := by decide +kernel
theorem dX11_feed_73 : decode cX11_feed 73 = .ok (.istore 7, 2) := by decide +kernel
theorem dX11_feed_75 : decode cX11_feed 75 = .ok (.aload_n 0, 1) := by decide +kernel
theorem dX11_feed_76 : decode cX11_feed 76 = .ok (.getfield 7, 3) := by decide +kernel
theorem dX11_feed_79 : decode cX11_feed 79 = .ok (.aload_n 0, 1) := by decide +kernel
theorem dX11_feed_80 : decode cX11_feed 80 = .ok (.getfield 124, 3) := by decide +kernel
theorem dX11_feed_83 : decode cX11_feed 83 = .ok (.iload 6, 2) := by decide +kernel
theorem dX11_feed_85 : decode cX11_feed 85 = .ok (.iadd, 1) := by decide +kernel
theorem dX11_feed_86 : decode cX11_feed 86 = .ok (.iload 7, 2) := by decide +kernel
theorem dX11_feed_88 : decode cX11_feed 88 = .ok (.bipush 24, 2) := by decide +kernel
theorem dX11_feed_90 : decode cX11_feed 90 = .ok (.bipush 8, 2) := by decide +kernel
theorem dX11_feed_92 : decode cX11_feed 92 = .ok (.iload 6, 2) := by decide +kernel
theorem dX11_feed_94 : decode cX11_feed 94 = .ok (.iconst 4, 1) := by decide +kernel
theorem dX11_feed_95 : decode cX11_feed 95 = .ok (.irem, 1) := by decide +kernel
theorem dX11_feed_96 : decode cX11_feed 96 = .ok (.imul, 1) := by decide +kernel
theorem dX11_feed_97 : decode cX11_feed 97 = .ok (.isub, 1) := by decide +kernel
theorem dX11_feed_98 : decode cX11_feed 98 = .ok (.ishr, 1) := by decide +kernel
theorem dX11_feed_99 : decode cX11_feed 99 = .ok (.sipush 255, 3) := by decide +kernel
theorem dX11_feed_102 : decode cX11_feed 102 = .ok (.iand, 1) := by decide +kernel
theorem dX11_feed_103 : decode cX11_feed 103 = .ok (.iastore, 1) := by decide +kernel
theorem dX11_feed_104 : decode cX11_feed 104 = .ok (.iinc 6 1, 3) := by decide +kernel
theorem dX11_feed_107 : decode cX11_feed 107 = .ok (.goto (-87), 3) := by decide +kernel
theorem dX11_feed_110 : decode cX11_feed 110 = .ok (.aload_n 0, 1) := by decide +kernel
theorem dX11_feed_111 : decode cX11_feed 111 = .ok (.dup, 1) := by decide +kernel
theorem dX11_feed_112 : decode cX11_feed 112 = .ok (.getfield 124, 3) := by decide +kernel
theorem dX11_feed_115 : decode cX11_feed 115 = .ok (.bipush 20, 2) := by decide +kernel
theorem dX11_feed_117 : decode cX11_feed 117 = .ok (.iadd, 1) := by decide +kernel
theorem dX11_feed_118 : decode cX11_feed 118 = .ok (.putfield 124, 3) := by decide +kernel
theorem dX11_feed_121 : decode cX11_feed 121 = .ok (.aload_n 0, 1) := by decide +kernel
theorem dX11_feed_122 : decode cX11_feed 122 = .ok (.getfield 124, 3) := by decide +kernel
theorem dX11_feed_125 : decode cX11_feed 125 = .ok (.ireturn, 1) := by decide +kernel
theorem dX11_here_0 : decode cX11_here 0 = .ok (.aload_n 0, 1) := by decide +kernel
theorem dX11_here_1 : decode cX11_here 1 = .ok (.getfield 127, 3) := by decide +kernel
theorem dX11_here_4 : decode cX11_here 4 = .ok (.aload_n 0, 1) := by decide +kernel
theorem dX11_here_5 : decode cX11_here 5 = .ok (.getfield 130, 3) := by decide +kernel
theorem dX11_here_8 : decode cX11_here 8 = .ok (.if_icmp .ge 15, 3) := by decide +kernel
theorem dX11_here_11 : decode cX11_here 11 = .ok (.aload_n 0, 1) := by decide +kernel
theorem dX11_here_12 : decode cX11_here 12 = .ok (.getfield 7, 3) := by decide +kernel
theorem dX11_here_15 : decode cX11_here 15 = .ok (.aload_n 0, 1) := by decide +kernel
theorem dX11_here_16 : decode cX11_here 16 = .ok (.getfield 127, 3) := by decide +kernel
theorem dX11_here_19 : decode cX11_here 19 = .ok (.iaload, 1) := by decide +kernel
theorem dX11_here_20 : decode cX11_here 20 = .ok (.goto 4, 3) := by decide +kernel
theorem dX11_here_23 : decode cX11_here 23 = .ok (.iconst (-1), 1) := by decide +kernel
theorem dX11_here_24 : decode cX11_here 24 = .ok (.ireturn, 1) := by decide +kernel
theorem dX11_isSmall_0 : decode cX11_isSmall 0 = .ok (.iload_n 0, 1) := by decide +kernel
theorem dX11_isSmall_1 : decode cX11_isSmall 1 = .ok (.bipush 97, 2) := by decide +kernel
theorem dX11_isSmall_3 : decode cX11_isSmall 3 = .ok (.if_icmp .lt 13, 3) := by decide +kernel
theorem dX11_isSmall_6 : decode cX11_isSmall 6 = .ok (.iload_n 0, 1) := by decide +kernel
theorem dX11_isSmall_7 : decode cX11_isSmall 7 = .ok (.bipush 122, 2) := by decide +kernel
theorem dX11_isSmall_9 : decode cX11_isSmall 9 = .ok (.if_icmp .gt 7, 3) := by decide +kernel
theorem dX11_isSmall_12 : decode cX11_isSmall 12 = .ok (.iconst 1, 1) := by decide +kernel
theorem dX11_isSmall_13 : decode cX11_isSmall 13 = .ok (.goto 4, 3) := by decide +kernel
theorem dX11_isSmall_16 : decode cX11_isSmall 16 = .ok (.iconst 0, 1) := by decide +kernel
theorem dX11_isSmall_17 : decode cX11_isSmall 17 = .ok (.ireturn, 1) := by decide +kernel
set_option maxRecDepth 20000 in
theorem ggX11_next_X11_here : GoodIn wsX11_next wsX11_here := goodIn_r _ [9, 1, 10, 11, 68, 69, 70, 71, 72, 73, 74, 75, 76, 77, 78, 79, 80, 81, 82, 83, 84, 85, 86, 87, 88, 89, 90, 91, 92, 93, 94, 95, 96, 97, 98, 99, 100, 101, 102, 103, 104, 105, 106, 107, 108, 109, 110, 111, 112, 113, 114, 115, 116, 117, 118, 119, 120, 121, 122, 123, 124, 125, 126, 127, 128, 129, 130, 131, 132, 133, 134, 135] (by decide +kernel) (by decide +kernel)
set_option maxRecDepth 20000 in
theorem gX11_next_X11_here : GoodIn wsX11_next (wsV RX11 133 RX11 yX11_here wsX11_here) := goodIn_app (goodIn_of _ (by decide +kernel)) ggX11_next_X11_here
set_option maxRecDepth 20000 in
theorem ggX11_next_X11_isSmall : GoodIn wsX11_next wsX11_isSmall := goodIn_r _ [14] (by decide +kernel) (by decide +kernel)
set_option maxRecDepth 20000 in
theorem gX11_next_X11_isSmall : GoodIn wsX11_next (va_wsS RX11 143 yX11_isSmall wsX11_isSmall) := goodIn_app (goodIn_of _ (by decide +kernel)) ggX11_next_X11_isSmall
set_option maxRecDepth 20000 in
theorem ggX11_next_X11_wordOf : GoodIn wsX11_next wsX11_wordOf := goodIn_r _ [18, 2, 1, 11, 19, 20, 21, 22, 23, 24, 25, 26, 27, 28, 29, 30, 31, 32, 33, 34, 35, 36, 37, 38, 39, 40, 41, 42, 43, 44, 45, 46, 47, 48, 49, 50, 51, 52, 53, 54, 55, 56, 57, 58, 59, 60, 61, 62, 63, 64, 65, 66, 67, 68, 69, 70, 71, 72, 73, 74, 75, 76, 77, 78, 79, 80, 81, 82, 83, 84, 85, 86, 87, 88, 89, 90, 91, 92, 93, 94, 95, 96, 97, 98, 99, 100, 101, 102, 103, 104, 105, 106, 107, 108, 109, 110, 111, 112, 113, 114, 115, 116, 117, 118, 119, 120, 121, 122, 123, 124, 125, 126, 127, 128, 129, 130, 131, 132, 133, 134, 135] (by decide +kernel) (by decide +kernel)
set_option maxRecDepth 20000 in
theorem gX11_next_X11_wordOf : GoodIn wsX11_next (wsV RX11 147 RX11 yX11_wordOf wsX11_wordOf) := goodIn_app (goodIn_of _ (by decide +kernel)) ggX11_next_X11_wordOf
theorem dX11_next_0 : decode cX11_next 0 = .ok (.aload_n 0, 1) := by decide +kernel
theorem dX11_next_1 : decode cX11_next 1 = .ok (.invokevirtual 133, 3) := by decide +kernel
theorem dX11_next_4 : decode cX11_next 4 = .ok (.bipush 10, 2) := by decide +kernel
theorem dX11_next_6 : decode cX11_next 6 = .ok (.if_icmp .eq 12, 3) := by decide +kernel
theorem dX11_next_9 : decode cX11_next 9 = .ok (.aload_n 0, 1) := by decide +kernel
theorem dX11_next_10 : decode cX11_next 10 = .ok (.invokevirtual 133, 3) := by decide +kernel
theorem dX11_next_13 : decode cX11_next 13 = .ok (.bipush 32, 2) := by decide +kernel
theorem dX11_next_15 : decode cX11_next 15 = .ok (.if_icmp .ne 16, 3) := by decide +kernel
theorem dX11_next_18 : decode cX11_next 18 = .ok (.aload_n 0, 1) := by decide +kernel
theorem dX11_next_19 : decode cX11_next 19 = .ok (.dup, 1) := by decide +kernel
theorem dX11_next_20 : decode cX11_next 20 = .ok (.getfield 127, 3) := by decide +kernel
theorem dX11_next_23 : decode cX11_next 23 = .ok (.iconst 1, 1) := by decide +kernel
theorem dX11_next_24 : decode cX11_next 24 = .ok (.iadd, 1) := by decide +kernel
theorem dX11_next_25 : decode cX11_next 25 = .ok (.putfield 127, 3) := by decide +kernel
theorem dX11_next_28 : decode cX11_next 28 = .ok (.goto (-28), 3) := by decide +kernel
theorem dX11_next_31 : decode cX11_next 31 = .ok (.aload_n 0, 1) := by decide +kernel
theorem dX11_next_32 : decode cX11_next 32 = .ok (.aload_n 0, 1) := by decide +kernel
theorem dX11_next_33 : decode cX11_next 33 = .ok (.getfield 127, 3) := by decide +kernel
theorem dX11_next_36 : decode cX11_next 36 = .ok (.putfield 137, 3) := by decide +kernel
theorem dX11_next_39 : decode cX11_next 39 = .ok (.aload_n 0, 1) := by decide +kernel
theorem dX11_next_40 : decode cX11_next 40 = .ok (.invokevirtual 133, 3) := by decide +kernel
theorem dX11_next_43 : decode cX11_next 43 = .ok (.istore_n 1, 1) := by decide +kernel
theorem dX11_next_44 : decode cX11_next 44 = .ok (.iload_n 1, 1) := by decide +kernel
theorem dX11_next_45 : decode cX11_next 45 = .ok (.iconst (-1), 1) := by decide +kernel
theorem dX11_next_46 : decode cX11_next 46 = .ok (.if_icmp .ne 11, 3) := by decide +kernel
theorem dX11_next_49 : decode cX11_next 49 = .ok (.aload_n 0, 1) := by decide +kernel
theorem dX11_next_50 : decode cX11_next 50 = .ok (.iconst 4, 1) := by decide +kernel
theorem dX11_next_51 : decode cX11_next 51 = .ok (.putfield 140, 3) := by decide +kernel
theorem dX11_next_54 : decode cX11_next 54 = .ok (.goto 215, 3) := by decide +kernel
theorem dX11_next_57 : decode cX11_next 57 = .ok (.iload_n 1, 1) := by decide +kernel
theorem dX11_next_58 : decode cX11_next 58 = .ok (.invokestatic 143, 3) := by decide +kernel
theorem dX11_next_61 : decode cX11_next 61 = .ok (.ifCond .eq 91, 3) := by decide +kernel
theorem dX11_next_64 : decode cX11_next 64 = .ok (.aload_n 0, 1) := by decide +kernel
theorem dX11_next_65 : decode cX11_next 65 = .ok (.invokevirtual 133, 3) := by decide +kernel
theorem dX11_next_68 : decode cX11_next 68 = .ok (.invokestatic 143, 3) := by decide +kernel
theorem dX11_next_71 : decode cX11_next 71 = .ok (.ifCond .eq 16, 3) := by decide +kernel
theorem dX11_next_74 : decode cX11_next 74 = .ok (.aload_n 0, 1) := by decide +kernel
theorem dX11_next_75 : decode cX11_next 75 = .ok (.dup, 1) := by decide +kernel
theorem dX11_next_76 : decode cX11_next 76 = .ok (.getfield 127, 3) := by decide +kernel
theorem dX11_next_79 : decode cX11_next 79 = .ok (.iconst 1, 1) := by decide +kernel
theorem dX11_next_80 : decode cX11_next 80 = .ok (.iadd, 1) := by decide +kernel
theorem dX11_next_81 : decode cX11_next 81 = .ok (.putfield 127, 3) := by decide +kernel
theorem dX11_next_84 : decode cX11_next 84 = .ok (.goto (-20), 3) := by decide +kernel
theorem dX11_next_87 : decode cX11_next 87 = .ok (.aload_n 0, 1) := by decide +kernel
theorem dX11_next_88 : decode cX11_next 88 = .ok (.aload_n 0, 1) := by decide +kernel
theorem dX11_next_89 : decode cX11_next 89 = .ok (.getfield 127, 3) := by decide +kernel
theorem dX11_next_92 : decode cX11_next 92 = .ok (.aload_n 0, 1) := by decide +kernel
theorem dX11_next_93 : decode cX11_next 93 = .ok (.getfield 137, 3) := by decide +kernel
theorem dX11_next_96 : decode cX11_next 96 = .ok (.iconst 1, 1) := by decide +kernel
theorem dX11_next_97 : decode cX11_next 97 = .ok (.iadd, 1) := by decide +kernel
theorem dX11_next_98 : decode cX11_next 98 = .ok (.if_icmp .ne 10, 3) := by decide +kernel
theorem dX11_next_101 : decode cX11_next 101 = .ok (.iload_n 1, 1) := by decide +kernel
theorem dX11_next_102 : decode cX11_next 102 = .ok (.bipush 97, 2) := by decide +kernel
theorem dX11_next_104 : decode cX11_next 104 = .ok (.isub, 1) := by decide +kernel
theorem dX11_next_105 : decode cX11_next 105 = .ok (.goto 7, 3) := by decide +kernel
theorem dX11_next_108 : decode cX11_next 108 = .ok (.aload_n 0, 1) := by decide +kernel
theorem dX11_next_109 : decode cX11_next 109 = .ok (.invokevirtual 147, 3) := by decide +kernel
theorem dX11_next_112 : decode cX11_next 112 = .ok (.putfield 150, 3) := by decide +kernel
theorem dX11_next_115 : decode cX11_next 115 = .ok (.aload_n 0, 1) := by decide +kernel
theorem dX11_next_116 : decode cX11_next 116 = .ok (.aload_n 0, 1) := by decide +kernel
theorem dX11_next_117 : decode cX11_next 117 = .ok (.getfield 127, 3) := by decide +kernel
theorem dX11_next_120 : decode cX11_next 120 = .ok (.aload_n 0, 1) := by decide +kernel
theorem dX11_next_121 : decode cX11_next 121 = .ok (.getfield 137, 3) := by decide +kernel
theorem dX11_next_124 : decode cX11_next 124 = .ok (.iconst 1, 1) := by decide +kernel
theorem dX11_next_125 : decode cX11_next 125 = .ok (.iadd, 1) := by decide +kernel
theorem dX11_next_126 : decode cX11_next 126 = .ok (.if_icmp .ne 7, 3) := by decide +kernel
theorem dX11_next_129 : decode cX11_next 129 = .ok (.iconst 0, 1) := by decide +kernel
theorem dX11_next_130 : decode cX11_next 130 = .ok (.goto 16, 3) := by decide +kernel
theorem dX11_next_133 : decode cX11_next 133 = .ok (.aload_n 0, 1) := by decide +kernel
theorem dX11_next_134 : decode cX11_next 134 = .ok (.getfield 150, 3) := by decide +kernel
theorem dX11_next_137 : decode cX11_next 137 = .ok (.iconst (-1), 1) := by decide +kernel
theorem dX11_next_138 : decode cX11_next 138 = .ok (.if_icmp .ne 7, 3) := by decide +kernel
theorem dX11_next_141 : decode cX11_next 141 = .ok (.iconst 5, 1) := by decide +kernel
theorem dX11_next_142 : decode cX11_next 142 = .ok (.goto 4, 3) := by decide +kernel
theorem dX11_next_145 : decode cX11_next 145 = .ok (.iconst 2, 1) := by decide +kernel
theorem dX11_next_146 : decode cX11_next 146 = .ok (.putfield 140, 3) := by decide +kernel
theorem dX11_next_149 : decode cX11_next 149 = .ok (.goto 120, 3) := by decide +kernel
theorem dX11_next_152 : decode cX11_next 152 = .ok (.aload_n 0, 1) := by decide +kernel
theorem dX11_next_153 : decode cX11_next 153 = .ok (.dup, 1) := by decide +kernel
theorem dX11_next_154 : decode cX11_next 154 = .ok (.getfield 127, 3) := by decide +kernel
theorem dX11_next_157 : decode cX11_next 157 = .ok (.iconst 1, 1) := by decide +kernel
theorem dX11_next_158 : decode cX11_next 158 = .ok (.iadd, 1) := by decide +kernel
theorem dX11_next_159 : decode cX11_next 159 = .ok (.putfield 127, 3) := by decide +kernel
theorem dX11_next_162 : decode cX11_next 162 = .ok (.aload_n 0, 1) := by decide +kernel
theorem dX11_next_163 : decode cX11_next 163 = .ok (.iload_n 1, 1) := by decide +kernel
theorem dX11_next_164 : decode cX11_next 164 = .ok (.bipush 65, 2) := by decide +kernel
theorem dX11_next_166 : decode cX11_next 166 = .ok (.if_icmp .lt 16, 3) := by decide +kernel
theorem dX11_next_169 : decode cX11_next 169 = .ok (.iload_n 1, 1) := by decide +kernel
theorem dX11_next_170 : decode cX11_next 170 = .ok (.bipush 72, 2) := by decide +kernel
theorem dX11_next_172 : decode cX11_next 172 = .ok (.if_icmp .gt 10, 3) := by decide +kernel
theorem dX11_next_175 : decode cX11_next 175 = .ok (.iload_n 1, 1) := by decide +kernel
theorem dX11_next_176 : decode cX11_next 176 = .ok (.bipush 65, 2) := by decide +kernel
theorem dX11_next_178 : decode cX11_next 178 = .ok (.isub, 1) := by decide +kernel
theorem dX11_next_179 : decode cX11_next 179 = .ok (.goto 4, 3) := by decide +kernel
theorem dX11_next_182 : decode cX11_next 182 = .ok (.iload_n 1, 1) := by decide +kernel
theorem dX11_next_183 : decode cX11_next 183 = .ok (.putfield 150, 3) := by decide +kernel
theorem dX11_next_186 : decode cX11_next 186 = .ok (.iload_n 1, 1) := by decide +kernel
theorem dX11_next_187 : decode cX11_next 187 = .ok (.bipush 123, 2) := by decide +kernel
theorem dX11_next_189 : decode cX11_next 189 = .ok (.if_icmp .eq 45, 3) := by decide +kernel
theorem dX11_next_192 : decode cX11_next 192 = .ok (.iload_n 1, 1) := by decide +kernel
theorem dX11_next_193 : decode cX11_next 193 = .ok (.bipush 125, 2) := by decide +kernel
theorem dX11_next_195 : decode cX11_next 195 = .ok (.if_icmp .eq 39, 3) := by decide +kernel
theorem dX11_next_198 : decode cX11_next 198 = .ok (.iload_n 1, 1) := by decide +kernel
theorem dX11_next_199 : decode cX11_next 199 = .ok (.bipush 40, 2) := by decide +kernel
theorem dX11_next_201 : decode cX11_next 201 = .ok (.if_icmp .eq 33, 3) := by decide +kernel
theorem dX11_next_204 : decode cX11_next 204 = .ok (.iload_n 1, 1) := by decide +kernel
theorem dX11_next_205 : decode cX11_next 205 = .ok (.bipush 41, 2) := by decide +kernel
theorem dX11_next_207 : decode cX11_next 207 = .ok (.if_icmp .eq 27, 3) := by decide +kernel
theorem dX11_next_210 : decode cX11_next 210 = .ok (.iload_n 1, 1) := by decide +kernel
theorem dX11_next_211 : decode cX11_next 211 = .ok (.bipush 44, 2) := by decide +kernel
theorem dX11_next_213 : decode cX11_next 213 = .ok (.if_icmp .eq 21, 3) := by decide +kernel
theorem dX11_next_216 : decode cX11_next 216 = .ok (.iload_n 1, 1) := by decide +kernel
theorem dX11_next_217 : decode cX11_next 217 = .ok (.bipush 59, 2) := by decide +kernel
theorem dX11_next_219 : decode cX11_next 219 = .ok (.if_icmp .eq 15, 3) := by decide +kernel
theorem dX11_next_222 : decode cX11_next 222 = .ok (.iload_n 1, 1) := by decide +kernel
theorem dX11_next_223 : decode cX11_next 223 = .ok (.bipush 61, 2) := by decide +kernel
theorem dX11_next_225 : decode cX11_next 225 = .ok (.if_icmp .eq 9, 3) := by decide +kernel
theorem dX11_next_228 : decode cX11_next 228 = .ok (.iload_n 1, 1) := by decide +kernel
theorem dX11_next_229 : decode cX11_next 229 = .ok (.bipush 46, 2) := by decide +kernel
theorem dX11_next_231 : decode cX11_next 231 = .ok (.if_icmp .ne 7, 3) := by decide +kernel
theorem dX11_next_234 : decode cX11_next 234 = .ok (.iconst 1, 1) := by decide +kernel
theorem dX11_next_235 : decode cX11_next 235 = .ok (.goto 4, 3) := by decide +kernel
theorem dX11_next_238 : decode cX11_next 238 = .ok (.iconst 0, 1) := by decide +kernel
theorem dX11_next_239 : decode cX11_next 239 = .ok (.istore_n 2, 1) := by decide +kernel
theorem dX11_next_240 : decode cX11_next 240 = .ok (.aload_n 0, 1) := by decide +kernel
theorem dX11_next_241 : decode cX11_next 241 = .ok (.iload_n 1, 1) := by decide +kernel
theorem dX11_next_242 : decode cX11_next 242 = .ok (.bipush 65, 2) := by decide +kernel
theorem dX11_next_244 : decode cX11_next 244 = .ok (.if_icmp .lt 13, 3) := by decide +kernel
theorem dX11_next_247 : decode cX11_next 247 = .ok (.iload_n 1, 1) := by decide +kernel
theorem dX11_next_248 : decode cX11_next 248 = .ok (.bipush 72, 2) := by decide +kernel
theorem dX11_next_250 : decode cX11_next 250 = .ok (.if_icmp .gt 7, 3) := by decide +kernel
theorem dX11_next_253 : decode cX11_next 253 = .ok (.iconst 1, 1) := by decide +kernel
theorem dX11_next_254 : decode cX11_next 254 = .ok (.goto 12, 3) := by decide +kernel
theorem dX11_next_257 : decode cX11_next 257 = .ok (.iload_n 2, 1) := by decide +kernel
theorem dX11_next_258 : decode cX11_next 258 = .ok (.ifCond .eq 7, 3) := by decide +kernel
theorem dX11_next_261 : decode cX11_next 261 = .ok (.iconst 3, 1) := by decide +kernel
theorem dX11_next_262 : decode cX11_next 262 = .ok (.goto 4, 3) := by decide +kernel
theorem dX11_next_265 : decode cX11_next 265 = .ok (.iconst 5, 1) := by decide +kernel
theorem dX11_next_266 : decode cX11_next 266 = .ok (.putfield 140, 3) := by decide +kernel
theorem dX11_next_269 : decode cX11_next 269 = .ok (.return_, 1) := by decide +kernel
set_option maxRecDepth 20000 in
theorem ggX11_wordOf_J0_length_8abf5 : GoodIn wsX11_wordOf wsJ0_length_8abf5 := goodIn_r _ [8, 9, 10, 11, 12, 7, 13, 14, 15] (by decide +kernel) (by decide +kernel)
set_option maxRecDepth 20000 in
theorem gX11_wordOf_J0_length_8abf5 : GoodIn wsX11_wordOf (wsV RX11 155 RJ0 yJ0_length_8abf5 wsJ0_length_8abf5) := goodIn_app (goodIn_of _ (by decide +kernel)) ggX11_wordOf_J0_length_8abf5
set_option maxRecDepth 20000 in
theorem ggX11_wordOf_J0_charAt_5068e : GoodIn wsX11_wordOf wsJ0_charAt_5068e := goodIn_r _ [19, 9, 20, 21, 22, 7, 23, 14, 15, 24, 25, 26, 27, 28, 29, 30, 31, 32, 33, 34, 35, 36, 37, 38, 39, 40, 41, 42, 43, 44, 45, 46, 47, 48, 49, 50, 51, 52] (by decide +kernel) (by decide +kernel)
set_option maxRecDepth 20000 in
theorem gX11_wordOf_J0_charAt_5068e : GoodIn wsX11_wordOf (wsV RX11 160 RJ0 yJ0_charAt_5068e wsJ0_charAt_5068e) := goodIn_app (goodIn_of _ (by decide +kernel)) ggX11_wordOf_J0_charAt_5068e
theorem dX11_wordOf_0 : decode cX11_wordOf 0 = .ok (.iconst 0, 1) := by decide +kernel
theorem dX11_wordOf_1 : decode cX11_wordOf 1 = .ok (.istore_n 1, 1) := by decide +kernel
theorem dX11_wordOf_2 : decode cX11_wordOf 2 = .ok (.iconst 0, 1) := by decide +kernel
theorem dX11_wordOf_3 : decode cX11_wordOf 3 = .ok (.istore_n 2, 1) := by decide +kernel
theorem dX11_wordOf_4 : decode cX11_wordOf 4 = .ok (.iload_n 2, 1) := by decide +kernel
theorem dX11_wordOf_5 : decode cX11_wordOf 5 = .ok (.ldc 153, 2) := by decide +kernel
theorem dX11_wordOf_7 : decode cX11_wordOf 7 = .ok (.invokevirtual 155, 3) := by decide +kernel
theorem dX11_wordOf_10 : decode cX11_wordOf 10 = .ok (.if_icmp .ge 113, 3) := by decide +kernel
theorem dX11_wordOf_13 : decode cX11_wordOf 13 = .ok (.iconst 0, 1) := by decide +kernel
theorem dX11_wordOf_14 : decode cX11_wordOf 14 = .ok (.istore_n 3, 1) := by decide +kernel
theorem dX11_wordOf_15 : decode cX11_wordOf 15 = .ok (.ldc 153, 2) := by decide +kernel
theorem dX11_wordOf_17 : decode cX11_wordOf 17 = .ok (.iload_n 2, 1) := by decide +kernel
theorem dX11_wordOf_18 : decode cX11_wordOf 18 = .ok (.iload_n 3, 1) := by decide +kernel
theorem dX11_wordOf_19 : decode cX11_wordOf 19 = .ok (.iadd, 1) := by decide +kernel
theorem dX11_wordOf_20 : decode cX11_wordOf 20 = .ok (.invokevirtual 160, 3) := by decide +kernel
theorem dX11_wordOf_23 : decode cX11_wordOf 23 = .ok (.bipush 32, 2) := by decide +kernel
theorem dX11_wordOf_25 : decode cX11_wordOf 25 = .ok (.if_icmp .eq 44, 3) := by decide +kernel
theorem dX11_wordOf_28 : decode cX11_wordOf 28 = .ok (.aload_n 0, 1) := by decide +kernel
theorem dX11_wordOf_29 : decode cX11_wordOf 29 = .ok (.getfield 137, 3) := by decide +kernel
theorem dX11_wordOf_32 : decode cX11_wordOf 32 = .ok (.iload_n 3, 1) := by decide +kernel
theorem dX11_wordOf_33 : decode cX11_wordOf 33 = .ok (.iadd, 1) := by decide +kernel
theorem dX11_wordOf_34 : decode cX11_wordOf 34 = .ok (.aload_n 0, 1) := by decide +kernel
theorem dX11_wordOf_35 : decode cX11_wordOf 35 = .ok (.getfield 127, 3) := by decide +kernel
theorem dX11_wordOf_38 : decode cX11_wordOf 38 = .ok (.if_icmp .ge 31, 3) := by decide +kernel
theorem dX11_wordOf_41 : decode cX11_wordOf 41 = .ok (.aload_n 0, 1) := by decide +kernel
theorem dX11_wordOf_42 : decode cX11_wordOf 42 = .ok (.getfield 7, 3) := by decide +kernel
theorem dX11_wordOf_45 : decode cX11_wordOf 45 = .ok (.aload_n 0, 1) := by decide +kernel
theorem dX11_wordOf_46 : decode cX11_wordOf 46 = .ok (.getfield 137, 3) := by decide +kernel
theorem dX11_wordOf_49 : decode cX11_wordOf 49 = .ok (.iload_n 3, 1) := by decide +kernel
theorem dX11_wordOf_50 : decode cX11_wordOf 50 = .ok (.iadd, 1) := by decide +kernel
theorem dX11_wordOf_51 : decode cX11_wordOf 51 = .ok (.iaload, 1) := by decide +kernel
theorem dX11_wordOf_52 : decode cX11_wordOf 52 = .ok (.ldc 153, 2) := by decide +kernel
theorem dX11_wordOf_54 : decode cX11_wordOf 54 = .ok (.iload_n 2, 1) := by decide +kernel
theorem dX11_wordOf_55 : decode cX11_wordOf 55 = .ok (.iload_n 3, 1) := by decide +kernel
theorem dX11_wordOf_56 : decode cX11_wordOf 56 = .ok (.iadd, 1) := by decide +kernel
theorem dX11_wordOf_57 : decode cX11_wordOf 57 = .ok (.invokevirtual 160, 3) := by decide +kernel
theorem dX11_wordOf_60 : decode cX11_wordOf 60 = .ok (.if_icmp .ne 9, 3) := by decide +kernel
theorem dX11_wordOf_63 : decode cX11_wordOf 63 = .ok (.iinc 3 1, 3) := by decide +kernel
theorem dX11_wordOf_66 : decode cX11_wordOf 66 = .ok (.goto (-51), 3) := by decide +kernel
theorem dX11_wordOf_69 : decode cX11_wordOf 69 = .ok (.ldc 153, 2) := by decide +kernel
theorem dX11_wordOf_71 : decode cX11_wordOf 71 = .ok (.iload_n 2, 1) := by decide +kernel
theorem dX11_wordOf_72 : decode cX11_wordOf 72 = .ok (.iload_n 3, 1) := by decide +kernel
theorem dX11_wordOf_73 : decode cX11_wordOf 73 = .ok (.iadd, 1) := by decide +kernel
theorem dX11_wordOf_74 : decode cX11_wordOf 74 = .ok (.invokevirtual 160, 3) := by decide +kernel
theorem dX11_wordOf_77 : decode cX11_wordOf 77 = .ok (.bipush 32, 2) := by decide +kernel
theorem dX11_wordOf_79 : decode cX11_wordOf 79 = .ok (.if_icmp .ne 18, 3) := by decide +kernel
theorem dX11_wordOf_82 : decode cX11_wordOf 82 = .ok (.aload_n 0, 1) := by decide +kernel
theorem dX11_wordOf_83 : decode cX11_wordOf 83 = .ok (.getfield 137, 3) := by decide +kernel
theorem dX11_wordOf_86 : decode cX11_wordOf 86 = .ok (.iload_n 3, 1) := by decide +kernel
theorem dX11_wordOf_87 : decode cX11_wordOf 87 = .ok (.iadd, 1) := by decide +kernel
theorem dX11_wordOf_88 : decode cX11_wordOf 88 = .ok (.aload_n 0, 1) := by decide +kernel
theorem dX11_wordOf_89 : decode cX11_wordOf 89 = .ok (.getfield 127, 3) := by decide +kernel
theorem dX11_wordOf_92 : decode cX11_wordOf 92 = .ok (.if_icmp .ne 5, 3) := by decide +kernel
theorem dX11_wordOf_95 : decode cX11_wordOf 95 = .ok (.iload_n 1, 1) := by decide +kernel
theorem dX11_wordOf_96 : decode cX11_wordOf 96 = .ok (.ireturn, 1) := by decide +kernel
theorem dX11_wordOf_97 : decode cX11_wordOf 97 = .ok (.ldc 153, 2) := by decide +kernel
theorem dX11_wordOf_99 : decode cX11_wordOf 99 = .ok (.iload_n 2, 1) := by decide +kernel
theorem dX11_wordOf_100 : decode cX11_wordOf 100 = .ok (.invokevirtual 160, 3) := by decide +kernel
theorem dX11_wordOf_103 : decode cX11_wordOf 103 = .ok (.bipush 32, 2) := by decide +kernel
theorem dX11_wordOf_105 : decode cX11_wordOf 105 = .ok (.if_icmp .eq 9, 3) := by decide +kernel
theorem dX11_wordOf_108 : decode cX11_wordOf 108 = .ok (.iinc 2 1, 3) := by decide +kernel
theorem dX11_wordOf_111 : decode cX11_wordOf 111 = .ok (.goto (-14), 3) := by decide +kernel
theorem dX11_wordOf_114 : decode cX11_wordOf 114 = .ok (.iinc 2 1, 3) := by decide +kernel
theorem dX11_wordOf_117 : decode cX11_wordOf 117 = .ok (.iinc 1 1, 3) := by decide +kernel
theorem dX11_wordOf_120 : decode cX11_wordOf 120 = .ok (.goto (-116), 3) := by decide +kernel
theorem dX11_wordOf_123 : decode cX11_wordOf 123 = .ok (.iconst (-1), 1) := by decide +kernel
theorem dX11_wordOf_124 : decode cX11_wordOf 124 = .ok (.ireturn, 1) := by decide +kernel
theorem dX11_wrong_0 : decode cX11_wrong 0 = .ok (.aload_n 0, 1) := by decide +kernel
theorem dX11_wrong_1 : decode cX11_wrong 1 = .ok (.getfield 164, 3) := by decide +kernel
theorem dX11_wrong_4 : decode cX11_wrong 4 = .ok (.ifCond .eq 4, 3) := by decide +kernel
theorem dX11_wrong_7 : decode cX11_wrong 7 = .ok (.return_, 1) := by decide +kernel
theorem dX11_wrong_8 : decode cX11_wrong 8 = .ok (.aload_n 0, 1) := by decide +kernel
theorem dX11_wrong_9 : decode cX11_wrong 9 = .ok (.iload_n 1, 1) := by decide +kernel
theorem dX11_wrong_10 : decode cX11_wrong 10 = .ok (.putfield 164, 3) := by decide +kernel
theorem dX11_wrong_13 : decode cX11_wrong 13 = .ok (.aload_n 0, 1) := by decide +kernel
theorem dX11_wrong_14 : decode cX11_wrong 14 = .ok (.iload_n 2, 1) := by decide +kernel
theorem dX11_wrong_15 : decode cX11_wrong 15 = .ok (.putfield 167, 3) := by decide +kernel
theorem dX11_wrong_18 : decode cX11_wrong 18 = .ok (.return_, 1) := by decide +kernel
theorem dX11_isSign_0 : decode cX11_isSign 0 = .ok (.aload_n 0, 1) := by decide +kernel
theorem dX11_isSign_1 : decode cX11_isSign 1 = .ok (.getfield 164, 3) := by decide +kernel
theorem dX11_isSign_4 : decode cX11_isSign 4 = .ok (.ifCond .ne 23, 3) := by decide +kernel
theorem dX11_isSign_7 : decode cX11_isSign 7 = .ok (.aload_n 0, 1) := by decide +kernel
theorem dX11_isSign_8 : decode cX11_isSign 8 = .ok (.getfield 140, 3) := by decide +kernel
theorem dX11_isSign_11 : decode cX11_isSign 11 = .ok (.iconst 3, 1) := by decide +kernel
theorem dX11_isSign_12 : decode cX11_isSign 12 = .ok (.if_icmp .ne 15, 3) := by decide +kernel
theorem dX11_isSign_15 : decode cX11_isSign 15 = .ok (.aload_n 0, 1) := by decide +kernel
theorem dX11_isSign_16 : decode cX11_isSign 16 = .ok (.getfield 150, 3) := by decide +kernel
theorem dX11_isSign_19 : decode cX11_isSign 19 = .ok (.iload_n 1, 1) := by decide +kernel
theorem dX11_isSign_20 : decode cX11_isSign 20 = .ok (.if_icmp .ne 7, 3) := by decide +kernel
theorem dX11_isSign_23 : decode cX11_isSign 23 = .ok (.iconst 1, 1) := by decide +kernel
theorem dX11_isSign_24 : decode cX11_isSign 24 = .ok (.goto 4, 3) := by decide +kernel
theorem dX11_isSign_27 : decode cX11_isSign 27 = .ok (.iconst 0, 1) := by decide +kernel
theorem dX11_isSign_28 : decode cX11_isSign 28 = .ok (.ireturn, 1) := by decide +kernel
theorem dX11_isWord_0 : decode cX11_isWord 0 = .ok (.aload_n 0, 1) := by decide +kernel
theorem dX11_isWord_1 : decode cX11_isWord 1 = .ok (.getfield 164, 3) := by decide +kernel
theorem dX11_isWord_4 : decode cX11_isWord 4 = .ok (.ifCond .ne 23, 3) := by decide +kernel
theorem dX11_isWord_7 : decode cX11_isWord 7 = .ok (.aload_n 0, 1) := by decide +kernel
theorem dX11_isWord_8 : decode cX11_isWord 8 = .ok (.getfield 140, 3) := by decide +kernel
theorem dX11_isWord_11 : decode cX11_isWord 11 = .ok (.iconst 2, 1) := by decide +kernel
theorem dX11_isWord_12 : decode cX11_isWord 12 = .ok (.if_icmp .ne 15, 3) := by decide +kernel
theorem dX11_isWord_15 : decode cX11_isWord 15 = .ok (.aload_n 0, 1) := by decide +kernel
theorem dX11_isWord_16 : decode cX11_isWord 16 = .ok (.getfield 150, 3) := by decide +kernel
theorem dX11_isWord_19 : decode cX11_isWord 19 = .ok (.iload_n 1, 1) := by decide +kernel
theorem dX11_isWord_20 : decode cX11_isWord 20 = .ok (.if_icmp .ne 7, 3) := by decide +kernel
theorem dX11_isWord_23 : decode cX11_isWord 23 = .ok (.iconst 1, 1) := by decide +kernel
theorem dX11_isWord_24 : decode cX11_isWord 24 = .ok (.goto 4, 3) := by decide +kernel
theorem dX11_isWord_27 : decode cX11_isWord 27 = .ok (.iconst 0, 1) := by decide +kernel
theorem dX11_isWord_28 : decode cX11_isWord 28 = .ok (.ireturn, 1) := by decide +kernel
set_option maxRecDepth 20000 in
theorem ggX11_takesSign_X11_isSign : GoodIn wsX11_takesSign wsX11_isSign := goodIn_r _ [5, 6, 7, 8, 77, 78, 79, 80, 81, 82, 83, 84, 85, 86, 87, 88, 89, 90, 91, 92, 93, 94, 95, 96, 97, 98, 99, 100, 101, 102, 103, 104, 105, 106, 107, 108, 109, 110, 111, 112, 113, 114, 115, 116, 117, 118, 119, 120, 121, 122, 123, 124, 125, 126, 127, 128, 129, 130, 131, 132, 133, 134, 135, 136, 137, 138, 139, 140, 141, 142, 143, 144] (by decide +kernel) (by decide +kernel)
set_option maxRecDepth 20000 in
theorem gX11_takesSign_X11_isSign : GoodIn wsX11_takesSign (wsV RX11 170 RX11 yX11_isSign wsX11_isSign) := goodIn_app (goodIn_of _ (by decide +kernel)) ggX11_takesSign_X11_isSign
set_option maxRecDepth 20000 in
theorem ggX11_takesSign_X11_next : GoodIn wsX11_takesSign wsX11_next := goodIn_r _ [12, 13, 14, 7, 8, 15, 16, 17, 4, 18, 19, 20, 21, 22, 23, 24, 25, 26, 27, 28, 29, 30, 31, 32, 33, 34, 35, 36, 37, 38, 39, 40, 41, 42, 43, 44, 45, 46, 47, 48, 49, 50, 51, 52, 53, 54, 55, 56, 57, 58, 59, 60, 61, 62, 63, 64, 65, 66, 67, 68, 69, 70, 71, 72, 73, 74, 75, 76, 77, 78, 79, 80, 81, 82, 83, 84, 85, 86, 87, 88, 89, 90, 91, 92, 93, 94, 95, 96, 97, 98, 99, 100, 101, 102, 103, 104, 105, 106, 107, 108, 109, 110, 111, 112, 113, 114, 115, 116, 117, 118, 119, 120, 121, 122, 123, 124, 125, 126, 127, 128, 129, 130, 131, 132, 133, 134, 135, 136, 137, 138, 139, 140, 141, 142, 143, 144] (by decide +kernel) (by decide +kernel)
set_option maxRecDepth 20000 in
theorem gX11_takesSign_X11_next : GoodIn wsX11_takesSign (wsV RX11 173 RX11 yX11_next wsX11_next) := goodIn_app (goodIn_of _ (by decide +kernel)) ggX11_takesSign_X11_next
theorem dX11_takesSign_0 : decode cX11_takesSign 0 = .ok (.aload_n 0, 1) := by decide +kernel
theorem dX11_takesSign_1 : decode cX11_takesSign 1 = .ok (.iload_n 1, 1) := by decide +kernel
theorem dX11_takesSign_2 : decode cX11_takesSign 2 = .ok (.invokevirtual 170, 3) := by decide +kernel
theorem dX11_takesSign_5 : decode cX11_takesSign 5 = .ok (.ifCond .ne 5, 3) := by decide +kernel
theorem dX11_takesSign_8 : decode cX11_takesSign 8 = .ok (.iconst 0, 1) := by decide +kernel
theorem dX11_takesSign_9 : decode cX11_takesSign 9 = .ok (.ireturn, 1) := by decide +kernel
theorem dX11_takesSign_10 : decode cX11_takesSign 10 = .ok (.aload_n 0, 1) := by decide +kernel
theorem dX11_takesSign_11 : decode cX11_takesSign 11 = .ok (.invokevirtual 173, 3) := by decide +kernel
theorem dX11_takesSign_14 : decode cX11_takesSign 14 = .ok (.iconst 1, 1) := by decide +kernel
theorem dX11_takesSign_15 : decode cX11_takesSign 15 = .ok (.ireturn, 1) := by decide +kernel
set_option maxRecDepth 20000 in
theorem ggX11_wants_X11_takesSign : GoodIn wsX11_wants wsX11_takesSign := goodIn_r _ [6, 7, 8, 9, 5, 10, 11, 12, 13, 14, 15, 16, 17, 18, 1, 19, 20, 21, 22, 23, 24, 25, 26, 27, 28, 29, 30, 31, 32, 33, 34, 35, 36, 37, 38, 39, 40, 41, 42, 43, 44, 45, 46, 47, 48, 49, 50, 51, 52, 53, 54, 55, 56, 57, 58, 59, 60, 61, 62, 63, 64, 65, 66, 67, 68, 69, 70, 71, 72, 73, 74, 75, 76, 77, 78, 79, 80, 86, 87, 88, 89, 90, 91, 92, 93, 94, 95, 96, 97, 98, 99, 100, 101, 102, 103, 104, 105, 106, 107, 108, 109, 110, 111, 112, 113, 114, 115, 116, 117, 118, 119, 120, 121, 122, 123, 124, 125, 126, 127, 128, 129, 130, 131, 132, 133, 134, 135, 136, 137, 138, 139, 140, 141, 142, 143, 144, 145, 146, 147, 148, 149, 150, 151, 152, 153] (by decide +kernel) (by decide +kernel)
set_option maxRecDepth 20000 in
theorem gX11_wants_X11_takesSign : GoodIn wsX11_wants (wsV RX11 176 RX11 yX11_takesSign wsX11_takesSign) := goodIn_app (goodIn_of _ (by decide +kernel)) ggX11_wants_X11_takesSign
set_option maxRecDepth 20000 in
theorem ggX11_wants_X11_wrong : GoodIn wsX11_wants wsX11_wrong := goodIn_r _ [84, 11, 85, 86, 87, 88, 89, 90, 91, 92, 93, 94, 95, 96, 97, 98, 99, 100, 101, 102, 103, 104, 105, 106, 107, 108, 109, 110, 111, 112, 113, 114, 115, 116, 117, 118, 119, 120, 121, 122, 123, 124, 125, 126, 127, 128, 129, 130, 131, 132, 133, 134, 135, 136, 137, 138, 139, 140, 141, 142, 143, 144, 145, 146, 147, 148, 149, 150, 151, 152, 153] (by decide +kernel) (by decide +kernel)
set_option maxRecDepth 20000 in
theorem gX11_wants_X11_wrong : GoodIn wsX11_wants (wsV RX11 179 RX11 yX11_wrong wsX11_wrong) := goodIn_app (goodIn_of _ (by decide +kernel)) ggX11_wants_X11_wrong
theorem dX11_wants_0 : decode cX11_wants 0 = .ok (.aload_n 0, 1) := by decide +kernel
theorem dX11_wants_1 : decode cX11_wants 1 = .ok (.iload_n 1, 1) := by decide +kernel
theorem dX11_wants_2 : decode cX11_wants 2 = .ok (.invokevirtual 176, 3) := by decide +kernel
theorem dX11_wants_5 : decode cX11_wants 5 = .ok (.ifCond .ne 12, 3) := by decide +kernel
theorem dX11_wants_8 : decode cX11_wants 8 = .ok (.aload_n 0, 1) := by decide +kernel
theorem dX11_wants_9 : decode cX11_wants 9 = .ok (.iconst 1, 1) := by decide +kernel
theorem dX11_wants_10 : decode cX11_wants 10 = .ok (.aload_n 0, 1) := by decide +kernel
theorem dX11_wants_11 : decode cX11_wants 11 = .ok (.getfield 137, 3) := by decide +kernel
theorem dX11_wants_14 : decode cX11_wants 14 = .ok (.invokevirtual 179, 3) := by decide +kernel
theorem dX11_wants_17 : decode cX11_wants 17 = .ok (.return_, 1) := by decide +kernel
set_option maxRecDepth 20000 in
theorem ggX11_taken_X11_wrong : GoodIn wsX11_taken wsX11_wrong := goodIn_r _ [9, 1, 10, 78, 79, 80, 81, 82, 83, 84, 85, 86, 87, 88, 89, 90, 91, 92, 93, 94, 95, 96, 97, 98, 99, 100, 101, 102, 103, 104, 105, 106, 107, 108, 109, 110, 111, 112, 113, 114, 115, 116, 117, 118, 119, 120, 121, 122, 123, 124, 125, 126, 127, 128, 129, 130, 131, 132, 133, 134, 135, 136, 137, 138, 139, 140, 141, 142, 143, 144, 145] (by decide +kernel) (by decide +kernel)
set_option maxRecDepth 20000 in
theorem gX11_taken_X11_wrong : GoodIn wsX11_taken (wsV RX11 179 RX11 yX11_wrong wsX11_wrong) := goodIn_app (goodIn_of _ (by decide +kernel)) ggX11_taken_X11_wrong
set_option maxRecDepth 20000 in
theorem ggX11_taken_X11_next : GoodIn wsX11_taken wsX11_next := goodIn_r _ [14, 15, 3, 2, 4, 16, 17, 18, 8, 19, 20, 21, 22, 23, 24, 25, 26, 27, 28, 29, 30, 31, 32, 33, 34, 35, 36, 37, 38, 39, 40, 41, 42, 43, 44, 45, 46, 47, 48, 49, 50, 51, 52, 53, 54, 55, 56, 57, 58, 59, 60, 61, 62, 63, 64, 65, 66, 67, 68, 69, 70, 71, 72, 73, 74, 75, 76, 77, 78, 79, 80, 81, 82, 83, 84, 85, 86, 87, 88, 89, 90, 91, 92, 93, 94, 95, 96, 97, 98, 99, 100, 101, 102, 103, 104, 105, 106, 107, 108, 109, 110, 111, 112, 113, 114, 115, 116, 117, 118, 119, 120, 121, 122, 123, 124, 125, 126, 127, 128, 129, 130, 131, 132, 133, 134, 135, 136, 137, 138, 139, 140, 141, 142, 143, 144, 145] (by decide +kernel) (by decide +kernel)
set_option maxRecDepth 20000 in
theorem gX11_taken_X11_next : GoodIn wsX11_taken (wsV RX11 173 RX11 yX11_next wsX11_next) := goodIn_app (goodIn_of _ (by decide +kernel)) ggX11_taken_X11_next
theorem dX11_taken_0 : decode cX11_taken 0 = .ok (.aload_n 0, 1) := by decide +kernel
theorem dX11_taken_1 : decode cX11_taken 1 = .ok (.getfield 164, 3) := by decide +kernel
theorem dX11_taken_4 : decode cX11_taken 4 = .ok (.ifCond .eq 5, 3) := by decide +kernel
theorem dX11_taken_7 : decode cX11_taken 7 = .ok (.iconst 0, 1) := by decide +kernel
theorem dX11_taken_8 : decode cX11_taken 8 = .ok (.ireturn, 1) := by decide +kernel
theorem dX11_taken_9 : decode cX11_taken 9 = .ok (.aload_n 0, 1) := by decide +kernel
theorem dX11_taken_10 : decode cX11_taken 10 = .ok (.getfield 140, 3) := by decide +kernel
theorem dX11_taken_13 : decode cX11_taken 13 = .ok (.iload_n 1, 1) := by decide +kernel
theorem dX11_taken_14 : decode cX11_taken 14 = .ok (.if_icmp .eq 14, 3) := by decide +kernel
theorem dX11_taken_17 : decode cX11_taken 17 = .ok (.aload_n 0, 1) := by decide +kernel
theorem dX11_taken_18 : decode cX11_taken 18 = .ok (.iconst 1, 1) := by decide +kernel
theorem dX11_taken_19 : decode cX11_taken 19 = .ok (.aload_n 0, 1) := by decide +kernel
theorem dX11_taken_20 : decode cX11_taken 20 = .ok (.getfield 137, 3) := by decide +kernel
theorem dX11_taken_23 : decode cX11_taken 23 = .ok (.invokevirtual 179, 3) := by decide +kernel
theorem dX11_taken_26 : decode cX11_taken 26 = .ok (.iconst 0, 1) := by decide +kernel
theorem dX11_taken_27 : decode cX11_taken 27 = .ok (.ireturn, 1) := by decide +kernel
theorem dX11_taken_28 : decode cX11_taken 28 = .ok (.aload_n 0, 1) := by decide +kernel
theorem dX11_taken_29 : decode cX11_taken 29 = .ok (.getfield 150, 3) := by decide +kernel
theorem dX11_taken_32 : decode cX11_taken 32 = .ok (.istore_n 2, 1) := by decide +kernel
theorem dX11_taken_33 : decode cX11_taken 33 = .ok (.aload_n 0, 1) := by decide +kernel
theorem dX11_taken_34 : decode cX11_taken 34 = .ok (.invokevirtual 173, 3) := by decide +kernel
theorem dX11_taken_37 : decode cX11_taken 37 = .ok (.iload_n 2, 1) := by decide +kernel
theorem dX11_taken_38 : decode cX11_taken 38 = .ok (.ireturn, 1) := by decide +kernel
theorem dX11_emit_0 : decode cX11_emit 0 = .ok (.sipush 1300, 3) := by decide +kernel
theorem dX11_emit_3 : decode cX11_emit 3 = .ok (.aload_n 0, 1) := by decide +kernel
theorem dX11_emit_4 : decode cX11_emit 4 = .ok (.getfield 183, 3) := by decide +kernel
theorem dX11_emit_7 : decode cX11_emit 7 = .ok (.iadd, 1) := by decide +kernel
theorem dX11_emit_8 : decode cX11_emit 8 = .ok (.istore 5, 2) := by decide +kernel
theorem dX11_emit_10 : decode cX11_emit 10 = .ok (.aload_n 0, 1) := by decide +kernel
theorem dX11_emit_11 : decode cX11_emit 11 = .ok (.getfield 17, 3) := by decide +kernel
theorem dX11_emit_14 : decode cX11_emit 14 = .ok (.iload 5, 2) := by decide +kernel
theorem dX11_emit_16 : decode cX11_emit 16 = .ok (.iload_n 1, 1) := by decide +kernel
theorem dX11_emit_17 : decode cX11_emit 17 = .ok (.iastore, 1) := by decide +kernel
theorem dX11_emit_18 : decode cX11_emit 18 = .ok (.aload_n 0, 1) := by decide +kernel
theorem dX11_emit_19 : decode cX11_emit 19 = .ok (.getfield 20, 3) := by decide +kernel
theorem dX11_emit_22 : decode cX11_emit 22 = .ok (.iload 5, 2) := by decide +kernel
theorem dX11_emit_24 : decode cX11_emit 24 = .ok (.iload_n 2, 1) := by decide +kernel
theorem dX11_emit_25 : decode cX11_emit 25 = .ok (.iastore, 1) := by decide +kernel
theorem dX11_emit_26 : decode cX11_emit 26 = .ok (.aload_n 0, 1) := by decide +kernel
theorem dX11_emit_27 : decode cX11_emit 27 = .ok (.getfield 23, 3) := by decide +kernel
theorem dX11_emit_30 : decode cX11_emit 30 = .ok (.iload 5, 2) := by decide +kernel
theorem dX11_emit_32 : decode cX11_emit 32 = .ok (.iload_n 3, 1) := by decide +kernel
theorem dX11_emit_33 : decode cX11_emit 33 = .ok (.iastore, 1) := by decide +kernel
theorem dX11_emit_34 : decode cX11_emit 34 = .ok (.aload_n 0, 1) := by decide +kernel
theorem dX11_emit_35 : decode cX11_emit 35 = .ok (.getfield 26, 3) := by decide +kernel
theorem dX11_emit_38 : decode cX11_emit 38 = .ok (.iload 5, 2) := by decide +kernel
theorem dX11_emit_40 : decode cX11_emit 40 = .ok (.iload 4, 2) := by decide +kernel
theorem dX11_emit_42 : decode cX11_emit 42 = .ok (.iastore, 1) := by decide +kernel
theorem dX11_emit_43 : decode cX11_emit 43 = .ok (.aload_n 0, 1) := by decide +kernel
theorem dX11_emit_44 : decode cX11_emit 44 = .ok (.dup, 1) := by decide +kernel
theorem dX11_emit_45 : decode cX11_emit 45 = .ok (.getfield 183, 3) := by decide +kernel
theorem dX11_emit_48 : decode cX11_emit 48 = .ok (.iconst 1, 1) := by decide +kernel
theorem dX11_emit_49 : decode cX11_emit 49 = .ok (.iadd, 1) := by decide +kernel
theorem dX11_emit_50 : decode cX11_emit 50 = .ok (.putfield 183, 3) := by decide +kernel
theorem dX11_emit_53 : decode cX11_emit 53 = .ok (.aload_n 0, 1) := by decide +kernel
theorem dX11_emit_54 : decode cX11_emit 54 = .ok (.getfield 183, 3) := by decide +kernel
theorem dX11_emit_57 : decode cX11_emit 57 = .ok (.iconst 1, 1) := by decide +kernel
theorem dX11_emit_58 : decode cX11_emit 58 = .ok (.isub, 1) := by decide +kernel
theorem dX11_emit_59 : decode cX11_emit 59 = .ok (.ireturn, 1) := by decide +kernel
set_option maxRecDepth 20000 in
theorem ggX11_parses_X11_next : GoodIn wsX11_parses wsX11_next := goodIn_r _ [20, 1, 21, 11, 22, 23, 24, 25, 19, 26, 27, 28, 29, 30, 31, 32, 33, 34, 35, 36, 37, 38, 39, 40, 41, 42, 43, 44, 45, 46, 47, 48, 49, 50, 51, 52, 53, 54, 55, 56, 57, 58, 59, 60, 61, 62, 63, 64, 65, 66, 67, 68, 69, 70, 71, 72, 73, 74, 75, 76, 77, 78, 79, 80, 81, 82, 83, 84, 164, 165, 166, 167, 168, 169, 170, 171, 172, 173, 174, 175, 176, 177, 178, 179, 180, 181, 182, 183, 184, 185, 186, 187, 188, 189, 190, 191, 192, 193, 194, 195, 196, 197, 198, 199, 200, 201, 202, 203, 204, 205, 206, 207, 208, 209, 210, 211, 212, 213, 214, 215, 216, 217, 218, 219, 220, 221, 222, 223, 224, 225, 226, 227, 228, 229, 230, 231] (by decide +kernel) (by decide +kernel)
set_option maxRecDepth 20000 in
theorem gX11_parses_X11_next : GoodIn wsX11_parses (wsV RX11 173 RX11 yX11_next wsX11_next) := goodIn_app (goodIn_of _ (by decide +kernel)) ggX11_parses_X11_next
set_option maxRecDepth 20000 in
theorem ggX11_parses_X11_head : GoodIn wsX11_parses wsX11_head := goodIn_r _ [88, 21, 89, 2, 10, 13, 11, 90, 4, 9, 91, 92, 93, 19, 94, 22, 95, 96, 97, 98, 3, 16, 17, 18, 20, 1, 23, 24, 25, 26, 27, 28, 29, 30, 31, 32, 33, 34, 35, 36, 37, 38, 39, 40, 41, 42, 43, 44, 45, 46, 47, 48, 49, 50, 51, 52, 53, 54, 55, 56, 57, 58, 59, 60, 61, 62, 63, 64, 65, 66, 67, 68, 69, 70, 71, 72, 73, 74, 75, 76, 77, 78, 79, 80, 81, 82, 83, 84, 99, 100, 101, 102, 103, 104, 105, 106, 107, 108, 109, 110, 111, 112, 113, 114, 6, 115, 116, 117, 164, 165, 166, 167, 168, 169, 170, 171, 172, 173, 174, 175, 176, 177, 178, 179, 180, 181, 182, 183, 184, 185, 186, 187, 188, 189, 190, 191, 192, 193, 194, 195, 196, 197, 198, 199, 200, 201, 202, 203, 204, 205, 206, 207, 208, 209, 210, 211, 212, 213, 214, 215, 216, 217, 218, 219, 220, 221, 222, 223, 224, 225, 226, 227, 228, 229, 230, 231] (by decide +kernel) (by decide +kernel)
set_option maxRecDepth 20000 in
theorem gX11_parses_X11_head : GoodIn wsX11_parses (wsV RX11 192 RX11 yX11_head wsX11_head) := goodIn_app (goodIn_of _ (by decide +kernel)) ggX11_parses_X11_head
set_option maxRecDepth 20000 in
theorem ggX11_parses_X11_isSign : GoodIn wsX11_parses wsX11_isSign := goodIn_r _ [110, 2, 11, 22, 164, 165, 166, 167, 168, 169, 170, 171, 172, 173, 174, 175, 176, 177, 178, 179, 180, 181, 182, 183, 184, 185, 186, 187, 188, 189, 190, 191, 192, 193, 194, 195, 196, 197, 198, 199, 200, 201, 202, 203, 204, 205, 206, 207, 208, 209, 210, 211, 212, 213, 214, 215, 216, 217, 218, 219, 220, 221, 222, 223, 224, 225, 226, 227, 228, 229, 230, 231] (by decide +kernel) (by decide +kernel)
set_option maxRecDepth 20000 in
theorem gX11_parses_X11_isSign : GoodIn wsX11_parses (wsV RX11 170 RX11 yX11_isSign wsX11_isSign) := goodIn_app (goodIn_of _ (by decide +kernel)) ggX11_parses_X11_isSign
set_option maxRecDepth 20000 in
theorem ggX11_parses_X11_closes : GoodIn wsX11_parses wsX11_closes := goodIn_r _ [121, 6, 115, 116, 117, 122, 4, 123, 16, 17, 18, 19, 20, 1, 21, 11, 22, 23, 24, 25, 26, 27, 28, 29, 30, 31, 32, 33, 34, 35, 36, 37, 38, 39, 40, 41, 42, 43, 44, 45, 46, 47, 48, 49, 50, 51, 52, 53, 54, 55, 56, 57, 58, 59, 60, 61, 62, 63, 64, 65, 66, 67, 68, 69, 70, 71, 72, 73, 74, 75, 76, 77, 78, 79, 80, 81, 82, 83, 84, 124, 125, 126, 127, 128, 129, 130, 131, 132, 133, 2, 111, 112, 113, 114, 107, 108, 109, 110, 95, 96, 97, 98, 3, 99, 100, 101, 102, 103, 104, 105, 106, 164, 165, 166, 167, 168, 169, 170, 171, 172, 173, 174, 175, 176, 177, 178, 179, 180, 181, 182, 183, 184, 185, 186, 187, 188, 189, 190, 191, 192, 193, 194, 195, 196, 197, 198, 199, 200, 201, 202, 203, 204, 205, 206, 207, 208, 209, 210, 211, 212, 213, 214, 215, 216, 217, 218, 219, 220, 221, 222, 223, 224, 225, 226, 227, 228, 229, 230, 231] (by decide +kernel) (by decide +kernel)
set_option maxRecDepth 20000 in
theorem gX11_parses_X11_closes : GoodIn wsX11_parses (wsV RX11 195 RX11 yX11_closes wsX11_closes) := goodIn_app (goodIn_of _ (by decide +kernel)) ggX11_parses_X11_closes
set_option maxRecDepth 20000 in
theorem ggX11_parses_X11_statement : GoodIn wsX11_parses wsX11_statement := goodIn_r _ [137, 21, 11, 124, 125, 126, 19, 127, 4, 128, 123, 129, 122, 91, 92, 93, 94, 2, 22, 95, 96, 97, 98, 3, 16, 17, 18, 20, 1, 23, 24, 25, 26, 27, 28, 29, 30, 31, 32, 33, 34, 35, 36, 37, 38, 39, 40, 41, 42, 43, 44, 45, 46, 47, 48, 49, 50, 51, 52, 53, 54, 55, 56, 57, 58, 59, 60, 61, 62, 63, 64, 65, 66, 67, 68, 69, 70, 71, 72, 73, 74, 75, 76, 77, 78, 79, 80, 81, 82, 83, 84, 107, 108, 109, 110, 138, 139, 140, 141, 7, 142, 89, 143, 144, 145, 146, 147, 148, 99, 100, 101, 102, 103, 104, 105, 106, 149, 150, 151, 152, 130, 131, 132, 133, 153, 154, 155, 156, 15, 5, 12, 14, 157, 158, 159, 160, 161, 8, 162, 163, 111, 112, 113, 114, 6, 115, 116, 117, 164, 165, 166, 167, 168, 169, 170, 171, 172, 173, 174, 175, 176, 177, 178, 179, 180, 181, 182, 183, 184, 185, 186, 187, 188, 189, 190, 191, 192, 193, 194, 195, 196, 197, 198, 199, 200, 201, 202, 203, 204, 205, 206, 207, 208, 209, 210, 211, 212, 213, 214, 215, 216, 217, 218, 219, 220, 221, 222, 223, 224, 225, 226, 227, 228, 229, 230, 231] (by decide +kernel) (by decide +kernel)
set_option maxRecDepth 20000 in
theorem gX11_parses_X11_statement : GoodIn wsX11_parses (wsV RX11 198 RX11 yX11_statement wsX11_statement) := goodIn_app (goodIn_of _ (by decide +kernel)) ggX11_parses_X11_statement
set_option maxRecDepth 20000 in
theorem ggX11_parses_X11_wrong : GoodIn wsX11_parses wsX11_wrong := goodIn_r _ [98, 2, 3, 164, 165, 166, 167, 168, 169, 170, 171, 172, 173, 174, 175, 176, 177, 178, 179, 180, 181, 182, 183, 184, 185, 186, 187, 188, 189, 190, 191, 192, 193, 194, 195, 196, 197, 198, 199, 200, 201, 202, 203, 204, 205, 206, 207, 208, 209, 210, 211, 212, 213, 214, 215, 216, 217, 218, 219, 220, 221, 222, 223, 224, 225, 226, 227, 228, 229, 230, 231] (by decide +kernel) (by decide +kernel)
set_option maxRecDepth 20000 in
theorem gX11_parses_X11_wrong : GoodIn wsX11_parses (wsV RX11 179 RX11 yX11_wrong wsX11_wrong) := goodIn_app (goodIn_of _ (by decide +kernel)) ggX11_parses_X11_wrong
theorem dX11_parses_0 : decode cX11_parses 0 = .ok (.aload_n 0, 1) := by decide +kernel
theorem dX11_parses_1 : decode cX11_parses 1 = .ok (.iconst 0, 1) := by decide +kernel
theorem dX11_parses_2 : decode cX11_parses 2 = .ok (.putfield 127, 3) := by decide +kernel
theorem dX11_parses_5 : decode cX11_parses 5 = .ok (.aload_n 0, 1) := by decide +kernel
theorem dX11_parses_6 : decode cX11_parses 6 = .ok (.iconst 0, 1) := by decide +kernel
theorem dX11_parses_7 : decode cX11_parses 7 = .ok (.putfield 164, 3) := by decide +kernel
theorem dX11_parses_10 : decode cX11_parses 10 = .ok (.aload_n 0, 1) := by decide +kernel
theorem dX11_parses_11 : decode cX11_parses 11 = .ok (.iconst (-1), 1) := by decide +kernel
theorem dX11_parses_12 : decode cX11_parses 12 = .ok (.putfield 167, 3) := by decide +kernel
theorem dX11_parses_15 : decode cX11_parses 15 = .ok (.aload_n 0, 1) := by decide +kernel
theorem dX11_parses_16 : decode cX11_parses 16 = .ok (.iconst 0, 1) := by decide +kernel
theorem dX11_parses_17 : decode cX11_parses 17 = .ok (.putfield 183, 3) := by decide +kernel
theorem dX11_parses_20 : decode cX11_parses 20 = .ok (.aload_n 0, 1) := by decide +kernel
theorem dX11_parses_21 : decode cX11_parses 21 = .ok (.iconst 0, 1) := by decide +kernel
theorem dX11_parses_22 : decode cX11_parses 22 = .ok (.putfield 186, 3) := by decide +kernel
theorem dX11_parses_25 : decode cX11_parses 25 = .ok (.aload_n 0, 1) := by decide +kernel
theorem dX11_parses_26 : decode cX11_parses 26 = .ok (.iconst 0, 1) := by decide +kernel
theorem dX11_parses_27 : decode cX11_parses 27 = .ok (.putfield 189, 3) := by decide +kernel
theorem dX11_parses_30 : decode cX11_parses 30 = .ok (.aload_n 0, 1) := by decide +kernel
theorem dX11_parses_31 : decode cX11_parses 31 = .ok (.getfield 53, 3) := by decide +kernel
theorem dX11_parses_34 : decode cX11_parses 34 = .ok (.iconst 1, 1) := by decide +kernel
theorem dX11_parses_35 : decode cX11_parses 35 = .ok (.iconst 0, 1) := by decide +kernel
theorem dX11_parses_36 : decode cX11_parses 36 = .ok (.iastore, 1) := by decide +kernel
theorem dX11_parses_37 : decode cX11_parses 37 = .ok (.aload_n 0, 1) := by decide +kernel
theorem dX11_parses_38 : decode cX11_parses 38 = .ok (.getfield 62, 3) := by decide +kernel
theorem dX11_parses_41 : decode cX11_parses 41 = .ok (.iconst 1, 1) := by decide +kernel
theorem dX11_parses_42 : decode cX11_parses 42 = .ok (.iconst 0, 1) := by decide +kernel
theorem dX11_parses_43 : decode cX11_parses 43 = .ok (.iastore, 1) := by decide +kernel
theorem dX11_parses_44 : decode cX11_parses 44 = .ok (.aload_n 0, 1) := by decide +kernel
theorem dX11_parses_45 : decode cX11_parses 45 = .ok (.getfield 41, 3) := by decide +kernel
theorem dX11_parses_48 : decode cX11_parses 48 = .ok (.iconst 1, 1) := by decide +kernel
theorem dX11_parses_49 : decode cX11_parses 49 = .ok (.iconst (-1), 1) := by decide +kernel
theorem dX11_parses_50 : decode cX11_parses 50 = .ok (.iastore, 1) := by decide +kernel
theorem dX11_parses_51 : decode cX11_parses 51 = .ok (.bipush 8, 2) := by decide +kernel
theorem dX11_parses_53 : decode cX11_parses 53 = .ok (.istore_n 1, 1) := by decide +kernel
theorem dX11_parses_54 : decode cX11_parses 54 = .ok (.iload_n 1, 1) := by decide +kernel
theorem dX11_parses_55 : decode cX11_parses 55 = .ok (.bipush 16, 2) := by decide +kernel
theorem dX11_parses_57 : decode cX11_parses 57 = .ok (.if_icmp .ge 16, 3) := by decide +kernel
theorem dX11_parses_60 : decode cX11_parses 60 = .ok (.aload_n 0, 1) := by decide +kernel
theorem dX11_parses_61 : decode cX11_parses 61 = .ok (.getfield 32, 3) := by decide +kernel
theorem dX11_parses_64 : decode cX11_parses 64 = .ok (.iload_n 1, 1) := by decide +kernel
theorem dX11_parses_65 : decode cX11_parses 65 = .ok (.iconst (-1), 1) := by decide +kernel
theorem dX11_parses_66 : decode cX11_parses 66 = .ok (.iastore, 1) := by decide +kernel
theorem dX11_parses_67 : decode cX11_parses 67 = .ok (.iinc 1 1, 3) := by decide +kernel
theorem dX11_parses_70 : decode cX11_parses 70 = .ok (.goto (-16), 3) := by decide +kernel
theorem dX11_parses_73 : decode cX11_parses 73 = .ok (.aload_n 0, 1) := by decide +kernel
theorem dX11_parses_74 : decode cX11_parses 74 = .ok (.invokevirtual 173, 3) := by decide +kernel
theorem dX11_parses_77 : decode cX11_parses 77 = .ok (.aload_n 0, 1) := by decide +kernel
theorem dX11_parses_78 : decode cX11_parses 78 = .ok (.getfield 164, 3) := by decide +kernel
theorem dX11_parses_81 : decode cX11_parses 81 = .ok (.ifCond .ne 55, 3) := by decide +kernel
theorem dX11_parses_84 : decode cX11_parses 84 = .ok (.aload_n 0, 1) := by decide +kernel
theorem dX11_parses_85 : decode cX11_parses 85 = .ok (.getfield 140, 3) := by decide +kernel
theorem dX11_parses_88 : decode cX11_parses 88 = .ok (.iconst 4, 1) := by decide +kernel
theorem dX11_parses_89 : decode cX11_parses 89 = .ok (.if_icmp .ne 10, 3) := by decide +kernel
theorem dX11_parses_92 : decode cX11_parses 92 = .ok (.aload_n 0, 1) := by decide +kernel
theorem dX11_parses_93 : decode cX11_parses 93 = .ok (.getfield 189, 3) := by decide +kernel
theorem dX11_parses_96 : decode cX11_parses 96 = .ok (.ifCond .le 40, 3) := by decide +kernel
theorem dX11_parses_99 : decode cX11_parses 99 = .ok (.aload_n 0, 1) := by decide +kernel
theorem dX11_parses_100 : decode cX11_parses 100 = .ok (.getfield 189, 3) := by decide +kernel
theorem dX11_parses_103 : decode cX11_parses 103 = .ok (.ifCond .ne 10, 3) := by decide +kernel
theorem dX11_parses_106 : decode cX11_parses 106 = .ok (.aload_n 0, 1) := by decide +kernel
theorem dX11_parses_107 : decode cX11_parses 107 = .ok (.invokevirtual 192, 3) := by decide +kernel
theorem dX11_parses_110 : decode cX11_parses 110 = .ok (.goto (-33), 3) := by decide +kernel
theorem dX11_parses_113 : decode cX11_parses 113 = .ok (.aload_n 0, 1) := by decide +kernel
theorem dX11_parses_114 : decode cX11_parses 114 = .ok (.bipush 125, 2) := by decide +kernel
theorem dX11_parses_116 : decode cX11_parses 116 = .ok (.invokevirtual 170, 3) := by decide +kernel
theorem dX11_parses_119 : decode cX11_parses 119 = .ok (.ifCond .eq 10, 3) := by decide +kernel
theorem dX11_parses_122 : decode cX11_parses 122 = .ok (.aload_n 0, 1) := by decide +kernel
theorem dX11_parses_123 : decode cX11_parses 123 = .ok (.invokevirtual 195, 3) := by decide +kernel
theorem dX11_parses_126 : decode cX11_parses 126 = .ok (.goto (-49), 3) := by decide +kernel
theorem dX11_parses_129 : decode cX11_parses 129 = .ok (.aload_n 0, 1) := by decide +kernel
theorem dX11_parses_130 : decode cX11_parses 130 = .ok (.invokevirtual 198, 3) := by decide +kernel
theorem dX11_parses_133 : decode cX11_parses 133 = .ok (.goto (-56), 3) := by decide +kernel
theorem dX11_parses_136 : decode cX11_parses 136 = .ok (.iconst 0, 1) := by decide +kernel
theorem dX11_parses_137 : decode cX11_parses 137 = .ok (.istore_n 1, 1) := by decide +kernel
theorem dX11_parses_138 : decode cX11_parses 138 = .ok (.iload_n 1, 1) := by decide +kernel
theorem dX11_parses_139 : decode cX11_parses 139 = .ok (.aload_n 0, 1) := by decide +kernel
theorem dX11_parses_140 : decode cX11_parses 140 = .ok (.getfield 186, 3) := by decide +kernel
theorem dX11_parses_143 : decode cX11_parses 143 = .ok (.if_icmp .ge 62, 3) := by decide +kernel
theorem dX11_parses_146 : decode cX11_parses 146 = .ok (.aload_n 0, 1) := by decide +kernel
theorem dX11_parses_147 : decode cX11_parses 147 = .ok (.getfield 164, 3) := by decide +kernel
theorem dX11_parses_150 : decode cX11_parses 150 = .ok (.ifCond .ne 55, 3) := by decide +kernel
theorem dX11_parses_153 : decode cX11_parses 153 = .ok (.bipush 8, 2) := by decide +kernel
theorem dX11_parses_155 : decode cX11_parses 155 = .ok (.aload_n 0, 1) := by decide +kernel
theorem dX11_parses_156 : decode cX11_parses 156 = .ok (.getfield 68, 3) := by decide +kernel
theorem dX11_parses_159 : decode cX11_parses 159 = .ok (.iload_n 1, 1) := by decide +kernel
theorem dX11_parses_160 : decode cX11_parses 160 = .ok (.iaload, 1) := by decide +kernel
theorem dX11_parses_161 : decode cX11_parses 161 = .ok (.iadd, 1) := by decide +kernel
theorem dX11_parses_162 : decode cX11_parses 162 = .ok (.istore_n 2, 1) := by decide +kernel
theorem dX11_parses_163 : decode cX11_parses 163 = .ok (.aload_n 0, 1) := by decide +kernel
theorem dX11_parses_164 : decode cX11_parses 164 = .ok (.getfield 32, 3) := by decide +kernel
theorem dX11_parses_167 : decode cX11_parses 167 = .ok (.iload_n 2, 1) := by decide +kernel
theorem dX11_parses_168 : decode cX11_parses 168 = .ok (.iaload, 1) := by decide +kernel
theorem dX11_parses_169 : decode cX11_parses 169 = .ok (.iconst (-1), 1) := by decide +kernel
theorem dX11_parses_170 : decode cX11_parses 170 = .ok (.if_icmp .eq 18, 3) := by decide +kernel
theorem dX11_parses_173 : decode cX11_parses 173 = .ok (.aload_n 0, 1) := by decide +kernel
theorem dX11_parses_174 : decode cX11_parses 174 = .ok (.getfield 35, 3) := by decide +kernel
theorem dX11_parses_177 : decode cX11_parses 177 = .ok (.iload_n 2, 1) := by decide +kernel
theorem dX11_parses_178 : decode cX11_parses 178 = .ok (.iaload, 1) := by decide +kernel
theorem dX11_parses_179 : decode cX11_parses 179 = .ok (.aload_n 0, 1) := by decide +kernel
theorem dX11_parses_180 : decode cX11_parses 180 = .ok (.getfield 71, 3) := by decide +kernel
theorem dX11_parses_183 : decode cX11_parses 183 = .ok (.iload_n 1, 1) := by decide +kernel
theorem dX11_parses_184 : decode cX11_parses 184 = .ok (.iaload, 1) := by decide +kernel
theorem dX11_parses_185 : decode cX11_parses 185 = .ok (.if_icmp .eq 14, 3) := by decide +kernel
theorem dX11_parses_188 : decode cX11_parses 188 = .ok (.aload_n 0, 1) := by decide +kernel
theorem dX11_parses_189 : decode cX11_parses 189 = .ok (.iconst 4, 1) := by decide +kernel
theorem dX11_parses_190 : decode cX11_parses 190 = .ok (.aload_n 0, 1) := by decide +kernel
theorem dX11_parses_191 : decode cX11_parses 191 = .ok (.getfield 65, 3) := by decide +kernel
theorem dX11_parses_194 : decode cX11_parses 194 = .ok (.iload_n 1, 1) := by decide +kernel
theorem dX11_parses_195 : decode cX11_parses 195 = .ok (.iaload, 1) := by decide +kernel
theorem dX11_parses_196 : decode cX11_parses 196 = .ok (.invokevirtual 179, 3) := by decide +kernel
theorem dX11_parses_199 : decode cX11_parses 199 = .ok (.iinc 1 1, 3) := by decide +kernel
theorem dX11_parses_202 : decode cX11_parses 202 = .ok (.goto (-64), 3) := by decide +kernel
theorem dX11_parses_205 : decode cX11_parses 205 = .ok (.return_, 1) := by decide +kernel
set_option maxRecDepth 20000 in
theorem ggX11_opens_X11_isSign : GoodIn wsX11_opens wsX11_isSign := goodIn_r _ [11, 3, 12, 13, 94, 95, 96, 97, 98, 99, 100, 101, 102, 103, 104, 105, 106, 107, 108, 109, 110, 111, 112, 113, 114, 115, 116, 117, 118, 119, 120, 121, 122, 123, 124, 125, 126, 127, 128, 129, 130, 131, 132, 133, 134, 135, 136, 137, 138, 139, 140, 141, 142, 143, 144, 145, 146, 147, 148, 149, 150, 151, 152, 153, 154, 155, 156, 157, 158, 159, 160, 161] (by decide +kernel) (by decide +kernel)
set_option maxRecDepth 20000 in
theorem gX11_opens_X11_isSign : GoodIn wsX11_opens (wsV RX11 170 RX11 yX11_isSign wsX11_isSign) := goodIn_app (goodIn_of _ (by decide +kernel)) ggX11_opens_X11_isSign
set_option maxRecDepth 20000 in
theorem ggX11_opens_X11_wrong : GoodIn wsX11_opens wsX11_wrong := goodIn_r _ [17, 3, 18, 94, 95, 96, 97, 98, 99, 100, 101, 102, 103, 104, 105, 106, 107, 108, 109, 110, 111, 112, 113, 114, 115, 116, 117, 118, 119, 120, 121, 122, 123, 124, 125, 126, 127, 128, 129, 130, 131, 132, 133, 134, 135, 136, 137, 138, 139, 140, 141, 142, 143, 144, 145, 146, 147, 148, 149, 150, 151, 152, 153, 154, 155, 156, 157, 158, 159, 160, 161] (by decide +kernel) (by decide +kernel)
set_option maxRecDepth 20000 in
theorem gX11_opens_X11_wrong : GoodIn wsX11_opens (wsV RX11 179 RX11 yX11_wrong wsX11_wrong) := goodIn_app (goodIn_of _ (by decide +kernel)) ggX11_opens_X11_wrong
set_option maxRecDepth 20000 in
theorem ggX11_opens_X11_wants : GoodIn wsX11_opens wsX11_wants := goodIn_r _ [22, 2, 23, 24, 25, 10, 26, 7, 8, 9, 11, 3, 12, 13, 27, 28, 29, 30, 31, 32, 33, 34, 35, 36, 37, 38, 39, 40, 41, 42, 43, 44, 45, 46, 47, 48, 49, 50, 51, 52, 53, 54, 55, 56, 57, 58, 59, 60, 61, 62, 63, 64, 65, 66, 67, 68, 69, 70, 71, 72, 73, 74, 75, 76, 77, 78, 79, 80, 81, 82, 83, 84, 85, 86, 87, 88, 89, 90, 91, 92, 93, 14, 15, 16, 17, 18, 94, 95, 96, 97, 98, 99, 100, 101, 102, 103, 104, 105, 106, 107, 108, 109, 110, 111, 112, 113, 114, 115, 116, 117, 118, 119, 120, 121, 122, 123, 124, 125, 126, 127, 128, 129, 130, 131, 132, 133, 134, 135, 136, 137, 138, 139, 140, 141, 142, 143, 144, 145, 146, 147, 148, 149, 150, 151, 152, 153, 154, 155, 156, 157, 158, 159, 160, 161] (by decide +kernel) (by decide +kernel)
set_option maxRecDepth 20000 in
theorem gX11_opens_X11_wants : GoodIn wsX11_opens (wsV RX11 201 RX11 yX11_wants wsX11_wants) := goodIn_app (goodIn_of _ (by decide +kernel)) ggX11_opens_X11_wants
theorem dX11_opens_0 : decode cX11_opens 0 = .ok (.aload_n 0, 1) := by decide +kernel
theorem dX11_opens_1 : decode cX11_opens 1 = .ok (.bipush 123, 2) := by decide +kernel
theorem dX11_opens_3 : decode cX11_opens 3 = .ok (.invokevirtual 170, 3) := by decide +kernel
theorem dX11_opens_6 : decode cX11_opens 6 = .ok (.ifCond .eq 21, 3) := by decide +kernel
theorem dX11_opens_9 : decode cX11_opens 9 = .ok (.aload_n 0, 1) := by decide +kernel
theorem dX11_opens_10 : decode cX11_opens 10 = .ok (.getfield 189, 3) := by decide +kernel
theorem dX11_opens_13 : decode cX11_opens 13 = .ok (.bipush 6, 2) := by decide +kernel
theorem dX11_opens_15 : decode cX11_opens 15 = .ok (.if_icmp .ne 12, 3) := by decide +kernel
theorem dX11_opens_18 : decode cX11_opens 18 = .ok (.aload_n 0, 1) := by decide +kernel
theorem dX11_opens_19 : decode cX11_opens 19 = .ok (.iconst 2, 1) := by decide +kernel
theorem dX11_opens_20 : decode cX11_opens 20 = .ok (.aload_n 0, 1) := by decide +kernel
theorem dX11_opens_21 : decode cX11_opens 21 = .ok (.getfield 137, 3) := by decide +kernel
theorem dX11_opens_24 : decode cX11_opens 24 = .ok (.invokevirtual 179, 3) := by decide +kernel
theorem dX11_opens_27 : decode cX11_opens 27 = .ok (.aload_n 0, 1) := by decide +kernel
theorem dX11_opens_28 : decode cX11_opens 28 = .ok (.bipush 123, 2) := by decide +kernel
theorem dX11_opens_30 : decode cX11_opens 30 = .ok (.invokevirtual 201, 3) := by decide +kernel
theorem dX11_opens_33 : decode cX11_opens 33 = .ok (.aload_n 0, 1) := by decide +kernel
theorem dX11_opens_34 : decode cX11_opens 34 = .ok (.getfield 164, 3) := by decide +kernel
theorem dX11_opens_37 : decode cX11_opens 37 = .ok (.ifCond .eq 4, 3) := by decide +kernel
theorem dX11_opens_40 : decode cX11_opens 40 = .ok (.return_, 1) := by decide +kernel
theorem dX11_opens_41 : decode cX11_opens 41 = .ok (.aload_n 0, 1) := by decide +kernel
theorem dX11_opens_42 : decode cX11_opens 42 = .ok (.getfield 74, 3) := by decide +kernel
theorem dX11_opens_45 : decode cX11_opens 45 = .ok (.aload_n 0, 1) := by decide +kernel
theorem dX11_opens_46 : decode cX11_opens 46 = .ok (.getfield 189, 3) := by decide +kernel
theorem dX11_opens_49 : decode cX11_opens 49 = .ok (.iload_n 1, 1) := by decide +kernel
theorem dX11_opens_50 : decode cX11_opens 50 = .ok (.iastore, 1) := by decide +kernel
theorem dX11_opens_51 : decode cX11_opens 51 = .ok (.aload_n 0, 1) := by decide +kernel
theorem dX11_opens_52 : decode cX11_opens 52 = .ok (.getfield 77, 3) := by decide +kernel
theorem dX11_opens_55 : decode cX11_opens 55 = .ok (.aload_n 0, 1) := by decide +kernel
theorem dX11_opens_56 : decode cX11_opens 56 = .ok (.getfield 189, 3) := by decide +kernel
theorem dX11_opens_59 : decode cX11_opens 59 = .ok (.iload_n 2, 1) := by decide +kernel
theorem dX11_opens_60 : decode cX11_opens 60 = .ok (.iastore, 1) := by decide +kernel
theorem dX11_opens_61 : decode cX11_opens 61 = .ok (.aload_n 0, 1) := by decide +kernel
theorem dX11_opens_62 : decode cX11_opens 62 = .ok (.getfield 80, 3) := by decide +kernel
theorem dX11_opens_65 : decode cX11_opens 65 = .ok (.aload_n 0, 1) := by decide +kernel
theorem dX11_opens_66 : decode cX11_opens 66 = .ok (.getfield 189, 3) := by decide +kernel
theorem dX11_opens_69 : decode cX11_opens 69 = .ok (.iload_n 3, 1) := by decide +kernel
theorem dX11_opens_70 : decode cX11_opens 70 = .ok (.iastore, 1) := by decide +kernel
theorem dX11_opens_71 : decode cX11_opens 71 = .ok (.aload_n 0, 1) := by decide +kernel
theorem dX11_opens_72 : decode cX11_opens 72 = .ok (.dup, 1) := by decide +kernel
theorem dX11_opens_73 : decode cX11_opens 73 = .ok (.getfield 189, 3) := by decide +kernel
theorem dX11_opens_76 : decode cX11_opens 76 = .ok (.iconst 1, 1) := by decide +kernel
theorem dX11_opens_77 : decode cX11_opens 77 = .ok (.iadd, 1) := by decide +kernel
theorem dX11_opens_78 : decode cX11_opens 78 = .ok (.putfield 189, 3) := by decide +kernel
theorem dX11_opens_81 : decode cX11_opens 81 = .ok (.return_, 1) := by decide +kernel
set_option maxRecDepth 20000 in
theorem ggX11_head_X11_taken : GoodIn wsX11_head wsX11_taken := goodIn_r _ [14, 3, 6, 1, 15, 16, 17, 18, 13, 19, 20, 21, 22, 23, 24, 25, 26, 27, 28, 29, 30, 31, 32, 33, 34, 35, 36, 37, 38, 39, 40, 41, 42, 43, 44, 45, 46, 47, 48, 49, 50, 51, 52, 53, 54, 55, 56, 57, 58, 59, 60, 61, 62, 63, 64, 65, 66, 67, 68, 69, 70, 71, 72, 73, 74, 75, 76, 77, 78, 79, 80, 81, 82, 83, 84, 85, 86, 87, 108, 109, 110, 111, 112, 113, 114, 115, 116, 117, 118, 119, 120, 121, 122, 123, 124, 125, 126, 127, 128, 129, 130, 131, 132, 133, 134, 135, 136, 137, 138, 139, 140, 141, 142, 143, 144, 145, 146, 147, 148, 149, 150, 151, 152, 153, 154, 155, 156, 157, 158, 159, 160, 161, 162, 163, 164, 165, 166, 167, 168, 169, 170, 171, 172, 173, 174, 175] (by decide +kernel) (by decide +kernel)
set_option maxRecDepth 20000 in
theorem gX11_head_X11_taken : GoodIn wsX11_head (wsV RX11 205 RX11 yX11_taken wsX11_taken) := goodIn_app (goodIn_of _ (by decide +kernel)) ggX11_head_X11_taken
set_option maxRecDepth 20000 in
theorem ggX11_head_X11_wrong : GoodIn wsX11_head wsX11_wrong := goodIn_r _ [19, 3, 20, 108, 109, 110, 111, 112, 113, 114, 115, 116, 117, 118, 119, 120, 121, 122, 123, 124, 125, 126, 127, 128, 129, 130, 131, 132, 133, 134, 135, 136, 137, 138, 139, 140, 141, 142, 143, 144, 145, 146, 147, 148, 149, 150, 151, 152, 153, 154, 155, 156, 157, 158, 159, 160, 161, 162, 163, 164, 165, 166, 167, 168, 169, 170, 171, 172, 173, 174, 175] (by decide +kernel) (by decide +kernel)
set_option maxRecDepth 20000 in
theorem gX11_head_X11_wrong : GoodIn wsX11_head (wsV RX11 179 RX11 yX11_wrong wsX11_wrong) := goodIn_app (goodIn_of _ (by decide +kernel)) ggX11_head_X11_wrong
set_option maxRecDepth 20000 in
theorem ggX11_head_X11_wants : GoodIn wsX11_head wsX11_wants := goodIn_r _ [91, 1, 92, 93, 94, 13, 95, 96, 97, 98, 99, 3, 6, 15, 21, 22, 23, 24, 25, 26, 27, 28, 29, 30, 31, 32, 33, 34, 35, 36, 37, 38, 39, 40, 41, 42, 43, 44, 45, 46, 47, 48, 49, 50, 51, 52, 53, 54, 55, 56, 57, 58, 59, 60, 61, 62, 63, 64, 65, 66, 67, 68, 69, 70, 71, 72, 73, 74, 75, 76, 77, 78, 79, 80, 81, 82, 83, 84, 85, 86, 87, 16, 17, 18, 19, 20, 108, 109, 110, 111, 112, 113, 114, 115, 116, 117, 118, 119, 120, 121, 122, 123, 124, 125, 126, 127, 128, 129, 130, 131, 132, 133, 134, 135, 136, 137, 138, 139, 140, 141, 142, 143, 144, 145, 146, 147, 148, 149, 150, 151, 152, 153, 154, 155, 156, 157, 158, 159, 160, 161, 162, 163, 164, 165, 166, 167, 168, 169, 170, 171, 172, 173, 174, 175] (by decide +kernel) (by decide +kernel)
set_option maxRecDepth 20000 in
theorem gX11_head_X11_wants : GoodIn wsX11_head (wsV RX11 201 RX11 yX11_wants wsX11_wants) := goodIn_app (goodIn_of _ (by decide +kernel)) ggX11_head_X11_wants
set_option maxRecDepth 20000 in
theorem ggX11_head_X11_isSign : GoodIn wsX11_head wsX11_isSign := goodIn_r _ [99, 3, 6, 15, 108, 109, 110, 111, 112, 113, 114, 115, 116, 117, 118, 119, 120, 121, 122, 123, 124, 125, 126, 127, 128, 129, 130, 131, 132, 133, 134, 135, 136, 137, 138, 139, 140, 141, 142, 143, 144, 145, 146, 147, 148, 149, 150, 151, 152, 153, 154, 155, 156, 157, 158, 159, 160, 161, 162, 163, 164, 165, 166, 167, 168, 169, 170, 171, 172, 173, 174, 175] (by decide +kernel) (by decide +kernel)
set_option maxRecDepth 20000 in
theorem gX11_head_X11_isSign : GoodIn wsX11_head (wsV RX11 170 RX11 yX11_isSign wsX11_isSign) := goodIn_app (goodIn_of _ (by decide +kernel)) ggX11_head_X11_isSign
set_option maxRecDepth 20000 in
theorem ggX11_head_X11_takesSign : GoodIn wsX11_head wsX11_takesSign := goodIn_r _ [95, 96, 97, 98, 13, 99, 3, 6, 15, 21, 22, 23, 24, 25, 1, 26, 27, 28, 29, 30, 31, 32, 33, 34, 35, 36, 37, 38, 39, 40, 41, 42, 43, 44, 45, 46, 47, 48, 49, 50, 51, 52, 53, 54, 55, 56, 57, 58, 59, 60, 61, 62, 63, 64, 65, 66, 67, 68, 69, 70, 71, 72, 73, 74, 75, 76, 77, 78, 79, 80, 81, 82, 83, 84, 85, 86, 87, 108, 109, 110, 111, 112, 113, 114, 115, 116, 117, 118, 119, 120, 121, 122, 123, 124, 125, 126, 127, 128, 129, 130, 131, 132, 133, 134, 135, 136, 137, 138, 139, 140, 141, 142, 143, 144, 145, 146, 147, 148, 149, 150, 151, 152, 153, 154, 155, 156, 157, 158, 159, 160, 161, 162, 163, 164, 165, 166, 167, 168, 169, 170, 171, 172, 173, 174, 175] (by decide +kernel) (by decide +kernel)
set_option maxRecDepth 20000 in
theorem gX11_head_X11_takesSign : GoodIn wsX11_head (wsV RX11 176 RX11 yX11_takesSign wsX11_takesSign) := goodIn_app (goodIn_of _ (by decide +kernel)) ggX11_head_X11_takesSign
set_option maxRecDepth 20000 in
theorem ggX11_head_X11_opens : GoodIn wsX11_head wsX11_opens := goodIn_r _ [103, 104, 1, 3, 105, 106, 107, 96, 97, 98, 13, 99, 6, 15, 16, 17, 18, 19, 20, 88, 89, 90, 91, 92, 93, 94, 95, 21, 22, 23, 24, 25, 26, 27, 28, 29, 30, 31, 32, 33, 34, 35, 36, 37, 38, 39, 40, 41, 42, 43, 44, 45, 46, 47, 48, 49, 50, 51, 52, 53, 54, 55, 56, 57, 58, 59, 60, 61, 62, 63, 64, 65, 66, 67, 68, 69, 70, 71, 72, 73, 74, 75, 76, 77, 78, 79, 80, 81, 82, 83, 84, 85, 86, 87, 108, 109, 110, 111, 112, 113, 114, 115, 116, 117, 118, 119, 120, 121, 122, 123, 124, 125, 126, 127, 128, 129, 130, 131, 132, 133, 134, 135, 136, 137, 138, 139, 140, 141, 142, 143, 144, 145, 146, 147, 148, 149, 150, 151, 152, 153, 154, 155, 156, 157, 158, 159, 160, 161, 162, 163, 164, 165, 166, 167, 168, 169, 170, 171, 172, 173, 174, 175] (by decide +kernel) (by decide +kernel)
set_option maxRecDepth 20000 in
theorem gX11_head_X11_opens : GoodIn wsX11_head (wsV RX11 212 RX11 yX11_opens wsX11_opens) := goodIn_app (goodIn_of _ (by decide +kernel)) ggX11_head_X11_opens
theorem dX11_head_0 : decode cX11_head 0 = .ok (.aload_n 0, 1) := by decide +kernel
theorem dX11_head_1 : decode cX11_head 1 = .ok (.getfield 137, 3) := by decide +kernel
theorem dX11_head_4 : decode cX11_head 4 = .ok (.istore_n 1, 1) := by decide +kernel
theorem dX11_head_5 : decode cX11_head 5 = .ok (.aload_n 0, 1) := by decide +kernel
theorem dX11_head_6 : decode cX11_head 6 = .ok (.aload_n 0, 1) := by decide +kernel
theorem dX11_head_7 : decode cX11_head 7 = .ok (.iconst 1, 1) := by decide +kernel
theorem dX11_head_8 : decode cX11_head 8 = .ok (.invokevirtual 205, 3) := by decide +kernel
theorem dX11_head_11 : decode cX11_head 11 = .ok (.putfield 209, 3) := by decide +kernel
theorem dX11_head_14 : decode cX11_head 14 = .ok (.aload_n 0, 1) := by decide +kernel
theorem dX11_head_15 : decode cX11_head 15 = .ok (.getfield 164, 3) := by decide +kernel
theorem dX11_head_18 : decode cX11_head 18 = .ok (.ifCond .eq 4, 3) := by decide +kernel
theorem dX11_head_21 : decode cX11_head 21 = .ok (.return_, 1) := by decide +kernel
theorem dX11_head_22 : decode cX11_head 22 = .ok (.bipush 8, 2) := by decide +kernel
theorem dX11_head_24 : decode cX11_head 24 = .ok (.aload_n 0, 1) := by decide +kernel
theorem dX11_head_25 : decode cX11_head 25 = .ok (.getfield 209, 3) := by decide +kernel
theorem dX11_head_28 : decode cX11_head 28 = .ok (.iadd, 1) := by decide +kernel
theorem dX11_head_29 : decode cX11_head 29 = .ok (.istore_n 2, 1) := by decide +kernel
theorem dX11_head_30 : decode cX11_head 30 = .ok (.aload_n 0, 1) := by decide +kernel
theorem dX11_head_31 : decode cX11_head 31 = .ok (.getfield 32, 3) := by decide +kernel
theorem dX11_head_34 : decode cX11_head 34 = .ok (.iload_n 2, 1) := by decide +kernel
theorem dX11_head_35 : decode cX11_head 35 = .ok (.iaload, 1) := by decide +kernel
theorem dX11_head_36 : decode cX11_head 36 = .ok (.iconst (-1), 1) := by decide +kernel
theorem dX11_head_37 : decode cX11_head 37 = .ok (.if_icmp .eq 9, 3) := by decide +kernel
theorem dX11_head_40 : decode cX11_head 40 = .ok (.aload_n 0, 1) := by decide +kernel
theorem dX11_head_41 : decode cX11_head 41 = .ok (.iconst 3, 1) := by decide +kernel
theorem dX11_head_42 : decode cX11_head 42 = .ok (.iload_n 1, 1) := by decide +kernel
theorem dX11_head_43 : decode cX11_head 43 = .ok (.invokevirtual 179, 3) := by decide +kernel
theorem dX11_head_46 : decode cX11_head 46 = .ok (.aload_n 0, 1) := by decide +kernel
theorem dX11_head_47 : decode cX11_head 47 = .ok (.bipush 40, 2) := by decide +kernel
theorem dX11_head_49 : decode cX11_head 49 = .ok (.invokevirtual 201, 3) := by decide +kernel
theorem dX11_head_52 : decode cX11_head 52 = .ok (.aload_n 0, 1) := by decide +kernel
theorem dX11_head_53 : decode cX11_head 53 = .ok (.getfield 35, 3) := by decide +kernel
theorem dX11_head_56 : decode cX11_head 56 = .ok (.iload_n 2, 1) := by decide +kernel
theorem dX11_head_57 : decode cX11_head 57 = .ok (.iconst 0, 1) := by decide +kernel
theorem dX11_head_58 : decode cX11_head 58 = .ok (.iastore, 1) := by decide +kernel
theorem dX11_head_59 : decode cX11_head 59 = .ok (.aload_n 0, 1) := by decide +kernel
theorem dX11_head_60 : decode cX11_head 60 = .ok (.getfield 164, 3) := by decide +kernel
theorem dX11_head_63 : decode cX11_head 63 = .ok (.ifCond .ne 16, 3) := by decide +kernel
theorem dX11_head_66 : decode cX11_head 66 = .ok (.aload_n 0, 1) := by decide +kernel
theorem dX11_head_67 : decode cX11_head 67 = .ok (.bipush 41, 2) := by decide +kernel
theorem dX11_head_69 : decode cX11_head 69 = .ok (.invokevirtual 170, 3) := by decide +kernel
theorem dX11_head_72 : decode cX11_head 72 = .ok (.ifCond .ne 7, 3) := by decide +kernel
theorem dX11_head_75 : decode cX11_head 75 = .ok (.iconst 1, 1) := by decide +kernel
theorem dX11_head_76 : decode cX11_head 76 = .ok (.goto 4, 3) := by decide +kernel
theorem dX11_head_79 : decode cX11_head 79 = .ok (.iconst 0, 1) := by decide +kernel
theorem dX11_head_80 : decode cX11_head 80 = .ok (.istore_n 3, 1) := by decide +kernel
theorem dX11_head_81 : decode cX11_head 81 = .ok (.iload_n 3, 1) := by decide +kernel
theorem dX11_head_82 : decode cX11_head 82 = .ok (.ifCond .eq 142, 3) := by decide +kernel
theorem dX11_head_85 : decode cX11_head 85 = .ok (.aload_n 0, 1) := by decide +kernel
theorem dX11_head_86 : decode cX11_head 86 = .ok (.getfield 164, 3) := by decide +kernel
theorem dX11_head_89 : decode cX11_head 89 = .ok (.ifCond .ne 135, 3) := by decide +kernel
theorem dX11_head_92 : decode cX11_head 92 = .ok (.aload_n 0, 1) := by decide +kernel
theorem dX11_head_93 : decode cX11_head 93 = .ok (.getfield 137, 3) := by decide +kernel
theorem dX11_head_96 : decode cX11_head 96 = .ok (.istore 4, 2) := by decide +kernel
theorem dX11_head_98 : decode cX11_head 98 = .ok (.aload_n 0, 1) := by decide +kernel
theorem dX11_head_99 : decode cX11_head 99 = .ok (.getfield 140, 3) := by decide +kernel
theorem dX11_head_102 : decode cX11_head 102 = .ok (.ifCond .ne 20, 3) := by decide +kernel
theorem dX11_head_105 : decode cX11_head 105 = .ok (.aload_n 0, 1) := by decide +kernel
theorem dX11_head_106 : decode cX11_head 106 = .ok (.getfield 35, 3) := by decide +kernel
theorem dX11_head_109 : decode cX11_head 109 = .ok (.iload_n 2, 1) := by decide +kernel
theorem dX11_head_110 : decode cX11_head 110 = .ok (.iaload, 1) := by decide +kernel
theorem dX11_head_111 : decode cX11_head 111 = .ok (.iconst 4, 1) := by decide +kernel
theorem dX11_head_112 : decode cX11_head 112 = .ok (.if_icmp .ne 10, 3) := by decide +kernel
theorem dX11_head_115 : decode cX11_head 115 = .ok (.aload_n 0, 1) := by decide +kernel
theorem dX11_head_116 : decode cX11_head 116 = .ok (.iconst 2, 1) := by decide +kernel
theorem dX11_head_117 : decode cX11_head 117 = .ok (.iload 4, 2) := by decide +kernel
theorem dX11_head_119 : decode cX11_head 119 = .ok (.invokevirtual 179, 3) := by decide +kernel
theorem dX11_head_122 : decode cX11_head 122 = .ok (.aload_n 0, 1) := by decide +kernel
theorem dX11_head_123 : decode cX11_head 123 = .ok (.iconst 0, 1) := by decide +kernel
theorem dX11_head_124 : decode cX11_head 124 = .ok (.invokevirtual 205, 3) := by decide +kernel
theorem dX11_head_127 : decode cX11_head 127 = .ok (.istore 5, 2) := by decide +kernel
theorem dX11_head_129 : decode cX11_head 129 = .ok (.iconst 0, 1) := by decide +kernel
theorem dX11_head_130 : decode cX11_head 130 = .ok (.istore 6, 2) := by decide +kernel
theorem dX11_head_132 : decode cX11_head 132 = .ok (.iload 6, 2) := by decide +kernel
theorem dX11_head_134 : decode cX11_head 134 = .ok (.aload_n 0, 1) := by decide +kernel
theorem dX11_head_135 : decode cX11_head 135 = .ok (.getfield 35, 3) := by decide +kernel
theorem dX11_head_138 : decode cX11_head 138 = .ok (.iload_n 2, 1) := by decide +kernel
theorem dX11_head_139 : decode cX11_head 139 = .ok (.iaload, 1) := by decide +kernel
theorem dX11_head_140 : decode cX11_head 140 = .ok (.if_icmp .ge 39, 3) := by decide +kernel
theorem dX11_head_143 : decode cX11_head 143 = .ok (.aload_n 0, 1) := by decide +kernel
theorem dX11_head_144 : decode cX11_head 144 = .ok (.getfield 164, 3) := by decide +kernel
theorem dX11_head_147 : decode cX11_head 147 = .ok (.ifCond .ne 32, 3) := by decide +kernel
theorem dX11_head_150 : decode cX11_head 150 = .ok (.aload_n 0, 1) := by decide +kernel
theorem dX11_head_151 : decode cX11_head 151 = .ok (.getfield 38, 3) := by decide +kernel
theorem dX11_head_154 : decode cX11_head 154 = .ok (.iconst 4, 1) := by decide +kernel
theorem dX11_head_155 : decode cX11_head 155 = .ok (.iload_n 2, 1) := by decide +kernel
theorem dX11_head_156 : decode cX11_head 156 = .ok (.imul, 1) := by decide +kernel
theorem dX11_head_157 : decode cX11_head 157 = .ok (.iload 6, 2) := by decide +kernel
theorem dX11_head_159 : decode cX11_head 159 = .ok (.iadd, 1) := by decide +kernel
theorem dX11_head_160 : decode cX11_head 160 = .ok (.iaload, 1) := by decide +kernel
theorem dX11_head_161 : decode cX11_head 161 = .ok (.iload 5, 2) := by decide +kernel
theorem dX11_head_163 : decode cX11_head 163 = .ok (.if_icmp .ne 10, 3) := by decide +kernel
theorem dX11_head_166 : decode cX11_head 166 = .ok (.aload_n 0, 1) := by decide +kernel
theorem dX11_head_167 : decode cX11_head 167 = .ok (.iconst 3, 1) := by decide +kernel
theorem dX11_head_168 : decode cX11_head 168 = .ok (.iload 4, 2) := by decide +kernel
theorem dX11_head_170 : decode cX11_head 170 = .ok (.invokevirtual 179, 3) := by decide +kernel
theorem dX11_head_173 : decode cX11_head 173 = .ok (.iinc 6 1, 3) := by decide +kernel
theorem dX11_head_176 : decode cX11_head 176 = .ok (.goto (-44), 3) := by decide +kernel
theorem dX11_head_179 : decode cX11_head 179 = .ok (.aload_n 0, 1) := by decide +kernel
theorem dX11_head_180 : decode cX11_head 180 = .ok (.getfield 164, 3) := by decide +kernel
theorem dX11_head_183 : decode cX11_head 183 = .ok (.ifCond .eq 4, 3) := by decide +kernel
theorem dX11_head_186 : decode cX11_head 186 = .ok (.return_, 1) := by decide +kernel
theorem dX11_head_187 : decode cX11_head 187 = .ok (.aload_n 0, 1) := by decide +kernel
theorem dX11_head_188 : decode cX11_head 188 = .ok (.getfield 38, 3) := by decide +kernel
theorem dX11_head_191 : decode cX11_head 191 = .ok (.iconst 4, 1) := by decide +kernel
theorem dX11_head_192 : decode cX11_head 192 = .ok (.iload_n 2, 1) := by decide +kernel
theorem dX11_head_193 : decode cX11_head 193 = .ok (.imul, 1) := by decide +kernel
theorem dX11_head_194 : decode cX11_head 194 = .ok (.aload_n 0, 1) := by decide +kernel
theorem dX11_head_195 : decode cX11_head 195 = .ok (.getfield 35, 3) := by decide +kernel
theorem dX11_head_198 : decode cX11_head 198 = .ok (.iload_n 2, 1) := by decide +kernel
theorem dX11_head_199 : decode cX11_head 199 = .ok (.iaload, 1) := by decide +kernel
theorem dX11_head_200 : decode cX11_head 200 = .ok (.iadd, 1) := by decide +kernel
theorem dX11_head_201 : decode cX11_head 201 = .ok (.iload 5, 2) := by decide +kernel
theorem dX11_head_203 : decode cX11_head 203 = .ok (.iastore, 1) := by decide +kernel
theorem dX11_head_204 : decode cX11_head 204 = .ok (.aload_n 0, 1) := by decide +kernel
theorem dX11_head_205 : decode cX11_head 205 = .ok (.getfield 35, 3) := by decide +kernel
theorem dX11_head_208 : decode cX11_head 208 = .ok (.iload_n 2, 1) := by decide +kernel
theorem dX11_head_209 : decode cX11_head 209 = .ok (.dup2, 1) := by decide +kernel
theorem dX11_head_210 : decode cX11_head 210 = .ok (.iaload, 1) := by decide +kernel
theorem dX11_head_211 : decode cX11_head 211 = .ok (.iconst 1, 1) := by decide +kernel
theorem dX11_head_212 : decode cX11_head 212 = .ok (.iadd, 1) := by decide +kernel
theorem dX11_head_213 : decode cX11_head 213 = .ok (.iastore, 1) := by decide +kernel
theorem dX11_head_214 : decode cX11_head 214 = .ok (.aload_n 0, 1) := by decide +kernel
theorem dX11_head_215 : decode cX11_head 215 = .ok (.bipush 44, 2) := by decide +kernel
theorem dX11_head_217 : decode cX11_head 217 = .ok (.invokevirtual 176, 3) := by decide +kernel
theorem dX11_head_220 : decode cX11_head 220 = .ok (.istore_n 3, 1) := by decide +kernel
theorem dX11_head_221 : decode cX11_head 221 = .ok (.goto (-140), 3) := by decide +kernel
theorem dX11_head_224 : decode cX11_head 224 = .ok (.aload_n 0, 1) := by decide +kernel
theorem dX11_head_225 : decode cX11_head 225 = .ok (.bipush 41, 2) := by decide +kernel
theorem dX11_head_227 : decode cX11_head 227 = .ok (.invokevirtual 201, 3) := by decide +kernel
theorem dX11_head_230 : decode cX11_head 230 = .ok (.aload_n 0, 1) := by decide +kernel
theorem dX11_head_231 : decode cX11_head 231 = .ok (.iconst 0, 1) := by decide +kernel
theorem dX11_head_232 : decode cX11_head 232 = .ok (.iconst (-1), 1) := by decide +kernel
theorem dX11_head_233 : decode cX11_head 233 = .ok (.iconst (-1), 1) := by decide +kernel
theorem dX11_head_234 : decode cX11_head 234 = .ok (.invokevirtual 212, 3) := by decide +kernel
theorem dX11_head_237 : decode cX11_head 237 = .ok (.aload_n 0, 1) := by decide +kernel
theorem dX11_head_238 : decode cX11_head 238 = .ok (.getfield 32, 3) := by decide +kernel
theorem dX11_head_241 : decode cX11_head 241 = .ok (.iload_n 2, 1) := by decide +kernel
theorem dX11_head_242 : decode cX11_head 242 = .ok (.aload_n 0, 1) := by decide +kernel
theorem dX11_head_243 : decode cX11_head 243 = .ok (.getfield 183, 3) := by decide +kernel
theorem dX11_head_246 : decode cX11_head 246 = .ok (.iastore, 1) := by decide +kernel
theorem dX11_head_247 : decode cX11_head 247 = .ok (.aload_n 0, 1) := by decide +kernel
theorem dX11_head_248 : decode cX11_head 248 = .ok (.getfield 41, 3) := by decide +kernel
theorem dX11_head_251 : decode cX11_head 251 = .ok (.iconst 1, 1) := by decide +kernel
theorem dX11_head_252 : decode cX11_head 252 = .ok (.iaload, 1) := by decide +kernel
theorem dX11_head_253 : decode cX11_head 253 = .ok (.iconst (-1), 1) := by decide +kernel
theorem dX11_head_254 : decode cX11_head 254 = .ok (.if_icmp .ne 13, 3) := by decide +kernel
theorem dX11_head_257 : decode cX11_head 257 = .ok (.aload_n 0, 1) := by decide +kernel
theorem dX11_head_258 : decode cX11_head 258 = .ok (.getfield 41, 3) := by decide +kernel
theorem dX11_head_261 : decode cX11_head 261 = .ok (.iconst 1, 1) := by decide +kernel
theorem dX11_head_262 : decode cX11_head 262 = .ok (.aload_n 0, 1) := by decide +kernel
theorem dX11_head_263 : decode cX11_head 263 = .ok (.getfield 209, 3) := by decide +kernel
theorem dX11_head_266 : decode cX11_head 266 = .ok (.iastore, 1) := by decide +kernel
theorem dX11_head_267 : decode cX11_head 267 = .ok (.return_, 1) := by decide +kernel
set_option maxRecDepth 20000 in
theorem ggX11_closes_X11_next : GoodIn wsX11_closes wsX11_next := goodIn_r _ [12, 13, 14, 15, 16, 17, 18, 19, 11, 20, 21, 22, 23, 24, 25, 26, 27, 28, 29, 30, 31, 32, 33, 34, 35, 36, 37, 38, 39, 40, 41, 42, 43, 44, 45, 46, 47, 48, 49, 50, 51, 52, 53, 54, 55, 56, 57, 58, 59, 60, 61, 62, 63, 64, 65, 66, 67, 68, 69, 70, 71, 72, 73, 74, 75, 76, 77, 78, 111, 112, 113, 114, 115, 116, 117, 118, 119, 120, 121, 122, 123, 124, 125, 126, 127, 128, 129, 130, 131, 132, 133, 134, 135, 136, 137, 138, 139, 140, 141, 142, 143, 144, 145, 146, 147, 148, 149, 150, 151, 152, 153, 154, 155, 156, 157, 158, 159, 160, 161, 162, 163, 164, 165, 166, 167, 168, 169, 170, 171, 172, 173, 174, 175, 176, 177, 178] (by decide +kernel) (by decide +kernel)
set_option maxRecDepth 20000 in
theorem gX11_closes_X11_next : GoodIn wsX11_closes (wsV RX11 173 RX11 yX11_next wsX11_next) := goodIn_app (goodIn_of _ (by decide +kernel)) ggX11_closes_X11_next
set_option maxRecDepth 20000 in
theorem ggX11_closes_X11_emit : GoodIn wsX11_closes wsX11_emit := goodIn_r _ [82, 6, 83, 7, 84, 5, 111, 112, 113, 114, 115, 116, 117, 118, 119, 120, 121, 122, 123, 124, 125, 126, 127, 128, 129, 130, 131, 132, 133, 134, 135, 136, 137, 138, 139, 140, 141, 142, 143, 144, 145, 146, 147, 148, 149, 150, 151, 152, 153, 154, 155, 156, 157, 158, 159, 160, 161, 162, 163, 164, 165, 166, 167, 168, 169, 170, 171, 172, 173, 174, 175, 176, 177, 178] (by decide +kernel) (by decide +kernel)
set_option maxRecDepth 20000 in
theorem gX11_closes_X11_emit : GoodIn wsX11_closes (wsV RX11 216 RX11 yX11_emit wsX11_emit) := goodIn_app (goodIn_of _ (by decide +kernel)) ggX11_closes_X11_emit
set_option maxRecDepth 20000 in
theorem ggX11_closes_X11_isWord : GoodIn wsX11_closes wsX11_isWord := goodIn_r _ [88, 89, 15, 16, 111, 112, 113, 114, 115, 116, 117, 118, 119, 120, 121, 122, 123, 124, 125, 126, 127, 128, 129, 130, 131, 132, 133, 134, 135, 136, 137, 138, 139, 140, 141, 142, 143, 144, 145, 146, 147, 148, 149, 150, 151, 152, 153, 154, 155, 156, 157, 158, 159, 160, 161, 162, 163, 164, 165, 166, 167, 168, 169, 170, 171, 172, 173, 174, 175, 176, 177, 178] (by decide +kernel) (by decide +kernel)
set_option maxRecDepth 20000 in
theorem gX11_closes_X11_isWord : GoodIn wsX11_closes (wsV RX11 220 RX11 yX11_isWord wsX11_isWord) := goodIn_app (goodIn_of _ (by decide +kernel)) ggX11_closes_X11_isWord
set_option maxRecDepth 20000 in
theorem ggX11_closes_X11_opens : GoodIn wsX11_closes wsX11_opens := goodIn_r _ [93, 1, 14, 89, 2, 3, 4, 94, 95, 96, 11, 97, 15, 16, 98, 99, 100, 101, 102, 103, 104, 105, 106, 107, 108, 109, 110, 8, 9, 10, 12, 13, 17, 18, 19, 20, 21, 22, 23, 24, 25, 26, 27, 28, 29, 30, 31, 32, 33, 34, 35, 36, 37, 38, 39, 40, 41, 42, 43, 44, 45, 46, 47, 48, 49, 50, 51, 52, 53, 54, 55, 56, 57, 58, 59, 60, 61, 62, 63, 64, 65, 66, 67, 68, 69, 70, 71, 72, 73, 74, 75, 76, 77, 78, 111, 112, 113, 114, 115, 116, 117, 118, 119, 120, 121, 122, 123, 124, 125, 126, 127, 128, 129, 130, 131, 132, 133, 134, 135, 136, 137, 138, 139, 140, 141, 142, 143, 144, 145, 146, 147, 148, 149, 150, 151, 152, 153, 154, 155, 156, 157, 158, 159, 160, 161, 162, 163, 164, 165, 166, 167, 168, 169, 170, 171, 172, 173, 174, 175, 176, 177, 178] (by decide +kernel) (by decide +kernel)
set_option maxRecDepth 20000 in
theorem gX11_closes_X11_opens : GoodIn wsX11_closes (wsV RX11 212 RX11 yX11_opens wsX11_opens) := goodIn_app (goodIn_of _ (by decide +kernel)) ggX11_closes_X11_opens
theorem dX11_closes_0 : decode cX11_closes 0 = .ok (.aload_n 0, 1) := by decide +kernel
theorem dX11_closes_1 : decode cX11_closes 1 = .ok (.invokevirtual 173, 3) := by decide +kernel
theorem dX11_closes_4 : decode cX11_closes 4 = .ok (.aload_n 0, 1) := by decide +kernel
theorem dX11_closes_5 : decode cX11_closes 5 = .ok (.dup, 1) := by decide +kernel
theorem dX11_closes_6 : decode cX11_closes 6 = .ok (.getfield 189, 3) := by decide +kernel
theorem dX11_closes_9 : decode cX11_closes 9 = .ok (.iconst 1, 1) := by decide +kernel
theorem dX11_closes_10 : decode cX11_closes 10 = .ok (.isub, 1) := by decide +kernel
theorem dX11_closes_11 : decode cX11_closes 11 = .ok (.putfield 189, 3) := by decide +kernel
theorem dX11_closes_14 : decode cX11_closes 14 = .ok (.aload_n 0, 1) := by decide +kernel
theorem dX11_closes_15 : decode cX11_closes 15 = .ok (.getfield 74, 3) := by decide +kernel
theorem dX11_closes_18 : decode cX11_closes 18 = .ok (.aload_n 0, 1) := by decide +kernel
theorem dX11_closes_19 : decode cX11_closes 19 = .ok (.getfield 189, 3) := by decide +kernel
theorem dX11_closes_22 : decode cX11_closes 22 = .ok (.iaload, 1) := by decide +kernel
theorem dX11_closes_23 : decode cX11_closes 23 = .ok (.istore_n 1, 1) := by decide +kernel
theorem dX11_closes_24 : decode cX11_closes 24 = .ok (.aload_n 0, 1) := by decide +kernel
theorem dX11_closes_25 : decode cX11_closes 25 = .ok (.getfield 77, 3) := by decide +kernel
theorem dX11_closes_28 : decode cX11_closes 28 = .ok (.aload_n 0, 1) := by decide +kernel
theorem dX11_closes_29 : decode cX11_closes 29 = .ok (.getfield 189, 3) := by decide +kernel
theorem dX11_closes_32 : decode cX11_closes 32 = .ok (.iaload, 1) := by decide +kernel
theorem dX11_closes_33 : decode cX11_closes 33 = .ok (.istore_n 2, 1) := by decide +kernel
theorem dX11_closes_34 : decode cX11_closes 34 = .ok (.iload_n 1, 1) := by decide +kernel
theorem dX11_closes_35 : decode cX11_closes 35 = .ok (.ifCond .ne 25, 3) := by decide +kernel
theorem dX11_closes_38 : decode cX11_closes 38 = .ok (.aload_n 0, 1) := by decide +kernel
theorem dX11_closes_39 : decode cX11_closes 39 = .ok (.iconst 1, 1) := by decide +kernel
theorem dX11_closes_40 : decode cX11_closes 40 = .ok (.iconst 0, 1) := by decide +kernel
theorem dX11_closes_41 : decode cX11_closes 41 = .ok (.iconst 0, 1) := by decide +kernel
theorem dX11_closes_42 : decode cX11_closes 42 = .ok (.iconst 0, 1) := by decide +kernel
theorem dX11_closes_43 : decode cX11_closes 43 = .ok (.invokevirtual 216, 3) := by decide +kernel
theorem dX11_closes_46 : decode cX11_closes 46 = .ok (.pop, 1) := by decide +kernel
theorem dX11_closes_47 : decode cX11_closes 47 = .ok (.aload_n 0, 1) := by decide +kernel
theorem dX11_closes_48 : decode cX11_closes 48 = .ok (.bipush 9, 2) := by decide +kernel
theorem dX11_closes_50 : decode cX11_closes 50 = .ok (.iconst 0, 1) := by decide +kernel
theorem dX11_closes_51 : decode cX11_closes 51 = .ok (.iconst 0, 1) := by decide +kernel
theorem dX11_closes_52 : decode cX11_closes 52 = .ok (.iconst 0, 1) := by decide +kernel
theorem dX11_closes_53 : decode cX11_closes 53 = .ok (.invokevirtual 216, 3) := by decide +kernel
theorem dX11_closes_56 : decode cX11_closes 56 = .ok (.pop, 1) := by decide +kernel
theorem dX11_closes_57 : decode cX11_closes 57 = .ok (.goto 130, 3) := by decide +kernel
theorem dX11_closes_60 : decode cX11_closes 60 = .ok (.iload_n 1, 1) := by decide +kernel
theorem dX11_closes_61 : decode cX11_closes 61 = .ok (.iconst 3, 1) := by decide +kernel
theorem dX11_closes_62 : decode cX11_closes 62 = .ok (.if_icmp .ne 38, 3) := by decide +kernel
theorem dX11_closes_65 : decode cX11_closes 65 = .ok (.aload_n 0, 1) := by decide +kernel
theorem dX11_closes_66 : decode cX11_closes 66 = .ok (.bipush 13, 2) := by decide +kernel
theorem dX11_closes_68 : decode cX11_closes 68 = .ok (.aload_n 0, 1) := by decide +kernel
theorem dX11_closes_69 : decode cX11_closes 69 = .ok (.getfield 80, 3) := by decide +kernel
theorem dX11_closes_72 : decode cX11_closes 72 = .ok (.aload_n 0, 1) := by decide +kernel
theorem dX11_closes_73 : decode cX11_closes 73 = .ok (.getfield 189, 3) := by decide +kernel
theorem dX11_closes_76 : decode cX11_closes 76 = .ok (.iaload, 1) := by decide +kernel
theorem dX11_closes_77 : decode cX11_closes 77 = .ok (.iconst 1, 1) := by decide +kernel
theorem dX11_closes_78 : decode cX11_closes 78 = .ok (.iconst 0, 1) := by decide +kernel
theorem dX11_closes_79 : decode cX11_closes 79 = .ok (.invokevirtual 216, 3) := by decide +kernel
theorem dX11_closes_82 : decode cX11_closes 82 = .ok (.pop, 1) := by decide +kernel
theorem dX11_closes_83 : decode cX11_closes 83 = .ok (.aload_n 0, 1) := by decide +kernel
theorem dX11_closes_84 : decode cX11_closes 84 = .ok (.getfield 26, 3) := by decide +kernel
theorem dX11_closes_87 : decode cX11_closes 87 = .ok (.sipush 1300, 3) := by decide +kernel
theorem dX11_closes_90 : decode cX11_closes 90 = .ok (.iload_n 2, 1) := by decide +kernel
theorem dX11_closes_91 : decode cX11_closes 91 = .ok (.iadd, 1) := by decide +kernel
theorem dX11_closes_92 : decode cX11_closes 92 = .ok (.aload_n 0, 1) := by decide +kernel
theorem dX11_closes_93 : decode cX11_closes 93 = .ok (.getfield 183, 3) := by decide +kernel
theorem dX11_closes_96 : decode cX11_closes 96 = .ok (.iastore, 1) := by decide +kernel
theorem dX11_closes_97 : decode cX11_closes 97 = .ok (.goto 90, 3) := by decide +kernel
theorem dX11_closes_100 : decode cX11_closes 100 = .ok (.iload_n 1, 1) := by decide +kernel
theorem dX11_closes_101 : decode cX11_closes 101 = .ok (.iconst 1, 1) := by decide +kernel
theorem dX11_closes_102 : decode cX11_closes 102 = .ok (.if_icmp .ne 49, 3) := by decide +kernel
theorem dX11_closes_105 : decode cX11_closes 105 = .ok (.aload_n 0, 1) := by decide +kernel
theorem dX11_closes_106 : decode cX11_closes 106 = .ok (.iconst 1, 1) := by decide +kernel
theorem dX11_closes_107 : decode cX11_closes 107 = .ok (.invokevirtual 220, 3) := by decide +kernel
theorem dX11_closes_110 : decode cX11_closes 110 = .ok (.ifCond .eq 41, 3) := by decide +kernel
theorem dX11_closes_113 : decode cX11_closes 113 = .ok (.aload_n 0, 1) := by decide +kernel
theorem dX11_closes_114 : decode cX11_closes 114 = .ok (.invokevirtual 173, 3) := by decide +kernel
theorem dX11_closes_117 : decode cX11_closes 117 = .ok (.aload_n 0, 1) := by decide +kernel
theorem dX11_closes_118 : decode cX11_closes 118 = .ok (.bipush 13, 2) := by decide +kernel
theorem dX11_closes_120 : decode cX11_closes 120 = .ok (.iconst 0, 1) := by decide +kernel
theorem dX11_closes_121 : decode cX11_closes 121 = .ok (.iconst 0, 1) := by decide +kernel
theorem dX11_closes_122 : decode cX11_closes 122 = .ok (.iconst 0, 1) := by decide +kernel
theorem dX11_closes_123 : decode cX11_closes 123 = .ok (.invokevirtual 216, 3) := by decide +kernel
theorem dX11_closes_126 : decode cX11_closes 126 = .ok (.istore_n 3, 1) := by decide +kernel
theorem dX11_closes_127 : decode cX11_closes 127 = .ok (.aload_n 0, 1) := by decide +kernel
theorem dX11_closes_128 : decode cX11_closes 128 = .ok (.getfield 26, 3) := by decide +kernel
theorem dX11_closes_131 : decode cX11_closes 131 = .ok (.sipush 1300, 3) := by decide +kernel
theorem dX11_closes_134 : decode cX11_closes 134 = .ok (.iload_n 2, 1) := by decide +kernel
theorem dX11_closes_135 : decode cX11_closes 135 = .ok (.iadd, 1) := by decide +kernel
theorem dX11_closes_136 : decode cX11_closes 136 = .ok (.aload_n 0, 1) := by decide +kernel
theorem dX11_closes_137 : decode cX11_closes 137 = .ok (.getfield 183, 3) := by decide +kernel
theorem dX11_closes_140 : decode cX11_closes 140 = .ok (.iastore, 1) := by decide +kernel
theorem dX11_closes_141 : decode cX11_closes 141 = .ok (.aload_n 0, 1) := by decide +kernel
theorem dX11_closes_142 : decode cX11_closes 142 = .ok (.iconst 2, 1) := by decide +kernel
theorem dX11_closes_143 : decode cX11_closes 143 = .ok (.iload_n 3, 1) := by decide +kernel
theorem dX11_closes_144 : decode cX11_closes 144 = .ok (.iconst (-1), 1) := by decide +kernel
theorem dX11_closes_145 : decode cX11_closes 145 = .ok (.invokevirtual 212, 3) := by decide +kernel
theorem dX11_closes_148 : decode cX11_closes 148 = .ok (.goto 39, 3) := by decide +kernel
theorem dX11_closes_151 : decode cX11_closes 151 = .ok (.iload_n 1, 1) := by decide +kernel
theorem dX11_closes_152 : decode cX11_closes 152 = .ok (.iconst 1, 1) := by decide +kernel
theorem dX11_closes_153 : decode cX11_closes 153 = .ok (.if_icmp .ne 20, 3) := by decide +kernel
theorem dX11_closes_156 : decode cX11_closes 156 = .ok (.aload_n 0, 1) := by decide +kernel
theorem dX11_closes_157 : decode cX11_closes 157 = .ok (.getfield 26, 3) := by decide +kernel
theorem dX11_closes_160 : decode cX11_closes 160 = .ok (.sipush 1300, 3) := by decide +kernel
theorem dX11_closes_163 : decode cX11_closes 163 = .ok (.iload_n 2, 1) := by decide +kernel
theorem dX11_closes_164 : decode cX11_closes 164 = .ok (.iadd, 1) := by decide +kernel
theorem dX11_closes_165 : decode cX11_closes 165 = .ok (.aload_n 0, 1) := by decide +kernel
theorem dX11_closes_166 : decode cX11_closes 166 = .ok (.getfield 183, 3) := by decide +kernel
theorem dX11_closes_169 : decode cX11_closes 169 = .ok (.iastore, 1) := by decide +kernel
theorem dX11_closes_170 : decode cX11_closes 170 = .ok (.goto 17, 3) := by decide +kernel
theorem dX11_closes_173 : decode cX11_closes 173 = .ok (.aload_n 0, 1) := by decide +kernel
theorem dX11_closes_174 : decode cX11_closes 174 = .ok (.getfield 20, 3) := by decide +kernel
theorem dX11_closes_177 : decode cX11_closes 177 = .ok (.sipush 1300, 3) := by decide +kernel
theorem dX11_closes_180 : decode cX11_closes 180 = .ok (.iload_n 2, 1) := by decide +kernel
theorem dX11_closes_181 : decode cX11_closes 181 = .ok (.iadd, 1) := by decide +kernel
theorem dX11_closes_182 : decode cX11_closes 182 = .ok (.aload_n 0, 1) := by decide +kernel
theorem dX11_closes_183 : decode cX11_closes 183 = .ok (.getfield 183, 3) := by decide +kernel
theorem dX11_closes_186 : decode cX11_closes 186 = .ok (.iastore, 1) := by decide +kernel
theorem dX11_closes_187 : decode cX11_closes 187 = .ok (.return_, 1) := by decide +kernel
set_option maxRecDepth 20000 in
theorem ggX11_newUse_X11_wrong : GoodIn wsX11_newUse wsX11_wrong := goodIn_r _ [11, 2, 12, 13, 14, 15, 16, 17, 18, 19, 20, 21, 22, 23, 24, 25, 26, 27, 28, 29, 30, 31, 32, 33, 34, 35, 36, 37, 38, 39, 40, 41, 42, 43, 44, 45, 46, 47, 48, 49, 50, 51, 52, 53, 54, 55, 56, 57, 58, 59, 60, 61, 62, 63, 64, 65, 66, 67, 68, 69, 70, 71, 72, 73, 74, 75, 76, 77, 78, 79, 80] (by decide +kernel) (by decide +kernel)
set_option maxRecDepth 20000 in
theorem gX11_newUse_X11_wrong : GoodIn wsX11_newUse (wsV RX11 179 RX11 yX11_wrong wsX11_wrong) := goodIn_app (goodIn_of _ (by decide +kernel)) ggX11_newUse_X11_wrong
theorem dX11_newUse_0 : decode cX11_newUse 0 = .ok (.aload_n 0, 1) := by decide +kernel
theorem dX11_newUse_1 : decode cX11_newUse 1 = .ok (.getfield 53, 3) := by decide +kernel
theorem dX11_newUse_4 : decode cX11_newUse 4 = .ok (.iconst 1, 1) := by decide +kernel
theorem dX11_newUse_5 : decode cX11_newUse 5 = .ok (.iaload, 1) := by decide +kernel
theorem dX11_newUse_6 : decode cX11_newUse 6 = .ok (.bipush 40, 2) := by decide +kernel
theorem dX11_newUse_8 : decode cX11_newUse 8 = .ok (.if_icmp .ne 9, 3) := by decide +kernel
theorem dX11_newUse_11 : decode cX11_newUse 11 = .ok (.aload_n 0, 1) := by decide +kernel
theorem dX11_newUse_12 : decode cX11_newUse 12 = .ok (.iconst 2, 1) := by decide +kernel
theorem dX11_newUse_13 : decode cX11_newUse 13 = .ok (.iload_n 2, 1) := by decide +kernel
theorem dX11_newUse_14 : decode cX11_newUse 14 = .ok (.invokevirtual 179, 3) := by decide +kernel
theorem dX11_newUse_17 : decode cX11_newUse 17 = .ok (.aload_n 0, 1) := by decide +kernel
theorem dX11_newUse_18 : decode cX11_newUse 18 = .ok (.getfield 164, 3) := by decide +kernel
theorem dX11_newUse_21 : decode cX11_newUse 21 = .ok (.ifCond .eq 5, 3) := by decide +kernel
theorem dX11_newUse_24 : decode cX11_newUse 24 = .ok (.iconst 0, 1) := by decide +kernel
theorem dX11_newUse_25 : decode cX11_newUse 25 = .ok (.ireturn, 1) := by decide +kernel
theorem dX11_newUse_26 : decode cX11_newUse 26 = .ok (.bipush 41, 2) := by decide +kernel
theorem dX11_newUse_28 : decode cX11_newUse 28 = .ok (.aload_n 0, 1) := by decide +kernel
theorem dX11_newUse_29 : decode cX11_newUse 29 = .ok (.getfield 53, 3) := by decide +kernel
theorem dX11_newUse_32 : decode cX11_newUse 32 = .ok (.iconst 1, 1) := by decide +kernel
theorem dX11_newUse_33 : decode cX11_newUse 33 = .ok (.iaload, 1) := by decide +kernel
theorem dX11_newUse_34 : decode cX11_newUse 34 = .ok (.iadd, 1) := by decide +kernel
theorem dX11_newUse_35 : decode cX11_newUse 35 = .ok (.istore_n 3, 1) := by decide +kernel
theorem dX11_newUse_36 : decode cX11_newUse 36 = .ok (.aload_n 0, 1) := by decide +kernel
theorem dX11_newUse_37 : decode cX11_newUse 37 = .ok (.getfield 44, 3) := by decide +kernel
theorem dX11_newUse_40 : decode cX11_newUse 40 = .ok (.iload_n 3, 1) := by decide +kernel
theorem dX11_newUse_41 : decode cX11_newUse 41 = .ok (.aload_n 0, 1) := by decide +kernel
theorem dX11_newUse_42 : decode cX11_newUse 42 = .ok (.getfield 209, 3) := by decide +kernel
theorem dX11_newUse_45 : decode cX11_newUse 45 = .ok (.iastore, 1) := by decide +kernel
theorem dX11_newUse_46 : decode cX11_newUse 46 = .ok (.aload_n 0, 1) := by decide +kernel
theorem dX11_newUse_47 : decode cX11_newUse 47 = .ok (.getfield 47, 3) := by decide +kernel
theorem dX11_newUse_50 : decode cX11_newUse 50 = .ok (.iload_n 3, 1) := by decide +kernel
theorem dX11_newUse_51 : decode cX11_newUse 51 = .ok (.iload_n 2, 1) := by decide +kernel
theorem dX11_newUse_52 : decode cX11_newUse 52 = .ok (.iastore, 1) := by decide +kernel
theorem dX11_newUse_53 : decode cX11_newUse 53 = .ok (.aload_n 0, 1) := by decide +kernel
theorem dX11_newUse_54 : decode cX11_newUse 54 = .ok (.getfield 50, 3) := by decide +kernel
theorem dX11_newUse_57 : decode cX11_newUse 57 = .ok (.iload_n 3, 1) := by decide +kernel
theorem dX11_newUse_58 : decode cX11_newUse 58 = .ok (.iload_n 1, 1) := by decide +kernel
theorem dX11_newUse_59 : decode cX11_newUse 59 = .ok (.iastore, 1) := by decide +kernel
theorem dX11_newUse_60 : decode cX11_newUse 60 = .ok (.aload_n 0, 1) := by decide +kernel
theorem dX11_newUse_61 : decode cX11_newUse 61 = .ok (.getfield 53, 3) := by decide +kernel
theorem dX11_newUse_64 : decode cX11_newUse 64 = .ok (.iconst 1, 1) := by decide +kernel
theorem dX11_newUse_65 : decode cX11_newUse 65 = .ok (.dup2, 1) := by decide +kernel
theorem dX11_newUse_66 : decode cX11_newUse 66 = .ok (.iaload, 1) := by decide +kernel
theorem dX11_newUse_67 : decode cX11_newUse 67 = .ok (.iconst 1, 1) := by decide +kernel
theorem dX11_newUse_68 : decode cX11_newUse 68 = .ok (.iadd, 1) := by decide +kernel
theorem dX11_newUse_69 : decode cX11_newUse 69 = .ok (.iastore, 1) := by decide +kernel
theorem dX11_newUse_70 : decode cX11_newUse 70 = .ok (.aload_n 0, 1) := by decide +kernel
theorem dX11_newUse_71 : decode cX11_newUse 71 = .ok (.getfield 53, 3) := by decide +kernel
theorem dX11_newUse_74 : decode cX11_newUse 74 = .ok (.iconst 1, 1) := by decide +kernel
theorem dX11_newUse_75 : decode cX11_newUse 75 = .ok (.iaload, 1) := by decide +kernel
theorem dX11_newUse_76 : decode cX11_newUse 76 = .ok (.iconst 1, 1) := by decide +kernel
theorem dX11_newUse_77 : decode cX11_newUse 77 = .ok (.isub, 1) := by decide +kernel
theorem dX11_newUse_78 : decode cX11_newUse 78 = .ok (.ireturn, 1) := by decide +kernel
set_option maxRecDepth 20000 in
theorem ggX11_field_X11_wrong : GoodIn wsX11_field wsX11_wrong := goodIn_r _ [9, 1, 10, 82, 83, 84, 85, 86, 87, 88, 89, 90, 91, 92, 93, 94, 95, 96, 97, 98, 99, 100, 101, 102, 103, 104, 105, 106, 107, 108, 109, 110, 111, 112, 113, 114, 115, 116, 117, 118, 119, 120, 121, 122, 123, 124, 125, 126, 127, 128, 129, 130, 131, 132, 133, 134, 135, 136, 137, 138, 139, 140, 141, 142, 143, 144, 145, 146, 147, 148, 149] (by decide +kernel) (by decide +kernel)
set_option maxRecDepth 20000 in
theorem gX11_field_X11_wrong : GoodIn wsX11_field (wsV RX11 179 RX11 yX11_wrong wsX11_wrong) := goodIn_app (goodIn_of _ (by decide +kernel)) ggX11_field_X11_wrong
set_option maxRecDepth 20000 in
theorem ggX11_field_X11_taken : GoodIn wsX11_field wsX11_taken := goodIn_r _ [14, 1, 2, 4, 3, 5, 6, 7, 8, 9, 10, 15, 16, 17, 18, 19, 20, 21, 22, 23, 24, 25, 26, 27, 28, 29, 30, 31, 32, 33, 34, 35, 36, 37, 38, 39, 40, 41, 42, 43, 44, 45, 46, 47, 48, 49, 50, 51, 52, 53, 54, 55, 56, 57, 58, 59, 60, 61, 62, 63, 64, 65, 66, 67, 68, 69, 70, 71, 72, 73, 74, 75, 76, 77, 78, 79, 80, 81, 82, 83, 84, 85, 86, 87, 88, 89, 90, 91, 92, 93, 94, 95, 96, 97, 98, 99, 100, 101, 102, 103, 104, 105, 106, 107, 108, 109, 110, 111, 112, 113, 114, 115, 116, 117, 118, 119, 120, 121, 122, 123, 124, 125, 126, 127, 128, 129, 130, 131, 132, 133, 134, 135, 136, 137, 138, 139, 140, 141, 142, 143, 144, 145, 146, 147, 148, 149] (by decide +kernel) (by decide +kernel)
set_option maxRecDepth 20000 in
theorem gX11_field_X11_taken : GoodIn wsX11_field (wsV RX11 205 RX11 yX11_taken wsX11_taken) := goodIn_app (goodIn_of _ (by decide +kernel)) ggX11_field_X11_taken
theorem dX11_field_0 : decode cX11_field 0 = .ok (.aload_n 0, 1) := by decide +kernel
theorem dX11_field_1 : decode cX11_field 1 = .ok (.getfield 164, 3) := by decide +kernel
theorem dX11_field_4 : decode cX11_field 4 = .ok (.ifCond .ne 37, 3) := by decide +kernel
theorem dX11_field_7 : decode cX11_field 7 = .ok (.aload_n 0, 1) := by decide +kernel
theorem dX11_field_8 : decode cX11_field 8 = .ok (.getfield 140, 3) := by decide +kernel
theorem dX11_field_11 : decode cX11_field 11 = .ok (.ifCond .ne 21, 3) := by decide +kernel
theorem dX11_field_14 : decode cX11_field 14 = .ok (.aload_n 0, 1) := by decide +kernel
theorem dX11_field_15 : decode cX11_field 15 = .ok (.getfield 150, 3) := by decide +kernel
theorem dX11_field_18 : decode cX11_field 18 = .ok (.bipush 15, 2) := by decide +kernel
theorem dX11_field_20 : decode cX11_field 20 = .ok (.if_icmp .eq 21, 3) := by decide +kernel
theorem dX11_field_23 : decode cX11_field 23 = .ok (.aload_n 0, 1) := by decide +kernel
theorem dX11_field_24 : decode cX11_field 24 = .ok (.getfield 150, 3) := by decide +kernel
theorem dX11_field_27 : decode cX11_field 27 = .ok (.bipush 16, 2) := by decide +kernel
theorem dX11_field_29 : decode cX11_field 29 = .ok (.if_icmp .eq 12, 3) := by decide +kernel
theorem dX11_field_32 : decode cX11_field 32 = .ok (.aload_n 0, 1) := by decide +kernel
theorem dX11_field_33 : decode cX11_field 33 = .ok (.iconst 1, 1) := by decide +kernel
theorem dX11_field_34 : decode cX11_field 34 = .ok (.aload_n 0, 1) := by decide +kernel
theorem dX11_field_35 : decode cX11_field 35 = .ok (.getfield 137, 3) := by decide +kernel
theorem dX11_field_38 : decode cX11_field 38 = .ok (.invokevirtual 179, 3) := by decide +kernel
theorem dX11_field_41 : decode cX11_field 41 = .ok (.aload_n 0, 1) := by decide +kernel
theorem dX11_field_42 : decode cX11_field 42 = .ok (.iconst 0, 1) := by decide +kernel
theorem dX11_field_43 : decode cX11_field 43 = .ok (.invokevirtual 205, 3) := by decide +kernel
theorem dX11_field_46 : decode cX11_field 46 = .ok (.bipush 15, 2) := by decide +kernel
theorem dX11_field_48 : decode cX11_field 48 = .ok (.isub, 1) := by decide +kernel
theorem dX11_field_49 : decode cX11_field 49 = .ok (.ireturn, 1) := by decide +kernel
set_option maxRecDepth 20000 in
theorem ggX11_statement_X11_emit : GoodIn wsX11_statement wsX11_emit := goodIn_r _ [7, 8, 9, 10, 11, 12, 148, 149, 150, 151, 152, 153, 154, 155, 156, 157, 158, 159, 160, 161, 162, 163, 164, 165, 166, 167, 168, 169, 170, 171, 172, 173, 174, 175, 176, 177, 178, 179, 180, 181, 182, 183, 184, 185, 186, 187, 188, 189, 190, 191, 192, 193, 194, 195, 196, 197, 198, 199, 200, 201, 202, 203, 204, 205, 206, 207, 208, 209, 210, 211, 212, 213, 214, 215] (by decide +kernel) (by decide +kernel)
set_option maxRecDepth 20000 in
theorem gX11_statement_X11_emit : GoodIn wsX11_statement (wsV RX11 216 RX11 yX11_emit wsX11_emit) := goodIn_app (goodIn_of _ (by decide +kernel)) ggX11_statement_X11_emit
set_option maxRecDepth 20000 in
theorem ggX11_statement_X11_taken : GoodIn wsX11_statement wsX11_taken := goodIn_r _ [16, 17, 2, 1, 18, 19, 20, 21, 6, 22, 23, 24, 25, 26, 27, 28, 29, 30, 31, 32, 33, 34, 35, 36, 37, 38, 39, 40, 41, 42, 43, 44, 45, 46, 47, 48, 49, 50, 51, 52, 53, 54, 55, 56, 57, 58, 59, 60, 61, 62, 63, 64, 65, 66, 67, 68, 69, 70, 71, 72, 73, 74, 75, 76, 77, 78, 79, 80, 81, 82, 83, 84, 85, 86, 87, 88, 89, 90, 148, 149, 150, 151, 152, 153, 154, 155, 156, 157, 158, 159, 160, 161, 162, 163, 164, 165, 166, 167, 168, 169, 170, 171, 172, 173, 174, 175, 176, 177, 178, 179, 180, 181, 182, 183, 184, 185, 186, 187, 188, 189, 190, 191, 192, 193, 194, 195, 196, 197, 198, 199, 200, 201, 202, 203, 204, 205, 206, 207, 208, 209, 210, 211, 212, 213, 214, 215] (by decide +kernel) (by decide +kernel)
set_option maxRecDepth 20000 in
theorem gX11_statement_X11_taken : GoodIn wsX11_statement (wsV RX11 205 RX11 yX11_taken wsX11_taken) := goodIn_app (goodIn_of _ (by decide +kernel)) ggX11_statement_X11_taken
set_option maxRecDepth 20000 in
theorem ggX11_statement_X11_isSign : GoodIn wsX11_statement wsX11_isSign := goodIn_r _ [94, 17, 2, 18, 148, 149, 150, 151, 152, 153, 154, 155, 156, 157, 158, 159, 160, 161, 162, 163, 164, 165, 166, 167, 168, 169, 170, 171, 172, 173, 174, 175, 176, 177, 178, 179, 180, 181, 182, 183, 184, 185, 186, 187, 188, 189, 190, 191, 192, 193, 194, 195, 196, 197, 198, 199, 200, 201, 202, 203, 204, 205, 206, 207, 208, 209, 210, 211, 212, 213, 214, 215] (by decide +kernel) (by decide +kernel)
set_option maxRecDepth 20000 in
theorem gX11_statement_X11_isSign : GoodIn wsX11_statement (wsV RX11 170 RX11 yX11_isSign wsX11_isSign) := goodIn_app (goodIn_of _ (by decide +kernel)) ggX11_statement_X11_isSign
set_option maxRecDepth 20000 in
theorem ggX11_statement_X11_newUse : GoodIn wsX11_statement wsX11_newUse := goodIn_r _ [98, 99, 17, 100, 101, 102, 103, 19, 20, 21, 6, 22, 23, 148, 149, 150, 151, 152, 153, 154, 155, 156, 157, 158, 159, 160, 161, 162, 163, 164, 165, 166, 167, 168, 169, 170, 171, 172, 173, 174, 175, 176, 177, 178, 179, 180, 181, 182, 183, 184, 185, 186, 187, 188, 189, 190, 191, 192, 193, 194, 195, 196, 197, 198, 199, 200, 201, 202, 203, 204, 205, 206, 207, 208, 209, 210, 211, 212, 213, 214, 215] (by decide +kernel) (by decide +kernel)
set_option maxRecDepth 20000 in
theorem gX11_statement_X11_newUse : GoodIn wsX11_statement (wsV RX11 223 RX11 yX11_newUse wsX11_newUse) := goodIn_app (goodIn_of _ (by decide +kernel)) ggX11_statement_X11_newUse
set_option maxRecDepth 20000 in
theorem ggX11_statement_X11_next : GoodIn wsX11_statement wsX11_next := goodIn_r _ [27, 28, 1, 2, 18, 29, 30, 31, 6, 32, 33, 34, 35, 36, 37, 38, 39, 40, 41, 42, 43, 44, 45, 46, 47, 48, 49, 50, 51, 52, 53, 54, 55, 56, 57, 58, 59, 60, 61, 62, 63, 64, 65, 66, 67, 68, 69, 70, 71, 72, 73, 74, 75, 76, 77, 78, 79, 80, 81, 82, 83, 84, 85, 86, 87, 88, 89, 90, 148, 149, 150, 151, 152, 153, 154, 155, 156, 157, 158, 159, 160, 161, 162, 163, 164, 165, 166, 167, 168, 169, 170, 171, 172, 173, 174, 175, 176, 177, 178, 179, 180, 181, 182, 183, 184, 185, 186, 187, 188, 189, 190, 191, 192, 193, 194, 195, 196, 197, 198, 199, 200, 201, 202, 203, 204, 205, 206, 207, 208, 209, 210, 211, 212, 213, 214, 215] (by decide +kernel) (by decide +kernel)
set_option maxRecDepth 20000 in
theorem gX11_statement_X11_next : GoodIn wsX11_statement (wsV RX11 173 RX11 yX11_next wsX11_next) := goodIn_app (goodIn_of _ (by decide +kernel)) ggX11_statement_X11_next
set_option maxRecDepth 20000 in
theorem ggX11_statement_X11_field : GoodIn wsX11_statement wsX11_field := goodIn_r _ [107, 17, 2, 18, 1, 19, 20, 21, 6, 22, 23, 13, 14, 15, 16, 24, 25, 26, 27, 28, 29, 30, 31, 32, 33, 34, 35, 36, 37, 38, 39, 40, 41, 42, 43, 44, 45, 46, 47, 48, 49, 50, 51, 52, 53, 54, 55, 56, 57, 58, 59, 60, 61, 62, 63, 64, 65, 66, 67, 68, 69, 70, 71, 72, 73, 74, 75, 76, 77, 78, 79, 80, 81, 82, 83, 84, 85, 86, 87, 88, 89, 90, 148, 149, 150, 151, 152, 153, 154, 155, 156, 157, 158, 159, 160, 161, 162, 163, 164, 165, 166, 167, 168, 169, 170, 171, 172, 173, 174, 175, 176, 177, 178, 179, 180, 181, 182, 183, 184, 185, 186, 187, 188, 189, 190, 191, 192, 193, 194, 195, 196, 197, 198, 199, 200, 201, 202, 203, 204, 205, 206, 207, 208, 209, 210, 211, 212, 213, 214, 215] (by decide +kernel) (by decide +kernel)
set_option maxRecDepth 20000 in
theorem gX11_statement_X11_field : GoodIn wsX11_statement (wsV RX11 227 RX11 yX11_field wsX11_field) := goodIn_app (goodIn_of _ (by decide +kernel)) ggX11_statement_X11_field
set_option maxRecDepth 20000 in
theorem ggX11_statement_X11_wants : GoodIn wsX11_statement wsX11_wants := goodIn_r _ [111, 1, 112, 113, 114, 6, 115, 91, 92, 93, 94, 17, 2, 18, 24, 25, 26, 27, 28, 29, 30, 31, 32, 33, 34, 35, 36, 37, 38, 39, 40, 41, 42, 43, 44, 45, 46, 47, 48, 49, 50, 51, 52, 53, 54, 55, 56, 57, 58, 59, 60, 61, 62, 63, 64, 65, 66, 67, 68, 69, 70, 71, 72, 73, 74, 75, 76, 77, 78, 79, 80, 81, 82, 83, 84, 85, 86, 87, 88, 89, 90, 19, 20, 21, 22, 23, 148, 149, 150, 151, 152, 153, 154, 155, 156, 157, 158, 159, 160, 161, 162, 163, 164, 165, 166, 167, 168, 169, 170, 171, 172, 173, 174, 175, 176, 177, 178, 179, 180, 181, 182, 183, 184, 185, 186, 187, 188, 189, 190, 191, 192, 193, 194, 195, 196, 197, 198, 199, 200, 201, 202, 203, 204, 205, 206, 207, 208, 209, 210, 211, 212, 213, 214, 215] (by decide +kernel) (by decide +kernel)
set_option maxRecDepth 20000 in
theorem gX11_statement_X11_wants : GoodIn wsX11_statement (wsV RX11 201 RX11 yX11_wants wsX11_wants) := goodIn_app (goodIn_of _ (by decide +kernel)) ggX11_statement_X11_wants
set_option maxRecDepth 20000 in
theorem ggX11_statement_X11_worth : GoodIn wsX11_statement wsX11_worth := goodIn_r _ [119, 17, 1, 2, 120, 121, 122, 6, 123, 18, 24, 25, 26, 27, 28, 29, 30, 31, 32, 33, 34, 35, 36, 37, 38, 39, 40, 41, 42, 43, 44, 45, 46, 47, 48, 49, 50, 51, 52, 53, 54, 55, 56, 57, 58, 59, 60, 61, 62, 63, 64, 65, 66, 67, 68, 69, 70, 71, 72, 73, 74, 75, 76, 77, 78, 79, 80, 81, 82, 83, 84, 85, 86, 87, 88, 89, 90, 3, 4, 5, 7, 8, 9, 10, 11, 12, 13, 14, 15, 16, 19, 20, 21, 22, 23, 91, 92, 93, 94, 95, 96, 97, 98, 99, 100, 101, 102, 103, 104, 105, 106, 107, 124, 125, 126, 127, 128, 129, 130, 131, 132, 108, 109, 110, 111, 112, 113, 114, 115, 148, 149, 150, 151, 152, 153, 154, 155, 156, 157, 158, 159, 160, 161, 162, 163, 164, 165, 166, 167, 168, 169, 170, 171, 172, 173, 174, 175, 176, 177, 178, 179, 180, 181, 182, 183, 184, 185, 186, 187, 188, 189, 190, 191, 192, 193, 194, 195, 196, 197, 198, 199, 200, 201, 202, 203, 204, 205, 206, 207, 208, 209, 210, 211, 212, 213, 214, 215] (by decide +kernel) (by decide +kernel)
set_option maxRecDepth 20000 in
theorem gX11_statement_X11_worth : GoodIn wsX11_statement (wsV RX11 230 RX11 yX11_worth wsX11_worth) := goodIn_app (goodIn_of _ (by decide +kernel)) ggX11_statement_X11_worth
set_option maxRecDepth 20000 in
theorem ggX11_statement_X11_call : GoodIn wsX11_statement wsX11_call := goodIn_r _ [127, 1, 17, 2, 128, 129, 130, 131, 132, 13, 14, 15, 6, 16, 18, 19, 20, 21, 22, 23, 24, 25, 26, 27, 28, 29, 30, 31, 32, 33, 34, 35, 36, 37, 38, 39, 40, 41, 42, 43, 44, 45, 46, 47, 48, 49, 50, 51, 52, 53, 54, 55, 56, 57, 58, 59, 60, 61, 62, 63, 64, 65, 66, 67, 68, 69, 70, 71, 72, 73, 74, 75, 76, 77, 78, 79, 80, 81, 82, 83, 84, 85, 86, 87, 88, 89, 90, 108, 109, 110, 111, 112, 113, 114, 115, 91, 92, 93, 94, 3, 4, 5, 7, 8, 9, 10, 11, 12, 148, 149, 150, 151, 152, 153, 154, 155, 156, 157, 158, 159, 160, 161, 162, 163, 164, 165, 166, 167, 168, 169, 170, 171, 172, 173, 174, 175, 176, 177, 178, 179, 180, 181, 182, 183, 184, 185, 186, 187, 188, 189, 190, 191, 192, 193, 194, 195, 196, 197, 198, 199, 200, 201, 202, 203, 204, 205, 206, 207, 208, 209, 210, 211, 212, 213, 214, 215] (by decide +kernel) (by decide +kernel)
set_option maxRecDepth 20000 in
theorem gX11_statement_X11_call : GoodIn wsX11_statement (wsV RX11 233 RX11 yX11_call wsX11_call) := goodIn_app (goodIn_of _ (by decide +kernel)) ggX11_statement_X11_call
set_option maxRecDepth 20000 in
theorem ggX11_statement_X11_isWord : GoodIn wsX11_statement wsX11_isWord := goodIn_r _ [123, 17, 2, 18, 148, 149, 150, 151, 152, 153, 154, 155, 156, 157, 158, 159, 160, 161, 162, 163, 164, 165, 166, 167, 168, 169, 170, 171, 172, 173, 174, 175, 176, 177, 178, 179, 180, 181, 182, 183, 184, 185, 186, 187, 188, 189, 190, 191, 192, 193, 194, 195, 196, 197, 198, 199, 200, 201, 202, 203, 204, 205, 206, 207, 208, 209, 210, 211, 212, 213, 214, 215] (by decide +kernel) (by decide +kernel)
set_option maxRecDepth 20000 in
theorem gX11_statement_X11_isWord : GoodIn wsX11_statement (wsV RX11 220 RX11 yX11_isWord wsX11_isWord) := goodIn_app (goodIn_of _ (by decide +kernel)) ggX11_statement_X11_isWord
set_option maxRecDepth 20000 in
theorem ggX11_statement_X11_newTest : GoodIn wsX11_statement wsX11_newTest := goodIn_r _ [136, 1, 17, 2, 137, 138, 101, 139, 120, 121, 122, 6, 123, 18, 19, 20, 21, 22, 23, 24, 25, 26, 27, 28, 29, 30, 31, 32, 33, 34, 35, 36, 37, 38, 39, 40, 41, 42, 43, 44, 45, 46, 47, 48, 49, 50, 51, 52, 53, 54, 55, 56, 57, 58, 59, 60, 61, 62, 63, 64, 65, 66, 67, 68, 69, 70, 71, 72, 73, 74, 75, 76, 77, 78, 79, 80, 81, 82, 83, 84, 85, 86, 87, 88, 89, 90, 3, 4, 5, 7, 8, 9, 10, 11, 12, 13, 14, 15, 16, 148, 149, 150, 151, 152, 153, 154, 155, 156, 157, 158, 159, 160, 161, 162, 163, 164, 165, 166, 167, 168, 169, 170, 171, 172, 173, 174, 175, 176, 177, 178, 179, 180, 181, 182, 183, 184, 185, 186, 187, 188, 189, 190, 191, 192, 193, 194, 195, 196, 197, 198, 199, 200, 201, 202, 203, 204, 205, 206, 207, 208, 209, 210, 211, 212, 213, 214, 215] (by decide +kernel) (by decide +kernel)
set_option maxRecDepth 20000 in
theorem gX11_statement_X11_newTest : GoodIn wsX11_statement (wsV RX11 236 RX11 yX11_newTest wsX11_newTest) := goodIn_app (goodIn_of _ (by decide +kernel)) ggX11_statement_X11_newTest
set_option maxRecDepth 20000 in
theorem ggX11_statement_X11_opens : GoodIn wsX11_statement wsX11_opens := goodIn_r _ [143, 144, 1, 17, 145, 146, 147, 91, 92, 93, 6, 94, 2, 18, 19, 20, 21, 22, 23, 108, 109, 110, 111, 112, 113, 114, 115, 24, 25, 26, 27, 28, 29, 30, 31, 32, 33, 34, 35, 36, 37, 38, 39, 40, 41, 42, 43, 44, 45, 46, 47, 48, 49, 50, 51, 52, 53, 54, 55, 56, 57, 58, 59, 60, 61, 62, 63, 64, 65, 66, 67, 68, 69, 70, 71, 72, 73, 74, 75, 76, 77, 78, 79, 80, 81, 82, 83, 84, 85, 86, 87, 88, 89, 90, 148, 149, 150, 151, 152, 153, 154, 155, 156, 157, 158, 159, 160, 161, 162, 163, 164, 165, 166, 167, 168, 169, 170, 171, 172, 173, 174, 175, 176, 177, 178, 179, 180, 181, 182, 183, 184, 185, 186, 187, 188, 189, 190, 191, 192, 193, 194, 195, 196, 197, 198, 199, 200, 201, 202, 203, 204, 205, 206, 207, 208, 209, 210, 211, 212, 213, 214, 215] (by decide +kernel) (by decide +kernel)
set_option maxRecDepth 20000 in
theorem gX11_statement_X11_opens : GoodIn wsX11_statement (wsV RX11 212 RX11 yX11_opens wsX11_opens) := goodIn_app (goodIn_of _ (by decide +kernel)) ggX11_statement_X11_opens
set_option maxRecDepth 20000 in
theorem ggX11_statement_X11_wrong : GoodIn wsX11_statement wsX11_wrong := goodIn_r _ [22, 17, 23, 148, 149, 150, 151, 152, 153, 154, 155, 156, 157, 158, 159, 160, 161, 162, 163, 164, 165, 166, 167, 168, 169, 170, 171, 172, 173, 174, 175, 176, 177, 178, 179, 180, 181, 182, 183, 184, 185, 186, 187, 188, 189, 190, 191, 192, 193, 194, 195, 196, 197, 198, 199, 200, 201, 202, 203, 204, 205, 206, 207, 208, 209, 210, 211, 212, 213, 214, 215] (by decide +kernel) (by decide +kernel)
set_option maxRecDepth 20000 in
theorem gX11_statement_X11_wrong : GoodIn wsX11_statement (wsV RX11 179 RX11 yX11_wrong wsX11_wrong) := goodIn_app (goodIn_of _ (by decide +kernel)) ggX11_statement_X11_wrong
theorem dX11_statement_0 : decode cX11_statement 0 = .ok (.aload_n 0, 1) := by decide +kernel
theorem dX11_statement_1 : decode cX11_statement 1 = .ok (.getfield 137, 3) := by decide +kernel
theorem dX11_statement_4 : decode cX11_statement 4 = .ok (.istore_n 1, 1) := by decide +kernel
theorem dX11_statement_5 : decode cX11_statement 5 = .ok (.aload_n 0, 1) := by decide +kernel
theorem dX11_statement_6 : decode cX11_statement 6 = .ok (.getfield 140, 3) := by decide +kernel
theorem dX11_statement_9 : decode cX11_statement 9 = .ok (.ifCond .ne 97, 3) := by decide +kernel
theorem dX11_statement_12 : decode cX11_statement 12 = .ok (.aload_n 0, 1) := by decide +kernel
theorem dX11_statement_13 : decode cX11_statement 13 = .ok (.iconst 0, 1) := by decide +kernel
theorem dX11_statement_14 : decode cX11_statement 14 = .ok (.iconst 0, 1) := by decide +kernel
theorem dX11_statement_15 : decode cX11_statement 15 = .ok (.iconst 0, 1) := by decide +kernel
theorem dX11_statement_16 : decode cX11_statement 16 = .ok (.iconst 0, 1) := by decide +kernel
theorem dX11_statement_17 : decode cX11_statement 17 = .ok (.invokevirtual 216, 3) := by decide +kernel
theorem dX11_statement_20 : decode cX11_statement 20 = .ok (.pop, 1) := by decide +kernel
theorem dX11_statement_21 : decode cX11_statement 21 = .ok (.aload_n 0, 1) := by decide +kernel
theorem dX11_statement_22 : decode cX11_statement 22 = .ok (.iconst 0, 1) := by decide +kernel
theorem dX11_statement_23 : decode cX11_statement 23 = .ok (.invokevirtual 205, 3) := by decide +kernel
theorem dX11_statement_26 : decode cX11_statement 26 = .ok (.istore_n 2, 1) := by decide +kernel
theorem dX11_statement_27 : decode cX11_statement 27 = .ok (.aload_n 0, 1) := by decide +kernel
theorem dX11_statement_28 : decode cX11_statement 28 = .ok (.bipush 46, 2) := by decide +kernel
theorem dX11_statement_30 : decode cX11_statement 30 = .ok (.invokevirtual 170, 3) := by decide +kernel
theorem dX11_statement_33 : decode cX11_statement 33 = .ok (.ifCond .eq 44, 3) := by decide +kernel
theorem dX11_statement_36 : decode cX11_statement 36 = .ok (.aload_n 0, 1) := by decide +kernel
theorem dX11_statement_37 : decode cX11_statement 37 = .ok (.iload_n 2, 1) := by decide +kernel
theorem dX11_statement_38 : decode cX11_statement 38 = .ok (.iload_n 1, 1) := by decide +kernel
theorem dX11_statement_39 : decode cX11_statement 39 = .ok (.invokevirtual 223, 3) := by decide +kernel
theorem dX11_statement_42 : decode cX11_statement 42 = .ok (.istore_n 3, 1) := by decide +kernel
theorem dX11_statement_43 : decode cX11_statement 43 = .ok (.aload_n 0, 1) := by decide +kernel
theorem dX11_statement_44 : decode cX11_statement 44 = .ok (.invokevirtual 173, 3) := by decide +kernel
theorem dX11_statement_47 : decode cX11_statement 47 = .ok (.aload_n 0, 1) := by decide +kernel
theorem dX11_statement_48 : decode cX11_statement 48 = .ok (.invokevirtual 227, 3) := by decide +kernel
theorem dX11_statement_51 : decode cX11_statement 51 = .ok (.istore 4, 2) := by decide +kernel
theorem dX11_statement_53 : decode cX11_statement 53 = .ok (.aload_n 0, 1) := by decide +kernel
theorem dX11_statement_54 : decode cX11_statement 54 = .ok (.bipush 61, 2) := by decide +kernel
theorem dX11_statement_56 : decode cX11_statement 56 = .ok (.invokevirtual 201, 3) := by decide +kernel
theorem dX11_statement_59 : decode cX11_statement 59 = .ok (.aload_n 0, 1) := by decide +kernel
theorem dX11_statement_60 : decode cX11_statement 60 = .ok (.invokevirtual 230, 3) := by decide +kernel
theorem dX11_statement_63 : decode cX11_statement 63 = .ok (.aload_n 0, 1) := by decide +kernel
theorem dX11_statement_64 : decode cX11_statement 64 = .ok (.bipush 8, 2) := by decide +kernel
theorem dX11_statement_66 : decode cX11_statement 66 = .ok (.iload_n 2, 1) := by decide +kernel
theorem dX11_statement_67 : decode cX11_statement 67 = .ok (.iload 4, 2) := by decide +kernel
theorem dX11_statement_69 : decode cX11_statement 69 = .ok (.iload_n 3, 1) := by decide +kernel
theorem dX11_statement_70 : decode cX11_statement 70 = .ok (.invokevirtual 216, 3) := by decide +kernel
theorem dX11_statement_73 : decode cX11_statement 73 = .ok (.pop, 1) := by decide +kernel
theorem dX11_statement_74 : decode cX11_statement 74 = .ok (.goto 23, 3) := by decide +kernel
theorem dX11_statement_77 : decode cX11_statement 77 = .ok (.aload_n 0, 1) := by decide +kernel
theorem dX11_statement_78 : decode cX11_statement 78 = .ok (.bipush 61, 2) := by decide +kernel
theorem dX11_statement_80 : decode cX11_statement 80 = .ok (.invokevirtual 201, 3) := by decide +kernel
theorem dX11_statement_83 : decode cX11_statement 83 = .ok (.aload_n 0, 1) := by decide +kernel
theorem dX11_statement_84 : decode cX11_statement 84 = .ok (.invokevirtual 230, 3) := by decide +kernel
theorem dX11_statement_87 : decode cX11_statement 87 = .ok (.aload_n 0, 1) := by decide +kernel
theorem dX11_statement_88 : decode cX11_statement 88 = .ok (.bipush 7, 2) := by decide +kernel
theorem dX11_statement_90 : decode cX11_statement 90 = .ok (.iload_n 2, 1) := by decide +kernel
theorem dX11_statement_91 : decode cX11_statement 91 = .ok (.iconst 0, 1) := by decide +kernel
theorem dX11_statement_92 : decode cX11_statement 92 = .ok (.iconst 0, 1) := by decide +kernel
theorem dX11_statement_93 : decode cX11_statement 93 = .ok (.invokevirtual 216, 3) := by decide +kernel
theorem dX11_statement_96 : decode cX11_statement 96 = .ok (.pop, 1) := by decide +kernel
theorem dX11_statement_97 : decode cX11_statement 97 = .ok (.aload_n 0, 1) := by decide +kernel
theorem dX11_statement_98 : decode cX11_statement 98 = .ok (.bipush 59, 2) := by decide +kernel
theorem dX11_statement_100 : decode cX11_statement 100 = .ok (.invokevirtual 201, 3) := by decide +kernel
theorem dX11_statement_103 : decode cX11_statement 103 = .ok (.goto 177, 3) := by decide +kernel
theorem dX11_statement_106 : decode cX11_statement 106 = .ok (.aload_n 0, 1) := by decide +kernel
theorem dX11_statement_107 : decode cX11_statement 107 = .ok (.getfield 140, 3) := by decide +kernel
theorem dX11_statement_110 : decode cX11_statement 110 = .ok (.iconst 1, 1) := by decide +kernel
theorem dX11_statement_111 : decode cX11_statement 111 = .ok (.if_icmp .ne 25, 3) := by decide +kernel
theorem dX11_statement_114 : decode cX11_statement 114 = .ok (.aload_n 0, 1) := by decide +kernel
theorem dX11_statement_115 : decode cX11_statement 115 = .ok (.iconst 0, 1) := by decide +kernel
theorem dX11_statement_116 : decode cX11_statement 116 = .ok (.iconst 0, 1) := by decide +kernel
theorem dX11_statement_117 : decode cX11_statement 117 = .ok (.iconst 0, 1) := by decide +kernel
theorem dX11_statement_118 : decode cX11_statement 118 = .ok (.iconst 0, 1) := by decide +kernel
theorem dX11_statement_119 : decode cX11_statement 119 = .ok (.invokevirtual 216, 3) := by decide +kernel
theorem dX11_statement_122 : decode cX11_statement 122 = .ok (.pop, 1) := by decide +kernel
theorem dX11_statement_123 : decode cX11_statement 123 = .ok (.aload_n 0, 1) := by decide +kernel
theorem dX11_statement_124 : decode cX11_statement 124 = .ok (.invokevirtual 233, 3) := by decide +kernel
theorem dX11_statement_127 : decode cX11_statement 127 = .ok (.aload_n 0, 1) := by decide +kernel
theorem dX11_statement_128 : decode cX11_statement 128 = .ok (.bipush 59, 2) := by decide +kernel
theorem dX11_statement_130 : decode cX11_statement 130 = .ok (.invokevirtual 201, 3) := by decide +kernel
theorem dX11_statement_133 : decode cX11_statement 133 = .ok (.goto 147, 3) := by decide +kernel
theorem dX11_statement_136 : decode cX11_statement 136 = .ok (.aload_n 0, 1) := by decide +kernel
theorem dX11_statement_137 : decode cX11_statement 137 = .ok (.bipush 8, 2) := by decide +kernel
theorem dX11_statement_139 : decode cX11_statement 139 = .ok (.invokevirtual 220, 3) := by decide +kernel
theorem dX11_statement_142 : decode cX11_statement 142 = .ok (.ifCond .eq 60, 3) := by decide +kernel
theorem dX11_statement_145 : decode cX11_statement 145 = .ok (.aload_n 0, 1) := by decide +kernel
theorem dX11_statement_146 : decode cX11_statement 146 = .ok (.iconst 0, 1) := by decide +kernel
theorem dX11_statement_147 : decode cX11_statement 147 = .ok (.iconst 0, 1) := by decide +kernel
theorem dX11_statement_148 : decode cX11_statement 148 = .ok (.iconst 0, 1) := by decide +kernel
theorem dX11_statement_149 : decode cX11_statement 149 = .ok (.iconst 0, 1) := by decide +kernel
theorem dX11_statement_150 : decode cX11_statement 150 = .ok (.invokevirtual 216, 3) := by decide +kernel
theorem dX11_statement_153 : decode cX11_statement 153 = .ok (.pop, 1) := by decide +kernel
theorem dX11_statement_154 : decode cX11_statement 154 = .ok (.aload_n 0, 1) := by decide +kernel
theorem dX11_statement_155 : decode cX11_statement 155 = .ok (.invokevirtual 173, 3) := by decide +kernel
theorem dX11_statement_158 : decode cX11_statement 158 = .ok (.aload_n 0, 1) := by decide +kernel
theorem dX11_statement_159 : decode cX11_statement 159 = .ok (.bipush 59, 2) := by decide +kernel
theorem dX11_statement_161 : decode cX11_statement 161 = .ok (.invokevirtual 170, 3) := by decide +kernel
theorem dX11_statement_164 : decode cX11_statement 164 = .ok (.ifCond .eq 15, 3) := by decide +kernel
theorem dX11_statement_167 : decode cX11_statement 167 = .ok (.aload_n 0, 1) := by decide +kernel
theorem dX11_statement_168 : decode cX11_statement 168 = .ok (.iconst 1, 1) := by decide +kernel
theorem dX11_statement_169 : decode cX11_statement 169 = .ok (.iconst 0, 1) := by decide +kernel
theorem dX11_statement_170 : decode cX11_statement 170 = .ok (.iconst 0, 1) := by decide +kernel
theorem dX11_statement_171 : decode cX11_statement 171 = .ok (.iconst 0, 1) := by decide +kernel
theorem dX11_statement_172 : decode cX11_statement 172 = .ok (.invokevirtual 216, 3) := by decide +kernel
theorem dX11_statement_175 : decode cX11_statement 175 = .ok (.pop, 1) := by decide +kernel
theorem dX11_statement_176 : decode cX11_statement 176 = .ok (.goto 7, 3) := by decide +kernel
theorem dX11_statement_179 : decode cX11_statement 179 = .ok (.aload_n 0, 1) := by decide +kernel
theorem dX11_statement_180 : decode cX11_statement 180 = .ok (.invokevirtual 230, 3) := by decide +kernel
theorem dX11_statement_183 : decode cX11_statement 183 = .ok (.aload_n 0, 1) := by decide +kernel
theorem dX11_statement_184 : decode cX11_statement 184 = .ok (.bipush 9, 2) := by decide +kernel
theorem dX11_statement_186 : decode cX11_statement 186 = .ok (.iconst 0, 1) := by decide +kernel
theorem dX11_statement_187 : decode cX11_statement 187 = .ok (.iconst 0, 1) := by decide +kernel
theorem dX11_statement_188 : decode cX11_statement 188 = .ok (.iconst 0, 1) := by decide +kernel
theorem dX11_statement_189 : decode cX11_statement 189 = .ok (.invokevirtual 216, 3) := by decide +kernel
theorem dX11_statement_192 : decode cX11_statement 192 = .ok (.pop, 1) := by decide +kernel
theorem dX11_statement_193 : decode cX11_statement 193 = .ok (.aload_n 0, 1) := by decide +kernel
theorem dX11_statement_194 : decode cX11_statement 194 = .ok (.bipush 59, 2) := by decide +kernel
theorem dX11_statement_196 : decode cX11_statement 196 = .ok (.invokevirtual 201, 3) := by decide +kernel
theorem dX11_statement_199 : decode cX11_statement 199 = .ok (.goto 81, 3) := by decide +kernel
theorem dX11_statement_202 : decode cX11_statement 202 = .ok (.aload_n 0, 1) := by decide +kernel
theorem dX11_statement_203 : decode cX11_statement 203 = .ok (.iconst 0, 1) := by decide +kernel
theorem dX11_statement_204 : decode cX11_statement 204 = .ok (.invokevirtual 220, 3) := by decide +kernel
theorem dX11_statement_207 : decode cX11_statement 207 = .ok (.ifCond .eq 31, 3) := by decide +kernel
theorem dX11_statement_210 : decode cX11_statement 210 = .ok (.aload_n 0, 1) := by decide +kernel
theorem dX11_statement_211 : decode cX11_statement 211 = .ok (.iconst 0, 1) := by decide +kernel
theorem dX11_statement_212 : decode cX11_statement 212 = .ok (.iconst 0, 1) := by decide +kernel
theorem dX11_statement_213 : decode cX11_statement 213 = .ok (.iconst 0, 1) := by decide +kernel
theorem dX11_statement_214 : decode cX11_statement 214 = .ok (.iconst 0, 1) := by decide +kernel
theorem dX11_statement_215 : decode cX11_statement 215 = .ok (.invokevirtual 216, 3) := by decide +kernel
theorem dX11_statement_218 : decode cX11_statement 218 = .ok (.pop, 1) := by decide +kernel
theorem dX11_statement_219 : decode cX11_statement 219 = .ok (.aload_n 0, 1) := by decide +kernel
theorem dX11_statement_220 : decode cX11_statement 220 = .ok (.invokevirtual 173, 3) := by decide +kernel
theorem dX11_statement_223 : decode cX11_statement 223 = .ok (.aload_n 0, 1) := by decide +kernel
theorem dX11_statement_224 : decode cX11_statement 224 = .ok (.invokevirtual 236, 3) := by decide +kernel
theorem dX11_statement_227 : decode cX11_statement 227 = .ok (.istore_n 2, 1) := by decide +kernel
theorem dX11_statement_228 : decode cX11_statement 228 = .ok (.aload_n 0, 1) := by decide +kernel
theorem dX11_statement_229 : decode cX11_statement 229 = .ok (.iconst 1, 1) := by decide +kernel
theorem dX11_statement_230 : decode cX11_statement 230 = .ok (.iload_n 2, 1) := by decide +kernel
theorem dX11_statement_231 : decode cX11_statement 231 = .ok (.iconst (-1), 1) := by decide +kernel
theorem dX11_statement_232 : decode cX11_statement 232 = .ok (.invokevirtual 212, 3) := by decide +kernel
theorem dX11_statement_235 : decode cX11_statement 235 = .ok (.goto 45, 3) := by decide +kernel
theorem dX11_statement_238 : decode cX11_statement 238 = .ok (.aload_n 0, 1) := by decide +kernel
theorem dX11_statement_239 : decode cX11_statement 239 = .ok (.iconst 2, 1) := by decide +kernel
theorem dX11_statement_240 : decode cX11_statement 240 = .ok (.invokevirtual 220, 3) := by decide +kernel
theorem dX11_statement_243 : decode cX11_statement 243 = .ok (.ifCond .eq 31, 3) := by decide +kernel
theorem dX11_statement_246 : decode cX11_statement 246 = .ok (.aload_n 0, 1) := by decide +kernel
theorem dX11_statement_247 : decode cX11_statement 247 = .ok (.iconst 0, 1) := by decide +kernel
theorem dX11_statement_248 : decode cX11_statement 248 = .ok (.iconst 0, 1) := by decide +kernel
theorem dX11_statement_249 : decode cX11_statement 249 = .ok (.iconst 0, 1) := by decide +kernel
theorem dX11_statement_250 : decode cX11_statement 250 = .ok (.iconst 0, 1) := by decide +kernel
theorem dX11_statement_251 : decode cX11_statement 251 = .ok (.invokevirtual 216, 3) := by decide +kernel
theorem dX11_statement_254 : decode cX11_statement 254 = .ok (.pop, 1) := by decide +kernel
theorem dX11_statement_255 : decode cX11_statement 255 = .ok (.aload_n 0, 1) := by decide +kernel
theorem dX11_statement_256 : decode cX11_statement 256 = .ok (.invokevirtual 173, 3) := by decide +kernel
theorem dX11_statement_259 : decode cX11_statement 259 = .ok (.aload_n 0, 1) := by decide +kernel
theorem dX11_statement_260 : decode cX11_statement 260 = .ok (.invokevirtual 236, 3) := by decide +kernel
theorem dX11_statement_263 : decode cX11_statement 263 = .ok (.istore_n 2, 1) := by decide +kernel
theorem dX11_statement_264 : decode cX11_statement 264 = .ok (.aload_n 0, 1) := by decide +kernel
theorem dX11_statement_265 : decode cX11_statement 265 = .ok (.iconst 3, 1) := by decide +kernel
theorem dX11_statement_266 : decode cX11_statement 266 = .ok (.iload_n 2, 1) := by decide +kernel
theorem dX11_statement_267 : decode cX11_statement 267 = .ok (.iload_n 2, 1) := by decide +kernel
theorem dX11_statement_268 : decode cX11_statement 268 = .ok (.invokevirtual 212, 3) := by decide +kernel
theorem dX11_statement_271 : decode cX11_statement 271 = .ok (.goto 9, 3) := by decide +kernel
theorem dX11_statement_274 : decode cX11_statement 274 = .ok (.aload_n 0, 1) := by decide +kernel
theorem dX11_statement_275 : decode cX11_statement 275 = .ok (.iconst 1, 1) := by decide +kernel
theorem dX11_statement_276 : decode cX11_statement 276 = .ok (.iload_n 1, 1) := by decide +kernel
theorem dX11_statement_277 : decode cX11_statement 277 = .ok (.invokevirtual 179, 3) := by decide +kernel
theorem dX11_statement_280 : decode cX11_statement 280 = .ok (.return_, 1) := by decide +kernel
set_option maxRecDepth 20000 in
theorem ggX11_newTest_X11_isWord : GoodIn wsX11_newTest wsX11_isWord := goodIn_r _ [12, 2, 3, 13, 99, 100, 101, 102, 103, 104, 105, 106, 107, 108, 109, 110, 111, 112, 113, 114, 115, 116, 117, 118, 119, 120, 121, 122, 123, 124, 125, 126, 127, 128, 129, 130, 131, 132, 133, 134, 135, 136, 137, 138, 139, 140, 141, 142, 143, 144, 145, 146, 147, 148, 149, 150, 151, 152, 153, 154, 155, 156, 157, 158, 159, 160, 161, 162, 163, 164, 165, 166] (by decide +kernel) (by decide +kernel)
set_option maxRecDepth 20000 in
theorem gX11_newTest_X11_isWord : GoodIn wsX11_newTest (wsV RX11 220 RX11 yX11_isWord wsX11_isWord) := goodIn_app (goodIn_of _ (by decide +kernel)) ggX11_newTest_X11_isWord
set_option maxRecDepth 20000 in
theorem ggX11_newTest_X11_wrong : GoodIn wsX11_newTest wsX11_wrong := goodIn_r _ [17, 2, 18, 99, 100, 101, 102, 103, 104, 105, 106, 107, 108, 109, 110, 111, 112, 113, 114, 115, 116, 117, 118, 119, 120, 121, 122, 123, 124, 125, 126, 127, 128, 129, 130, 131, 132, 133, 134, 135, 136, 137, 138, 139, 140, 141, 142, 143, 144, 145, 146, 147, 148, 149, 150, 151, 152, 153, 154, 155, 156, 157, 158, 159, 160, 161, 162, 163, 164, 165, 166] (by decide +kernel) (by decide +kernel)
set_option maxRecDepth 20000 in
theorem gX11_newTest_X11_wrong : GoodIn wsX11_newTest (wsV RX11 179 RX11 yX11_wrong wsX11_wrong) := goodIn_app (goodIn_of _ (by decide +kernel)) ggX11_newTest_X11_wrong
set_option maxRecDepth 20000 in
theorem ggX11_newTest_X11_next : GoodIn wsX11_newTest wsX11_next := goodIn_r _ [22, 23, 1, 3, 13, 24, 25, 26, 11, 27, 28, 29, 30, 31, 32, 33, 34, 35, 36, 37, 38, 39, 40, 41, 42, 43, 44, 45, 46, 47, 48, 49, 50, 51, 52, 53, 54, 55, 56, 57, 58, 59, 60, 61, 62, 63, 64, 65, 66, 67, 68, 69, 70, 71, 72, 73, 74, 75, 76, 77, 78, 79, 80, 81, 82, 83, 84, 85, 99, 100, 101, 102, 103, 104, 105, 106, 107, 108, 109, 110, 111, 112, 113, 114, 115, 116, 117, 118, 119, 120, 121, 122, 123, 124, 125, 126, 127, 128, 129, 130, 131, 132, 133, 134, 135, 136, 137, 138, 139, 140, 141, 142, 143, 144, 145, 146, 147, 148, 149, 150, 151, 152, 153, 154, 155, 156, 157, 158, 159, 160, 161, 162, 163, 164, 165, 166] (by decide +kernel) (by decide +kernel)
set_option maxRecDepth 20000 in
theorem gX11_newTest_X11_next : GoodIn wsX11_newTest (wsV RX11 173 RX11 yX11_next wsX11_next) := goodIn_app (goodIn_of _ (by decide +kernel)) ggX11_newTest_X11_next
set_option maxRecDepth 20000 in
theorem ggX11_newTest_X11_emit : GoodIn wsX11_newTest wsX11_emit := goodIn_r _ [89, 90, 91, 92, 93, 94, 99, 100, 101, 102, 103, 104, 105, 106, 107, 108, 109, 110, 111, 112, 113, 114, 115, 116, 117, 118, 119, 120, 121, 122, 123, 124, 125, 126, 127, 128, 129, 130, 131, 132, 133, 134, 135, 136, 137, 138, 139, 140, 141, 142, 143, 144, 145, 146, 147, 148, 149, 150, 151, 152, 153, 154, 155, 156, 157, 158, 159, 160, 161, 162, 163, 164, 165, 166] (by decide +kernel) (by decide +kernel)
set_option maxRecDepth 20000 in
theorem gX11_newTest_X11_emit : GoodIn wsX11_newTest (wsV RX11 216 RX11 yX11_emit wsX11_emit) := goodIn_app (goodIn_of _ (by decide +kernel)) ggX11_newTest_X11_emit
set_option maxRecDepth 20000 in
theorem ggX11_newTest_X11_taken : GoodIn wsX11_newTest wsX11_taken := goodIn_r _ [98, 2, 3, 1, 13, 14, 15, 16, 11, 17, 18, 19, 20, 21, 22, 23, 24, 25, 26, 27, 28, 29, 30, 31, 32, 33, 34, 35, 36, 37, 38, 39, 40, 41, 42, 43, 44, 45, 46, 47, 48, 49, 50, 51, 52, 53, 54, 55, 56, 57, 58, 59, 60, 61, 62, 63, 64, 65, 66, 67, 68, 69, 70, 71, 72, 73, 74, 75, 76, 77, 78, 79, 80, 81, 82, 83, 84, 85, 99, 100, 101, 102, 103, 104, 105, 106, 107, 108, 109, 110, 111, 112, 113, 114, 115, 116, 117, 118, 119, 120, 121, 122, 123, 124, 125, 126, 127, 128, 129, 130, 131, 132, 133, 134, 135, 136, 137, 138, 139, 140, 141, 142, 143, 144, 145, 146, 147, 148, 149, 150, 151, 152, 153, 154, 155, 156, 157, 158, 159, 160, 161, 162, 163, 164, 165, 166] (by decide +kernel) (by decide +kernel)
set_option maxRecDepth 20000 in
theorem gX11_newTest_X11_taken : GoodIn wsX11_newTest (wsV RX11 205 RX11 yX11_taken wsX11_taken) := goodIn_app (goodIn_of _ (by decide +kernel)) ggX11_newTest_X11_taken
theorem dX11_newTest_0 : decode cX11_newTest 0 = .ok (.aload_n 0, 1) := by decide +kernel
theorem dX11_newTest_1 : decode cX11_newTest 1 = .ok (.getfield 137, 3) := by decide +kernel
theorem dX11_newTest_4 : decode cX11_newTest 4 = .ok (.istore_n 1, 1) := by decide +kernel
theorem dX11_newTest_5 : decode cX11_newTest 5 = .ok (.aload_n 0, 1) := by decide +kernel
theorem dX11_newTest_6 : decode cX11_newTest 6 = .ok (.getfield 164, 3) := by decide +kernel
theorem dX11_newTest_9 : decode cX11_newTest 9 = .ok (.ifCond .ne 23, 3) := by decide +kernel
theorem dX11_newTest_12 : decode cX11_newTest 12 = .ok (.aload_n 0, 1) := by decide +kernel
theorem dX11_newTest_13 : decode cX11_newTest 13 = .ok (.getfield 140, 3) := by decide +kernel
theorem dX11_newTest_16 : decode cX11_newTest 16 = .ok (.ifCond .eq 12, 3) := by decide +kernel
theorem dX11_newTest_19 : decode cX11_newTest 19 = .ok (.aload_n 0, 1) := by decide +kernel
theorem dX11_newTest_20 : decode cX11_newTest 20 = .ok (.bipush 7, 2) := by decide +kernel
theorem dX11_newTest_22 : decode cX11_newTest 22 = .ok (.invokevirtual 220, 3) := by decide +kernel
theorem dX11_newTest_25 : decode cX11_newTest 25 = .ok (.ifCond .eq 7, 3) := by decide +kernel
theorem dX11_newTest_28 : decode cX11_newTest 28 = .ok (.iconst 1, 1) := by decide +kernel
theorem dX11_newTest_29 : decode cX11_newTest 29 = .ok (.goto 4, 3) := by decide +kernel
theorem dX11_newTest_32 : decode cX11_newTest 32 = .ok (.iconst 0, 1) := by decide +kernel
theorem dX11_newTest_33 : decode cX11_newTest 33 = .ok (.istore_n 2, 1) := by decide +kernel
theorem dX11_newTest_34 : decode cX11_newTest 34 = .ok (.iload_n 2, 1) := by decide +kernel
theorem dX11_newTest_35 : decode cX11_newTest 35 = .ok (.ifCond .ne 12, 3) := by decide +kernel
theorem dX11_newTest_38 : decode cX11_newTest 38 = .ok (.aload_n 0, 1) := by decide +kernel
theorem dX11_newTest_39 : decode cX11_newTest 39 = .ok (.iconst 1, 1) := by decide +kernel
theorem dX11_newTest_40 : decode cX11_newTest 40 = .ok (.iload_n 1, 1) := by decide +kernel
theorem dX11_newTest_41 : decode cX11_newTest 41 = .ok (.invokevirtual 179, 3) := by decide +kernel
theorem dX11_newTest_44 : decode cX11_newTest 44 = .ok (.goto 20, 3) := by decide +kernel
theorem dX11_newTest_47 : decode cX11_newTest 47 = .ok (.aload_n 0, 1) := by decide +kernel
theorem dX11_newTest_48 : decode cX11_newTest 48 = .ok (.getfield 62, 3) := by decide +kernel
theorem dX11_newTest_51 : decode cX11_newTest 51 = .ok (.iconst 1, 1) := by decide +kernel
theorem dX11_newTest_52 : decode cX11_newTest 52 = .ok (.iaload, 1) := by decide +kernel
theorem dX11_newTest_53 : decode cX11_newTest 53 = .ok (.bipush 24, 2) := by decide +kernel
theorem dX11_newTest_55 : decode cX11_newTest 55 = .ok (.if_icmp .ne 9, 3) := by decide +kernel
theorem dX11_newTest_58 : decode cX11_newTest 58 = .ok (.aload_n 0, 1) := by decide +kernel
theorem dX11_newTest_59 : decode cX11_newTest 59 = .ok (.iconst 2, 1) := by decide +kernel
theorem dX11_newTest_60 : decode cX11_newTest 60 = .ok (.iload_n 1, 1) := by decide +kernel
theorem dX11_newTest_61 : decode cX11_newTest 61 = .ok (.invokevirtual 179, 3) := by decide +kernel
theorem dX11_newTest_64 : decode cX11_newTest 64 = .ok (.aload_n 0, 1) := by decide +kernel
theorem dX11_newTest_65 : decode cX11_newTest 65 = .ok (.getfield 164, 3) := by decide +kernel
theorem dX11_newTest_68 : decode cX11_newTest 68 = .ok (.ifCond .eq 5, 3) := by decide +kernel
theorem dX11_newTest_71 : decode cX11_newTest 71 = .ok (.iconst 0, 1) := by decide +kernel
theorem dX11_newTest_72 : decode cX11_newTest 72 = .ok (.ireturn, 1) := by decide +kernel
theorem dX11_newTest_73 : decode cX11_newTest 73 = .ok (.aload_n 0, 1) := by decide +kernel
theorem dX11_newTest_74 : decode cX11_newTest 74 = .ok (.getfield 62, 3) := by decide +kernel
theorem dX11_newTest_77 : decode cX11_newTest 77 = .ok (.iconst 1, 1) := by decide +kernel
theorem dX11_newTest_78 : decode cX11_newTest 78 = .ok (.iaload, 1) := by decide +kernel
theorem dX11_newTest_79 : decode cX11_newTest 79 = .ok (.istore_n 3, 1) := by decide +kernel
theorem dX11_newTest_80 : decode cX11_newTest 80 = .ok (.aload_n 0, 1) := by decide +kernel
theorem dX11_newTest_81 : decode cX11_newTest 81 = .ok (.getfield 56, 3) := by decide +kernel
theorem dX11_newTest_84 : decode cX11_newTest 84 = .ok (.bipush 25, 2) := by decide +kernel
theorem dX11_newTest_86 : decode cX11_newTest 86 = .ok (.iload_n 3, 1) := by decide +kernel
theorem dX11_newTest_87 : decode cX11_newTest 87 = .ok (.iadd, 1) := by decide +kernel
theorem dX11_newTest_88 : decode cX11_newTest 88 = .ok (.aload_n 0, 1) := by decide +kernel
theorem dX11_newTest_89 : decode cX11_newTest 89 = .ok (.getfield 209, 3) := by decide +kernel
theorem dX11_newTest_92 : decode cX11_newTest 92 = .ok (.iastore, 1) := by decide +kernel
theorem dX11_newTest_93 : decode cX11_newTest 93 = .ok (.aload_n 0, 1) := by decide +kernel
theorem dX11_newTest_94 : decode cX11_newTest 94 = .ok (.getfield 59, 3) := by decide +kernel
theorem dX11_newTest_97 : decode cX11_newTest 97 = .ok (.bipush 25, 2) := by decide +kernel
theorem dX11_newTest_99 : decode cX11_newTest 99 = .ok (.iload_n 3, 1) := by decide +kernel
theorem dX11_newTest_100 : decode cX11_newTest 100 = .ok (.iadd, 1) := by decide +kernel
theorem dX11_newTest_101 : decode cX11_newTest 101 = .ok (.iload_n 1, 1) := by decide +kernel
theorem dX11_newTest_102 : decode cX11_newTest 102 = .ok (.iastore, 1) := by decide +kernel
theorem dX11_newTest_103 : decode cX11_newTest 103 = .ok (.aload_n 0, 1) := by decide +kernel
theorem dX11_newTest_104 : decode cX11_newTest 104 = .ok (.getfield 62, 3) := by decide +kernel
theorem dX11_newTest_107 : decode cX11_newTest 107 = .ok (.iconst 1, 1) := by decide +kernel
theorem dX11_newTest_108 : decode cX11_newTest 108 = .ok (.dup2, 1) := by decide +kernel
theorem dX11_newTest_109 : decode cX11_newTest 109 = .ok (.iaload, 1) := by decide +kernel
theorem dX11_newTest_110 : decode cX11_newTest 110 = .ok (.iconst 1, 1) := by decide +kernel
theorem dX11_newTest_111 : decode cX11_newTest 111 = .ok (.iadd, 1) := by decide +kernel
theorem dX11_newTest_112 : decode cX11_newTest 112 = .ok (.iastore, 1) := by decide +kernel
theorem dX11_newTest_113 : decode cX11_newTest 113 = .ok (.aload_n 0, 1) := by decide +kernel
theorem dX11_newTest_114 : decode cX11_newTest 114 = .ok (.bipush 7, 2) := by decide +kernel
theorem dX11_newTest_116 : decode cX11_newTest 116 = .ok (.invokevirtual 220, 3) := by decide +kernel
theorem dX11_newTest_119 : decode cX11_newTest 119 = .ok (.ifCond .eq 17, 3) := by decide +kernel
theorem dX11_newTest_122 : decode cX11_newTest 122 = .ok (.aload_n 0, 1) := by decide +kernel
theorem dX11_newTest_123 : decode cX11_newTest 123 = .ok (.invokevirtual 173, 3) := by decide +kernel
theorem dX11_newTest_126 : decode cX11_newTest 126 = .ok (.aload_n 0, 1) := by decide +kernel
theorem dX11_newTest_127 : decode cX11_newTest 127 = .ok (.bipush 12, 2) := by decide +kernel
theorem dX11_newTest_129 : decode cX11_newTest 129 = .ok (.iconst 0, 1) := by decide +kernel
theorem dX11_newTest_130 : decode cX11_newTest 130 = .ok (.iload_n 3, 1) := by decide +kernel
theorem dX11_newTest_131 : decode cX11_newTest 131 = .ok (.iconst 0, 1) := by decide +kernel
theorem dX11_newTest_132 : decode cX11_newTest 132 = .ok (.invokevirtual 216, 3) := by decide +kernel
theorem dX11_newTest_135 : decode cX11_newTest 135 = .ok (.ireturn, 1) := by decide +kernel
theorem dX11_newTest_136 : decode cX11_newTest 136 = .ok (.aload_n 0, 1) := by decide +kernel
theorem dX11_newTest_137 : decode cX11_newTest 137 = .ok (.iconst 0, 1) := by decide +kernel
theorem dX11_newTest_138 : decode cX11_newTest 138 = .ok (.invokevirtual 205, 3) := by decide +kernel
theorem dX11_newTest_141 : decode cX11_newTest 141 = .ok (.istore 4, 2) := by decide +kernel
theorem dX11_newTest_143 : decode cX11_newTest 143 = .ok (.aload_n 0, 1) := by decide +kernel
theorem dX11_newTest_144 : decode cX11_newTest 144 = .ok (.iconst 3, 1) := by decide +kernel
theorem dX11_newTest_145 : decode cX11_newTest 145 = .ok (.invokevirtual 220, 3) := by decide +kernel
theorem dX11_newTest_148 : decode cX11_newTest 148 = .ok (.istore 5, 2) := by decide +kernel
theorem dX11_newTest_150 : decode cX11_newTest 150 = .ok (.iload 5, 2) := by decide +kernel
theorem dX11_newTest_152 : decode cX11_newTest 152 = .ok (.ifCond .ne 20, 3) := by decide +kernel
theorem dX11_newTest_155 : decode cX11_newTest 155 = .ok (.aload_n 0, 1) := by decide +kernel
theorem dX11_newTest_156 : decode cX11_newTest 156 = .ok (.iconst 4, 1) := by decide +kernel
theorem dX11_newTest_157 : decode cX11_newTest 157 = .ok (.invokevirtual 220, 3) := by decide +kernel
theorem dX11_newTest_160 : decode cX11_newTest 160 = .ok (.ifCond .ne 12, 3) := by decide +kernel
theorem dX11_newTest_163 : decode cX11_newTest 163 = .ok (.aload_n 0, 1) := by decide +kernel
theorem dX11_newTest_164 : decode cX11_newTest 164 = .ok (.iconst 1, 1) := by decide +kernel
theorem dX11_newTest_165 : decode cX11_newTest 165 = .ok (.aload_n 0, 1) := by decide +kernel
theorem dX11_newTest_166 : decode cX11_newTest 166 = .ok (.getfield 137, 3) := by decide +kernel
theorem dX11_newTest_169 : decode cX11_newTest 169 = .ok (.invokevirtual 179, 3) := by decide +kernel
theorem dX11_newTest_172 : decode cX11_newTest 172 = .ok (.aload_n 0, 1) := by decide +kernel
theorem dX11_newTest_173 : decode cX11_newTest 173 = .ok (.getfield 164, 3) := by decide +kernel
theorem dX11_newTest_176 : decode cX11_newTest 176 = .ok (.ifCond .ne 7, 3) := by decide +kernel
theorem dX11_newTest_179 : decode cX11_newTest 179 = .ok (.aload_n 0, 1) := by decide +kernel
theorem dX11_newTest_180 : decode cX11_newTest 180 = .ok (.invokevirtual 173, 3) := by decide +kernel
theorem dX11_newTest_183 : decode cX11_newTest 183 = .ok (.aload_n 0, 1) := by decide +kernel
theorem dX11_newTest_184 : decode cX11_newTest 184 = .ok (.iconst 5, 1) := by decide +kernel
theorem dX11_newTest_185 : decode cX11_newTest 185 = .ok (.invokevirtual 220, 3) := by decide +kernel
theorem dX11_newTest_188 : decode cX11_newTest 188 = .ok (.ifCond .ne 12, 3) := by decide +kernel
theorem dX11_newTest_191 : decode cX11_newTest 191 = .ok (.aload_n 0, 1) := by decide +kernel
theorem dX11_newTest_192 : decode cX11_newTest 192 = .ok (.iconst 1, 1) := by decide +kernel
theorem dX11_newTest_193 : decode cX11_newTest 193 = .ok (.aload_n 0, 1) := by decide +kernel
theorem dX11_newTest_194 : decode cX11_newTest 194 = .ok (.getfield 137, 3) := by decide +kernel
theorem dX11_newTest_197 : decode cX11_newTest 197 = .ok (.invokevirtual 179, 3) := by decide +kernel
theorem dX11_newTest_200 : decode cX11_newTest 200 = .ok (.aload_n 0, 1) := by decide +kernel
theorem dX11_newTest_201 : decode cX11_newTest 201 = .ok (.getfield 164, 3) := by decide +kernel
theorem dX11_newTest_204 : decode cX11_newTest 204 = .ok (.ifCond .ne 7, 3) := by decide +kernel
theorem dX11_newTest_207 : decode cX11_newTest 207 = .ok (.aload_n 0, 1) := by decide +kernel
theorem dX11_newTest_208 : decode cX11_newTest 208 = .ok (.invokevirtual 173, 3) := by decide +kernel
theorem dX11_newTest_211 : decode cX11_newTest 211 = .ok (.aload_n 0, 1) := by decide +kernel
theorem dX11_newTest_212 : decode cX11_newTest 212 = .ok (.iload 5, 2) := by decide +kernel
theorem dX11_newTest_214 : decode cX11_newTest 214 = .ok (.ifCond .eq 8, 3) := by decide +kernel
theorem dX11_newTest_217 : decode cX11_newTest 217 = .ok (.bipush 10, 2) := by decide +kernel
theorem dX11_newTest_219 : decode cX11_newTest 219 = .ok (.goto 5, 3) := by decide +kernel
theorem dX11_newTest_222 : decode cX11_newTest 222 = .ok (.bipush 11, 2) := by decide +kernel
theorem dX11_newTest_224 : decode cX11_newTest 224 = .ok (.iload 4, 2) := by decide +kernel
theorem dX11_newTest_226 : decode cX11_newTest 226 = .ok (.iload_n 3, 1) := by decide +kernel
theorem dX11_newTest_227 : decode cX11_newTest 227 = .ok (.iconst 0, 1) := by decide +kernel
theorem dX11_newTest_228 : decode cX11_newTest 228 = .ok (.invokevirtual 216, 3) := by decide +kernel
theorem dX11_newTest_231 : decode cX11_newTest 231 = .ok (.ireturn, 1) := by decide +kernel
set_option maxRecDepth 20000 in
theorem ggX11_worth_X11_isWord : GoodIn wsX11_worth wsX11_isWord := goodIn_r _ [8, 1, 3, 9, 129, 130, 131, 132, 133, 134, 135, 136, 137, 138, 139, 140, 141, 142, 143, 144, 145, 146, 147, 148, 149, 150, 151, 152, 153, 154, 155, 156, 157, 158, 159, 160, 161, 162, 163, 164, 165, 166, 167, 168, 169, 170, 171, 172, 173, 174, 175, 176, 177, 178, 179, 180, 181, 182, 183, 184, 185, 186, 187, 188, 189, 190, 191, 192, 193, 194, 195, 196] (by decide +kernel) (by decide +kernel)
set_option maxRecDepth 20000 in
theorem gX11_worth_X11_isWord : GoodIn wsX11_worth (wsV RX11 220 RX11 yX11_isWord wsX11_isWord) := goodIn_app (goodIn_of _ (by decide +kernel)) ggX11_worth_X11_isWord
set_option maxRecDepth 20000 in
theorem ggX11_worth_X11_next : GoodIn wsX11_worth wsX11_next := goodIn_r _ [13, 14, 2, 3, 9, 15, 16, 17, 7, 18, 19, 20, 21, 22, 23, 24, 25, 26, 27, 28, 29, 30, 31, 32, 33, 34, 35, 36, 37, 38, 39, 40, 41, 42, 43, 44, 45, 46, 47, 48, 49, 50, 51, 52, 53, 54, 55, 56, 57, 58, 59, 60, 61, 62, 63, 64, 65, 66, 67, 68, 69, 70, 71, 72, 73, 74, 75, 76, 129, 130, 131, 132, 133, 134, 135, 136, 137, 138, 139, 140, 141, 142, 143, 144, 145, 146, 147, 148, 149, 150, 151, 152, 153, 154, 155, 156, 157, 158, 159, 160, 161, 162, 163, 164, 165, 166, 167, 168, 169, 170, 171, 172, 173, 174, 175, 176, 177, 178, 179, 180, 181, 182, 183, 184, 185, 186, 187, 188, 189, 190, 191, 192, 193, 194, 195, 196] (by decide +kernel) (by decide +kernel)
set_option maxRecDepth 20000 in
theorem gX11_worth_X11_next : GoodIn wsX11_worth (wsV RX11 173 RX11 yX11_next wsX11_next) := goodIn_app (goodIn_of _ (by decide +kernel)) ggX11_worth_X11_next
set_option maxRecDepth 20000 in
theorem ggX11_worth_X11_emit : GoodIn wsX11_worth wsX11_emit := goodIn_r _ [80, 81, 82, 83, 84, 85, 129, 130, 131, 132, 133, 134, 135, 136, 137, 138, 139, 140, 141, 142, 143, 144, 145, 146, 147, 148, 149, 150, 151, 152, 153, 154, 155, 156, 157, 158, 159, 160, 161, 162, 163, 164, 165, 166, 167, 168, 169, 170, 171, 172, 173, 174, 175, 176, 177, 178, 179, 180, 181, 182, 183, 184, 185, 186, 187, 188, 189, 190, 191, 192, 193, 194, 195, 196] (by decide +kernel) (by decide +kernel)
set_option maxRecDepth 20000 in
theorem gX11_worth_X11_emit : GoodIn wsX11_worth (wsV RX11 216 RX11 yX11_emit wsX11_emit) := goodIn_app (goodIn_of _ (by decide +kernel)) ggX11_worth_X11_emit
set_option maxRecDepth 20000 in
theorem ggX11_worth_X11_taken : GoodIn wsX11_worth wsX11_taken := goodIn_r _ [89, 1, 3, 2, 9, 90, 91, 92, 7, 93, 94, 10, 11, 12, 13, 14, 15, 16, 17, 18, 19, 20, 21, 22, 23, 24, 25, 26, 27, 28, 29, 30, 31, 32, 33, 34, 35, 36, 37, 38, 39, 40, 41, 42, 43, 44, 45, 46, 47, 48, 49, 50, 51, 52, 53, 54, 55, 56, 57, 58, 59, 60, 61, 62, 63, 64, 65, 66, 67, 68, 69, 70, 71, 72, 73, 74, 75, 76, 129, 130, 131, 132, 133, 134, 135, 136, 137, 138, 139, 140, 141, 142, 143, 144, 145, 146, 147, 148, 149, 150, 151, 152, 153, 154, 155, 156, 157, 158, 159, 160, 161, 162, 163, 164, 165, 166, 167, 168, 169, 170, 171, 172, 173, 174, 175, 176, 177, 178, 179, 180, 181, 182, 183, 184, 185, 186, 187, 188, 189, 190, 191, 192, 193, 194, 195, 196] (by decide +kernel) (by decide +kernel)
set_option maxRecDepth 20000 in
theorem gX11_worth_X11_taken : GoodIn wsX11_worth (wsV RX11 205 RX11 yX11_taken wsX11_taken) := goodIn_app (goodIn_of _ (by decide +kernel)) ggX11_worth_X11_taken
set_option maxRecDepth 20000 in
theorem ggX11_worth_X11_isSign : GoodIn wsX11_worth wsX11_isSign := goodIn_r _ [98, 1, 3, 9, 129, 130, 131, 132, 133, 134, 135, 136, 137, 138, 139, 140, 141, 142, 143, 144, 145, 146, 147, 148, 149, 150, 151, 152, 153, 154, 155, 156, 157, 158, 159, 160, 161, 162, 163, 164, 165, 166, 167, 168, 169, 170, 171, 172, 173, 174, 175, 176, 177, 178, 179, 180, 181, 182, 183, 184, 185, 186, 187, 188, 189, 190, 191, 192, 193, 194, 195, 196] (by decide +kernel) (by decide +kernel)
set_option maxRecDepth 20000 in
theorem gX11_worth_X11_isSign : GoodIn wsX11_worth (wsV RX11 170 RX11 yX11_isSign wsX11_isSign) := goodIn_app (goodIn_of _ (by decide +kernel)) ggX11_worth_X11_isSign
set_option maxRecDepth 20000 in
theorem ggX11_worth_X11_newUse : GoodIn wsX11_worth wsX11_newUse := goodIn_r _ [102, 103, 1, 104, 105, 106, 107, 90, 91, 92, 7, 93, 94, 129, 130, 131, 132, 133, 134, 135, 136, 137, 138, 139, 140, 141, 142, 143, 144, 145, 146, 147, 148, 149, 150, 151, 152, 153, 154, 155, 156, 157, 158, 159, 160, 161, 162, 163, 164, 165, 166, 167, 168, 169, 170, 171, 172, 173, 174, 175, 176, 177, 178, 179, 180, 181, 182, 183, 184, 185, 186, 187, 188, 189, 190, 191, 192, 193, 194, 195, 196] (by decide +kernel) (by decide +kernel)
set_option maxRecDepth 20000 in
theorem gX11_worth_X11_newUse : GoodIn wsX11_worth (wsV RX11 223 RX11 yX11_newUse wsX11_newUse) := goodIn_app (goodIn_of _ (by decide +kernel)) ggX11_worth_X11_newUse
set_option maxRecDepth 20000 in
theorem ggX11_worth_X11_field : GoodIn wsX11_worth wsX11_field := goodIn_r _ [111, 1, 3, 9, 2, 90, 91, 92, 7, 93, 94, 86, 87, 88, 89, 10, 11, 12, 13, 14, 15, 16, 17, 18, 19, 20, 21, 22, 23, 24, 25, 26, 27, 28, 29, 30, 31, 32, 33, 34, 35, 36, 37, 38, 39, 40, 41, 42, 43, 44, 45, 46, 47, 48, 49, 50, 51, 52, 53, 54, 55, 56, 57, 58, 59, 60, 61, 62, 63, 64, 65, 66, 67, 68, 69, 70, 71, 72, 73, 74, 75, 76, 129, 130, 131, 132, 133, 134, 135, 136, 137, 138, 139, 140, 141, 142, 143, 144, 145, 146, 147, 148, 149, 150, 151, 152, 153, 154, 155, 156, 157, 158, 159, 160, 161, 162, 163, 164, 165, 166, 167, 168, 169, 170, 171, 172, 173, 174, 175, 176, 177, 178, 179, 180, 181, 182, 183, 184, 185, 186, 187, 188, 189, 190, 191, 192, 193, 194, 195, 196] (by decide +kernel) (by decide +kernel)
set_option maxRecDepth 20000 in
theorem gX11_worth_X11_field : GoodIn wsX11_worth (wsV RX11 227 RX11 yX11_field wsX11_field) := goodIn_app (goodIn_of _ (by decide +kernel)) ggX11_worth_X11_field
set_option maxRecDepth 20000 in
theorem ggX11_worth_X11_call : GoodIn wsX11_worth wsX11_call := goodIn_r _ [115, 2, 1, 3, 116, 117, 118, 119, 120, 86, 87, 88, 7, 89, 9, 90, 91, 92, 93, 94, 10, 11, 12, 13, 14, 15, 16, 17, 18, 19, 20, 21, 22, 23, 24, 25, 26, 27, 28, 29, 30, 31, 32, 33, 34, 35, 36, 37, 38, 39, 40, 41, 42, 43, 44, 45, 46, 47, 48, 49, 50, 51, 52, 53, 54, 55, 56, 57, 58, 59, 60, 61, 62, 63, 64, 65, 66, 67, 68, 69, 70, 71, 72, 73, 74, 75, 76, 121, 122, 123, 124, 125, 126, 127, 128, 95, 96, 97, 98, 77, 78, 79, 80, 81, 82, 83, 84, 85, 129, 130, 131, 132, 133, 134, 135, 136, 137, 138, 139, 140, 141, 142, 143, 144, 145, 146, 147, 148, 149, 150, 151, 152, 153, 154, 155, 156, 157, 158, 159, 160, 161, 162, 163, 164, 165, 166, 167, 168, 169, 170, 171, 172, 173, 174, 175, 176, 177, 178, 179, 180, 181, 182, 183, 184, 185, 186, 187, 188, 189, 190, 191, 192, 193, 194, 195, 196] (by decide +kernel) (by decide +kernel)
set_option maxRecDepth 20000 in
theorem gX11_worth_X11_call : GoodIn wsX11_worth (wsV RX11 233 RX11 yX11_call wsX11_call) := goodIn_app (goodIn_of _ (by decide +kernel)) ggX11_worth_X11_call
set_option maxRecDepth 20000 in
theorem ggX11_worth_X11_wrong : GoodIn wsX11_worth wsX11_wrong := goodIn_r _ [93, 1, 94, 129, 130, 131, 132, 133, 134, 135, 136, 137, 138, 139, 140, 141, 142, 143, 144, 145, 146, 147, 148, 149, 150, 151, 152, 153, 154, 155, 156, 157, 158, 159, 160, 161, 162, 163, 164, 165, 166, 167, 168, 169, 170, 171, 172, 173, 174, 175, 176, 177, 178, 179, 180, 181, 182, 183, 184, 185, 186, 187, 188, 189, 190, 191, 192, 193, 194, 195, 196] (by decide +kernel) (by decide +kernel)
set_option maxRecDepth 20000 in
theorem gX11_worth_X11_wrong : GoodIn wsX11_worth (wsV RX11 179 RX11 yX11_wrong wsX11_wrong) := goodIn_app (goodIn_of _ (by decide +kernel)) ggX11_worth_X11_wrong
theorem dX11_worth_0 : decode cX11_worth 0 = .ok (.aload_n 0, 1) := by decide +kernel
theorem dX11_worth_1 : decode cX11_worth 1 = .ok (.getfield 164, 3) := by decide +kernel
theorem dX11_worth_4 : decode cX11_worth 4 = .ok (.ifCond .eq 4, 3) := by decide +kernel
theorem dX11_worth_7 : decode cX11_worth 7 = .ok (.return_, 1) := by decide +kernel
theorem dX11_worth_8 : decode cX11_worth 8 = .ok (.aload_n 0, 1) := by decide +kernel
theorem dX11_worth_9 : decode cX11_worth 9 = .ok (.getfield 137, 3) := by decide +kernel
theorem dX11_worth_12 : decode cX11_worth 12 = .ok (.istore_n 1, 1) := by decide +kernel
theorem dX11_worth_13 : decode cX11_worth 13 = .ok (.aload_n 0, 1) := by decide +kernel
theorem dX11_worth_14 : decode cX11_worth 14 = .ok (.iconst 5, 1) := by decide +kernel
theorem dX11_worth_15 : decode cX11_worth 15 = .ok (.invokevirtual 220, 3) := by decide +kernel
theorem dX11_worth_18 : decode cX11_worth 18 = .ok (.ifCond .eq 19, 3) := by decide +kernel
theorem dX11_worth_21 : decode cX11_worth 21 = .ok (.aload_n 0, 1) := by decide +kernel
theorem dX11_worth_22 : decode cX11_worth 22 = .ok (.invokevirtual 173, 3) := by decide +kernel
theorem dX11_worth_25 : decode cX11_worth 25 = .ok (.aload_n 0, 1) := by decide +kernel
theorem dX11_worth_26 : decode cX11_worth 26 = .ok (.iconst 1, 1) := by decide +kernel
theorem dX11_worth_27 : decode cX11_worth 27 = .ok (.iconst 0, 1) := by decide +kernel
theorem dX11_worth_28 : decode cX11_worth 28 = .ok (.iconst 0, 1) := by decide +kernel
theorem dX11_worth_29 : decode cX11_worth 29 = .ok (.iconst 0, 1) := by decide +kernel
theorem dX11_worth_30 : decode cX11_worth 30 = .ok (.invokevirtual 216, 3) := by decide +kernel
theorem dX11_worth_33 : decode cX11_worth 33 = .ok (.pop, 1) := by decide +kernel
theorem dX11_worth_34 : decode cX11_worth 34 = .ok (.goto 144, 3) := by decide +kernel
theorem dX11_worth_37 : decode cX11_worth 37 = .ok (.aload_n 0, 1) := by decide +kernel
theorem dX11_worth_38 : decode cX11_worth 38 = .ok (.bipush 7, 2) := by decide +kernel
theorem dX11_worth_40 : decode cX11_worth 40 = .ok (.invokevirtual 220, 3) := by decide +kernel
theorem dX11_worth_43 : decode cX11_worth 43 = .ok (.ifCond .eq 19, 3) := by decide +kernel
theorem dX11_worth_46 : decode cX11_worth 46 = .ok (.aload_n 0, 1) := by decide +kernel
theorem dX11_worth_47 : decode cX11_worth 47 = .ok (.invokevirtual 173, 3) := by decide +kernel
theorem dX11_worth_50 : decode cX11_worth 50 = .ok (.aload_n 0, 1) := by decide +kernel
theorem dX11_worth_51 : decode cX11_worth 51 = .ok (.iconst 2, 1) := by decide +kernel
theorem dX11_worth_52 : decode cX11_worth 52 = .ok (.iconst 0, 1) := by decide +kernel
theorem dX11_worth_53 : decode cX11_worth 53 = .ok (.iconst 0, 1) := by decide +kernel
theorem dX11_worth_54 : decode cX11_worth 54 = .ok (.iconst 0, 1) := by decide +kernel
theorem dX11_worth_55 : decode cX11_worth 55 = .ok (.invokevirtual 216, 3) := by decide +kernel
theorem dX11_worth_58 : decode cX11_worth 58 = .ok (.pop, 1) := by decide +kernel
theorem dX11_worth_59 : decode cX11_worth 59 = .ok (.goto 119, 3) := by decide +kernel
theorem dX11_worth_62 : decode cX11_worth 62 = .ok (.aload_n 0, 1) := by decide +kernel
theorem dX11_worth_63 : decode cX11_worth 63 = .ok (.bipush 6, 2) := by decide +kernel
theorem dX11_worth_65 : decode cX11_worth 65 = .ok (.invokevirtual 220, 3) := by decide +kernel
theorem dX11_worth_68 : decode cX11_worth 68 = .ok (.ifCond .eq 31, 3) := by decide +kernel
theorem dX11_worth_71 : decode cX11_worth 71 = .ok (.aload_n 0, 1) := by decide +kernel
theorem dX11_worth_72 : decode cX11_worth 72 = .ok (.invokevirtual 173, 3) := by decide +kernel
theorem dX11_worth_75 : decode cX11_worth 75 = .ok (.aload_n 0, 1) := by decide +kernel
theorem dX11_worth_76 : decode cX11_worth 76 = .ok (.iconst 0, 1) := by decide +kernel
theorem dX11_worth_77 : decode cX11_worth 77 = .ok (.invokevirtual 205, 3) := by decide +kernel
theorem dX11_worth_80 : decode cX11_worth 80 = .ok (.istore_n 2, 1) := by decide +kernel
theorem dX11_worth_81 : decode cX11_worth 81 = .ok (.aload_n 0, 1) := by decide +kernel
theorem dX11_worth_82 : decode cX11_worth 82 = .ok (.iconst 0, 1) := by decide +kernel
theorem dX11_worth_83 : decode cX11_worth 83 = .ok (.invokevirtual 205, 3) := by decide +kernel
theorem dX11_worth_86 : decode cX11_worth 86 = .ok (.istore_n 3, 1) := by decide +kernel
theorem dX11_worth_87 : decode cX11_worth 87 = .ok (.aload_n 0, 1) := by decide +kernel
theorem dX11_worth_88 : decode cX11_worth 88 = .ok (.iconst 3, 1) := by decide +kernel
theorem dX11_worth_89 : decode cX11_worth 89 = .ok (.iload_n 2, 1) := by decide +kernel
theorem dX11_worth_90 : decode cX11_worth 90 = .ok (.iload_n 3, 1) := by decide +kernel
theorem dX11_worth_91 : decode cX11_worth 91 = .ok (.iconst 0, 1) := by decide +kernel
theorem dX11_worth_92 : decode cX11_worth 92 = .ok (.invokevirtual 216, 3) := by decide +kernel
theorem dX11_worth_95 : decode cX11_worth 95 = .ok (.pop, 1) := by decide +kernel
theorem dX11_worth_96 : decode cX11_worth 96 = .ok (.goto 82, 3) := by decide +kernel
theorem dX11_worth_99 : decode cX11_worth 99 = .ok (.aload_n 0, 1) := by decide +kernel
theorem dX11_worth_100 : decode cX11_worth 100 = .ok (.getfield 140, 3) := by decide +kernel
theorem dX11_worth_103 : decode cX11_worth 103 = .ok (.ifCond .ne 54, 3) := by decide +kernel
theorem dX11_worth_106 : decode cX11_worth 106 = .ok (.aload_n 0, 1) := by decide +kernel
theorem dX11_worth_107 : decode cX11_worth 107 = .ok (.iconst 0, 1) := by decide +kernel
theorem dX11_worth_108 : decode cX11_worth 108 = .ok (.invokevirtual 205, 3) := by decide +kernel
theorem dX11_worth_111 : decode cX11_worth 111 = .ok (.istore_n 2, 1) := by decide +kernel
theorem dX11_worth_112 : decode cX11_worth 112 = .ok (.aload_n 0, 1) := by decide +kernel
theorem dX11_worth_113 : decode cX11_worth 113 = .ok (.bipush 46, 2) := by decide +kernel
theorem dX11_worth_115 : decode cX11_worth 115 = .ok (.invokevirtual 170, 3) := by decide +kernel
theorem dX11_worth_118 : decode cX11_worth 118 = .ok (.ifCond .ne 13, 3) := by decide +kernel
theorem dX11_worth_121 : decode cX11_worth 121 = .ok (.aload_n 0, 1) := by decide +kernel
theorem dX11_worth_122 : decode cX11_worth 122 = .ok (.iconst 4, 1) := by decide +kernel
theorem dX11_worth_123 : decode cX11_worth 123 = .ok (.iload_n 2, 1) := by decide +kernel
theorem dX11_worth_124 : decode cX11_worth 124 = .ok (.iconst 0, 1) := by decide +kernel
theorem dX11_worth_125 : decode cX11_worth 125 = .ok (.iconst 0, 1) := by decide +kernel
theorem dX11_worth_126 : decode cX11_worth 126 = .ok (.invokevirtual 216, 3) := by decide +kernel
theorem dX11_worth_129 : decode cX11_worth 129 = .ok (.pop, 1) := by decide +kernel
theorem dX11_worth_130 : decode cX11_worth 130 = .ok (.return_, 1) := by decide +kernel
theorem dX11_worth_131 : decode cX11_worth 131 = .ok (.aload_n 0, 1) := by decide +kernel
theorem dX11_worth_132 : decode cX11_worth 132 = .ok (.iload_n 2, 1) := by decide +kernel
theorem dX11_worth_133 : decode cX11_worth 133 = .ok (.iload_n 1, 1) := by decide +kernel
theorem dX11_worth_134 : decode cX11_worth 134 = .ok (.invokevirtual 223, 3) := by decide +kernel
theorem dX11_worth_137 : decode cX11_worth 137 = .ok (.istore_n 3, 1) := by decide +kernel
theorem dX11_worth_138 : decode cX11_worth 138 = .ok (.aload_n 0, 1) := by decide +kernel
theorem dX11_worth_139 : decode cX11_worth 139 = .ok (.invokevirtual 173, 3) := by decide +kernel
theorem dX11_worth_142 : decode cX11_worth 142 = .ok (.aload_n 0, 1) := by decide +kernel
theorem dX11_worth_143 : decode cX11_worth 143 = .ok (.iconst 5, 1) := by decide +kernel
theorem dX11_worth_144 : decode cX11_worth 144 = .ok (.iload_n 2, 1) := by decide +kernel
theorem dX11_worth_145 : decode cX11_worth 145 = .ok (.aload_n 0, 1) := by decide +kernel
theorem dX11_worth_146 : decode cX11_worth 146 = .ok (.invokevirtual 227, 3) := by decide +kernel
theorem dX11_worth_149 : decode cX11_worth 149 = .ok (.iload_n 3, 1) := by decide +kernel
theorem dX11_worth_150 : decode cX11_worth 150 = .ok (.invokevirtual 216, 3) := by decide +kernel
theorem dX11_worth_153 : decode cX11_worth 153 = .ok (.pop, 1) := by decide +kernel
theorem dX11_worth_154 : decode cX11_worth 154 = .ok (.goto 24, 3) := by decide +kernel
theorem dX11_worth_157 : decode cX11_worth 157 = .ok (.aload_n 0, 1) := by decide +kernel
theorem dX11_worth_158 : decode cX11_worth 158 = .ok (.getfield 140, 3) := by decide +kernel
theorem dX11_worth_161 : decode cX11_worth 161 = .ok (.iconst 1, 1) := by decide +kernel
theorem dX11_worth_162 : decode cX11_worth 162 = .ok (.if_icmp .ne 10, 3) := by decide +kernel
theorem dX11_worth_165 : decode cX11_worth 165 = .ok (.aload_n 0, 1) := by decide +kernel
theorem dX11_worth_166 : decode cX11_worth 166 = .ok (.invokevirtual 233, 3) := by decide +kernel
theorem dX11_worth_169 : decode cX11_worth 169 = .ok (.goto 9, 3) := by decide +kernel
theorem dX11_worth_172 : decode cX11_worth 172 = .ok (.aload_n 0, 1) := by decide +kernel
theorem dX11_worth_173 : decode cX11_worth 173 = .ok (.iconst 1, 1) := by decide +kernel
theorem dX11_worth_174 : decode cX11_worth 174 = .ok (.iload_n 1, 1) := by decide +kernel
theorem dX11_worth_175 : decode cX11_worth 175 = .ok (.invokevirtual 179, 3) := by decide +kernel
theorem dX11_worth_178 : decode cX11_worth 178 = .ok (.return_, 1) := by decide +kernel
set_option maxRecDepth 20000 in
theorem ggX11_call_X11_taken : GoodIn wsX11_call wsX11_taken := goodIn_r _ [13, 2, 3, 1, 14, 15, 16, 17, 12, 18, 19, 20, 21, 22, 23, 24, 25, 26, 27, 28, 29, 30, 31, 32, 33, 34, 35, 36, 37, 38, 39, 40, 41, 42, 43, 44, 45, 46, 47, 48, 49, 50, 51, 52, 53, 54, 55, 56, 57, 58, 59, 60, 61, 62, 63, 64, 65, 66, 67, 68, 69, 70, 71, 72, 73, 74, 75, 76, 77, 78, 79, 80, 81, 82, 83, 84, 85, 86, 108, 109, 110, 111, 112, 113, 114, 115, 116, 117, 118, 119, 120, 121, 122, 123, 124, 125, 126, 127, 128, 129, 130, 131, 132, 133, 134, 135, 136, 137, 138, 139, 140, 141, 142, 143, 144, 145, 146, 147, 148, 149, 150, 151, 152, 153, 154, 155, 156, 157, 158, 159, 160, 161, 162, 163, 164, 165, 166, 167, 168, 169, 170, 171, 172, 173, 174, 175] (by decide +kernel) (by decide +kernel)
set_option maxRecDepth 20000 in
theorem gX11_call_X11_taken : GoodIn wsX11_call (wsV RX11 205 RX11 yX11_taken wsX11_taken) := goodIn_app (goodIn_of _ (by decide +kernel)) ggX11_call_X11_taken
set_option maxRecDepth 20000 in
theorem ggX11_call_X11_wants : GoodIn wsX11_call wsX11_wants := goodIn_r _ [90, 1, 91, 92, 93, 12, 94, 95, 96, 97, 98, 2, 3, 14, 20, 21, 22, 23, 24, 25, 26, 27, 28, 29, 30, 31, 32, 33, 34, 35, 36, 37, 38, 39, 40, 41, 42, 43, 44, 45, 46, 47, 48, 49, 50, 51, 52, 53, 54, 55, 56, 57, 58, 59, 60, 61, 62, 63, 64, 65, 66, 67, 68, 69, 70, 71, 72, 73, 74, 75, 76, 77, 78, 79, 80, 81, 82, 83, 84, 85, 86, 15, 16, 17, 18, 19, 108, 109, 110, 111, 112, 113, 114, 115, 116, 117, 118, 119, 120, 121, 122, 123, 124, 125, 126, 127, 128, 129, 130, 131, 132, 133, 134, 135, 136, 137, 138, 139, 140, 141, 142, 143, 144, 145, 146, 147, 148, 149, 150, 151, 152, 153, 154, 155, 156, 157, 158, 159, 160, 161, 162, 163, 164, 165, 166, 167, 168, 169, 170, 171, 172, 173, 174, 175] (by decide +kernel) (by decide +kernel)
set_option maxRecDepth 20000 in
theorem gX11_call_X11_wants : GoodIn wsX11_call (wsV RX11 201 RX11 yX11_wants wsX11_wants) := goodIn_app (goodIn_of _ (by decide +kernel)) ggX11_call_X11_wants
set_option maxRecDepth 20000 in
theorem ggX11_call_X11_isSign : GoodIn wsX11_call wsX11_isSign := goodIn_r _ [98, 2, 3, 14, 108, 109, 110, 111, 112, 113, 114, 115, 116, 117, 118, 119, 120, 121, 122, 123, 124, 125, 126, 127, 128, 129, 130, 131, 132, 133, 134, 135, 136, 137, 138, 139, 140, 141, 142, 143, 144, 145, 146, 147, 148, 149, 150, 151, 152, 153, 154, 155, 156, 157, 158, 159, 160, 161, 162, 163, 164, 165, 166, 167, 168, 169, 170, 171, 172, 173, 174, 175] (by decide +kernel) (by decide +kernel)
set_option maxRecDepth 20000 in
theorem gX11_call_X11_isSign : GoodIn wsX11_call (wsV RX11 170 RX11 yX11_isSign wsX11_isSign) := goodIn_app (goodIn_of _ (by decide +kernel)) ggX11_call_X11_isSign
set_option maxRecDepth 20000 in
theorem ggX11_call_X11_wrong : GoodIn wsX11_call wsX11_wrong := goodIn_r _ [18, 2, 19, 108, 109, 110, 111, 112, 113, 114, 115, 116, 117, 118, 119, 120, 121, 122, 123, 124, 125, 126, 127, 128, 129, 130, 131, 132, 133, 134, 135, 136, 137, 138, 139, 140, 141, 142, 143, 144, 145, 146, 147, 148, 149, 150, 151, 152, 153, 154, 155, 156, 157, 158, 159, 160, 161, 162, 163, 164, 165, 166, 167, 168, 169, 170, 171, 172, 173, 174, 175] (by decide +kernel) (by decide +kernel)
set_option maxRecDepth 20000 in
theorem gX11_call_X11_wrong : GoodIn wsX11_call (wsV RX11 179 RX11 yX11_wrong wsX11_wrong) := goodIn_app (goodIn_of _ (by decide +kernel)) ggX11_call_X11_wrong
set_option maxRecDepth 20000 in
theorem ggX11_call_X11_takesSign : GoodIn wsX11_call wsX11_takesSign := goodIn_r _ [94, 95, 96, 97, 12, 98, 2, 3, 14, 20, 21, 22, 23, 24, 1, 25, 26, 27, 28, 29, 30, 31, 32, 33, 34, 35, 36, 37, 38, 39, 40, 41, 42, 43, 44, 45, 46, 47, 48, 49, 50, 51, 52, 53, 54, 55, 56, 57, 58, 59, 60, 61, 62, 63, 64, 65, 66, 67, 68, 69, 70, 71, 72, 73, 74, 75, 76, 77, 78, 79, 80, 81, 82, 83, 84, 85, 86, 108, 109, 110, 111, 112, 113, 114, 115, 116, 117, 118, 119, 120, 121, 122, 123, 124, 125, 126, 127, 128, 129, 130, 131, 132, 133, 134, 135, 136, 137, 138, 139, 140, 141, 142, 143, 144, 145, 146, 147, 148, 149, 150, 151, 152, 153, 154, 155, 156, 157, 158, 159, 160, 161, 162, 163, 164, 165, 166, 167, 168, 169, 170, 171, 172, 173, 174, 175] (by decide +kernel) (by decide +kernel)
set_option maxRecDepth 20000 in
theorem gX11_call_X11_takesSign : GoodIn wsX11_call (wsV RX11 176 RX11 yX11_takesSign wsX11_takesSign) := goodIn_app (goodIn_of _ (by decide +kernel)) ggX11_call_X11_takesSign
set_option maxRecDepth 20000 in
theorem ggX11_call_X11_emit : GoodIn wsX11_call wsX11_emit := goodIn_r _ [102, 103, 104, 105, 106, 107, 108, 109, 110, 111, 112, 113, 114, 115, 116, 117, 118, 119, 120, 121, 122, 123, 124, 125, 126, 127, 128, 129, 130, 131, 132, 133, 134, 135, 136, 137, 138, 139, 140, 141, 142, 143, 144, 145, 146, 147, 148, 149, 150, 151, 152, 153, 154, 155, 156, 157, 158, 159, 160, 161, 162, 163, 164, 165, 166, 167, 168, 169, 170, 171, 172, 173, 174, 175] (by decide +kernel) (by decide +kernel)
set_option maxRecDepth 20000 in
theorem gX11_call_X11_emit : GoodIn wsX11_call (wsV RX11 216 RX11 yX11_emit wsX11_emit) := goodIn_app (goodIn_of _ (by decide +kernel)) ggX11_call_X11_emit
theorem dX11_call_0 : decode cX11_call 0 = .ok (.aload_n 0, 1) := by decide +kernel
theorem dX11_call_1 : decode cX11_call 1 = .ok (.getfield 137, 3) := by decide +kernel
theorem dX11_call_4 : decode cX11_call 4 = .ok (.istore_n 1, 1) := by decide +kernel
theorem dX11_call_5 : decode cX11_call 5 = .ok (.aload_n 0, 1) := by decide +kernel
theorem dX11_call_6 : decode cX11_call 6 = .ok (.iconst 1, 1) := by decide +kernel
theorem dX11_call_7 : decode cX11_call 7 = .ok (.invokevirtual 205, 3) := by decide +kernel
theorem dX11_call_10 : decode cX11_call 10 = .ok (.istore_n 2, 1) := by decide +kernel
theorem dX11_call_11 : decode cX11_call 11 = .ok (.aload_n 0, 1) := by decide +kernel
theorem dX11_call_12 : decode cX11_call 12 = .ok (.bipush 40, 2) := by decide +kernel
theorem dX11_call_14 : decode cX11_call 14 = .ok (.invokevirtual 201, 3) := by decide +kernel
theorem dX11_call_17 : decode cX11_call 17 = .ok (.iconst 0, 1) := by decide +kernel
theorem dX11_call_18 : decode cX11_call 18 = .ok (.istore_n 3, 1) := by decide +kernel
theorem dX11_call_19 : decode cX11_call 19 = .ok (.iconst 0, 1) := by decide +kernel
theorem dX11_call_20 : decode cX11_call 20 = .ok (.istore 4, 2) := by decide +kernel
theorem dX11_call_22 : decode cX11_call 22 = .ok (.aload_n 0, 1) := by decide +kernel
theorem dX11_call_23 : decode cX11_call 23 = .ok (.getfield 164, 3) := by decide +kernel
theorem dX11_call_26 : decode cX11_call 26 = .ok (.ifCond .ne 16, 3) := by decide +kernel
theorem dX11_call_29 : decode cX11_call 29 = .ok (.aload_n 0, 1) := by decide +kernel
theorem dX11_call_30 : decode cX11_call 30 = .ok (.bipush 41, 2) := by decide +kernel
theorem dX11_call_32 : decode cX11_call 32 = .ok (.invokevirtual 170, 3) := by decide +kernel
theorem dX11_call_35 : decode cX11_call 35 = .ok (.ifCond .ne 7, 3) := by decide +kernel
theorem dX11_call_38 : decode cX11_call 38 = .ok (.iconst 1, 1) := by decide +kernel
theorem dX11_call_39 : decode cX11_call 39 = .ok (.goto 4, 3) := by decide +kernel
theorem dX11_call_42 : decode cX11_call 42 = .ok (.iconst 0, 1) := by decide +kernel
theorem dX11_call_43 : decode cX11_call 43 = .ok (.istore 5, 2) := by decide +kernel
theorem dX11_call_45 : decode cX11_call 45 = .ok (.iload 5, 2) := by decide +kernel
theorem dX11_call_47 : decode cX11_call 47 = .ok (.ifCond .eq 59, 3) := by decide +kernel
theorem dX11_call_50 : decode cX11_call 50 = .ok (.aload_n 0, 1) := by decide +kernel
theorem dX11_call_51 : decode cX11_call 51 = .ok (.getfield 164, 3) := by decide +kernel
theorem dX11_call_54 : decode cX11_call 54 = .ok (.ifCond .ne 52, 3) := by decide +kernel
theorem dX11_call_57 : decode cX11_call 57 = .ok (.aload_n 0, 1) := by decide +kernel
theorem dX11_call_58 : decode cX11_call 58 = .ok (.getfield 140, 3) := by decide +kernel
theorem dX11_call_61 : decode cX11_call 61 = .ok (.ifCond .ne 17, 3) := by decide +kernel
theorem dX11_call_64 : decode cX11_call 64 = .ok (.iload_n 3, 1) := by decide +kernel
theorem dX11_call_65 : decode cX11_call 65 = .ok (.iconst 4, 1) := by decide +kernel
theorem dX11_call_66 : decode cX11_call 66 = .ok (.if_icmp .ne 12, 3) := by decide +kernel
theorem dX11_call_69 : decode cX11_call 69 = .ok (.aload_n 0, 1) := by decide +kernel
theorem dX11_call_70 : decode cX11_call 70 = .ok (.iconst 2, 1) := by decide +kernel
theorem dX11_call_71 : decode cX11_call 71 = .ok (.aload_n 0, 1) := by decide +kernel
theorem dX11_call_72 : decode cX11_call 72 = .ok (.getfield 137, 3) := by decide +kernel
theorem dX11_call_75 : decode cX11_call 75 = .ok (.invokevirtual 179, 3) := by decide +kernel
theorem dX11_call_78 : decode cX11_call 78 = .ok (.iload 4, 2) := by decide +kernel
theorem dX11_call_80 : decode cX11_call 80 = .ok (.aload_n 0, 1) := by decide +kernel
theorem dX11_call_81 : decode cX11_call 81 = .ok (.iconst 0, 1) := by decide +kernel
theorem dX11_call_82 : decode cX11_call 82 = .ok (.invokevirtual 205, 3) := by decide +kernel
theorem dX11_call_85 : decode cX11_call 85 = .ok (.iconst 5, 1) := by decide +kernel
theorem dX11_call_86 : decode cX11_call 86 = .ok (.iload_n 3, 1) := by decide +kernel
theorem dX11_call_87 : decode cX11_call 87 = .ok (.imul, 1) := by decide +kernel
theorem dX11_call_88 : decode cX11_call 88 = .ok (.ishl, 1) := by decide +kernel
theorem dX11_call_89 : decode cX11_call 89 = .ok (.ior, 1) := by decide +kernel
theorem dX11_call_90 : decode cX11_call 90 = .ok (.istore 4, 2) := by decide +kernel
theorem dX11_call_92 : decode cX11_call 92 = .ok (.iinc 3 1, 3) := by decide +kernel
theorem dX11_call_95 : decode cX11_call 95 = .ok (.aload_n 0, 1) := by decide +kernel
theorem dX11_call_96 : decode cX11_call 96 = .ok (.bipush 44, 2) := by decide +kernel
theorem dX11_call_98 : decode cX11_call 98 = .ok (.invokevirtual 176, 3) := by decide +kernel
theorem dX11_call_101 : decode cX11_call 101 = .ok (.istore 5, 2) := by decide +kernel
theorem dX11_call_103 : decode cX11_call 103 = .ok (.goto (-58), 3) := by decide +kernel
theorem dX11_call_106 : decode cX11_call 106 = .ok (.aload_n 0, 1) := by decide +kernel
theorem dX11_call_107 : decode cX11_call 107 = .ok (.bipush 41, 2) := by decide +kernel
theorem dX11_call_109 : decode cX11_call 109 = .ok (.invokevirtual 201, 3) := by decide +kernel
theorem dX11_call_112 : decode cX11_call 112 = .ok (.aload_n 0, 1) := by decide +kernel
theorem dX11_call_113 : decode cX11_call 113 = .ok (.getfield 164, 3) := by decide +kernel
theorem dX11_call_116 : decode cX11_call 116 = .ok (.ifCond .eq 4, 3) := by decide +kernel
theorem dX11_call_119 : decode cX11_call 119 = .ok (.return_, 1) := by decide +kernel
theorem dX11_call_120 : decode cX11_call 120 = .ok (.aload_n 0, 1) := by decide +kernel
theorem dX11_call_121 : decode cX11_call 121 = .ok (.getfield 65, 3) := by decide +kernel
theorem dX11_call_124 : decode cX11_call 124 = .ok (.aload_n 0, 1) := by decide +kernel
theorem dX11_call_125 : decode cX11_call 125 = .ok (.getfield 186, 3) := by decide +kernel
theorem dX11_call_128 : decode cX11_call 128 = .ok (.iload_n 1, 1) := by decide +kernel
theorem dX11_call_129 : decode cX11_call 129 = .ok (.iastore, 1) := by decide +kernel
theorem dX11_call_130 : decode cX11_call 130 = .ok (.aload_n 0, 1) := by decide +kernel
theorem dX11_call_131 : decode cX11_call 131 = .ok (.getfield 68, 3) := by decide +kernel
theorem dX11_call_134 : decode cX11_call 134 = .ok (.aload_n 0, 1) := by decide +kernel
theorem dX11_call_135 : decode cX11_call 135 = .ok (.getfield 186, 3) := by decide +kernel
theorem dX11_call_138 : decode cX11_call 138 = .ok (.iload_n 2, 1) := by decide +kernel
theorem dX11_call_139 : decode cX11_call 139 = .ok (.iastore, 1) := by decide +kernel
theorem dX11_call_140 : decode cX11_call 140 = .ok (.aload_n 0, 1) := by decide +kernel
theorem dX11_call_141 : decode cX11_call 141 = .ok (.getfield 71, 3) := by decide +kernel
theorem dX11_call_144 : decode cX11_call 144 = .ok (.aload_n 0, 1) := by decide +kernel
theorem dX11_call_145 : decode cX11_call 145 = .ok (.getfield 186, 3) := by decide +kernel
theorem dX11_call_148 : decode cX11_call 148 = .ok (.iload_n 3, 1) := by decide +kernel
theorem dX11_call_149 : decode cX11_call 149 = .ok (.iastore, 1) := by decide +kernel
theorem dX11_call_150 : decode cX11_call 150 = .ok (.aload_n 0, 1) := by decide +kernel
theorem dX11_call_151 : decode cX11_call 151 = .ok (.dup, 1) := by decide +kernel
theorem dX11_call_152 : decode cX11_call 152 = .ok (.getfield 186, 3) := by decide +kernel
theorem dX11_call_155 : decode cX11_call 155 = .ok (.iconst 1, 1) := by decide +kernel
theorem dX11_call_156 : decode cX11_call 156 = .ok (.iadd, 1) := by decide +kernel
theorem dX11_call_157 : decode cX11_call 157 = .ok (.putfield 186, 3) := by decide +kernel
theorem dX11_call_160 : decode cX11_call 160 = .ok (.aload_n 0, 1) := by decide +kernel
theorem dX11_call_161 : decode cX11_call 161 = .ok (.getfield 29, 3) := by decide +kernel
theorem dX11_call_164 : decode cX11_call 164 = .ok (.sipush 1300, 3) := by decide +kernel
theorem dX11_call_167 : decode cX11_call 167 = .ok (.aload_n 0, 1) := by decide +kernel
theorem dX11_call_168 : decode cX11_call 168 = .ok (.bipush 6, 2) := by decide +kernel
theorem dX11_call_170 : decode cX11_call 170 = .ok (.iload_n 2, 1) := by decide +kernel
theorem dX11_call_171 : decode cX11_call 171 = .ok (.iload_n 3, 1) := by decide +kernel
theorem dX11_call_172 : decode cX11_call 172 = .ok (.iconst 0, 1) := by decide +kernel
theorem dX11_call_173 : decode cX11_call 173 = .ok (.invokevirtual 216, 3) := by decide +kernel
theorem dX11_call_176 : decode cX11_call 176 = .ok (.iadd, 1) := by decide +kernel
theorem dX11_call_177 : decode cX11_call 177 = .ok (.iload 4, 2) := by decide +kernel
theorem dX11_call_179 : decode cX11_call 179 = .ok (.iastore, 1) := by decide +kernel
theorem dX11_call_180 : decode cX11_call 180 = .ok (.return_, 1) := by decide +kernel
set_option maxRecDepth 20000 in
theorem ggX11_text_X11_parses : GoodIn wsX11_text wsX11_parses := goodIn_r _ [12, 13, 4, 6, 14, 15, 16, 17, 18, 19, 20, 21, 22, 23, 24, 25, 26, 27, 28, 11, 29, 30, 31, 32, 33, 34, 35, 3, 36, 37, 38, 39, 40, 41, 42, 43, 44, 45, 46, 47, 48, 49, 50, 51, 52, 53, 54, 55, 56, 57, 58, 59, 60, 61, 62, 63, 64, 65, 66, 67, 68, 69, 70, 71, 72, 73, 74, 75, 76, 77, 78, 79, 80, 81, 82, 83, 84, 85, 86, 87, 88, 89, 90, 91, 92, 93, 94, 95, 96, 97, 98, 99, 100, 101, 102, 103, 104, 105, 106, 107, 108, 109, 110, 111, 112, 113, 114, 115, 116, 117, 118, 119, 120, 121, 122, 123, 124, 125, 126, 127, 128, 129, 130, 131, 132, 133, 134, 135, 136, 137, 138, 139, 140, 141, 142, 143, 144, 145, 146, 147, 148, 149, 150, 151, 152, 153, 154, 155, 156, 157, 158, 159, 160, 161, 162, 163, 164, 165, 166, 167, 168, 169, 170, 171, 187, 188, 189, 190, 191, 192, 193, 194, 195, 196, 197, 198, 199, 200, 201, 202, 203, 204, 205, 206, 207, 208, 209, 210, 211, 212, 213, 214, 215, 216, 217, 218, 219, 220, 221, 222, 223, 224, 225, 226, 227, 228, 229, 230, 231, 232, 233, 234, 235, 236, 237, 238, 239, 240, 241, 242, 243, 244, 245, 246, 247, 248, 249, 250, 251, 252, 253, 254] (by decide +kernel) (by decide +kernel)
set_option maxRecDepth 20000 in
theorem gX11_text_X11_parses : GoodIn wsX11_text (wsV RX11 239 RX11 yX11_parses wsX11_parses) := goodIn_app (goodIn_of _ (by decide +kernel)) ggX11_text_X11_parses
set_option maxRecDepth 20000 in
theorem ggX11_text_X11_comes : GoodIn wsX11_text wsX11_comes := goodIn_r _ [175, 14, 176, 136, 131, 137, 130, 165, 20, 23, 98, 19, 150, 151, 152, 17, 170, 171, 18, 177, 178, 179, 11, 180, 181, 182, 187, 188, 189, 190, 191, 192, 193, 194, 195, 196, 197, 198, 199, 200, 201, 202, 203, 204, 205, 206, 207, 208, 209, 210, 211, 212, 213, 214, 215, 216, 217, 218, 219, 220, 221, 222, 223, 224, 225, 226, 227, 228, 229, 230, 231, 232, 233, 234, 235, 236, 237, 238, 239, 240, 241, 242, 243, 244, 245, 246, 247, 248, 249, 250, 251, 252, 253, 254] (by decide +kernel) (by decide +kernel)
set_option maxRecDepth 20000 in
theorem gX11_text_X11_comes : GoodIn wsX11_text (wsV RX11 245 RX11 yX11_comes wsX11_comes) := goodIn_app (goodIn_of _ (by decide +kernel)) ggX11_text_X11_comes
set_option maxRecDepth 20000 in
theorem ggX11_text_X11_routinesMany : GoodIn wsX11_text wsX11_routinesMany := goodIn_r _ [186, 20, 187, 188, 189, 190, 191, 192, 193, 194, 195, 196, 197, 198, 199, 200, 201, 202, 203, 204, 205, 206, 207, 208, 209, 210, 211, 212, 213, 214, 215, 216, 217, 218, 219, 220, 221, 222, 223, 224, 225, 226, 227, 228, 229, 230, 231, 232, 233, 234, 235, 236, 237, 238, 239, 240, 241, 242, 243, 244, 245, 246, 247, 248, 249, 250, 251, 252, 253, 254] (by decide +kernel) (by decide +kernel)
set_option maxRecDepth 20000 in
theorem gX11_text_X11_routinesMany : GoodIn wsX11_text (wsV RX11 248 RX11 yX11_routinesMany wsX11_routinesMany) := goodIn_app (goodIn_of _ (by decide +kernel)) ggX11_text_X11_routinesMany
theorem dX11_text_0 : decode cX11_text 0 = .ok (.aload_n 0, 1) := by decide +kernel
theorem dX11_text_1 : decode cX11_text 1 = .ok (.iconst 0, 1) := by decide +kernel
theorem dX11_text_2 : decode cX11_text 2 = .ok (.putfield 121, 3) := by decide +kernel
theorem dX11_text_5 : decode cX11_text 5 = .ok (.iload_n 1, 1) := by decide +kernel
theorem dX11_text_6 : decode cX11_text 6 = .ok (.ifCond .lt 11, 3) := by decide +kernel
theorem dX11_text_9 : decode cX11_text 9 = .ok (.iload_n 1, 1) := by decide +kernel
theorem dX11_text_10 : decode cX11_text 10 = .ok (.aload_n 0, 1) := by decide +kernel
theorem dX11_text_11 : decode cX11_text 11 = .ok (.getfield 124, 3) := by decide +kernel
theorem dX11_text_14 : decode cX11_text 14 = .ok (.if_icmp .le 6, 3) := by decide +kernel
theorem dX11_text_17 : decode cX11_text 17 = .ok (.bipush (-2), 2) := by decide +kernel
theorem dX11_text_19 : decode cX11_text 19 = .ok (.ireturn, 1) := by decide +kernel
theorem dX11_text_20 : decode cX11_text 20 = .ok (.aload_n 0, 1) := by decide +kernel
theorem dX11_text_21 : decode cX11_text 21 = .ok (.iload_n 1, 1) := by decide +kernel
theorem dX11_text_22 : decode cX11_text 22 = .ok (.putfield 130, 3) := by decide +kernel
theorem dX11_text_25 : decode cX11_text 25 = .ok (.aload_n 0, 1) := by decide +kernel
theorem dX11_text_26 : decode cX11_text 26 = .ok (.iconst 0, 1) := by decide +kernel
theorem dX11_text_27 : decode cX11_text 27 = .ok (.putfield 124, 3) := by decide +kernel
theorem dX11_text_30 : decode cX11_text 30 = .ok (.aload_n 0, 1) := by decide +kernel
theorem dX11_text_31 : decode cX11_text 31 = .ok (.invokevirtual 239, 3) := by decide +kernel
theorem dX11_text_34 : decode cX11_text 34 = .ok (.aload_n 0, 1) := by decide +kernel
theorem dX11_text_35 : decode cX11_text 35 = .ok (.aload_n 0, 1) := by decide +kernel
theorem dX11_text_36 : decode cX11_text 36 = .ok (.getfield 164, 3) := by decide +kernel
theorem dX11_text_39 : decode cX11_text 39 = .ok (.putfield 242, 3) := by decide +kernel
theorem dX11_text_42 : decode cX11_text 42 = .ok (.aload_n 0, 1) := by decide +kernel
theorem dX11_text_43 : decode cX11_text 43 = .ok (.aload_n 0, 1) := by decide +kernel
theorem dX11_text_44 : decode cX11_text 44 = .ok (.getfield 167, 3) := by decide +kernel
theorem dX11_text_47 : decode cX11_text 47 = .ok (.putfield 13, 3) := by decide +kernel
theorem dX11_text_50 : decode cX11_text 50 = .ok (.aload_n 0, 1) := by decide +kernel
theorem dX11_text_51 : decode cX11_text 51 = .ok (.getfield 164, 3) := by decide +kernel
theorem dX11_text_54 : decode cX11_text 54 = .ok (.ifCond .eq 5, 3) := by decide +kernel
theorem dX11_text_57 : decode cX11_text 57 = .ok (.iconst (-1), 1) := by decide +kernel
theorem dX11_text_58 : decode cX11_text 58 = .ok (.ireturn, 1) := by decide +kernel
theorem dX11_text_59 : decode cX11_text 59 = .ok (.aload_n 0, 1) := by decide +kernel
theorem dX11_text_60 : decode cX11_text 60 = .ok (.invokevirtual 245, 3) := by decide +kernel
theorem dX11_text_63 : decode cX11_text 63 = .ok (.aload_n 0, 1) := by decide +kernel
theorem dX11_text_64 : decode cX11_text 64 = .ok (.invokevirtual 248, 3) := by decide +kernel
theorem dX11_text_67 : decode cX11_text 67 = .ok (.ireturn, 1) := by decide +kernel
set_option maxRecDepth 20000 in
theorem ggX11_comes_X11_enters : GoodIn wsX11_comes wsX11_enters := goodIn_r _ [23, 24, 25, 26, 27, 28, 29, 30, 31, 32, 33, 34, 35, 36, 37, 38, 39, 40, 41, 42, 43, 44, 45, 46, 47, 48, 49, 50, 51, 52, 53, 54, 55, 56, 57, 58, 59, 60, 61, 62, 63, 64, 65, 66, 67, 68, 69, 70, 71, 72, 73, 74, 75, 76, 77, 78, 79, 80, 81, 82, 83, 84, 85, 86, 87, 88, 89, 90, 91, 92, 93] (by decide +kernel) (by decide +kernel)
set_option maxRecDepth 20000 in
theorem gX11_comes_X11_enters : GoodIn wsX11_comes (wsV RX11 254 RX11 yX11_enters wsX11_enters) := goodIn_app (goodIn_of _ (by decide +kernel)) ggX11_comes_X11_enters
theorem dX11_comes_0 : decode cX11_comes 0 = .ok (.aload_n 0, 1) := by decide +kernel
theorem dX11_comes_1 : decode cX11_comes 1 = .ok (.aload_n 0, 1) := by decide +kernel
theorem dX11_comes_2 : decode cX11_comes 2 = .ok (.getfield 183, 3) := by decide +kernel
theorem dX11_comes_5 : decode cX11_comes 5 = .ok (.putfield 251, 3) := by decide +kernel
theorem dX11_comes_8 : decode cX11_comes 8 = .ok (.iconst 0, 1) := by decide +kernel
theorem dX11_comes_9 : decode cX11_comes 9 = .ok (.istore_n 1, 1) := by decide +kernel
theorem dX11_comes_10 : decode cX11_comes 10 = .ok (.iload_n 1, 1) := by decide +kernel
theorem dX11_comes_11 : decode cX11_comes 11 = .ok (.aload_n 0, 1) := by decide +kernel
theorem dX11_comes_12 : decode cX11_comes 12 = .ok (.getfield 183, 3) := by decide +kernel
theorem dX11_comes_15 : decode cX11_comes 15 = .ok (.if_icmp .ge 89, 3) := by decide +kernel
theorem dX11_comes_18 : decode cX11_comes 18 = .ok (.aload_n 0, 1) := by decide +kernel
theorem dX11_comes_19 : decode cX11_comes 19 = .ok (.getfield 17, 3) := by decide +kernel
theorem dX11_comes_22 : decode cX11_comes 22 = .ok (.iload_n 1, 1) := by decide +kernel
theorem dX11_comes_23 : decode cX11_comes 23 = .ok (.aload_n 0, 1) := by decide +kernel
theorem dX11_comes_24 : decode cX11_comes 24 = .ok (.getfield 17, 3) := by decide +kernel
theorem dX11_comes_27 : decode cX11_comes 27 = .ok (.sipush 1300, 3) := by decide +kernel
theorem dX11_comes_30 : decode cX11_comes 30 = .ok (.iload_n 1, 1) := by decide +kernel
theorem dX11_comes_31 : decode cX11_comes 31 = .ok (.iadd, 1) := by decide +kernel
theorem dX11_comes_32 : decode cX11_comes 32 = .ok (.iaload, 1) := by decide +kernel
theorem dX11_comes_33 : decode cX11_comes 33 = .ok (.iastore, 1) := by decide +kernel
theorem dX11_comes_34 : decode cX11_comes 34 = .ok (.aload_n 0, 1) := by decide +kernel
theorem dX11_comes_35 : decode cX11_comes 35 = .ok (.getfield 20, 3) := by decide +kernel
theorem dX11_comes_38 : decode cX11_comes 38 = .ok (.iload_n 1, 1) := by decide +kernel
theorem dX11_comes_39 : decode cX11_comes 39 = .ok (.aload_n 0, 1) := by decide +kernel
theorem dX11_comes_40 : decode cX11_comes 40 = .ok (.getfield 20, 3) := by decide +kernel
theorem dX11_comes_43 : decode cX11_comes 43 = .ok (.sipush 1300, 3) := by decide +kernel
theorem dX11_comes_46 : decode cX11_comes 46 = .ok (.iload_n 1, 1) := by decide +kernel
theorem dX11_comes_47 : decode cX11_comes 47 = .ok (.iadd, 1) := by decide +kernel
theorem dX11_comes_48 : decode cX11_comes 48 = .ok (.iaload, 1) := by decide +kernel
theorem dX11_comes_49 : decode cX11_comes 49 = .ok (.iastore, 1) := by decide +kernel
theorem dX11_comes_50 : decode cX11_comes 50 = .ok (.aload_n 0, 1) := by decide +kernel
theorem dX11_comes_51 : decode cX11_comes 51 = .ok (.getfield 23, 3) := by decide +kernel
theorem dX11_comes_54 : decode cX11_comes 54 = .ok (.iload_n 1, 1) := by decide +kernel
theorem dX11_comes_55 : decode cX11_comes 55 = .ok (.aload_n 0, 1) := by decide +kernel
theorem dX11_comes_56 : decode cX11_comes 56 = .ok (.getfield 23, 3) := by decide +kernel
theorem dX11_comes_59 : decode cX11_comes 59 = .ok (.sipush 1300, 3) := by decide +kernel
theorem dX11_comes_62 : decode cX11_comes 62 = .ok (.iload_n 1, 1) := by decide +kernel
theorem dX11_comes_63 : decode cX11_comes 63 = .ok (.iadd, 1) := by decide +kernel
theorem dX11_comes_64 : decode cX11_comes 64 = .ok (.iaload, 1) := by decide +kernel
theorem dX11_comes_65 : decode cX11_comes 65 = .ok (.iastore, 1) := by decide +kernel
theorem dX11_comes_66 : decode cX11_comes 66 = .ok (.aload_n 0, 1) := by decide +kernel
theorem dX11_comes_67 : decode cX11_comes 67 = .ok (.getfield 26, 3) := by decide +kernel
theorem dX11_comes_70 : decode cX11_comes 70 = .ok (.iload_n 1, 1) := by decide +kernel
theorem dX11_comes_71 : decode cX11_comes 71 = .ok (.aload_n 0, 1) := by decide +kernel
theorem dX11_comes_72 : decode cX11_comes 72 = .ok (.getfield 26, 3) := by decide +kernel
theorem dX11_comes_75 : decode cX11_comes 75 = .ok (.sipush 1300, 3) := by decide +kernel
theorem dX11_comes_78 : decode cX11_comes 78 = .ok (.iload_n 1, 1) := by decide +kernel
theorem dX11_comes_79 : decode cX11_comes 79 = .ok (.iadd, 1) := by decide +kernel
theorem dX11_comes_80 : decode cX11_comes 80 = .ok (.iaload, 1) := by decide +kernel
theorem dX11_comes_81 : decode cX11_comes 81 = .ok (.iastore, 1) := by decide +kernel
theorem dX11_comes_82 : decode cX11_comes 82 = .ok (.aload_n 0, 1) := by decide +kernel
theorem dX11_comes_83 : decode cX11_comes 83 = .ok (.getfield 29, 3) := by decide +kernel
theorem dX11_comes_86 : decode cX11_comes 86 = .ok (.iload_n 1, 1) := by decide +kernel
theorem dX11_comes_87 : decode cX11_comes 87 = .ok (.aload_n 0, 1) := by decide +kernel
theorem dX11_comes_88 : decode cX11_comes 88 = .ok (.getfield 29, 3) := by decide +kernel
theorem dX11_comes_91 : decode cX11_comes 91 = .ok (.sipush 1300, 3) := by decide +kernel
theorem dX11_comes_94 : decode cX11_comes 94 = .ok (.iload_n 1, 1) := by decide +kernel
theorem dX11_comes_95 : decode cX11_comes 95 = .ok (.iadd, 1) := by decide +kernel
theorem dX11_comes_96 : decode cX11_comes 96 = .ok (.iaload, 1) := by decide +kernel
theorem dX11_comes_97 : decode cX11_comes 97 = .ok (.iastore, 1) := by decide +kernel
theorem dX11_comes_98 : decode cX11_comes 98 = .ok (.iinc 1 1, 3) := by decide +kernel
theorem dX11_comes_101 : decode cX11_comes 101 = .ok (.goto (-91), 3) := by decide +kernel
theorem dX11_comes_104 : decode cX11_comes 104 = .ok (.iconst 0, 1) := by decide +kernel
theorem dX11_comes_105 : decode cX11_comes 105 = .ok (.istore_n 1, 1) := by decide +kernel
theorem dX11_comes_106 : decode cX11_comes 106 = .ok (.iload_n 1, 1) := by decide +kernel
theorem dX11_comes_107 : decode cX11_comes 107 = .ok (.bipush 8, 2) := by decide +kernel
theorem dX11_comes_109 : decode cX11_comes 109 = .ok (.if_icmp .ge 39, 3) := by decide +kernel
theorem dX11_comes_112 : decode cX11_comes 112 = .ok (.aload_n 0, 1) := by decide +kernel
theorem dX11_comes_113 : decode cX11_comes 113 = .ok (.getfield 32, 3) := by decide +kernel
theorem dX11_comes_116 : decode cX11_comes 116 = .ok (.iload_n 1, 1) := by decide +kernel
theorem dX11_comes_117 : decode cX11_comes 117 = .ok (.aload_n 0, 1) := by decide +kernel
theorem dX11_comes_118 : decode cX11_comes 118 = .ok (.getfield 32, 3) := by decide +kernel
theorem dX11_comes_121 : decode cX11_comes 121 = .ok (.bipush 8, 2) := by decide +kernel
theorem dX11_comes_123 : decode cX11_comes 123 = .ok (.iload_n 1, 1) := by decide +kernel
theorem dX11_comes_124 : decode cX11_comes 124 = .ok (.iadd, 1) := by decide +kernel
theorem dX11_comes_125 : decode cX11_comes 125 = .ok (.iaload, 1) := by decide +kernel
theorem dX11_comes_126 : decode cX11_comes 126 = .ok (.iastore, 1) := by decide +kernel
theorem dX11_comes_127 : decode cX11_comes 127 = .ok (.aload_n 0, 1) := by decide +kernel
theorem dX11_comes_128 : decode cX11_comes 128 = .ok (.getfield 35, 3) := by decide +kernel
theorem dX11_comes_131 : decode cX11_comes 131 = .ok (.iload_n 1, 1) := by decide +kernel
theorem dX11_comes_132 : decode cX11_comes 132 = .ok (.aload_n 0, 1) := by decide +kernel
theorem dX11_comes_133 : decode cX11_comes 133 = .ok (.getfield 35, 3) := by decide +kernel
theorem dX11_comes_136 : decode cX11_comes 136 = .ok (.bipush 8, 2) := by decide +kernel
theorem dX11_comes_138 : decode cX11_comes 138 = .ok (.iload_n 1, 1) := by decide +kernel
theorem dX11_comes_139 : decode cX11_comes 139 = .ok (.iadd, 1) := by decide +kernel
theorem dX11_comes_140 : decode cX11_comes 140 = .ok (.iaload, 1) := by decide +kernel
theorem dX11_comes_141 : decode cX11_comes 141 = .ok (.iastore, 1) := by decide +kernel
theorem dX11_comes_142 : decode cX11_comes 142 = .ok (.iinc 1 1, 3) := by decide +kernel
theorem dX11_comes_145 : decode cX11_comes 145 = .ok (.goto (-39), 3) := by decide +kernel
theorem dX11_comes_148 : decode cX11_comes 148 = .ok (.iconst 0, 1) := by decide +kernel
theorem dX11_comes_149 : decode cX11_comes 149 = .ok (.istore_n 1, 1) := by decide +kernel
theorem dX11_comes_150 : decode cX11_comes 150 = .ok (.iload_n 1, 1) := by decide +kernel
theorem dX11_comes_151 : decode cX11_comes 151 = .ok (.bipush 32, 2) := by decide +kernel
theorem dX11_comes_153 : decode cX11_comes 153 = .ok (.if_icmp .ge 24, 3) := by decide +kernel
theorem dX11_comes_156 : decode cX11_comes 156 = .ok (.aload_n 0, 1) := by decide +kernel
theorem dX11_comes_157 : decode cX11_comes 157 = .ok (.getfield 38, 3) := by decide +kernel
theorem dX11_comes_160 : decode cX11_comes 160 = .ok (.iload_n 1, 1) := by decide +kernel
theorem dX11_comes_161 : decode cX11_comes 161 = .ok (.aload_n 0, 1) := by decide +kernel
theorem dX11_comes_162 : decode cX11_comes 162 = .ok (.getfield 38, 3) := by decide +kernel
theorem dX11_comes_165 : decode cX11_comes 165 = .ok (.bipush 32, 2) := by decide +kernel
theorem dX11_comes_167 : decode cX11_comes 167 = .ok (.iload_n 1, 1) := by decide +kernel
theorem dX11_comes_168 : decode cX11_comes 168 = .ok (.iadd, 1) := by decide +kernel
theorem dX11_comes_169 : decode cX11_comes 169 = .ok (.iaload, 1) := by decide +kernel
theorem dX11_comes_170 : decode cX11_comes 170 = .ok (.iastore, 1) := by decide +kernel
theorem dX11_comes_171 : decode cX11_comes 171 = .ok (.iinc 1 1, 3) := by decide +kernel
theorem dX11_comes_174 : decode cX11_comes 174 = .ok (.goto (-24), 3) := by decide +kernel
theorem dX11_comes_177 : decode cX11_comes 177 = .ok (.aload_n 0, 1) := by decide +kernel
theorem dX11_comes_178 : decode cX11_comes 178 = .ok (.getfield 41, 3) := by decide +kernel
theorem dX11_comes_181 : decode cX11_comes 181 = .ok (.iconst 0, 1) := by decide +kernel
theorem dX11_comes_182 : decode cX11_comes 182 = .ok (.aload_n 0, 1) := by decide +kernel
theorem dX11_comes_183 : decode cX11_comes 183 = .ok (.getfield 41, 3) := by decide +kernel
theorem dX11_comes_186 : decode cX11_comes 186 = .ok (.iconst 1, 1) := by decide +kernel
theorem dX11_comes_187 : decode cX11_comes 187 = .ok (.iaload, 1) := by decide +kernel
theorem dX11_comes_188 : decode cX11_comes 188 = .ok (.iastore, 1) := by decide +kernel
theorem dX11_comes_189 : decode cX11_comes 189 = .ok (.iconst 0, 1) := by decide +kernel
theorem dX11_comes_190 : decode cX11_comes 190 = .ok (.istore_n 1, 1) := by decide +kernel
theorem dX11_comes_191 : decode cX11_comes 191 = .ok (.iload_n 1, 1) := by decide +kernel
theorem dX11_comes_192 : decode cX11_comes 192 = .ok (.bipush 41, 2) := by decide +kernel
theorem dX11_comes_194 : decode cX11_comes 194 = .ok (.if_icmp .ge 54, 3) := by decide +kernel
theorem dX11_comes_197 : decode cX11_comes 197 = .ok (.aload_n 0, 1) := by decide +kernel
theorem dX11_comes_198 : decode cX11_comes 198 = .ok (.getfield 44, 3) := by decide +kernel
theorem dX11_comes_201 : decode cX11_comes 201 = .ok (.iload_n 1, 1) := by decide +kernel
theorem dX11_comes_202 : decode cX11_comes 202 = .ok (.aload_n 0, 1) := by decide +kernel
theorem dX11_comes_203 : decode cX11_comes 203 = .ok (.getfield 44, 3) := by decide +kernel
theorem dX11_comes_206 : decode cX11_comes 206 = .ok (.bipush 41, 2) := by decide +kernel
theorem dX11_comes_208 : decode cX11_comes 208 = .ok (.iload_n 1, 1) := by decide +kernel
theorem dX11_comes_209 : decode cX11_comes 209 = .ok (.iadd, 1) := by decide +kernel
theorem dX11_comes_210 : decode cX11_comes 210 = .ok (.iaload, 1) := by decide +kernel
theorem dX11_comes_211 : decode cX11_comes 211 = .ok (.iastore, 1) := by decide +kernel
theorem dX11_comes_212 : decode cX11_comes 212 = .ok (.aload_n 0, 1) := by decide +kernel
theorem dX11_comes_213 : decode cX11_comes 213 = .ok (.getfield 47, 3) := by decide +kernel
theorem dX11_comes_216 : decode cX11_comes 216 = .ok (.iload_n 1, 1) := by decide +kernel
theorem dX11_comes_217 : decode cX11_comes 217 = .ok (.aload_n 0, 1) := by decide +kernel
theorem dX11_comes_218 : decode cX11_comes 218 = .ok (.getfield 47, 3) := by decide +kernel
theorem dX11_comes_221 : decode cX11_comes 221 = .ok (.bipush 41, 2) := by decide +kernel
theorem dX11_comes_223 : decode cX11_comes 223 = .ok (.iload_n 1, 1) := by decide +kernel
theorem dX11_comes_224 : decode cX11_comes 224 = .ok (.iadd, 1) := by decide +kernel
theorem dX11_comes_225 : decode cX11_comes 225 = .ok (.iaload, 1) := by decide +kernel
theorem dX11_comes_226 : decode cX11_comes 226 = .ok (.iastore, 1) := by decide +kernel
theorem dX11_comes_227 : decode cX11_comes 227 = .ok (.aload_n 0, 1) := by decide +kernel
theorem dX11_comes_228 : decode cX11_comes 228 = .ok (.getfield 50, 3) := by decide +kernel
theorem dX11_comes_231 : decode cX11_comes 231 = .ok (.iload_n 1, 1) := by decide +kernel
theorem dX11_comes_232 : decode cX11_comes 232 = .ok (.aload_n 0, 1) := by decide +kernel
theorem dX11_comes_233 : decode cX11_comes 233 = .ok (.getfield 50, 3) := by decide +kernel
theorem dX11_comes_236 : decode cX11_comes 236 = .ok (.bipush 41, 2) := by decide +kernel
theorem dX11_comes_238 : decode cX11_comes 238 = .ok (.iload_n 1, 1) := by decide +kernel
theorem dX11_comes_239 : decode cX11_comes 239 = .ok (.iadd, 1) := by decide +kernel
theorem dX11_comes_240 : decode cX11_comes 240 = .ok (.iaload, 1) := by decide +kernel
theorem dX11_comes_241 : decode cX11_comes 241 = .ok (.iastore, 1) := by decide +kernel
theorem dX11_comes_242 : decode cX11_comes 242 = .ok (.iinc 1 1, 3) := by decide +kernel
theorem dX11_comes_245 : decode cX11_comes 245 = .ok (.goto (-54), 3) := by decide +kernel
theorem dX11_comes_248 : decode cX11_comes 248 = .ok (.aload_n 0, 1) := by decide +kernel
theorem dX11_comes_249 : decode cX11_comes 249 = .ok (.getfield 53, 3) := by decide +kernel
theorem dX11_comes_252 : decode cX11_comes 252 = .ok (.iconst 0, 1) := by decide +kernel
theorem dX11_comes_253 : decode cX11_comes 253 = .ok (.aload_n 0, 1) := by decide +kernel
theorem dX11_comes_254 : decode cX11_comes 254 = .ok (.getfield 53, 3) := by decide +kernel
theorem dX11_comes_257 : decode cX11_comes 257 = .ok (.iconst 1, 1) := by decide +kernel
theorem dX11_comes_258 : decode cX11_comes 258 = .ok (.iaload, 1) := by decide +kernel
theorem dX11_comes_259 : decode cX11_comes 259 = .ok (.iastore, 1) := by decide +kernel
theorem dX11_comes_260 : decode cX11_comes 260 = .ok (.iconst 0, 1) := by decide +kernel
theorem dX11_comes_261 : decode cX11_comes 261 = .ok (.istore_n 1, 1) := by decide +kernel
theorem dX11_comes_262 : decode cX11_comes 262 = .ok (.iload_n 1, 1) := by decide +kernel
theorem dX11_comes_263 : decode cX11_comes 263 = .ok (.bipush 25, 2) := by decide +kernel
theorem dX11_comes_265 : decode cX11_comes 265 = .ok (.if_icmp .ge 39, 3) := by decide +kernel
theorem dX11_comes_268 : decode cX11_comes 268 = .ok (.aload_n 0, 1) := by decide +kernel
theorem dX11_comes_269 : decode cX11_comes 269 = .ok (.getfield 56, 3) := by decide +kernel
theorem dX11_comes_272 : decode cX11_comes 272 = .ok (.iload_n 1, 1) := by decide +kernel
theorem dX11_comes_273 : decode cX11_comes 273 = .ok (.aload_n 0, 1) := by decide +kernel
theorem dX11_comes_274 : decode cX11_comes 274 = .ok (.getfield 56, 3) := by decide +kernel
theorem dX11_comes_277 : decode cX11_comes 277 = .ok (.bipush 25, 2) := by decide +kernel
theorem dX11_comes_279 : decode cX11_comes 279 = .ok (.iload_n 1, 1) := by decide +kernel
theorem dX11_comes_280 : decode cX11_comes 280 = .ok (.iadd, 1) := by decide +kernel
theorem dX11_comes_281 : decode cX11_comes 281 = .ok (.iaload, 1) := by decide +kernel
theorem dX11_comes_282 : decode cX11_comes 282 = .ok (.iastore, 1) := by decide +kernel
theorem dX11_comes_283 : decode cX11_comes 283 = .ok (.aload_n 0, 1) := by decide +kernel
theorem dX11_comes_284 : decode cX11_comes 284 = .ok (.getfield 59, 3) := by decide +kernel
theorem dX11_comes_287 : decode cX11_comes 287 = .ok (.iload_n 1, 1) := by decide +kernel
theorem dX11_comes_288 : decode cX11_comes 288 = .ok (.aload_n 0, 1) := by decide +kernel
theorem dX11_comes_289 : decode cX11_comes 289 = .ok (.getfield 59, 3) := by decide +kernel
theorem dX11_comes_292 : decode cX11_comes 292 = .ok (.bipush 25, 2) := by decide +kernel
theorem dX11_comes_294 : decode cX11_comes 294 = .ok (.iload_n 1, 1) := by decide +kernel
theorem dX11_comes_295 : decode cX11_comes 295 = .ok (.iadd, 1) := by decide +kernel
theorem dX11_comes_296 : decode cX11_comes 296 = .ok (.iaload, 1) := by decide +kernel
theorem dX11_comes_297 : decode cX11_comes 297 = .ok (.iastore, 1) := by decide +kernel
theorem dX11_comes_298 : decode cX11_comes 298 = .ok (.iinc 1 1, 3) := by decide +kernel
theorem dX11_comes_301 : decode cX11_comes 301 = .ok (.goto (-39), 3) := by decide +kernel
theorem dX11_comes_304 : decode cX11_comes 304 = .ok (.aload_n 0, 1) := by decide +kernel
theorem dX11_comes_305 : decode cX11_comes 305 = .ok (.getfield 62, 3) := by decide +kernel
theorem dX11_comes_308 : decode cX11_comes 308 = .ok (.iconst 0, 1) := by decide +kernel
theorem dX11_comes_309 : decode cX11_comes 309 = .ok (.aload_n 0, 1) := by decide +kernel
theorem dX11_comes_310 : decode cX11_comes 310 = .ok (.getfield 62, 3) := by decide +kernel
theorem dX11_comes_313 : decode cX11_comes 313 = .ok (.iconst 1, 1) := by decide +kernel
theorem dX11_comes_314 : decode cX11_comes 314 = .ok (.iaload, 1) := by decide +kernel
theorem dX11_comes_315 : decode cX11_comes 315 = .ok (.iastore, 1) := by decide +kernel
theorem dX11_comes_316 : decode cX11_comes 316 = .ok (.aload_n 0, 1) := by decide +kernel
theorem dX11_comes_317 : decode cX11_comes 317 = .ok (.aload_n 0, 1) := by decide +kernel
theorem dX11_comes_318 : decode cX11_comes 318 = .ok (.getfield 41, 3) := by decide +kernel
theorem dX11_comes_321 : decode cX11_comes 321 = .ok (.iconst 0, 1) := by decide +kernel
theorem dX11_comes_322 : decode cX11_comes 322 = .ok (.iaload, 1) := by decide +kernel
theorem dX11_comes_323 : decode cX11_comes 323 = .ok (.invokevirtual 254, 3) := by decide +kernel
theorem dX11_comes_326 : decode cX11_comes 326 = .ok (.return_, 1) := by decide +kernel
theorem dX11_routinesMany_0 : decode cX11_routinesMany 0 = .ok (.iconst 0, 1) := by decide +kernel
theorem dX11_routinesMany_1 : decode cX11_routinesMany 1 = .ok (.istore_n 1, 1) := by decide +kernel
theorem dX11_routinesMany_2 : decode cX11_routinesMany 2 = .ok (.iconst 0, 1) := by decide +kernel
theorem dX11_routinesMany_3 : decode cX11_routinesMany 3 = .ok (.istore_n 2, 1) := by decide +kernel
theorem dX11_routinesMany_4 : decode cX11_routinesMany 4 = .ok (.iload_n 2, 1) := by decide +kernel
theorem dX11_routinesMany_5 : decode cX11_routinesMany 5 = .ok (.bipush 8, 2) := by decide +kernel
theorem dX11_routinesMany_7 : decode cX11_routinesMany 7 = .ok (.if_icmp .ge 27, 3) := by decide +kernel
theorem dX11_routinesMany_10 : decode cX11_routinesMany 10 = .ok (.iload_n 1, 1) := by decide +kernel
theorem dX11_routinesMany_11 : decode cX11_routinesMany 11 = .ok (.aload_n 0, 1) := by decide +kernel
theorem dX11_routinesMany_12 : decode cX11_routinesMany 12 = .ok (.getfield 32, 3) := by decide +kernel
theorem dX11_routinesMany_15 : decode cX11_routinesMany 15 = .ok (.iload_n 2, 1) := by decide +kernel
theorem dX11_routinesMany_16 : decode cX11_routinesMany 16 = .ok (.iaload, 1) := by decide +kernel
theorem dX11_routinesMany_17 : decode cX11_routinesMany 17 = .ok (.iconst (-1), 1) := by decide +kernel
theorem dX11_routinesMany_18 : decode cX11_routinesMany 18 = .ok (.if_icmp .ne 7, 3) := by decide +kernel
theorem dX11_routinesMany_21 : decode cX11_routinesMany 21 = .ok (.iconst 0, 1) := by decide +kernel
theorem dX11_routinesMany_22 : decode cX11_routinesMany 22 = .ok (.goto 4, 3) := by decide +kernel
theorem dX11_routinesMany_25 : decode cX11_routinesMany 25 = .ok (.iconst 1, 1) := by decide +kernel
theorem dX11_routinesMany_26 : decode cX11_routinesMany 26 = .ok (.iadd, 1) := by decide +kernel
theorem dX11_routinesMany_27 : decode cX11_routinesMany 27 = .ok (.istore_n 1, 1) := by decide +kernel
theorem dX11_routinesMany_28 : decode cX11_routinesMany 28 = .ok (.iinc 2 1, 3) := by decide +kernel
theorem dX11_routinesMany_31 : decode cX11_routinesMany 31 = .ok (.goto (-27), 3) := by decide +kernel
theorem dX11_routinesMany_34 : decode cX11_routinesMany 34 = .ok (.iload_n 1, 1) := by decide +kernel
theorem dX11_routinesMany_35 : decode cX11_routinesMany 35 = .ok (.ireturn, 1) := by decide +kernel
theorem dX11_fault_0 : decode cX11_fault 0 = .ok (.aload_n 0, 1) := by decide +kernel
theorem dX11_fault_1 : decode cX11_fault 1 = .ok (.iconst 0, 1) := by decide +kernel
theorem dX11_fault_2 : decode cX11_fault 2 = .ok (.putfield 121, 3) := by decide +kernel
theorem dX11_fault_5 : decode cX11_fault 5 = .ok (.iload_n 1, 1) := by decide +kernel
theorem dX11_fault_6 : decode cX11_fault 6 = .ok (.ifCond .ne 10, 3) := by decide +kernel
theorem dX11_fault_9 : decode cX11_fault 9 = .ok (.aload_n 0, 1) := by decide +kernel
theorem dX11_fault_10 : decode cX11_fault 10 = .ok (.getfield 242, 3) := by decide +kernel
theorem dX11_fault_13 : decode cX11_fault 13 = .ok (.goto 16, 3) := by decide +kernel
theorem dX11_fault_16 : decode cX11_fault 16 = .ok (.iload_n 1, 1) := by decide +kernel
theorem dX11_fault_17 : decode cX11_fault 17 = .ok (.iconst 1, 1) := by decide +kernel
theorem dX11_fault_18 : decode cX11_fault 18 = .ok (.if_icmp .ne 10, 3) := by decide +kernel
theorem dX11_fault_21 : decode cX11_fault 21 = .ok (.aload_n 0, 1) := by decide +kernel
theorem dX11_fault_22 : decode cX11_fault 22 = .ok (.getfield 13, 3) := by decide +kernel
theorem dX11_fault_25 : decode cX11_fault 25 = .ok (.goto 4, 3) := by decide +kernel
theorem dX11_fault_28 : decode cX11_fault 28 = .ok (.iconst (-1), 1) := by decide +kernel
theorem dX11_fault_29 : decode cX11_fault 29 = .ok (.ireturn, 1) := by decide +kernel
theorem dX11_enters_0 : decode cX11_enters 0 = .ok (.aload_n 0, 1) := by decide +kernel
theorem dX11_enters_1 : decode cX11_enters 1 = .ok (.iload_n 1, 1) := by decide +kernel
theorem dX11_enters_2 : decode cX11_enters 2 = .ok (.putfield 83, 3) := by decide +kernel
theorem dX11_enters_5 : decode cX11_enters 5 = .ok (.iconst 0, 1) := by decide +kernel
theorem dX11_enters_6 : decode cX11_enters 6 = .ok (.istore_n 2, 1) := by decide +kernel
theorem dX11_enters_7 : decode cX11_enters 7 = .ok (.iload_n 2, 1) := by decide +kernel
theorem dX11_enters_8 : decode cX11_enters 8 = .ok (.iconst 4, 1) := by decide +kernel
theorem dX11_enters_9 : decode cX11_enters 9 = .ok (.if_icmp .ge 16, 3) := by decide +kernel
theorem dX11_enters_12 : decode cX11_enters 12 = .ok (.aload_n 0, 1) := by decide +kernel
theorem dX11_enters_13 : decode cX11_enters 13 = .ok (.getfield 86, 3) := by decide +kernel
theorem dX11_enters_16 : decode cX11_enters 16 = .ok (.iload_n 2, 1) := by decide +kernel
theorem dX11_enters_17 : decode cX11_enters 17 = .ok (.iconst 3, 1) := by decide +kernel
theorem dX11_enters_18 : decode cX11_enters 18 = .ok (.iastore, 1) := by decide +kernel
theorem dX11_enters_19 : decode cX11_enters 19 = .ok (.iinc 2 1, 3) := by decide +kernel
theorem dX11_enters_22 : decode cX11_enters 22 = .ok (.goto (-15), 3) := by decide +kernel
theorem dX11_enters_25 : decode cX11_enters 25 = .ok (.return_, 1) := by decide +kernel
set_option maxRecDepth 20000 in
theorem ggX11_entry_X11_enters : GoodIn wsX11_entry wsX11_enters := goodIn_r _ [7, 8, 9, 10, 11, 12, 13, 14, 15, 16, 17, 18, 19, 20, 21, 22, 23, 24, 25, 26, 27, 28, 29, 30, 31, 32, 33, 34, 35, 36, 37, 38, 39, 40, 41, 42, 43, 44, 45, 46, 47, 48, 49, 50, 51, 52, 53, 54, 55, 56, 57, 58, 59, 60, 61, 62, 63, 64, 65, 66, 67, 68, 69, 70, 71, 72, 73, 74, 75, 76, 77] (by decide +kernel) (by decide +kernel)
set_option maxRecDepth 20000 in
theorem gX11_entry_X11_enters : GoodIn wsX11_entry (wsV RX11 254 RX11 yX11_enters wsX11_enters) := goodIn_app (goodIn_of _ (by decide +kernel)) ggX11_entry_X11_enters
theorem dX11_entry_0 : decode cX11_entry 0 = .ok (.aload_n 0, 1) := by decide +kernel
theorem dX11_entry_1 : decode cX11_entry 1 = .ok (.iconst 0, 1) := by decide +kernel
theorem dX11_entry_2 : decode cX11_entry 2 = .ok (.putfield 121, 3) := by decide +kernel
theorem dX11_entry_5 : decode cX11_entry 5 = .ok (.iload_n 1, 1) := by decide +kernel
theorem dX11_entry_6 : decode cX11_entry 6 = .ok (.ifCond .lt 19, 3) := by decide +kernel
theorem dX11_entry_9 : decode cX11_entry 9 = .ok (.iload_n 1, 1) := by decide +kernel
theorem dX11_entry_10 : decode cX11_entry 10 = .ok (.bipush 7, 2) := by decide +kernel
theorem dX11_entry_12 : decode cX11_entry 12 = .ok (.if_icmp .gt 13, 3) := by decide +kernel
theorem dX11_entry_15 : decode cX11_entry 15 = .ok (.aload_n 0, 1) := by decide +kernel
theorem dX11_entry_16 : decode cX11_entry 16 = .ok (.getfield 32, 3) := by decide +kernel
theorem dX11_entry_19 : decode cX11_entry 19 = .ok (.iload_n 1, 1) := by decide +kernel
theorem dX11_entry_20 : decode cX11_entry 20 = .ok (.iaload, 1) := by decide +kernel
theorem dX11_entry_21 : decode cX11_entry 21 = .ok (.iconst (-1), 1) := by decide +kernel
theorem dX11_entry_22 : decode cX11_entry 22 = .ok (.if_icmp .ne 5, 3) := by decide +kernel
theorem dX11_entry_25 : decode cX11_entry 25 = .ok (.iconst 0, 1) := by decide +kernel
theorem dX11_entry_26 : decode cX11_entry 26 = .ok (.ireturn, 1) := by decide +kernel
theorem dX11_entry_27 : decode cX11_entry 27 = .ok (.aload_n 0, 1) := by decide +kernel
theorem dX11_entry_28 : decode cX11_entry 28 = .ok (.iload_n 1, 1) := by decide +kernel
theorem dX11_entry_29 : decode cX11_entry 29 = .ok (.invokevirtual 254, 3) := by decide +kernel
theorem dX11_entry_32 : decode cX11_entry 32 = .ok (.iconst 1, 1) := by decide +kernel
theorem dX11_entry_33 : decode cX11_entry 33 = .ok (.ireturn, 1) := by decide +kernel
theorem dX11_outer_0 : decode cX11_outer 0 = .ok (.aload_n 0, 1) := by decide +kernel
theorem dX11_outer_1 : decode cX11_outer 1 = .ok (.iconst 0, 1) := by decide +kernel
theorem dX11_outer_2 : decode cX11_outer 2 = .ok (.putfield 121, 3) := by decide +kernel
theorem dX11_outer_5 : decode cX11_outer 5 = .ok (.aload_n 0, 1) := by decide +kernel
theorem dX11_outer_6 : decode cX11_outer 6 = .ok (.getfield 83, 3) := by decide +kernel
theorem dX11_outer_9 : decode cX11_outer 9 = .ok (.iconst (-1), 1) := by decide +kernel
theorem dX11_outer_10 : decode cX11_outer 10 = .ok (.if_icmp .eq 30, 3) := by decide +kernel
theorem dX11_outer_13 : decode cX11_outer 13 = .ok (.iload_n 1, 1) := by decide +kernel
theorem dX11_outer_14 : decode cX11_outer 14 = .ok (.ifCond .lt 26, 3) := by decide +kernel
theorem dX11_outer_17 : decode cX11_outer 17 = .ok (.iload_n 1, 1) := by decide +kernel
theorem dX11_outer_18 : decode cX11_outer 18 = .ok (.aload_n 0, 1) := by decide +kernel
theorem dX11_outer_19 : decode cX11_outer 19 = .ok (.getfield 35, 3) := by decide +kernel
theorem dX11_outer_22 : decode cX11_outer 22 = .ok (.aload_n 0, 1) := by decide +kernel
theorem dX11_outer_23 : decode cX11_outer 23 = .ok (.getfield 83, 3) := by decide +kernel
theorem dX11_outer_26 : decode cX11_outer 26 = .ok (.iaload, 1) := by decide +kernel
theorem dX11_outer_27 : decode cX11_outer 27 = .ok (.if_icmp .ge 13, 3) := by decide +kernel
theorem dX11_outer_30 : decode cX11_outer 30 = .ok (.iload_n 2, 1) := by decide +kernel
theorem dX11_outer_31 : decode cX11_outer 31 = .ok (.iconst 1, 1) := by decide +kernel
theorem dX11_outer_32 : decode cX11_outer 32 = .ok (.if_icmp .lt 8, 3) := by decide +kernel
theorem dX11_outer_35 : decode cX11_outer 35 = .ok (.iload_n 2, 1) := by decide +kernel
theorem dX11_outer_36 : decode cX11_outer 36 = .ok (.iconst 3, 1) := by decide +kernel
theorem dX11_outer_37 : decode cX11_outer 37 = .ok (.if_icmp .le 5, 3) := by decide +kernel
theorem dX11_outer_40 : decode cX11_outer 40 = .ok (.iconst 0, 1) := by decide +kernel
theorem dX11_outer_41 : decode cX11_outer 41 = .ok (.ireturn, 1) := by decide +kernel
theorem dX11_outer_42 : decode cX11_outer 42 = .ok (.aload_n 0, 1) := by decide +kernel
theorem dX11_outer_43 : decode cX11_outer 43 = .ok (.getfield 86, 3) := by decide +kernel
theorem dX11_outer_46 : decode cX11_outer 46 = .ok (.iload_n 1, 1) := by decide +kernel
theorem dX11_outer_47 : decode cX11_outer 47 = .ok (.iload_n 2, 1) := by decide +kernel
theorem dX11_outer_48 : decode cX11_outer 48 = .ok (.iastore, 1) := by decide +kernel
theorem dX11_outer_49 : decode cX11_outer 49 = .ok (.iconst 1, 1) := by decide +kernel
theorem dX11_outer_50 : decode cX11_outer 50 = .ok (.ireturn, 1) := by decide +kernel
theorem dX11_factOf_0 : decode cX11_factOf 0 = .ok (.lload_n 0, 1) := by decide +kernel
theorem dX11_factOf_1 : decode cX11_factOf 1 = .ok (.iconst 2, 1) := by decide +kernel
theorem dX11_factOf_2 : decode cX11_factOf 2 = .ok (.iload_n 2, 1) := by decide +kernel
theorem dX11_factOf_3 : decode cX11_factOf 3 = .ok (.imul, 1) := by decide +kernel
theorem dX11_factOf_4 : decode cX11_factOf 4 = .ok (.lshr, 1) := by decide +kernel
theorem dX11_factOf_5 : decode cX11_factOf 5 = .ok (.l2i, 1) := by decide +kernel
theorem dX11_factOf_6 : decode cX11_factOf 6 = .ok (.iconst 3, 1) := by decide +kernel
theorem dX11_factOf_7 : decode cX11_factOf 7 = .ok (.iand, 1) := by decide +kernel
theorem dX11_factOf_8 : decode cX11_factOf 8 = .ok (.ireturn, 1) := by decide +kernel
theorem dX11_with_0 : decode cX11_with 0 = .ok (.lload_n 0, 1) := by decide +kernel
theorem dX11_with_1 : decode cX11_with 1 = .ok (.ldc2_w 257, 3) := by decide +kernel
theorem dX11_with_4 : decode cX11_with 4 = .ok (.iconst 2, 1) := by decide +kernel
theorem dX11_with_5 : decode cX11_with 5 = .ok (.iload_n 2, 1) := by decide +kernel
theorem dX11_with_6 : decode cX11_with 6 = .ok (.imul, 1) := by decide +kernel
theorem dX11_with_7 : decode cX11_with 7 = .ok (.lshl, 1) := by decide +kernel
theorem dX11_with_8 : decode cX11_with 8 = .ok (.ldc2_w 259, 3) := by decide +kernel
theorem dX11_with_11 : decode cX11_with 11 = .ok (.lxor, 1) := by decide +kernel
theorem dX11_with_12 : decode cX11_with 12 = .ok (.land, 1) := by decide +kernel
theorem dX11_with_13 : decode cX11_with 13 = .ok (.iload_n 3, 1) := by decide +kernel
theorem dX11_with_14 : decode cX11_with 14 = .ok (.i2l, 1) := by decide +kernel
theorem dX11_with_15 : decode cX11_with 15 = .ok (.iconst 2, 1) := by decide +kernel
theorem dX11_with_16 : decode cX11_with 16 = .ok (.iload_n 2, 1) := by decide +kernel
theorem dX11_with_17 : decode cX11_with 17 = .ok (.imul, 1) := by decide +kernel
theorem dX11_with_18 : decode cX11_with 18 = .ok (.lshl, 1) := by decide +kernel
theorem dX11_with_19 : decode cX11_with 19 = .ok (.lor, 1) := by decide +kernel
theorem dX11_with_20 : decode cX11_with 20 = .ok (.lreturn, 1) := by decide +kernel
theorem dX11_puts_0 : decode cX11_puts 0 = .ok (.aload_n 0, 1) := by decide +kernel
theorem dX11_puts_1 : decode cX11_puts 1 = .ok (.getfield 96, 3) := by decide +kernel
theorem dX11_puts_4 : decode cX11_puts 4 = .ok (.iload_n 1, 1) := by decide +kernel
theorem dX11_puts_5 : decode cX11_puts 5 = .ok (.baload, 1) := by decide +kernel
theorem dX11_puts_6 : decode cX11_puts 6 = .ok (.ifCond .eq 9, 3) := by decide +kernel
theorem dX11_puts_9 : decode cX11_puts 9 = .ok (.iload_n 2, 1) := by decide +kernel
theorem dX11_puts_10 : decode cX11_puts 10 = .ok (.iconst 2, 1) := by decide +kernel
theorem dX11_puts_11 : decode cX11_puts 11 = .ok (.iand, 1) := by decide +kernel
theorem dX11_puts_12 : decode cX11_puts 12 = .ok (.goto 4, 3) := by decide +kernel
theorem dX11_puts_15 : decode cX11_puts 15 = .ok (.iload_n 2, 1) := by decide +kernel
theorem dX11_puts_16 : decode cX11_puts 16 = .ok (.istore_n 3, 1) := by decide +kernel
theorem dX11_puts_17 : decode cX11_puts 17 = .ok (.aload_n 0, 1) := by decide +kernel
theorem dX11_puts_18 : decode cX11_puts 18 = .ok (.getfield 93, 3) := by decide +kernel
theorem dX11_puts_21 : decode cX11_puts 21 = .ok (.iload_n 1, 1) := by decide +kernel
theorem dX11_puts_22 : decode cX11_puts 22 = .ok (.iaload, 1) := by decide +kernel
theorem dX11_puts_23 : decode cX11_puts 23 = .ok (.iload_n 3, 1) := by decide +kernel
theorem dX11_puts_24 : decode cX11_puts 24 = .ok (.ior, 1) := by decide +kernel
theorem dX11_puts_25 : decode cX11_puts 25 = .ok (.aload_n 0, 1) := by decide +kernel
theorem dX11_puts_26 : decode cX11_puts 26 = .ok (.getfield 93, 3) := by decide +kernel
theorem dX11_puts_29 : decode cX11_puts 29 = .ok (.iload_n 1, 1) := by decide +kernel
theorem dX11_puts_30 : decode cX11_puts 30 = .ok (.iaload, 1) := by decide +kernel
theorem dX11_puts_31 : decode cX11_puts 31 = .ok (.if_icmp .ne 4, 3) := by decide +kernel
theorem dX11_puts_34 : decode cX11_puts 34 = .ok (.return_, 1) := by decide +kernel
theorem dX11_puts_35 : decode cX11_puts 35 = .ok (.aload_n 0, 1) := by decide +kernel
theorem dX11_puts_36 : decode cX11_puts 36 = .ok (.getfield 93, 3) := by decide +kernel
theorem dX11_puts_39 : decode cX11_puts 39 = .ok (.iload_n 1, 1) := by decide +kernel
theorem dX11_puts_40 : decode cX11_puts 40 = .ok (.dup2, 1) := by decide +kernel
theorem dX11_puts_41 : decode cX11_puts 41 = .ok (.iaload, 1) := by decide +kernel
theorem dX11_puts_42 : decode cX11_puts 42 = .ok (.iload_n 3, 1) := by decide +kernel
theorem dX11_puts_43 : decode cX11_puts 43 = .ok (.ior, 1) := by decide +kernel
theorem dX11_puts_44 : decode cX11_puts 44 = .ok (.iastore, 1) := by decide +kernel
theorem dX11_puts_45 : decode cX11_puts 45 = .ok (.aload_n 0, 1) := by decide +kernel
theorem dX11_puts_46 : decode cX11_puts 46 = .ok (.iconst 1, 1) := by decide +kernel
theorem dX11_puts_47 : decode cX11_puts 47 = .ok (.putfield 261, 3) := by decide +kernel
theorem dX11_puts_50 : decode cX11_puts 50 = .ok (.return_, 1) := by decide +kernel
theorem dX11_flows_0 : decode cX11_flows 0 = .ok (.aload_n 0, 1) := by decide +kernel
theorem dX11_flows_1 : decode cX11_flows 1 = .ok (.getfield 89, 3) := by decide +kernel
theorem dX11_flows_4 : decode cX11_flows 4 = .ok (.iload_n 1, 1) := by decide +kernel
theorem dX11_flows_5 : decode cX11_flows 5 = .ok (.laload, 1) := by decide +kernel
theorem dX11_flows_6 : decode cX11_flows 6 = .ok (.lload_n 2, 1) := by decide +kernel
theorem dX11_flows_7 : decode cX11_flows 7 = .ok (.lor, 1) := by decide +kernel
theorem dX11_flows_8 : decode cX11_flows 8 = .ok (.lstore 4, 2) := by decide +kernel
theorem dX11_flows_10 : decode cX11_flows 10 = .ok (.lload 4, 2) := by decide +kernel
theorem dX11_flows_12 : decode cX11_flows 12 = .ok (.aload_n 0, 1) := by decide +kernel
theorem dX11_flows_13 : decode cX11_flows 13 = .ok (.getfield 89, 3) := by decide +kernel
theorem dX11_flows_16 : decode cX11_flows 16 = .ok (.iload_n 1, 1) := by decide +kernel
theorem dX11_flows_17 : decode cX11_flows 17 = .ok (.laload, 1) := by decide +kernel
theorem dX11_flows_18 : decode cX11_flows 18 = .ok (.lcmp, 1) := by decide +kernel
theorem dX11_flows_19 : decode cX11_flows 19 = .ok (.ifCond .ne 4, 3) := by decide +kernel
theorem dX11_flows_22 : decode cX11_flows 22 = .ok (.return_, 1) := by decide +kernel
theorem dX11_flows_23 : decode cX11_flows 23 = .ok (.aload_n 0, 1) := by decide +kernel
theorem dX11_flows_24 : decode cX11_flows 24 = .ok (.getfield 89, 3) := by decide +kernel
theorem dX11_flows_27 : decode cX11_flows 27 = .ok (.iload_n 1, 1) := by decide +kernel
theorem dX11_flows_28 : decode cX11_flows 28 = .ok (.lload 4, 2) := by decide +kernel
theorem dX11_flows_30 : decode cX11_flows 30 = .ok (.lastore, 1) := by decide +kernel
theorem dX11_flows_31 : decode cX11_flows 31 = .ok (.aload_n 0, 1) := by decide +kernel
theorem dX11_flows_32 : decode cX11_flows 32 = .ok (.iconst 1, 1) := by decide +kernel
theorem dX11_flows_33 : decode cX11_flows 33 = .ok (.putfield 261, 3) := by decide +kernel
theorem dX11_flows_36 : decode cX11_flows 36 = .ok (.return_, 1) := by decide +kernel
set_option maxRecDepth 20000 in
theorem ggX11_begins_X11_with : GoodIn wsX11_begins wsX11_with := goodIn_r _ [9, 10, 11] (by decide +kernel) (by decide +kernel)
set_option maxRecDepth 20000 in
theorem gX11_begins_X11_with : GoodIn wsX11_begins (va_wsS RX11 267 yX11_with wsX11_with) := goodIn_app (goodIn_of _ (by decide +kernel)) ggX11_begins_X11_with
set_option maxRecDepth 20000 in
theorem ggX11_begins_X11_flows : GoodIn wsX11_begins wsX11_flows := goodIn_r _ [15, 16, 17, 18, 19, 20, 21, 22, 23, 24, 25, 26, 27, 28, 29, 30, 31, 32, 33, 34, 35, 36, 37, 38, 39, 40, 41, 42, 43, 44, 45, 46, 47, 48, 49, 50, 51, 52, 53, 54, 55, 56, 57, 58, 59, 60, 61, 62, 63, 64, 65, 66, 67, 68, 69, 70, 71, 72, 73, 74, 75, 76, 77, 78, 79, 80, 81, 82, 83, 84, 85] (by decide +kernel) (by decide +kernel)
set_option maxRecDepth 20000 in
theorem gX11_begins_X11_flows : GoodIn wsX11_begins (wsV RX11 271 RX11 yX11_flows wsX11_flows) := goodIn_app (goodIn_of _ (by decide +kernel)) ggX11_begins_X11_flows
theorem dX11_begins_0 : decode cX11_begins 0 = .ok (.ldc2_w 265, 3) := by decide +kernel
theorem dX11_begins_3 : decode cX11_begins 3 = .ok (.lstore_n 2, 1) := by decide +kernel
theorem dX11_begins_4 : decode cX11_begins 4 = .ok (.iconst 0, 1) := by decide +kernel
theorem dX11_begins_5 : decode cX11_begins 5 = .ok (.istore 4, 2) := by decide +kernel
theorem dX11_begins_7 : decode cX11_begins 7 = .ok (.iload 4, 2) := by decide +kernel
theorem dX11_begins_9 : decode cX11_begins 9 = .ok (.bipush 26, 2) := by decide +kernel
theorem dX11_begins_11 : decode cX11_begins 11 = .ok (.if_icmp .ge 17, 3) := by decide +kernel
theorem dX11_begins_14 : decode cX11_begins 14 = .ok (.lload_n 2, 1) := by decide +kernel
theorem dX11_begins_15 : decode cX11_begins 15 = .ok (.iload 4, 2) := by decide +kernel
theorem dX11_begins_17 : decode cX11_begins 17 = .ok (.iconst 1, 1) := by decide +kernel
theorem dX11_begins_18 : decode cX11_begins 18 = .ok (.invokestatic 267, 3) := by decide +kernel
theorem dX11_begins_21 : decode cX11_begins 21 = .ok (.lstore_n 2, 1) := by decide +kernel
theorem dX11_begins_22 : decode cX11_begins 22 = .ok (.iinc 4 1, 3) := by decide +kernel
theorem dX11_begins_25 : decode cX11_begins 25 = .ok (.goto (-18), 3) := by decide +kernel
theorem dX11_begins_28 : decode cX11_begins 28 = .ok (.lload_n 2, 1) := by decide +kernel
theorem dX11_begins_29 : decode cX11_begins 29 = .ok (.bipush 26, 2) := by decide +kernel
theorem dX11_begins_31 : decode cX11_begins 31 = .ok (.iconst 1, 1) := by decide +kernel
theorem dX11_begins_32 : decode cX11_begins 32 = .ok (.invokestatic 267, 3) := by decide +kernel
theorem dX11_begins_35 : decode cX11_begins 35 = .ok (.lstore_n 2, 1) := by decide +kernel
theorem dX11_begins_36 : decode cX11_begins 36 = .ok (.iconst 0, 1) := by decide +kernel
theorem dX11_begins_37 : decode cX11_begins 37 = .ok (.istore 4, 2) := by decide +kernel
theorem dX11_begins_39 : decode cX11_begins 39 = .ok (.iload 4, 2) := by decide +kernel
theorem dX11_begins_41 : decode cX11_begins 41 = .ok (.aload_n 0, 1) := by decide +kernel
theorem dX11_begins_42 : decode cX11_begins 42 = .ok (.getfield 35, 3) := by decide +kernel
theorem dX11_begins_45 : decode cX11_begins 45 = .ok (.iload_n 1, 1) := by decide +kernel
theorem dX11_begins_46 : decode cX11_begins 46 = .ok (.iaload, 1) := by decide +kernel
theorem dX11_begins_47 : decode cX11_begins 47 = .ok (.if_icmp .ge 46, 3) := by decide +kernel
theorem dX11_begins_50 : decode cX11_begins 50 = .ok (.aload_n 0, 1) := by decide +kernel
theorem dX11_begins_51 : decode cX11_begins 51 = .ok (.getfield 93, 3) := by decide +kernel
theorem dX11_begins_54 : decode cX11_begins 54 = .ok (.iconst 4, 1) := by decide +kernel
theorem dX11_begins_55 : decode cX11_begins 55 = .ok (.iload_n 1, 1) := by decide +kernel
theorem dX11_begins_56 : decode cX11_begins 56 = .ok (.imul, 1) := by decide +kernel
theorem dX11_begins_57 : decode cX11_begins 57 = .ok (.iload 4, 2) := by decide +kernel
theorem dX11_begins_59 : decode cX11_begins 59 = .ok (.iadd, 1) := by decide +kernel
theorem dX11_begins_60 : decode cX11_begins 60 = .ok (.iaload, 1) := by decide +kernel
theorem dX11_begins_61 : decode cX11_begins 61 = .ok (.istore 5, 2) := by decide +kernel
theorem dX11_begins_63 : decode cX11_begins 63 = .ok (.iload 5, 2) := by decide +kernel
theorem dX11_begins_65 : decode cX11_begins 65 = .ok (.ifCond .ne 4, 3) := by decide +kernel
theorem dX11_begins_68 : decode cX11_begins 68 = .ok (.return_, 1) := by decide +kernel
theorem dX11_begins_69 : decode cX11_begins 69 = .ok (.lload_n 2, 1) := by decide +kernel
theorem dX11_begins_70 : decode cX11_begins 70 = .ok (.aload_n 0, 1) := by decide +kernel
theorem dX11_begins_71 : decode cX11_begins 71 = .ok (.getfield 38, 3) := by decide +kernel
theorem dX11_begins_74 : decode cX11_begins 74 = .ok (.iconst 4, 1) := by decide +kernel
theorem dX11_begins_75 : decode cX11_begins 75 = .ok (.iload_n 1, 1) := by decide +kernel
theorem dX11_begins_76 : decode cX11_begins 76 = .ok (.imul, 1) := by decide +kernel
theorem dX11_begins_77 : decode cX11_begins 77 = .ok (.iload 4, 2) := by decide +kernel
theorem dX11_begins_79 : decode cX11_begins 79 = .ok (.iadd, 1) := by decide +kernel
theorem dX11_begins_80 : decode cX11_begins 80 = .ok (.iaload, 1) := by decide +kernel
theorem dX11_begins_81 : decode cX11_begins 81 = .ok (.iload 5, 2) := by decide +kernel
theorem dX11_begins_83 : decode cX11_begins 83 = .ok (.invokestatic 267, 3) := by decide +kernel
theorem dX11_begins_86 : decode cX11_begins 86 = .ok (.lstore_n 2, 1) := by decide +kernel
theorem dX11_begins_87 : decode cX11_begins 87 = .ok (.iinc 4 1, 3) := by decide +kernel
theorem dX11_begins_90 : decode cX11_begins 90 = .ok (.goto (-51), 3) := by decide +kernel
theorem dX11_begins_93 : decode cX11_begins 93 = .ok (.aload_n 0, 1) := by decide +kernel
theorem dX11_begins_94 : decode cX11_begins 94 = .ok (.aload_n 0, 1) := by decide +kernel
theorem dX11_begins_95 : decode cX11_begins 95 = .ok (.getfield 32, 3) := by decide +kernel
theorem dX11_begins_98 : decode cX11_begins 98 = .ok (.iload_n 1, 1) := by decide +kernel
theorem dX11_begins_99 : decode cX11_begins 99 = .ok (.iaload, 1) := by decide +kernel
theorem dX11_begins_100 : decode cX11_begins 100 = .ok (.lload_n 2, 1) := by decide +kernel
theorem dX11_begins_101 : decode cX11_begins 101 = .ok (.invokevirtual 271, 3) := by decide +kernel
theorem dX11_begins_104 : decode cX11_begins 104 = .ok (.return_, 1) := by decide +kernel
set_option maxRecDepth 20000 in
theorem ggX11_reckons_X11_puts : GoodIn wsX11_reckons wsX11_puts := goodIn_r _ [13, 14, 3, 6, 59, 60, 61, 62, 63, 64, 65, 66, 67, 68, 69, 70, 71, 72, 73, 74, 75, 76, 77, 78, 79, 80, 81, 82, 83, 84, 85, 86, 87, 88, 89, 90, 91, 92, 93, 94, 95, 96, 97, 98, 99, 100, 101, 102, 103, 104, 105, 106, 107, 108, 109, 110, 111, 112, 113, 114, 115, 116, 117, 118, 119, 120, 121, 122, 123, 124, 125, 126] (by decide +kernel) (by decide +kernel)
set_option maxRecDepth 20000 in
theorem gX11_reckons_X11_puts : GoodIn wsX11_reckons (wsV RX11 275 RX11 yX11_puts wsX11_puts) := goodIn_app (goodIn_of _ (by decide +kernel)) ggX11_reckons_X11_puts
set_option maxRecDepth 20000 in
theorem ggX11_reckons_X11_putsThings : GoodIn wsX11_reckons wsX11_putsThings := goodIn_r _ [18, 9, 10, 11, 12, 13, 14, 3, 6, 59, 60, 61, 62, 63, 64, 65, 66, 67, 68, 69, 70, 71, 72, 73, 74, 75, 76, 77, 78, 79, 80, 81, 82, 83, 84, 85, 86, 87, 88, 89, 90, 91, 92, 93, 94, 95, 96, 97, 98, 99, 100, 101, 102, 103, 104, 105, 106, 107, 108, 109, 110, 111, 112, 113, 114, 115, 116, 117, 118, 119, 120, 121, 122, 123, 124, 125, 126] (by decide +kernel) (by decide +kernel)
set_option maxRecDepth 20000 in
theorem gX11_reckons_X11_putsThings : GoodIn wsX11_reckons (wsV RX11 278 RX11 yX11_putsThings wsX11_putsThings) := goodIn_app (goodIn_of _ (by decide +kernel)) ggX11_reckons_X11_putsThings
set_option maxRecDepth 20000 in
theorem ggX11_reckons_X11_begins : GoodIn wsX11_reckons wsX11_begins := goodIn_r _ [22, 23, 7, 3, 24, 25, 26, 27, 12, 28, 29, 30, 31, 32, 33, 34, 2, 6, 59, 60, 61, 62, 63, 64, 65, 66, 67, 68, 69, 70, 71, 72, 73, 74, 75, 76, 77, 78, 79, 80, 81, 82, 83, 84, 85, 86, 87, 88, 89, 90, 91, 92, 93, 94, 95, 96, 97, 98, 99, 100, 101, 102, 103, 104, 105, 106, 107, 108, 109, 110, 111, 112, 113, 114, 115, 116, 117, 118, 119, 120, 121, 122, 123, 124, 125, 126] (by decide +kernel) (by decide +kernel)
set_option maxRecDepth 20000 in
theorem gX11_reckons_X11_begins : GoodIn wsX11_reckons (wsV RX11 281 RX11 yX11_begins wsX11_begins) := goodIn_app (goodIn_of _ (by decide +kernel)) ggX11_reckons_X11_begins
set_option maxRecDepth 20000 in
theorem ggX11_reckons_X11_goes : GoodIn wsX11_reckons wsX11_goes := goodIn_r _ [38, 39, 40, 41, 3, 31, 32, 33, 12, 34, 2, 6, 26, 27, 28, 29, 30, 15, 16, 17, 18, 9, 10, 11, 13, 14, 42, 43, 44, 45, 46, 47, 48, 49, 19, 20, 21, 22, 23, 7, 24, 25, 50, 51, 52, 53, 54, 55, 56, 57, 4, 58, 59, 60, 61, 62, 63, 64, 65, 66, 67, 68, 69, 70, 71, 72, 73, 74, 75, 76, 77, 78, 79, 80, 81, 82, 83, 84, 85, 86, 87, 88, 89, 90, 91, 92, 93, 94, 95, 96, 97, 98, 99, 100, 101, 102, 103, 104, 105, 106, 107, 108, 109, 110, 111, 112, 113, 114, 115, 116, 117, 118, 119, 120, 121, 122, 123, 124, 125, 126] (by decide +kernel) (by decide +kernel)
set_option maxRecDepth 20000 in
theorem gX11_reckons_X11_goes : GoodIn wsX11_reckons (wsV RX11 284 RX11 yX11_goes wsX11_goes) := goodIn_app (goodIn_of _ (by decide +kernel)) ggX11_reckons_X11_goes
theorem dX11_reckons_0 : decode cX11_reckons 0 = .ok (.iconst 0, 1) := by decide +kernel
theorem dX11_reckons_1 : decode cX11_reckons 1 = .ok (.istore_n 1, 1) := by decide +kernel
theorem dX11_reckons_2 : decode cX11_reckons 2 = .ok (.iload_n 1, 1) := by decide +kernel
theorem dX11_reckons_3 : decode cX11_reckons 3 = .ok (.aload_n 0, 1) := by decide +kernel
theorem dX11_reckons_4 : decode cX11_reckons 4 = .ok (.getfield 251, 3) := by decide +kernel
theorem dX11_reckons_7 : decode cX11_reckons 7 = .ok (.if_icmp .ge 16, 3) := by decide +kernel
theorem dX11_reckons_10 : decode cX11_reckons 10 = .ok (.aload_n 0, 1) := by decide +kernel
theorem dX11_reckons_11 : decode cX11_reckons 11 = .ok (.getfield 89, 3) := by decide +kernel
theorem dX11_reckons_14 : decode cX11_reckons 14 = .ok (.iload_n 1, 1) := by decide +kernel
theorem dX11_reckons_15 : decode cX11_reckons 15 = .ok (.lconst 0, 1) := by decide +kernel
theorem dX11_reckons_16 : decode cX11_reckons 16 = .ok (.lastore, 1) := by decide +kernel
theorem dX11_reckons_17 : decode cX11_reckons 17 = .ok (.iinc 1 1, 3) := by decide +kernel
theorem dX11_reckons_20 : decode cX11_reckons 20 = .ok (.goto (-18), 3) := by decide +kernel
theorem dX11_reckons_23 : decode cX11_reckons 23 = .ok (.iconst 0, 1) := by decide +kernel
theorem dX11_reckons_24 : decode cX11_reckons 24 = .ok (.istore_n 1, 1) := by decide +kernel
theorem dX11_reckons_25 : decode cX11_reckons 25 = .ok (.iload_n 1, 1) := by decide +kernel
theorem dX11_reckons_26 : decode cX11_reckons 26 = .ok (.bipush 42, 2) := by decide +kernel
theorem dX11_reckons_28 : decode cX11_reckons 28 = .ok (.if_icmp .ge 16, 3) := by decide +kernel
theorem dX11_reckons_31 : decode cX11_reckons 31 = .ok (.aload_n 0, 1) := by decide +kernel
theorem dX11_reckons_32 : decode cX11_reckons 32 = .ok (.getfield 93, 3) := by decide +kernel
theorem dX11_reckons_35 : decode cX11_reckons 35 = .ok (.iload_n 1, 1) := by decide +kernel
theorem dX11_reckons_36 : decode cX11_reckons 36 = .ok (.iconst 0, 1) := by decide +kernel
theorem dX11_reckons_37 : decode cX11_reckons 37 = .ok (.iastore, 1) := by decide +kernel
theorem dX11_reckons_38 : decode cX11_reckons 38 = .ok (.iinc 1 1, 3) := by decide +kernel
theorem dX11_reckons_41 : decode cX11_reckons 41 = .ok (.goto (-16), 3) := by decide +kernel
theorem dX11_reckons_44 : decode cX11_reckons 44 = .ok (.iconst 0, 1) := by decide +kernel
theorem dX11_reckons_45 : decode cX11_reckons 45 = .ok (.istore_n 1, 1) := by decide +kernel
theorem dX11_reckons_46 : decode cX11_reckons 46 = .ok (.iload_n 1, 1) := by decide +kernel
theorem dX11_reckons_47 : decode cX11_reckons 47 = .ok (.bipush 25, 2) := by decide +kernel
theorem dX11_reckons_49 : decode cX11_reckons 49 = .ok (.if_icmp .ge 16, 3) := by decide +kernel
theorem dX11_reckons_52 : decode cX11_reckons 52 = .ok (.aload_n 0, 1) := by decide +kernel
theorem dX11_reckons_53 : decode cX11_reckons 53 = .ok (.getfield 100, 3) := by decide +kernel
theorem dX11_reckons_56 : decode cX11_reckons 56 = .ok (.iload_n 1, 1) := by decide +kernel
theorem dX11_reckons_57 : decode cX11_reckons 57 = .ok (.iconst 0, 1) := by decide +kernel
theorem dX11_reckons_58 : decode cX11_reckons 58 = .ok (.iastore, 1) := by decide +kernel
theorem dX11_reckons_59 : decode cX11_reckons 59 = .ok (.iinc 1 1, 3) := by decide +kernel
theorem dX11_reckons_62 : decode cX11_reckons 62 = .ok (.goto (-16), 3) := by decide +kernel
theorem dX11_reckons_65 : decode cX11_reckons 65 = .ok (.aload_n 0, 1) := by decide +kernel
theorem dX11_reckons_66 : decode cX11_reckons 66 = .ok (.aload_n 0, 1) := by decide +kernel
theorem dX11_reckons_67 : decode cX11_reckons 67 = .ok (.getfield 83, 3) := by decide +kernel
theorem dX11_reckons_70 : decode cX11_reckons 70 = .ok (.iconst (-1), 1) := by decide +kernel
theorem dX11_reckons_71 : decode cX11_reckons 71 = .ok (.if_icmp .eq 7, 3) := by decide +kernel
theorem dX11_reckons_74 : decode cX11_reckons 74 = .ok (.iconst 1, 1) := by decide +kernel
theorem dX11_reckons_75 : decode cX11_reckons 75 = .ok (.goto 4, 3) := by decide +kernel
theorem dX11_reckons_78 : decode cX11_reckons 78 = .ok (.iconst 0, 1) := by decide +kernel
theorem dX11_reckons_79 : decode cX11_reckons 79 = .ok (.putfield 261, 3) := by decide +kernel
theorem dX11_reckons_82 : decode cX11_reckons 82 = .ok (.aload_n 0, 1) := by decide +kernel
theorem dX11_reckons_83 : decode cX11_reckons 83 = .ok (.getfield 261, 3) := by decide +kernel
theorem dX11_reckons_86 : decode cX11_reckons 86 = .ok (.ifCond .eq 111, 3) := by decide +kernel
theorem dX11_reckons_89 : decode cX11_reckons 89 = .ok (.aload_n 0, 1) := by decide +kernel
theorem dX11_reckons_90 : decode cX11_reckons 90 = .ok (.iconst 0, 1) := by decide +kernel
theorem dX11_reckons_91 : decode cX11_reckons 91 = .ok (.putfield 261, 3) := by decide +kernel
theorem dX11_reckons_94 : decode cX11_reckons 94 = .ok (.iconst 0, 1) := by decide +kernel
theorem dX11_reckons_95 : decode cX11_reckons 95 = .ok (.istore_n 1, 1) := by decide +kernel
theorem dX11_reckons_96 : decode cX11_reckons 96 = .ok (.iload_n 1, 1) := by decide +kernel
theorem dX11_reckons_97 : decode cX11_reckons 97 = .ok (.aload_n 0, 1) := by decide +kernel
theorem dX11_reckons_98 : decode cX11_reckons 98 = .ok (.getfield 35, 3) := by decide +kernel
theorem dX11_reckons_101 : decode cX11_reckons 101 = .ok (.aload_n 0, 1) := by decide +kernel
theorem dX11_reckons_102 : decode cX11_reckons 102 = .ok (.getfield 83, 3) := by decide +kernel
theorem dX11_reckons_105 : decode cX11_reckons 105 = .ok (.iaload, 1) := by decide +kernel
theorem dX11_reckons_106 : decode cX11_reckons 106 = .ok (.if_icmp .ge 42, 3) := by decide +kernel
theorem dX11_reckons_109 : decode cX11_reckons 109 = .ok (.aload_n 0, 1) := by decide +kernel
theorem dX11_reckons_110 : decode cX11_reckons 110 = .ok (.iconst 4, 1) := by decide +kernel
theorem dX11_reckons_111 : decode cX11_reckons 111 = .ok (.aload_n 0, 1) := by decide +kernel
theorem dX11_reckons_112 : decode cX11_reckons 112 = .ok (.getfield 83, 3) := by decide +kernel
theorem dX11_reckons_115 : decode cX11_reckons 115 = .ok (.imul, 1) := by decide +kernel
theorem dX11_reckons_116 : decode cX11_reckons 116 = .ok (.iload_n 1, 1) := by decide +kernel
theorem dX11_reckons_117 : decode cX11_reckons 117 = .ok (.iadd, 1) := by decide +kernel
theorem dX11_reckons_118 : decode cX11_reckons 118 = .ok (.aload_n 0, 1) := by decide +kernel
theorem dX11_reckons_119 : decode cX11_reckons 119 = .ok (.getfield 86, 3) := by decide +kernel
theorem dX11_reckons_122 : decode cX11_reckons 122 = .ok (.iload_n 1, 1) := by decide +kernel
theorem dX11_reckons_123 : decode cX11_reckons 123 = .ok (.iaload, 1) := by decide +kernel
theorem dX11_reckons_124 : decode cX11_reckons 124 = .ok (.invokevirtual 275, 3) := by decide +kernel
theorem dX11_reckons_127 : decode cX11_reckons 127 = .ok (.aload_n 0, 1) := by decide +kernel
theorem dX11_reckons_128 : decode cX11_reckons 128 = .ok (.getfield 86, 3) := by decide +kernel
theorem dX11_reckons_131 : decode cX11_reckons 131 = .ok (.iload_n 1, 1) := by decide +kernel
theorem dX11_reckons_132 : decode cX11_reckons 132 = .ok (.iaload, 1) := by decide +kernel
theorem dX11_reckons_133 : decode cX11_reckons 133 = .ok (.iconst 2, 1) := by decide +kernel
theorem dX11_reckons_134 : decode cX11_reckons 134 = .ok (.iand, 1) := by decide +kernel
theorem dX11_reckons_135 : decode cX11_reckons 135 = .ok (.ifCond .eq 7, 3) := by decide +kernel
theorem dX11_reckons_138 : decode cX11_reckons 138 = .ok (.aload_n 0, 1) := by decide +kernel
theorem dX11_reckons_139 : decode cX11_reckons 139 = .ok (.invokevirtual 278, 3) := by decide +kernel
theorem dX11_reckons_142 : decode cX11_reckons 142 = .ok (.iinc 1 1, 3) := by decide +kernel
theorem dX11_reckons_145 : decode cX11_reckons 145 = .ok (.goto (-49), 3) := by decide +kernel
theorem dX11_reckons_148 : decode cX11_reckons 148 = .ok (.aload_n 0, 1) := by decide +kernel
theorem dX11_reckons_149 : decode cX11_reckons 149 = .ok (.aload_n 0, 1) := by decide +kernel
theorem dX11_reckons_150 : decode cX11_reckons 150 = .ok (.getfield 83, 3) := by decide +kernel
theorem dX11_reckons_153 : decode cX11_reckons 153 = .ok (.invokevirtual 281, 3) := by decide +kernel
theorem dX11_reckons_156 : decode cX11_reckons 156 = .ok (.iconst 0, 1) := by decide +kernel
theorem dX11_reckons_157 : decode cX11_reckons 157 = .ok (.istore_n 1, 1) := by decide +kernel
theorem dX11_reckons_158 : decode cX11_reckons 158 = .ok (.iload_n 1, 1) := by decide +kernel
theorem dX11_reckons_159 : decode cX11_reckons 159 = .ok (.aload_n 0, 1) := by decide +kernel
theorem dX11_reckons_160 : decode cX11_reckons 160 = .ok (.getfield 251, 3) := by decide +kernel
theorem dX11_reckons_163 : decode cX11_reckons 163 = .ok (.if_icmp .ge 31, 3) := by decide +kernel
theorem dX11_reckons_166 : decode cX11_reckons 166 = .ok (.aload_n 0, 1) := by decide +kernel
theorem dX11_reckons_167 : decode cX11_reckons 167 = .ok (.getfield 89, 3) := by decide +kernel
theorem dX11_reckons_170 : decode cX11_reckons 170 = .ok (.iload_n 1, 1) := by decide +kernel
theorem dX11_reckons_171 : decode cX11_reckons 171 = .ok (.laload, 1) := by decide +kernel
theorem dX11_reckons_172 : decode cX11_reckons 172 = .ok (.lconst 0, 1) := by decide +kernel
theorem dX11_reckons_173 : decode cX11_reckons 173 = .ok (.lcmp, 1) := by decide +kernel
theorem dX11_reckons_174 : decode cX11_reckons 174 = .ok (.ifCond .eq 14, 3) := by decide +kernel
theorem dX11_reckons_177 : decode cX11_reckons 177 = .ok (.aload_n 0, 1) := by decide +kernel
theorem dX11_reckons_178 : decode cX11_reckons 178 = .ok (.iload_n 1, 1) := by decide +kernel
theorem dX11_reckons_179 : decode cX11_reckons 179 = .ok (.aload_n 0, 1) := by decide +kernel
theorem dX11_reckons_180 : decode cX11_reckons 180 = .ok (.getfield 89, 3) := by decide +kernel
theorem dX11_reckons_183 : decode cX11_reckons 183 = .ok (.iload_n 1, 1) := by decide +kernel
theorem dX11_reckons_184 : decode cX11_reckons 184 = .ok (.laload, 1) := by decide +kernel
theorem dX11_reckons_185 : decode cX11_reckons 185 = .ok (.invokevirtual 284, 3) := by decide +kernel
theorem dX11_reckons_188 : decode cX11_reckons 188 = .ok (.iinc 1 1, 3) := by decide +kernel
theorem dX11_reckons_191 : decode cX11_reckons 191 = .ok (.goto (-33), 3) := by decide +kernel
theorem dX11_reckons_194 : decode cX11_reckons 194 = .ok (.goto (-112), 3) := by decide +kernel
theorem dX11_reckons_197 : decode cX11_reckons 197 = .ok (.return_, 1) := by decide +kernel
set_option maxRecDepth 20000 in
theorem ggX11_putsThings_X11_puts : GoodIn wsX11_putsThings wsX11_puts := goodIn_r _ [5, 6, 7, 8, 9, 10, 11, 12, 13, 14, 15, 16, 17, 18, 19, 20, 21, 22, 23, 24, 25, 26, 27, 28, 29, 30, 31, 32, 33, 34, 35, 36, 37, 38, 39, 40, 41, 42, 43, 44, 45, 46, 47, 48, 49, 50, 51, 52, 53, 54, 55, 56, 57, 58, 59, 60, 61, 62, 63, 64, 65, 66, 67, 68, 69, 70, 71, 72, 73, 74, 75, 76] (by decide +kernel) (by decide +kernel)
set_option maxRecDepth 20000 in
theorem gX11_putsThings_X11_puts : GoodIn wsX11_putsThings (wsV RX11 275 RX11 yX11_puts wsX11_puts) := goodIn_app (goodIn_of _ (by decide +kernel)) ggX11_putsThings_X11_puts
theorem dX11_putsThings_0 : decode cX11_putsThings 0 = .ok (.aload_n 0, 1) := by decide +kernel
theorem dX11_putsThings_1 : decode cX11_putsThings 1 = .ok (.bipush 40, 2) := by decide +kernel
theorem dX11_putsThings_3 : decode cX11_putsThings 3 = .ok (.iconst 2, 1) := by decide +kernel
theorem dX11_putsThings_4 : decode cX11_putsThings 4 = .ok (.invokevirtual 275, 3) := by decide +kernel
theorem dX11_putsThings_7 : decode cX11_putsThings 7 = .ok (.aload_n 0, 1) := by decide +kernel
theorem dX11_putsThings_8 : decode cX11_putsThings 8 = .ok (.bipush 41, 2) := by decide +kernel
theorem dX11_putsThings_10 : decode cX11_putsThings 10 = .ok (.iconst 2, 1) := by decide +kernel
theorem dX11_putsThings_11 : decode cX11_putsThings 11 = .ok (.invokevirtual 275, 3) := by decide +kernel
theorem dX11_putsThings_14 : decode cX11_putsThings 14 = .ok (.return_, 1) := by decide +kernel
set_option maxRecDepth 20000 in
theorem ggX11_goes_X11_flows : GoodIn wsX11_goes wsX11_flows := goodIn_r _ [9, 10, 11, 52, 53, 54, 55, 56, 57, 58, 59, 60, 61, 62, 63, 64, 65, 66, 67, 68, 69, 70, 71, 72, 73, 74, 75, 76, 77, 78, 79, 80, 81, 82, 83, 84, 85, 86, 87, 88, 89, 90, 91, 92, 93, 94, 95, 96, 97, 98, 99, 100, 101, 102, 103, 104, 105, 106, 107, 108, 109, 110, 111, 112, 113, 114, 115, 116, 117, 118, 119] (by decide +kernel) (by decide +kernel)
set_option maxRecDepth 20000 in
theorem gX11_goes_X11_flows : GoodIn wsX11_goes (wsV RX11 271 RX11 yX11_flows wsX11_flows) := goodIn_app (goodIn_of _ (by decide +kernel)) ggX11_goes_X11_flows
set_option maxRecDepth 20000 in
theorem ggX11_goes_X11_with : GoodIn wsX11_goes wsX11_with := goodIn_r _ [14, 15, 16] (by decide +kernel) (by decide +kernel)
set_option maxRecDepth 20000 in
theorem gX11_goes_X11_with : GoodIn wsX11_goes (va_wsS RX11 267 yX11_with wsX11_with) := goodIn_app (goodIn_of _ (by decide +kernel)) ggX11_goes_X11_with
set_option maxRecDepth 20000 in
theorem ggX11_goes_X11_putsThings : GoodIn wsX11_goes wsX11_putsThings := goodIn_r _ [20, 21, 22, 23, 8, 24, 25, 4, 11, 52, 53, 54, 55, 56, 57, 58, 59, 60, 61, 62, 63, 64, 65, 66, 67, 68, 69, 70, 71, 72, 73, 74, 75, 76, 77, 78, 79, 80, 81, 82, 83, 84, 85, 86, 87, 88, 89, 90, 91, 92, 93, 94, 95, 96, 97, 98, 99, 100, 101, 102, 103, 104, 105, 106, 107, 108, 109, 110, 111, 112, 113, 114, 115, 116, 117, 118, 119] (by decide +kernel) (by decide +kernel)
set_option maxRecDepth 20000 in
theorem gX11_goes_X11_putsThings : GoodIn wsX11_goes (wsV RX11 278 RX11 yX11_putsThings wsX11_putsThings) := goodIn_app (goodIn_of _ (by decide +kernel)) ggX11_goes_X11_putsThings
set_option maxRecDepth 20000 in
theorem ggX11_goes_X11_factOf : GoodIn wsX11_goes wsX11_factOf := goodIn_r _ [28] (by decide +kernel) (by decide +kernel)
set_option maxRecDepth 20000 in
theorem gX11_goes_X11_factOf : GoodIn wsX11_goes (va_wsS RX11 287 yX11_factOf wsX11_factOf) := goodIn_app (goodIn_of _ (by decide +kernel)) ggX11_goes_X11_factOf
set_option maxRecDepth 20000 in
theorem ggX11_goes_X11_puts : GoodIn wsX11_goes wsX11_puts := goodIn_r _ [24, 25, 4, 11, 52, 53, 54, 55, 56, 57, 58, 59, 60, 61, 62, 63, 64, 65, 66, 67, 68, 69, 70, 71, 72, 73, 74, 75, 76, 77, 78, 79, 80, 81, 82, 83, 84, 85, 86, 87, 88, 89, 90, 91, 92, 93, 94, 95, 96, 97, 98, 99, 100, 101, 102, 103, 104, 105, 106, 107, 108, 109, 110, 111, 112, 113, 114, 115, 116, 117, 118, 119] (by decide +kernel) (by decide +kernel)
set_option maxRecDepth 20000 in
theorem gX11_goes_X11_puts : GoodIn wsX11_goes (wsV RX11 275 RX11 yX11_puts wsX11_puts) := goodIn_app (goodIn_of _ (by decide +kernel)) ggX11_goes_X11_puts
set_option maxRecDepth 20000 in
theorem ggX11_goes_X11_calls : GoodIn wsX11_goes wsX11_calls := goodIn_r _ [32, 2, 3, 33, 4, 26, 27, 8, 28, 21, 22, 23, 24, 25, 11, 34, 35, 36, 37, 38, 39, 40, 41, 12, 13, 14, 15, 16, 5, 6, 7, 9, 10, 52, 53, 54, 55, 56, 57, 58, 59, 60, 61, 62, 63, 64, 65, 66, 67, 68, 69, 70, 71, 72, 73, 74, 75, 76, 77, 78, 79, 80, 81, 82, 83, 84, 85, 86, 87, 88, 89, 90, 91, 92, 93, 94, 95, 96, 97, 98, 99, 100, 101, 102, 103, 104, 105, 106, 107, 108, 109, 110, 111, 112, 113, 114, 115, 116, 117, 118, 119] (by decide +kernel) (by decide +kernel)
set_option maxRecDepth 20000 in
theorem gX11_goes_X11_calls : GoodIn wsX11_goes (wsV RX11 291 RX11 yX11_calls wsX11_calls) := goodIn_app (goodIn_of _ (by decide +kernel)) ggX11_goes_X11_calls
set_option maxRecDepth 20000 in
theorem ggX11_goes_X11_routineAt : GoodIn wsX11_goes wsX11_routineAt := goodIn_r _ [45, 41, 52, 53, 54, 55, 56, 57, 58, 59, 60, 61, 62, 63, 64, 65, 66, 67, 68, 69, 70, 71, 72, 73, 74, 75, 76, 77, 78, 79, 80, 81, 82, 83, 84, 85, 86, 87, 88, 89, 90, 91, 92, 93, 94, 95, 96, 97, 98, 99, 100, 101, 102, 103, 104, 105, 106, 107, 108, 109, 110, 111, 112, 113, 114, 115, 116, 117, 118, 119] (by decide +kernel) (by decide +kernel)
set_option maxRecDepth 20000 in
theorem gX11_goes_X11_routineAt : GoodIn wsX11_goes (wsV RX11 293 RX11 yX11_routineAt wsX11_routineAt) := goodIn_app (goodIn_of _ (by decide +kernel)) ggX11_goes_X11_routineAt
set_option maxRecDepth 20000 in
theorem ggX11_goes_X11_tests : GoodIn wsX11_goes wsX11_tests := goodIn_r _ [49, 1, 2, 50, 3, 51, 26, 27, 8, 28, 12, 13, 14, 15, 16, 5, 6, 7, 9, 10, 11, 52, 53, 54, 55, 56, 57, 58, 59, 60, 61, 62, 63, 64, 65, 66, 67, 68, 69, 70, 71, 72, 73, 74, 75, 76, 77, 78, 79, 80, 81, 82, 83, 84, 85, 86, 87, 88, 89, 90, 91, 92, 93, 94, 95, 96, 97, 98, 99, 100, 101, 102, 103, 104, 105, 106, 107, 108, 109, 110, 111, 112, 113, 114, 115, 116, 117, 118, 119] (by decide +kernel) (by decide +kernel)
set_option maxRecDepth 20000 in
theorem gX11_goes_X11_tests : GoodIn wsX11_goes (wsV RX11 296 RX11 yX11_tests wsX11_tests) := goodIn_app (goodIn_of _ (by decide +kernel)) ggX11_goes_X11_tests
theorem dX11_goes_0 : decode cX11_goes 0 = .ok (.aload_n 0, 1) := by decide +kernel
theorem dX11_goes_1 : decode cX11_goes 1 = .ok (.getfield 17, 3) := by decide +kernel
theorem dX11_goes_4 : decode cX11_goes 4 = .ok (.iload_n 1, 1) := by decide +kernel
theorem dX11_goes_5 : decode cX11_goes 5 = .ok (.iaload, 1) := by decide +kernel
theorem dX11_goes_6 : decode cX11_goes 6 = .ok (.tableswitch 394 0 13 #[70, 81, 98, 119, 168, 194, 266, 275, 301, 359, 394, 394, 394, 380], 70) := by decide +kernel
theorem dX11_goes_76 : decode cX11_goes 76 = .ok (.aload_n 0, 1) := by decide +kernel
theorem dX11_goes_77 : decode cX11_goes 77 = .ok (.iload_n 1, 1) := by decide +kernel
theorem dX11_goes_78 : decode cX11_goes 78 = .ok (.iconst 1, 1) := by decide +kernel
theorem dX11_goes_79 : decode cX11_goes 79 = .ok (.iadd, 1) := by decide +kernel
theorem dX11_goes_80 : decode cX11_goes 80 = .ok (.lload_n 2, 1) := by decide +kernel
theorem dX11_goes_81 : decode cX11_goes 81 = .ok (.invokevirtual 271, 3) := by decide +kernel
theorem dX11_goes_84 : decode cX11_goes 84 = .ok (.goto 322, 3) := by decide +kernel
theorem dX11_goes_87 : decode cX11_goes 87 = .ok (.aload_n 0, 1) := by decide +kernel
theorem dX11_goes_88 : decode cX11_goes 88 = .ok (.iload_n 1, 1) := by decide +kernel
theorem dX11_goes_89 : decode cX11_goes 89 = .ok (.iconst 1, 1) := by decide +kernel
theorem dX11_goes_90 : decode cX11_goes 90 = .ok (.iadd, 1) := by decide +kernel
theorem dX11_goes_91 : decode cX11_goes 91 = .ok (.lload_n 2, 1) := by decide +kernel
theorem dX11_goes_92 : decode cX11_goes 92 = .ok (.bipush 26, 2) := by decide +kernel
theorem dX11_goes_94 : decode cX11_goes 94 = .ok (.iconst 1, 1) := by decide +kernel
theorem dX11_goes_95 : decode cX11_goes 95 = .ok (.invokestatic 267, 3) := by decide +kernel
theorem dX11_goes_98 : decode cX11_goes 98 = .ok (.invokevirtual 271, 3) := by decide +kernel
theorem dX11_goes_101 : decode cX11_goes 101 = .ok (.goto 305, 3) := by decide +kernel
theorem dX11_goes_104 : decode cX11_goes 104 = .ok (.aload_n 0, 1) := by decide +kernel
theorem dX11_goes_105 : decode cX11_goes 105 = .ok (.invokevirtual 278, 3) := by decide +kernel
theorem dX11_goes_108 : decode cX11_goes 108 = .ok (.aload_n 0, 1) := by decide +kernel
theorem dX11_goes_109 : decode cX11_goes 109 = .ok (.iload_n 1, 1) := by decide +kernel
theorem dX11_goes_110 : decode cX11_goes 110 = .ok (.iconst 1, 1) := by decide +kernel
theorem dX11_goes_111 : decode cX11_goes 111 = .ok (.iadd, 1) := by decide +kernel
theorem dX11_goes_112 : decode cX11_goes 112 = .ok (.lload_n 2, 1) := by decide +kernel
