set_option maxRecDepth 20000 in
theorem gX4_readStatement_X4_refuse : GoodIn wsX4_readStatement (wsV RX4 75 RX4 yX4_refuse wsX4_refuse) := goodIn_app (goodIn_of _ (by decide +kernel)) ggX4_readStatement_X4_refuse
theorem dX4_readStatement_0 : decode cX4_readStatement 0 = .ok (.aload_n 0, 1) := by decide +kernel
theorem dX4_readStatement_1 : decode cX4_readStatement 1 = .ok (.getfield 22, 3) := by decide +kernel
theorem dX4_readStatement_4 : decode cX4_readStatement 4 = .ok (.aload_n 0, 1) := by decide +kernel
theorem dX4_readStatement_5 : decode cX4_readStatement 5 = .ok (.getfield 40, 3) := by decide +kernel
theorem dX4_readStatement_8 : decode cX4_readStatement 8 = .ok (.invokevirtual 68, 3) := by decide +kernel
theorem dX4_readStatement_11 : decode cX4_readStatement 11 = .ok (.lookupswitch 105 #[(2, 49), (3, 54), (12, 93), (14, 99), (20, 88)], 49) := by decide +kernel
theorem dX4_readStatement_60 : decode cX4_readStatement 60 = .ok (.aload_n 0, 1) := by decide +kernel
theorem dX4_readStatement_61 : decode cX4_readStatement 61 = .ok (.invokevirtual 134, 3) := by decide +kernel
theorem dX4_readStatement_64 : decode cX4_readStatement 64 = .ok (.ireturn, 1) := by decide +kernel
theorem dX4_readStatement_65 : decode cX4_readStatement 65 = .ok (.aload_n 0, 1) := by decide +kernel
theorem dX4_readStatement_66 : decode cX4_readStatement 66 = .ok (.aload_n 0, 1) := by decide +kernel
theorem dX4_readStatement_67 : decode cX4_readStatement 67 = .ok (.getfield 36, 3) := by decide +kernel
theorem dX4_readStatement_70 : decode cX4_readStatement 70 = .ok (.iconst 5, 1) := by decide +kernel
theorem dX4_readStatement_71 : decode cX4_readStatement 71 = .ok (.aload_n 0, 1) := by decide +kernel
theorem dX4_readStatement_72 : decode cX4_readStatement 72 = .ok (.getfield 85, 3) := by decide +kernel
theorem dX4_readStatement_75 : decode cX4_readStatement 75 = .ok (.invokevirtual 120, 3) := by decide +kernel
theorem dX4_readStatement_78 : decode cX4_readStatement 78 = .ok (.invokevirtual 137, 3) := by decide +kernel
theorem dX4_readStatement_81 : decode cX4_readStatement 81 = .ok (.ifCond .eq 16, 3) := by decide +kernel
theorem dX4_readStatement_84 : decode cX4_readStatement 84 = .ok (.aload_n 0, 1) := by decide +kernel
theorem dX4_readStatement_85 : decode cX4_readStatement 85 = .ok (.bipush 9, 2) := by decide +kernel
theorem dX4_readStatement_87 : decode cX4_readStatement 87 = .ok (.invokevirtual 79, 3) := by decide +kernel
theorem dX4_readStatement_90 : decode cX4_readStatement 90 = .ok (.ifCond .eq 7, 3) := by decide +kernel
theorem dX4_readStatement_93 : decode cX4_readStatement 93 = .ok (.iconst 1, 1) := by decide +kernel
theorem dX4_readStatement_94 : decode cX4_readStatement 94 = .ok (.goto 4, 3) := by decide +kernel
theorem dX4_readStatement_97 : decode cX4_readStatement 97 = .ok (.iconst 0, 1) := by decide +kernel
theorem dX4_readStatement_98 : decode cX4_readStatement 98 = .ok (.ireturn, 1) := by decide +kernel
theorem dX4_readStatement_99 : decode cX4_readStatement 99 = .ok (.aload_n 0, 1) := by decide +kernel
theorem dX4_readStatement_100 : decode cX4_readStatement 100 = .ok (.invokevirtual 140, 3) := by decide +kernel
theorem dX4_readStatement_103 : decode cX4_readStatement 103 = .ok (.ireturn, 1) := by decide +kernel
theorem dX4_readStatement_104 : decode cX4_readStatement 104 = .ok (.aload_n 0, 1) := by decide +kernel
theorem dX4_readStatement_105 : decode cX4_readStatement 105 = .ok (.iconst 1, 1) := by decide +kernel
theorem dX4_readStatement_106 : decode cX4_readStatement 106 = .ok (.invokevirtual 143, 3) := by decide +kernel
theorem dX4_readStatement_109 : decode cX4_readStatement 109 = .ok (.ireturn, 1) := by decide +kernel
theorem dX4_readStatement_110 : decode cX4_readStatement 110 = .ok (.aload_n 0, 1) := by decide +kernel
theorem dX4_readStatement_111 : decode cX4_readStatement 111 = .ok (.iconst 3, 1) := by decide +kernel
theorem dX4_readStatement_112 : decode cX4_readStatement 112 = .ok (.invokevirtual 143, 3) := by decide +kernel
theorem dX4_readStatement_115 : decode cX4_readStatement 115 = .ok (.ireturn, 1) := by decide +kernel
theorem dX4_readStatement_116 : decode cX4_readStatement 116 = .ok (.aload_n 0, 1) := by decide +kernel
theorem dX4_readStatement_117 : decode cX4_readStatement 117 = .ok (.iconst 1, 1) := by decide +kernel
theorem dX4_readStatement_118 : decode cX4_readStatement 118 = .ok (.aload_n 0, 1) := by decide +kernel
theorem dX4_readStatement_119 : decode cX4_readStatement 119 = .ok (.getfield 22, 3) := by decide +kernel
theorem dX4_readStatement_122 : decode cX4_readStatement 122 = .ok (.aload_n 0, 1) := by decide +kernel
theorem dX4_readStatement_123 : decode cX4_readStatement 123 = .ok (.getfield 40, 3) := by decide +kernel
theorem dX4_readStatement_126 : decode cX4_readStatement 126 = .ok (.invokevirtual 72, 3) := by decide +kernel
theorem dX4_readStatement_129 : decode cX4_readStatement 129 = .ok (.invokevirtual 75, 3) := by decide +kernel
theorem dX4_readStatement_132 : decode cX4_readStatement 132 = .ok (.ireturn, 1) := by decide +kernel
set_option maxRecDepth 20000 in
theorem ggX4_readPut_X4_seen : GoodIn wsX4_readPut wsX4_seen := goodIn_r _ [9, 4, 1, 10, 11, 12, 13, 14, 15, 16, 92, 93, 94, 95, 96, 97, 98, 99, 100, 101, 102, 103, 104] (by decide +kernel) (by decide +kernel)
set_option maxRecDepth 20000 in
theorem gX4_readPut_X4_seen : GoodIn wsX4_readPut (wsV RX4 51 RX4 yX4_seen wsX4_seen) := goodIn_app (goodIn_of _ (by decide +kernel)) ggX4_readPut_X4_seen
set_option maxRecDepth 20000 in
theorem ggX4_readPut_X0_add : GoodIn wsX4_readPut wsX0_add := goodIn_r _ [21, 22, 23, 24, 25, 20, 26, 27, 105, 106] (by decide +kernel) (by decide +kernel)
set_option maxRecDepth 20000 in
theorem gX4_readPut_X0_add : GoodIn wsX4_readPut (wsV RX4 120 RX0 yX0_add wsX0_add) := goodIn_app (goodIn_of _ (by decide +kernel)) ggX4_readPut_X0_add
set_option maxRecDepth 20000 in
theorem ggX4_readPut_X8_letterAt : GoodIn wsX4_readPut wsX8_letterAt := goodIn_r _ [31, 15, 16, 102, 103, 104] (by decide +kernel) (by decide +kernel)
set_option maxRecDepth 20000 in
theorem gX4_readPut_X8_letterAt : GoodIn wsX4_readPut (wsV RX4 82 RX8 yX8_letterAt wsX8_letterAt) := goodIn_app (goodIn_of _ (by decide +kernel)) ggX4_readPut_X8_letterAt
set_option maxRecDepth 20000 in
theorem ggX4_readPut_X0_set : GoodIn wsX4_readPut wsX0_set := goodIn_r _ [26, 22, 27, 105, 106] (by decide +kernel) (by decide +kernel)
set_option maxRecDepth 20000 in
theorem gX4_readPut_X0_set : GoodIn wsX4_readPut (wsV RX4 124 RX0 yX0_set wsX0_set) := goodIn_app (goodIn_of _ (by decide +kernel)) ggX4_readPut_X0_set
set_option maxRecDepth 20000 in
theorem ggX4_readPut_X4_readUse : GoodIn wsX4_readPut wsX4_readUse := goodIn_r _ [36, 37, 38, 4, 2, 3, 1, 39, 40, 41, 13, 42, 15, 16, 43, 44, 45, 46, 8, 47, 48, 49, 28, 29, 30, 31, 50, 51, 52, 53, 54, 55, 56, 57, 58, 32, 24, 25, 20, 26, 22, 27, 92, 93, 94, 95, 96, 97, 98, 99, 100, 101, 107, 108, 109, 110, 111, 112, 113, 114, 115, 116, 117, 118, 119, 120, 102, 103, 104, 105, 106] (by decide +kernel) (by decide +kernel)
set_option maxRecDepth 20000 in
theorem gX4_readPut_X4_readUse : GoodIn wsX4_readPut (wsV RX4 146 RX4 yX4_readUse wsX4_readUse) := goodIn_app (goodIn_of _ (by decide +kernel)) ggX4_readPut_X4_readUse
set_option maxRecDepth 20000 in
theorem ggX4_readPut_X4_readField : GoodIn wsX4_readPut wsX4_readField := goodIn_r _ [62, 4, 1, 2, 28, 29, 30, 13, 31, 15, 16, 10, 11, 12, 14, 39, 40, 41, 42, 43, 44, 45, 46, 8, 47, 48, 49, 32, 24, 25, 20, 26, 22, 27, 92, 93, 94, 95, 96, 97, 98, 99, 100, 101, 102, 103, 104, 105, 106] (by decide +kernel) (by decide +kernel)
set_option maxRecDepth 20000 in
theorem gX4_readPut_X4_readField : GoodIn wsX4_readPut (wsV RX4 150 RX4 yX4_readField wsX4_readField) := goodIn_app (goodIn_of _ (by decide +kernel)) ggX4_readPut_X4_readField
set_option maxRecDepth 20000 in
theorem ggX4_readPut_X4_take : GoodIn wsX4_readPut wsX4_take := goodIn_r _ [66, 4, 1, 10, 11, 12, 13, 14, 15, 16, 39, 40, 41, 42, 43, 44, 45, 46, 8, 47, 48, 49, 92, 93, 94, 95, 96, 97, 98, 99, 100, 101, 102, 103, 104] (by decide +kernel) (by decide +kernel)
set_option maxRecDepth 20000 in
theorem gX4_readPut_X4_take : GoodIn wsX4_readPut (wsV RX4 79 RX4 yX4_take wsX4_take) := goodIn_app (goodIn_of _ (by decide +kernel)) ggX4_readPut_X4_take
set_option maxRecDepth 20000 in
theorem ggX4_readPut_X4_readValue : GoodIn wsX4_readPut wsX4_readValue := goodIn_r _ [70, 4, 1, 2, 10, 11, 12, 13, 14, 15, 16, 32, 24, 25, 20, 26, 22, 27, 71, 72, 73, 8, 74, 28, 29, 30, 31, 63, 64, 65, 66, 39, 40, 41, 42, 43, 44, 45, 46, 47, 48, 49, 75, 76, 77, 78, 5, 6, 7, 9, 33, 34, 35, 36, 37, 38, 3, 50, 51, 52, 53, 54, 55, 56, 57, 58, 59, 60, 61, 62, 79, 80, 81, 82, 83, 84, 85, 86, 87, 88, 89, 90, 91, 23, 92, 93, 94, 95, 96, 97, 98, 99, 100, 101, 102, 103, 104, 105, 106, 107, 108, 109, 110, 111, 112, 113, 114, 115, 116, 117, 118, 119, 120] (by decide +kernel) (by decide +kernel)
set_option maxRecDepth 20000 in
theorem gX4_readPut_X4_readValue : GoodIn wsX4_readPut (wsV RX4 153 RX4 yX4_readValue wsX4_readValue) := goodIn_app (goodIn_of _ (by decide +kernel)) ggX4_readPut_X4_readValue
theorem dX4_readPut_0 : decode cX4_readPut 0 = .ok (.aload_n 0, 1) := by decide +kernel
theorem dX4_readPut_1 : decode cX4_readPut 1 = .ok (.getfield 40, 3) := by decide +kernel
theorem dX4_readPut_4 : decode cX4_readPut 4 = .ok (.istore_n 1, 1) := by decide +kernel
theorem dX4_readPut_5 : decode cX4_readPut 5 = .ok (.aload_n 0, 1) := by decide +kernel
theorem dX4_readPut_6 : decode cX4_readPut 6 = .ok (.dup, 1) := by decide +kernel
theorem dX4_readPut_7 : decode cX4_readPut 7 = .ok (.getfield 40, 3) := by decide +kernel
theorem dX4_readPut_10 : decode cX4_readPut 10 = .ok (.iconst 1, 1) := by decide +kernel
theorem dX4_readPut_11 : decode cX4_readPut 11 = .ok (.iadd, 1) := by decide +kernel
theorem dX4_readPut_12 : decode cX4_readPut 12 = .ok (.putfield 40, 3) := by decide +kernel
theorem dX4_readPut_15 : decode cX4_readPut 15 = .ok (.aload_n 0, 1) := by decide +kernel
theorem dX4_readPut_16 : decode cX4_readPut 16 = .ok (.getfield 36, 3) := by decide +kernel
theorem dX4_readPut_19 : decode cX4_readPut 19 = .ok (.aload_n 0, 1) := by decide +kernel
theorem dX4_readPut_20 : decode cX4_readPut 20 = .ok (.bipush 11, 2) := by decide +kernel
theorem dX4_readPut_22 : decode cX4_readPut 22 = .ok (.invokevirtual 51, 3) := by decide +kernel
theorem dX4_readPut_25 : decode cX4_readPut 25 = .ok (.ifCond .eq 7, 3) := by decide +kernel
theorem dX4_readPut_28 : decode cX4_readPut 28 = .ok (.iconst 4, 1) := by decide +kernel
theorem dX4_readPut_29 : decode cX4_readPut 29 = .ok (.goto 4, 3) := by decide +kernel
theorem dX4_readPut_32 : decode cX4_readPut 32 = .ok (.iconst 3, 1) := by decide +kernel
theorem dX4_readPut_33 : decode cX4_readPut 33 = .ok (.aload_n 0, 1) := by decide +kernel
theorem dX4_readPut_34 : decode cX4_readPut 34 = .ok (.getfield 85, 3) := by decide +kernel
theorem dX4_readPut_37 : decode cX4_readPut 37 = .ok (.invokevirtual 120, 3) := by decide +kernel
theorem dX4_readPut_40 : decode cX4_readPut 40 = .ok (.istore_n 2, 1) := by decide +kernel
theorem dX4_readPut_41 : decode cX4_readPut 41 = .ok (.aload_n 0, 1) := by decide +kernel
theorem dX4_readPut_42 : decode cX4_readPut 42 = .ok (.getfield 36, 3) := by decide +kernel
theorem dX4_readPut_45 : decode cX4_readPut 45 = .ok (.iload_n 2, 1) := by decide +kernel
theorem dX4_readPut_46 : decode cX4_readPut 46 = .ok (.iconst 1, 1) := by decide +kernel
theorem dX4_readPut_47 : decode cX4_readPut 47 = .ok (.aload_n 0, 1) := by decide +kernel
theorem dX4_readPut_48 : decode cX4_readPut 48 = .ok (.getfield 22, 3) := by decide +kernel
theorem dX4_readPut_51 : decode cX4_readPut 51 = .ok (.iload_n 1, 1) := by decide +kernel
theorem dX4_readPut_52 : decode cX4_readPut 52 = .ok (.invokevirtual 82, 3) := by decide +kernel
theorem dX4_readPut_55 : decode cX4_readPut 55 = .ok (.invokevirtual 124, 3) := by decide +kernel
theorem dX4_readPut_58 : decode cX4_readPut 58 = .ok (.aload_n 0, 1) := by decide +kernel
theorem dX4_readPut_59 : decode cX4_readPut 59 = .ok (.bipush 11, 2) := by decide +kernel
theorem dX4_readPut_61 : decode cX4_readPut 61 = .ok (.invokevirtual 51, 3) := by decide +kernel
theorem dX4_readPut_64 : decode cX4_readPut 64 = .ok (.ifCond .eq 24, 3) := by decide +kernel
theorem dX4_readPut_67 : decode cX4_readPut 67 = .ok (.aload_n 0, 1) := by decide +kernel
theorem dX4_readPut_68 : decode cX4_readPut 68 = .ok (.iload_n 1, 1) := by decide +kernel
theorem dX4_readPut_69 : decode cX4_readPut 69 = .ok (.iload_n 2, 1) := by decide +kernel
theorem dX4_readPut_70 : decode cX4_readPut 70 = .ok (.iconst 3, 1) := by decide +kernel
theorem dX4_readPut_71 : decode cX4_readPut 71 = .ok (.invokevirtual 146, 3) := by decide +kernel
theorem dX4_readPut_74 : decode cX4_readPut 74 = .ok (.ifCond .eq 12, 3) := by decide +kernel
theorem dX4_readPut_77 : decode cX4_readPut 77 = .ok (.aload_n 0, 1) := by decide +kernel
theorem dX4_readPut_78 : decode cX4_readPut 78 = .ok (.iload_n 2, 1) := by decide +kernel
theorem dX4_readPut_79 : decode cX4_readPut 79 = .ok (.iconst 2, 1) := by decide +kernel
theorem dX4_readPut_80 : decode cX4_readPut 80 = .ok (.invokevirtual 150, 3) := by decide +kernel
theorem dX4_readPut_83 : decode cX4_readPut 83 = .ok (.ifCond .ne 5, 3) := by decide +kernel
theorem dX4_readPut_86 : decode cX4_readPut 86 = .ok (.iconst 0, 1) := by decide +kernel
theorem dX4_readPut_87 : decode cX4_readPut 87 = .ok (.ireturn, 1) := by decide +kernel
theorem dX4_readPut_88 : decode cX4_readPut 88 = .ok (.aload_n 0, 1) := by decide +kernel
theorem dX4_readPut_89 : decode cX4_readPut 89 = .ok (.bipush 10, 2) := by decide +kernel
theorem dX4_readPut_91 : decode cX4_readPut 91 = .ok (.invokevirtual 79, 3) := by decide +kernel
theorem dX4_readPut_94 : decode cX4_readPut 94 = .ok (.ifCond .eq 24, 3) := by decide +kernel
theorem dX4_readPut_97 : decode cX4_readPut 97 = .ok (.aload_n 0, 1) := by decide +kernel
theorem dX4_readPut_98 : decode cX4_readPut 98 = .ok (.iload_n 2, 1) := by decide +kernel
theorem dX4_readPut_99 : decode cX4_readPut 99 = .ok (.invokevirtual 153, 3) := by decide +kernel
theorem dX4_readPut_102 : decode cX4_readPut 102 = .ok (.ifCond .eq 16, 3) := by decide +kernel
theorem dX4_readPut_105 : decode cX4_readPut 105 = .ok (.aload_n 0, 1) := by decide +kernel
theorem dX4_readPut_106 : decode cX4_readPut 106 = .ok (.bipush 9, 2) := by decide +kernel
theorem dX4_readPut_108 : decode cX4_readPut 108 = .ok (.invokevirtual 79, 3) := by decide +kernel
theorem dX4_readPut_111 : decode cX4_readPut 111 = .ok (.ifCond .eq 7, 3) := by decide +kernel
theorem dX4_readPut_114 : decode cX4_readPut 114 = .ok (.iconst 1, 1) := by decide +kernel
theorem dX4_readPut_115 : decode cX4_readPut 115 = .ok (.goto 4, 3) := by decide +kernel
theorem dX4_readPut_118 : decode cX4_readPut 118 = .ok (.iconst 0, 1) := by decide +kernel
theorem dX4_readPut_119 : decode cX4_readPut 119 = .ok (.ireturn, 1) := by decide +kernel
set_option maxRecDepth 20000 in
theorem ggX4_readUse_X8_placeAt : GoodIn wsX4_readUse wsX8_placeAt := goodIn_r _ [11, 12, 13, 14, 66, 67, 68] (by decide +kernel) (by decide +kernel)
set_option maxRecDepth 20000 in
theorem gX4_readUse_X8_placeAt : GoodIn wsX4_readUse (wsV RX4 72 RX8 yX8_placeAt wsX8_placeAt) := goodIn_app (goodIn_of _ (by decide +kernel)) ggX4_readUse_X8_placeAt
set_option maxRecDepth 20000 in
theorem ggX4_readUse_X4_refuse : GoodIn wsX4_readUse wsX4_refuse := goodIn_r _ [19, 20, 21, 42, 43, 44, 45, 46, 47, 48, 49, 50, 51] (by decide +kernel) (by decide +kernel)
set_option maxRecDepth 20000 in
theorem gX4_readUse_X4_refuse : GoodIn wsX4_readUse (wsV RX4 75 RX4 yX4_refuse wsX4_refuse) := goodIn_app (goodIn_of _ (by decide +kernel)) ggX4_readUse_X4_refuse
set_option maxRecDepth 20000 in
theorem ggX4_readUse_X8_letterAt : GoodIn wsX4_readUse wsX8_letterAt := goodIn_r _ [25, 12, 13, 66, 67, 68] (by decide +kernel) (by decide +kernel)
set_option maxRecDepth 20000 in
theorem gX4_readUse_X8_letterAt : GoodIn wsX4_readUse (wsV RX4 82 RX8 yX8_letterAt wsX8_letterAt) := goodIn_app (goodIn_of _ (by decide +kernel)) ggX4_readUse_X8_letterAt
set_option maxRecDepth 20000 in
theorem ggX4_readUse_X3_addUse : GoodIn wsX4_readUse wsX3_addUse := goodIn_r _ [30, 31, 32, 33, 34, 52, 53, 54, 55, 56, 57, 58, 59, 60, 61, 62, 63, 64, 65] (by decide +kernel) (by decide +kernel)
set_option maxRecDepth 20000 in
theorem gX4_readUse_X3_addUse : GoodIn wsX4_readUse (wsV RX4 159 RX3 yX3_addUse wsX3_addUse) := goodIn_app (goodIn_of _ (by decide +kernel)) ggX4_readUse_X3_addUse
set_option maxRecDepth 20000 in
theorem ggX4_readUse_X0_set : GoodIn wsX4_readUse wsX0_set := goodIn_r _ [39, 40, 41, 69, 70] (by decide +kernel) (by decide +kernel)
set_option maxRecDepth 20000 in
theorem gX4_readUse_X0_set : GoodIn wsX4_readUse (wsV RX4 124 RX0 yX0_set wsX0_set) := goodIn_app (goodIn_of _ (by decide +kernel)) ggX4_readUse_X0_set
theorem dX4_readUse_0 : decode cX4_readUse 0 = .ok (.aload_n 0, 1) := by decide +kernel
theorem dX4_readUse_1 : decode cX4_readUse 1 = .ok (.getfield 26, 3) := by decide +kernel
theorem dX4_readUse_4 : decode cX4_readUse 4 = .ok (.getfield 156, 3) := by decide +kernel
theorem dX4_readUse_7 : decode cX4_readUse 7 = .ok (.bipush 40, 2) := by decide +kernel
theorem dX4_readUse_9 : decode cX4_readUse 9 = .ok (.if_icmp .lt 17, 3) := by decide +kernel
theorem dX4_readUse_12 : decode cX4_readUse 12 = .ok (.aload_n 0, 1) := by decide +kernel
theorem dX4_readUse_13 : decode cX4_readUse 13 = .ok (.iconst 2, 1) := by decide +kernel
theorem dX4_readUse_14 : decode cX4_readUse 14 = .ok (.aload_n 0, 1) := by decide +kernel
theorem dX4_readUse_15 : decode cX4_readUse 15 = .ok (.getfield 22, 3) := by decide +kernel
theorem dX4_readUse_18 : decode cX4_readUse 18 = .ok (.iload_n 1, 1) := by decide +kernel
theorem dX4_readUse_19 : decode cX4_readUse 19 = .ok (.invokevirtual 72, 3) := by decide +kernel
theorem dX4_readUse_22 : decode cX4_readUse 22 = .ok (.invokevirtual 75, 3) := by decide +kernel
theorem dX4_readUse_25 : decode cX4_readUse 25 = .ok (.ireturn, 1) := by decide +kernel
theorem dX4_readUse_26 : decode cX4_readUse 26 = .ok (.aload_n 0, 1) := by decide +kernel
theorem dX4_readUse_27 : decode cX4_readUse 27 = .ok (.getfield 36, 3) := by decide +kernel
theorem dX4_readUse_30 : decode cX4_readUse 30 = .ok (.iload_n 2, 1) := by decide +kernel
theorem dX4_readUse_31 : decode cX4_readUse 31 = .ok (.iload_n 3, 1) := by decide +kernel
theorem dX4_readUse_32 : decode cX4_readUse 32 = .ok (.aload_n 0, 1) := by decide +kernel
theorem dX4_readUse_33 : decode cX4_readUse 33 = .ok (.getfield 26, 3) := by decide +kernel
theorem dX4_readUse_36 : decode cX4_readUse 36 = .ok (.aload_n 0, 1) := by decide +kernel
theorem dX4_readUse_37 : decode cX4_readUse 37 = .ok (.getfield 85, 3) := by decide +kernel
theorem dX4_readUse_40 : decode cX4_readUse 40 = .ok (.aload_n 0, 1) := by decide +kernel
theorem dX4_readUse_41 : decode cX4_readUse 41 = .ok (.getfield 22, 3) := by decide +kernel
theorem dX4_readUse_44 : decode cX4_readUse 44 = .ok (.iload_n 1, 1) := by decide +kernel
theorem dX4_readUse_45 : decode cX4_readUse 45 = .ok (.invokevirtual 72, 3) := by decide +kernel
theorem dX4_readUse_48 : decode cX4_readUse 48 = .ok (.aload_n 0, 1) := by decide +kernel
theorem dX4_readUse_49 : decode cX4_readUse 49 = .ok (.getfield 22, 3) := by decide +kernel
theorem dX4_readUse_52 : decode cX4_readUse 52 = .ok (.iload_n 1, 1) := by decide +kernel
theorem dX4_readUse_53 : decode cX4_readUse 53 = .ok (.invokevirtual 82, 3) := by decide +kernel
theorem dX4_readUse_56 : decode cX4_readUse 56 = .ok (.invokevirtual 159, 3) := by decide +kernel
theorem dX4_readUse_59 : decode cX4_readUse 59 = .ok (.invokevirtual 124, 3) := by decide +kernel
theorem dX4_readUse_62 : decode cX4_readUse 62 = .ok (.aload_n 0, 1) := by decide +kernel
theorem dX4_readUse_63 : decode cX4_readUse 63 = .ok (.dup, 1) := by decide +kernel
theorem dX4_readUse_64 : decode cX4_readUse 64 = .ok (.getfield 40, 3) := by decide +kernel
theorem dX4_readUse_67 : decode cX4_readUse 67 = .ok (.iconst 1, 1) := by decide +kernel
theorem dX4_readUse_68 : decode cX4_readUse 68 = .ok (.iadd, 1) := by decide +kernel
theorem dX4_readUse_69 : decode cX4_readUse 69 = .ok (.putfield 40, 3) := by decide +kernel
theorem dX4_readUse_72 : decode cX4_readUse 72 = .ok (.iconst 1, 1) := by decide +kernel
theorem dX4_readUse_73 : decode cX4_readUse 73 = .ok (.ireturn, 1) := by decide +kernel
set_option maxRecDepth 20000 in
theorem ggX4_readField_X8_letterAt : GoodIn wsX4_readField wsX8_letterAt := goodIn_r _ [8, 9, 10, 44, 45, 46] (by decide +kernel) (by decide +kernel)
set_option maxRecDepth 20000 in
theorem gX4_readField_X8_letterAt : GoodIn wsX4_readField (wsV RX4 82 RX8 yX8_letterAt wsX8_letterAt) := goodIn_app (goodIn_of _ (by decide +kernel)) ggX4_readField_X8_letterAt
set_option maxRecDepth 20000 in
theorem ggX4_readField_X8_kindAt : GoodIn wsX4_readField wsX8_kindAt := goodIn_r _ [14, 9, 10, 44, 45, 46] (by decide +kernel) (by decide +kernel)
set_option maxRecDepth 20000 in
theorem gX4_readField_X8_kindAt : GoodIn wsX4_readField (wsV RX4 68 RX8 yX8_kindAt wsX8_kindAt) := goodIn_app (goodIn_of _ (by decide +kernel)) ggX4_readField_X8_kindAt
set_option maxRecDepth 20000 in
theorem ggX4_readField_X8_placeAt : GoodIn wsX4_readField wsX8_placeAt := goodIn_r _ [18, 9, 10, 19, 44, 45, 46] (by decide +kernel) (by decide +kernel)
set_option maxRecDepth 20000 in
theorem gX4_readField_X8_placeAt : GoodIn wsX4_readField (wsV RX4 72 RX8 yX8_placeAt wsX8_placeAt) := goodIn_app (goodIn_of _ (by decide +kernel)) ggX4_readField_X8_placeAt
set_option maxRecDepth 20000 in
theorem ggX4_readField_X4_refuse : GoodIn wsX4_readField wsX4_refuse := goodIn_r _ [24, 25, 26, 34, 35, 36, 37, 38, 39, 40, 41, 42, 43] (by decide +kernel) (by decide +kernel)
set_option maxRecDepth 20000 in
theorem gX4_readField_X4_refuse : GoodIn wsX4_readField (wsV RX4 75 RX4 yX4_refuse wsX4_refuse) := goodIn_app (goodIn_of _ (by decide +kernel)) ggX4_readField_X4_refuse
set_option maxRecDepth 20000 in
theorem ggX4_readField_X0_set : GoodIn wsX4_readField wsX0_set := goodIn_r _ [31, 32, 33, 47, 48] (by decide +kernel) (by decide +kernel)
set_option maxRecDepth 20000 in
theorem gX4_readField_X0_set : GoodIn wsX4_readField (wsV RX4 124 RX0 yX0_set wsX0_set) := goodIn_app (goodIn_of _ (by decide +kernel)) ggX4_readField_X0_set
theorem dX4_readField_0 : decode cX4_readField 0 = .ok (.aload_n 0, 1) := by decide +kernel
theorem dX4_readField_1 : decode cX4_readField 1 = .ok (.getfield 22, 3) := by decide +kernel
theorem dX4_readField_4 : decode cX4_readField 4 = .ok (.aload_n 0, 1) := by decide +kernel
theorem dX4_readField_5 : decode cX4_readField 5 = .ok (.getfield 40, 3) := by decide +kernel
theorem dX4_readField_8 : decode cX4_readField 8 = .ok (.invokevirtual 82, 3) := by decide +kernel
theorem dX4_readField_11 : decode cX4_readField 11 = .ok (.istore_n 3, 1) := by decide +kernel
theorem dX4_readField_12 : decode cX4_readField 12 = .ok (.aload_n 0, 1) := by decide +kernel
theorem dX4_readField_13 : decode cX4_readField 13 = .ok (.getfield 22, 3) := by decide +kernel
theorem dX4_readField_16 : decode cX4_readField 16 = .ok (.aload_n 0, 1) := by decide +kernel
theorem dX4_readField_17 : decode cX4_readField 17 = .ok (.getfield 40, 3) := by decide +kernel
theorem dX4_readField_20 : decode cX4_readField 20 = .ok (.invokevirtual 68, 3) := by decide +kernel
theorem dX4_readField_23 : decode cX4_readField 23 = .ok (.iconst 2, 1) := by decide +kernel
theorem dX4_readField_24 : decode cX4_readField 24 = .ok (.if_icmp .ne 15, 3) := by decide +kernel
theorem dX4_readField_27 : decode cX4_readField 27 = .ok (.iload_n 3, 1) := by decide +kernel
theorem dX4_readField_28 : decode cX4_readField 28 = .ok (.bipush 15, 2) := by decide +kernel
theorem dX4_readField_30 : decode cX4_readField 30 = .ok (.if_icmp .eq 26, 3) := by decide +kernel
theorem dX4_readField_33 : decode cX4_readField 33 = .ok (.iload_n 3, 1) := by decide +kernel
theorem dX4_readField_34 : decode cX4_readField 34 = .ok (.bipush 16, 2) := by decide +kernel
theorem dX4_readField_36 : decode cX4_readField 36 = .ok (.if_icmp .eq 20, 3) := by decide +kernel
theorem dX4_readField_39 : decode cX4_readField 39 = .ok (.aload_n 0, 1) := by decide +kernel
theorem dX4_readField_40 : decode cX4_readField 40 = .ok (.iconst 1, 1) := by decide +kernel
theorem dX4_readField_41 : decode cX4_readField 41 = .ok (.aload_n 0, 1) := by decide +kernel
theorem dX4_readField_42 : decode cX4_readField 42 = .ok (.getfield 22, 3) := by decide +kernel
theorem dX4_readField_45 : decode cX4_readField 45 = .ok (.aload_n 0, 1) := by decide +kernel
theorem dX4_readField_46 : decode cX4_readField 46 = .ok (.getfield 40, 3) := by decide +kernel
theorem dX4_readField_49 : decode cX4_readField 49 = .ok (.invokevirtual 72, 3) := by decide +kernel
theorem dX4_readField_52 : decode cX4_readField 52 = .ok (.invokevirtual 75, 3) := by decide +kernel
theorem dX4_readField_55 : decode cX4_readField 55 = .ok (.ireturn, 1) := by decide +kernel
theorem dX4_readField_56 : decode cX4_readField 56 = .ok (.aload_n 0, 1) := by decide +kernel
theorem dX4_readField_57 : decode cX4_readField 57 = .ok (.getfield 36, 3) := by decide +kernel
theorem dX4_readField_60 : decode cX4_readField 60 = .ok (.iload_n 1, 1) := by decide +kernel
theorem dX4_readField_61 : decode cX4_readField 61 = .ok (.iload_n 2, 1) := by decide +kernel
theorem dX4_readField_62 : decode cX4_readField 62 = .ok (.iload_n 3, 1) := by decide +kernel
theorem dX4_readField_63 : decode cX4_readField 63 = .ok (.bipush 15, 2) := by decide +kernel
theorem dX4_readField_65 : decode cX4_readField 65 = .ok (.isub, 1) := by decide +kernel
theorem dX4_readField_66 : decode cX4_readField 66 = .ok (.invokevirtual 124, 3) := by decide +kernel
theorem dX4_readField_69 : decode cX4_readField 69 = .ok (.aload_n 0, 1) := by decide +kernel
theorem dX4_readField_70 : decode cX4_readField 70 = .ok (.dup, 1) := by decide +kernel
theorem dX4_readField_71 : decode cX4_readField 71 = .ok (.getfield 40, 3) := by decide +kernel
theorem dX4_readField_74 : decode cX4_readField 74 = .ok (.iconst 1, 1) := by decide +kernel
theorem dX4_readField_75 : decode cX4_readField 75 = .ok (.iadd, 1) := by decide +kernel
theorem dX4_readField_76 : decode cX4_readField 76 = .ok (.putfield 40, 3) := by decide +kernel
theorem dX4_readField_79 : decode cX4_readField 79 = .ok (.iconst 1, 1) := by decide +kernel
theorem dX4_readField_80 : decode cX4_readField 80 = .ok (.ireturn, 1) := by decide +kernel
set_option maxRecDepth 20000 in
theorem ggX4_readReturn_X0_add : GoodIn wsX4_readReturn wsX0_add := goodIn_r _ [8, 9, 10, 11, 12, 7, 13, 14, 102, 103] (by decide +kernel) (by decide +kernel)
set_option maxRecDepth 20000 in
theorem gX4_readReturn_X0_add : GoodIn wsX4_readReturn (wsV RX4 120 RX0 yX0_add wsX0_add) := goodIn_app (goodIn_of _ (by decide +kernel)) ggX4_readReturn_X0_add
set_option maxRecDepth 20000 in
theorem ggX4_readReturn_X4_seen : GoodIn wsX4_readReturn wsX4_seen := goodIn_r _ [19, 20, 1, 21, 22, 23, 24, 25, 26, 27, 92, 93, 94, 95, 96, 97, 98, 99, 100, 101, 104, 105, 106] (by decide +kernel) (by decide +kernel)
set_option maxRecDepth 20000 in
theorem gX4_readReturn_X4_seen : GoodIn wsX4_readReturn (wsV RX4 51 RX4 yX4_seen wsX4_seen) := goodIn_app (goodIn_of _ (by decide +kernel)) ggX4_readReturn_X4_seen
set_option maxRecDepth 20000 in
theorem ggX4_readReturn_X0_set : GoodIn wsX4_readReturn wsX0_set := goodIn_r _ [13, 9, 14, 102, 103] (by decide +kernel) (by decide +kernel)
set_option maxRecDepth 20000 in
theorem gX4_readReturn_X0_set : GoodIn wsX4_readReturn (wsV RX4 124 RX0 yX0_set wsX0_set) := goodIn_app (goodIn_of _ (by decide +kernel)) ggX4_readReturn_X0_set
set_option maxRecDepth 20000 in
theorem ggX4_readReturn_X4_readValue : GoodIn wsX4_readReturn wsX4_readValue := goodIn_r _ [32, 20, 1, 2, 21, 22, 23, 24, 25, 26, 27, 28, 11, 12, 7, 13, 9, 14, 33, 34, 35, 18, 36, 37, 38, 39, 40, 41, 42, 43, 44, 45, 46, 47, 48, 49, 50, 51, 52, 53, 54, 55, 56, 57, 58, 59, 15, 16, 17, 19, 60, 61, 62, 63, 64, 65, 3, 66, 67, 68, 69, 70, 71, 72, 73, 74, 75, 76, 77, 78, 79, 80, 81, 82, 83, 84, 85, 86, 87, 88, 89, 90, 91, 10, 92, 93, 94, 95, 96, 97, 98, 99, 100, 101, 104, 105, 106, 102, 103, 107, 108, 109, 110, 111, 112, 113, 114, 115, 116, 117, 118, 119, 120] (by decide +kernel) (by decide +kernel)
set_option maxRecDepth 20000 in
theorem gX4_readReturn_X4_readValue : GoodIn wsX4_readReturn (wsV RX4 153 RX4 yX4_readValue wsX4_readValue) := goodIn_app (goodIn_of _ (by decide +kernel)) ggX4_readReturn_X4_readValue
set_option maxRecDepth 20000 in
theorem ggX4_readReturn_X4_take : GoodIn wsX4_readReturn wsX4_take := goodIn_r _ [44, 20, 1, 21, 22, 23, 24, 25, 26, 27, 45, 46, 47, 48, 49, 50, 51, 52, 18, 53, 54, 55, 92, 93, 94, 95, 96, 97, 98, 99, 100, 101, 104, 105, 106] (by decide +kernel) (by decide +kernel)
set_option maxRecDepth 20000 in
theorem gX4_readReturn_X4_take : GoodIn wsX4_readReturn (wsV RX4 79 RX4 yX4_take wsX4_take) := goodIn_app (goodIn_of _ (by decide +kernel)) ggX4_readReturn_X4_take
theorem dX4_readReturn_0 : decode cX4_readReturn 0 = .ok (.aload_n 0, 1) := by decide +kernel
theorem dX4_readReturn_1 : decode cX4_readReturn 1 = .ok (.dup, 1) := by decide +kernel
theorem dX4_readReturn_2 : decode cX4_readReturn 2 = .ok (.getfield 40, 3) := by decide +kernel
theorem dX4_readReturn_5 : decode cX4_readReturn 5 = .ok (.iconst 1, 1) := by decide +kernel
theorem dX4_readReturn_6 : decode cX4_readReturn 6 = .ok (.iadd, 1) := by decide +kernel
theorem dX4_readReturn_7 : decode cX4_readReturn 7 = .ok (.putfield 40, 3) := by decide +kernel
theorem dX4_readReturn_10 : decode cX4_readReturn 10 = .ok (.aload_n 0, 1) := by decide +kernel
theorem dX4_readReturn_11 : decode cX4_readReturn 11 = .ok (.getfield 36, 3) := by decide +kernel
theorem dX4_readReturn_14 : decode cX4_readReturn 14 = .ok (.bipush 6, 2) := by decide +kernel
theorem dX4_readReturn_16 : decode cX4_readReturn 16 = .ok (.aload_n 0, 1) := by decide +kernel
theorem dX4_readReturn_17 : decode cX4_readReturn 17 = .ok (.getfield 85, 3) := by decide +kernel
theorem dX4_readReturn_20 : decode cX4_readReturn 20 = .ok (.invokevirtual 120, 3) := by decide +kernel
theorem dX4_readReturn_23 : decode cX4_readReturn 23 = .ok (.istore_n 1, 1) := by decide +kernel
theorem dX4_readReturn_24 : decode cX4_readReturn 24 = .ok (.aload_n 0, 1) := by decide +kernel
theorem dX4_readReturn_25 : decode cX4_readReturn 25 = .ok (.bipush 9, 2) := by decide +kernel
theorem dX4_readReturn_27 : decode cX4_readReturn 27 = .ok (.invokevirtual 51, 3) := by decide +kernel
theorem dX4_readReturn_30 : decode cX4_readReturn 30 = .ok (.ifCond .eq 25, 3) := by decide +kernel
theorem dX4_readReturn_33 : decode cX4_readReturn 33 = .ok (.aload_n 0, 1) := by decide +kernel
theorem dX4_readReturn_34 : decode cX4_readReturn 34 = .ok (.getfield 36, 3) := by decide +kernel
theorem dX4_readReturn_37 : decode cX4_readReturn 37 = .ok (.iload_n 1, 1) := by decide +kernel
theorem dX4_readReturn_38 : decode cX4_readReturn 38 = .ok (.iconst 4, 1) := by decide +kernel
theorem dX4_readReturn_39 : decode cX4_readReturn 39 = .ok (.iconst 0, 1) := by decide +kernel
theorem dX4_readReturn_40 : decode cX4_readReturn 40 = .ok (.invokevirtual 124, 3) := by decide +kernel
theorem dX4_readReturn_43 : decode cX4_readReturn 43 = .ok (.aload_n 0, 1) := by decide +kernel
theorem dX4_readReturn_44 : decode cX4_readReturn 44 = .ok (.dup, 1) := by decide +kernel
theorem dX4_readReturn_45 : decode cX4_readReturn 45 = .ok (.getfield 40, 3) := by decide +kernel
theorem dX4_readReturn_48 : decode cX4_readReturn 48 = .ok (.iconst 1, 1) := by decide +kernel
theorem dX4_readReturn_49 : decode cX4_readReturn 49 = .ok (.iadd, 1) := by decide +kernel
theorem dX4_readReturn_50 : decode cX4_readReturn 50 = .ok (.putfield 40, 3) := by decide +kernel
theorem dX4_readReturn_53 : decode cX4_readReturn 53 = .ok (.iconst 1, 1) := by decide +kernel
theorem dX4_readReturn_54 : decode cX4_readReturn 54 = .ok (.ireturn, 1) := by decide +kernel
theorem dX4_readReturn_55 : decode cX4_readReturn 55 = .ok (.aload_n 0, 1) := by decide +kernel
theorem dX4_readReturn_56 : decode cX4_readReturn 56 = .ok (.iload_n 1, 1) := by decide +kernel
theorem dX4_readReturn_57 : decode cX4_readReturn 57 = .ok (.invokevirtual 153, 3) := by decide +kernel
theorem dX4_readReturn_60 : decode cX4_readReturn 60 = .ok (.ifCond .eq 16, 3) := by decide +kernel
theorem dX4_readReturn_63 : decode cX4_readReturn 63 = .ok (.aload_n 0, 1) := by decide +kernel
theorem dX4_readReturn_64 : decode cX4_readReturn 64 = .ok (.bipush 9, 2) := by decide +kernel
theorem dX4_readReturn_66 : decode cX4_readReturn 66 = .ok (.invokevirtual 79, 3) := by decide +kernel
theorem dX4_readReturn_69 : decode cX4_readReturn 69 = .ok (.ifCond .eq 7, 3) := by decide +kernel
theorem dX4_readReturn_72 : decode cX4_readReturn 72 = .ok (.iconst 1, 1) := by decide +kernel
theorem dX4_readReturn_73 : decode cX4_readReturn 73 = .ok (.goto 4, 3) := by decide +kernel
theorem dX4_readReturn_76 : decode cX4_readReturn 76 = .ok (.iconst 0, 1) := by decide +kernel
theorem dX4_readReturn_77 : decode cX4_readReturn 77 = .ok (.ireturn, 1) := by decide +kernel
set_option maxRecDepth 20000 in
theorem ggX4_readBranch_X4_seen : GoodIn wsX4_readBranch wsX4_seen := goodIn_r _ [11, 2, 1, 12, 13, 14, 15, 16, 17, 18, 73, 74, 75, 76, 77, 78, 79, 80, 81, 82, 97, 98, 99] (by decide +kernel) (by decide +kernel)
set_option maxRecDepth 20000 in
theorem gX4_readBranch_X4_seen : GoodIn wsX4_readBranch (wsV RX4 51 RX4 yX4_seen wsX4_seen) := goodIn_app (goodIn_of _ (by decide +kernel)) ggX4_readBranch_X4_seen
set_option maxRecDepth 20000 in
theorem ggX4_readBranch_X8_placeAt : GoodIn wsX4_readBranch wsX8_placeAt := goodIn_r _ [22, 17, 18, 23, 97, 98, 99] (by decide +kernel) (by decide +kernel)
set_option maxRecDepth 20000 in
theorem gX4_readBranch_X8_placeAt : GoodIn wsX4_readBranch (wsV RX4 72 RX8 yX8_placeAt wsX8_placeAt) := goodIn_app (goodIn_of _ (by decide +kernel)) ggX4_readBranch_X8_placeAt
set_option maxRecDepth 20000 in
theorem ggX4_readBranch_X4_refuse : GoodIn wsX4_readBranch wsX4_refuse := goodIn_r _ [27, 28, 29, 73, 74, 75, 76, 77, 78, 79, 80, 81, 82] (by decide +kernel) (by decide +kernel)
set_option maxRecDepth 20000 in
theorem gX4_readBranch_X4_refuse : GoodIn wsX4_readBranch (wsV RX4 75 RX4 yX4_refuse wsX4_refuse) := goodIn_app (goodIn_of _ (by decide +kernel)) ggX4_readBranch_X4_refuse
set_option maxRecDepth 20000 in
theorem ggX4_readBranch_X0_add : GoodIn wsX4_readBranch wsX0_add := goodIn_r _ [34, 35, 36, 37, 38, 33, 39, 40, 100, 101] (by decide +kernel) (by decide +kernel)
set_option maxRecDepth 20000 in
theorem gX4_readBranch_X0_add : GoodIn wsX4_readBranch (wsV RX4 120 RX0 yX0_add wsX0_add) := goodIn_app (goodIn_of _ (by decide +kernel)) ggX4_readBranch_X0_add
set_option maxRecDepth 20000 in
theorem ggX4_readBranch_X3_addTest : GoodIn wsX4_readBranch wsX3_addTest := goodIn_r _ [45, 46, 47, 48, 83, 84, 85, 86, 87, 88, 89, 90, 91, 92, 93, 94, 95, 96] (by decide +kernel) (by decide +kernel)
set_option maxRecDepth 20000 in
theorem gX4_readBranch_X3_addTest : GoodIn wsX4_readBranch (wsV RX4 166 RX3 yX3_addTest wsX3_addTest) := goodIn_app (goodIn_of _ (by decide +kernel)) ggX4_readBranch_X3_addTest
set_option maxRecDepth 20000 in
theorem ggX4_readBranch_X0_set : GoodIn wsX4_readBranch wsX0_set := goodIn_r _ [39, 35, 40, 100, 101] (by decide +kernel) (by decide +kernel)
set_option maxRecDepth 20000 in
theorem gX4_readBranch_X0_set : GoodIn wsX4_readBranch (wsV RX4 124 RX0 yX0_set wsX0_set) := goodIn_app (goodIn_of _ (by decide +kernel)) ggX4_readBranch_X0_set
set_option maxRecDepth 20000 in
theorem ggX4_readBranch_X8_letterAt : GoodIn wsX4_readBranch wsX8_letterAt := goodIn_r _ [53, 17, 18, 97, 98, 99] (by decide +kernel) (by decide +kernel)
set_option maxRecDepth 20000 in
theorem gX4_readBranch_X8_letterAt : GoodIn wsX4_readBranch (wsV RX4 82 RX8 yX8_letterAt wsX8_letterAt) := goodIn_app (goodIn_of _ (by decide +kernel)) ggX4_readBranch_X8_letterAt
set_option maxRecDepth 20000 in
theorem ggX4_readBranch_X4_readComparison : GoodIn wsX4_readBranch wsX4_readComparison := goodIn_r _ [57, 5, 7, 8, 9, 10, 11, 2, 1, 12, 13, 14, 15, 16, 17, 18, 49, 37, 38, 33, 39, 35, 40, 58, 59, 60, 61, 19, 20, 21, 22, 23, 24, 25, 26, 27, 28, 29, 73, 74, 75, 76, 77, 78, 79, 80, 81, 82, 97, 98, 99, 100, 101] (by decide +kernel) (by decide +kernel)
set_option maxRecDepth 20000 in
theorem gX4_readBranch_X4_readComparison : GoodIn wsX4_readBranch (wsV RX4 169 RX4 yX4_readComparison wsX4_readComparison) := goodIn_app (goodIn_of _ (by decide +kernel)) ggX4_readBranch_X4_readComparison
set_option maxRecDepth 20000 in
theorem ggX4_readBranch_X4_openBlock : GoodIn wsX4_readBranch wsX4_openBlock := goodIn_r _ [65, 1, 66, 2, 67, 68, 58, 59, 60, 10, 61, 12, 13, 14, 15, 16, 17, 18, 19, 20, 21, 22, 23, 24, 25, 26, 27, 28, 29, 69, 70, 71, 72, 73, 74, 75, 76, 77, 78, 79, 80, 81, 82, 97, 98, 99] (by decide +kernel) (by decide +kernel)
set_option maxRecDepth 20000 in
theorem gX4_readBranch_X4_openBlock : GoodIn wsX4_readBranch (wsV RX4 98 RX4 yX4_openBlock wsX4_openBlock) := goodIn_app (goodIn_of _ (by decide +kernel)) ggX4_readBranch_X4_openBlock
theorem dX4_readBranch_0 : decode cX4_readBranch 0 = .ok (.aload_n 0, 1) := by decide +kernel
theorem dX4_readBranch_1 : decode cX4_readBranch 1 = .ok (.dup, 1) := by decide +kernel
theorem dX4_readBranch_2 : decode cX4_readBranch 2 = .ok (.getfield 40, 3) := by decide +kernel
theorem dX4_readBranch_5 : decode cX4_readBranch 5 = .ok (.iconst 1, 1) := by decide +kernel
theorem dX4_readBranch_6 : decode cX4_readBranch 6 = .ok (.iadd, 1) := by decide +kernel
theorem dX4_readBranch_7 : decode cX4_readBranch 7 = .ok (.putfield 40, 3) := by decide +kernel
theorem dX4_readBranch_10 : decode cX4_readBranch 10 = .ok (.aload_n 0, 1) := by decide +kernel
theorem dX4_readBranch_11 : decode cX4_readBranch 11 = .ok (.bipush 19, 2) := by decide +kernel
theorem dX4_readBranch_13 : decode cX4_readBranch 13 = .ok (.invokevirtual 51, 3) := by decide +kernel
theorem dX4_readBranch_16 : decode cX4_readBranch 16 = .ok (.istore_n 2, 1) := by decide +kernel
theorem dX4_readBranch_17 : decode cX4_readBranch 17 = .ok (.aload_n 0, 1) := by decide +kernel
theorem dX4_readBranch_18 : decode cX4_readBranch 18 = .ok (.getfield 22, 3) := by decide +kernel
theorem dX4_readBranch_21 : decode cX4_readBranch 21 = .ok (.aload_n 0, 1) := by decide +kernel
theorem dX4_readBranch_22 : decode cX4_readBranch 22 = .ok (.getfield 40, 3) := by decide +kernel
theorem dX4_readBranch_25 : decode cX4_readBranch 25 = .ok (.invokevirtual 72, 3) := by decide +kernel
theorem dX4_readBranch_28 : decode cX4_readBranch 28 = .ok (.istore_n 3, 1) := by decide +kernel
theorem dX4_readBranch_29 : decode cX4_readBranch 29 = .ok (.iload_n 2, 1) := by decide +kernel
theorem dX4_readBranch_30 : decode cX4_readBranch 30 = .ok (.ifCond .ne 18, 3) := by decide +kernel
theorem dX4_readBranch_33 : decode cX4_readBranch 33 = .ok (.aload_n 0, 1) := by decide +kernel
theorem dX4_readBranch_34 : decode cX4_readBranch 34 = .ok (.iconst 2, 1) := by decide +kernel
theorem dX4_readBranch_35 : decode cX4_readBranch 35 = .ok (.invokevirtual 51, 3) := by decide +kernel
theorem dX4_readBranch_38 : decode cX4_readBranch 38 = .ok (.ifCond .ne 10, 3) := by decide +kernel
theorem dX4_readBranch_41 : decode cX4_readBranch 41 = .ok (.aload_n 0, 1) := by decide +kernel
theorem dX4_readBranch_42 : decode cX4_readBranch 42 = .ok (.iconst 1, 1) := by decide +kernel
theorem dX4_readBranch_43 : decode cX4_readBranch 43 = .ok (.iload_n 3, 1) := by decide +kernel
theorem dX4_readBranch_44 : decode cX4_readBranch 44 = .ok (.invokevirtual 75, 3) := by decide +kernel
theorem dX4_readBranch_47 : decode cX4_readBranch 47 = .ok (.ireturn, 1) := by decide +kernel
theorem dX4_readBranch_48 : decode cX4_readBranch 48 = .ok (.aload_n 0, 1) := by decide +kernel
theorem dX4_readBranch_49 : decode cX4_readBranch 49 = .ok (.getfield 26, 3) := by decide +kernel
theorem dX4_readBranch_52 : decode cX4_readBranch 52 = .ok (.getfield 163, 3) := by decide +kernel
theorem dX4_readBranch_55 : decode cX4_readBranch 55 = .ok (.bipush 24, 2) := by decide +kernel
theorem dX4_readBranch_57 : decode cX4_readBranch 57 = .ok (.if_icmp .lt 10, 3) := by decide +kernel
theorem dX4_readBranch_60 : decode cX4_readBranch 60 = .ok (.aload_n 0, 1) := by decide +kernel
theorem dX4_readBranch_61 : decode cX4_readBranch 61 = .ok (.iconst 2, 1) := by decide +kernel
theorem dX4_readBranch_62 : decode cX4_readBranch 62 = .ok (.iload_n 3, 1) := by decide +kernel
theorem dX4_readBranch_63 : decode cX4_readBranch 63 = .ok (.invokevirtual 75, 3) := by decide +kernel
theorem dX4_readBranch_66 : decode cX4_readBranch 66 = .ok (.ireturn, 1) := by decide +kernel
theorem dX4_readBranch_67 : decode cX4_readBranch 67 = .ok (.aload_n 0, 1) := by decide +kernel
theorem dX4_readBranch_68 : decode cX4_readBranch 68 = .ok (.getfield 36, 3) := by decide +kernel
theorem dX4_readBranch_71 : decode cX4_readBranch 71 = .ok (.iconst 2, 1) := by decide +kernel
theorem dX4_readBranch_72 : decode cX4_readBranch 72 = .ok (.aload_n 0, 1) := by decide +kernel
theorem dX4_readBranch_73 : decode cX4_readBranch 73 = .ok (.getfield 85, 3) := by decide +kernel
theorem dX4_readBranch_76 : decode cX4_readBranch 76 = .ok (.invokevirtual 120, 3) := by decide +kernel
theorem dX4_readBranch_79 : decode cX4_readBranch 79 = .ok (.istore 4, 2) := by decide +kernel
theorem dX4_readBranch_81 : decode cX4_readBranch 81 = .ok (.aload_n 0, 1) := by decide +kernel
theorem dX4_readBranch_82 : decode cX4_readBranch 82 = .ok (.getfield 36, 3) := by decide +kernel
theorem dX4_readBranch_85 : decode cX4_readBranch 85 = .ok (.iload 4, 2) := by decide +kernel
theorem dX4_readBranch_87 : decode cX4_readBranch 87 = .ok (.iconst 3, 1) := by decide +kernel
theorem dX4_readBranch_88 : decode cX4_readBranch 88 = .ok (.aload_n 0, 1) := by decide +kernel
theorem dX4_readBranch_89 : decode cX4_readBranch 89 = .ok (.getfield 26, 3) := by decide +kernel
theorem dX4_readBranch_92 : decode cX4_readBranch 92 = .ok (.aload_n 0, 1) := by decide +kernel
theorem dX4_readBranch_93 : decode cX4_readBranch 93 = .ok (.getfield 85, 3) := by decide +kernel
theorem dX4_readBranch_96 : decode cX4_readBranch 96 = .ok (.iload_n 3, 1) := by decide +kernel
theorem dX4_readBranch_97 : decode cX4_readBranch 97 = .ok (.invokevirtual 166, 3) := by decide +kernel
theorem dX4_readBranch_100 : decode cX4_readBranch 100 = .ok (.invokevirtual 124, 3) := by decide +kernel
theorem dX4_readBranch_103 : decode cX4_readBranch 103 = .ok (.aload_n 0, 1) := by decide +kernel
theorem dX4_readBranch_104 : decode cX4_readBranch 104 = .ok (.getfield 36, 3) := by decide +kernel
theorem dX4_readBranch_107 : decode cX4_readBranch 107 = .ok (.iload 4, 2) := by decide +kernel
theorem dX4_readBranch_109 : decode cX4_readBranch 109 = .ok (.iconst 4, 1) := by decide +kernel
theorem dX4_readBranch_110 : decode cX4_readBranch 110 = .ok (.iconst 1, 1) := by decide +kernel
theorem dX4_readBranch_111 : decode cX4_readBranch 111 = .ok (.invokevirtual 124, 3) := by decide +kernel
theorem dX4_readBranch_114 : decode cX4_readBranch 114 = .ok (.aload_n 0, 1) := by decide +kernel
theorem dX4_readBranch_115 : decode cX4_readBranch 115 = .ok (.getfield 36, 3) := by decide +kernel
theorem dX4_readBranch_118 : decode cX4_readBranch 118 = .ok (.iload 4, 2) := by decide +kernel
theorem dX4_readBranch_120 : decode cX4_readBranch 120 = .ok (.iconst 1, 1) := by decide +kernel
theorem dX4_readBranch_121 : decode cX4_readBranch 121 = .ok (.aload_n 0, 1) := by decide +kernel
theorem dX4_readBranch_122 : decode cX4_readBranch 122 = .ok (.getfield 22, 3) := by decide +kernel
theorem dX4_readBranch_125 : decode cX4_readBranch 125 = .ok (.aload_n 0, 1) := by decide +kernel
theorem dX4_readBranch_126 : decode cX4_readBranch 126 = .ok (.getfield 40, 3) := by decide +kernel
theorem dX4_readBranch_129 : decode cX4_readBranch 129 = .ok (.invokevirtual 82, 3) := by decide +kernel
theorem dX4_readBranch_132 : decode cX4_readBranch 132 = .ok (.invokevirtual 124, 3) := by decide +kernel
theorem dX4_readBranch_135 : decode cX4_readBranch 135 = .ok (.aload_n 0, 1) := by decide +kernel
theorem dX4_readBranch_136 : decode cX4_readBranch 136 = .ok (.dup, 1) := by decide +kernel
theorem dX4_readBranch_137 : decode cX4_readBranch 137 = .ok (.getfield 40, 3) := by decide +kernel
theorem dX4_readBranch_140 : decode cX4_readBranch 140 = .ok (.iconst 1, 1) := by decide +kernel
theorem dX4_readBranch_141 : decode cX4_readBranch 141 = .ok (.iadd, 1) := by decide +kernel
theorem dX4_readBranch_142 : decode cX4_readBranch 142 = .ok (.putfield 40, 3) := by decide +kernel
theorem dX4_readBranch_145 : decode cX4_readBranch 145 = .ok (.iload_n 2, 1) := by decide +kernel
theorem dX4_readBranch_146 : decode cX4_readBranch 146 = .ok (.ifCond .ne 12, 3) := by decide +kernel
theorem dX4_readBranch_149 : decode cX4_readBranch 149 = .ok (.aload_n 0, 1) := by decide +kernel
theorem dX4_readBranch_150 : decode cX4_readBranch 150 = .ok (.iload 4, 2) := by decide +kernel
theorem dX4_readBranch_152 : decode cX4_readBranch 152 = .ok (.invokevirtual 169, 3) := by decide +kernel
theorem dX4_readBranch_155 : decode cX4_readBranch 155 = .ok (.ifCond .eq 17, 3) := by decide +kernel
theorem dX4_readBranch_158 : decode cX4_readBranch 158 = .ok (.aload_n 0, 1) := by decide +kernel
theorem dX4_readBranch_159 : decode cX4_readBranch 159 = .ok (.iload_n 1, 1) := by decide +kernel
theorem dX4_readBranch_160 : decode cX4_readBranch 160 = .ok (.iload 4, 2) := by decide +kernel
theorem dX4_readBranch_162 : decode cX4_readBranch 162 = .ok (.invokevirtual 98, 3) := by decide +kernel
theorem dX4_readBranch_165 : decode cX4_readBranch 165 = .ok (.ifCond .eq 7, 3) := by decide +kernel
theorem dX4_readBranch_168 : decode cX4_readBranch 168 = .ok (.iconst 1, 1) := by decide +kernel
theorem dX4_readBranch_169 : decode cX4_readBranch 169 = .ok (.goto 4, 3) := by decide +kernel
theorem dX4_readBranch_172 : decode cX4_readBranch 172 = .ok (.iconst 0, 1) := by decide +kernel
theorem dX4_readBranch_173 : decode cX4_readBranch 173 = .ok (.ireturn, 1) := by decide +kernel
set_option maxRecDepth 20000 in
theorem ggX4_readComparison_X4_seen : GoodIn wsX4_readComparison wsX4_seen := goodIn_r _ [6, 7, 8, 9, 10, 11, 12, 13, 14, 15, 38, 39, 40, 41, 42, 43, 44, 45, 46, 47, 48, 49, 50] (by decide +kernel) (by decide +kernel)
set_option maxRecDepth 20000 in
theorem gX4_readComparison_X4_seen : GoodIn wsX4_readComparison (wsV RX4 51 RX4 yX4_seen wsX4_seen) := goodIn_app (goodIn_of _ (by decide +kernel)) ggX4_readComparison_X4_seen
set_option maxRecDepth 20000 in
theorem ggX4_readComparison_X0_set : GoodIn wsX4_readComparison wsX0_set := goodIn_r _ [20, 21, 22, 51, 52] (by decide +kernel) (by decide +kernel)
set_option maxRecDepth 20000 in
theorem gX4_readComparison_X0_set : GoodIn wsX4_readComparison (wsV RX4 124 RX0 yX0_set wsX0_set) := goodIn_app (goodIn_of _ (by decide +kernel)) ggX4_readComparison_X0_set
set_option maxRecDepth 20000 in
theorem ggX4_readComparison_X4_take : GoodIn wsX4_readComparison wsX4_take := goodIn_r _ [26, 7, 8, 9, 10, 11, 12, 13, 14, 15, 27, 28, 29, 30, 31, 32, 33, 34, 5, 35, 36, 37, 38, 39, 40, 41, 42, 43, 44, 45, 46, 47, 48, 49, 50] (by decide +kernel) (by decide +kernel)
set_option maxRecDepth 20000 in
theorem gX4_readComparison_X4_take : GoodIn wsX4_readComparison (wsV RX4 79 RX4 yX4_take wsX4_take) := goodIn_app (goodIn_of _ (by decide +kernel)) ggX4_readComparison_X4_take
theorem dX4_readComparison_0 : decode cX4_readComparison 0 = .ok (.aload_n 0, 1) := by decide +kernel
theorem dX4_readComparison_1 : decode cX4_readComparison 1 = .ok (.bipush 16, 2) := by decide +kernel
theorem dX4_readComparison_3 : decode cX4_readComparison 3 = .ok (.invokevirtual 51, 3) := by decide +kernel
theorem dX4_readComparison_6 : decode cX4_readComparison 6 = .ok (.istore_n 2, 1) := by decide +kernel
theorem dX4_readComparison_7 : decode cX4_readComparison 7 = .ok (.aload_n 0, 1) := by decide +kernel
theorem dX4_readComparison_8 : decode cX4_readComparison 8 = .ok (.getfield 36, 3) := by decide +kernel
theorem dX4_readComparison_11 : decode cX4_readComparison 11 = .ok (.iload_n 1, 1) := by decide +kernel
theorem dX4_readComparison_12 : decode cX4_readComparison 12 = .ok (.iconst 4, 1) := by decide +kernel
theorem dX4_readComparison_13 : decode cX4_readComparison 13 = .ok (.iload_n 2, 1) := by decide +kernel
theorem dX4_readComparison_14 : decode cX4_readComparison 14 = .ok (.ifCond .eq 8, 3) := by decide +kernel
theorem dX4_readComparison_17 : decode cX4_readComparison 17 = .ok (.bipush 7, 2) := by decide +kernel
theorem dX4_readComparison_19 : decode cX4_readComparison 19 = .ok (.goto 5, 3) := by decide +kernel
theorem dX4_readComparison_22 : decode cX4_readComparison 22 = .ok (.bipush 6, 2) := by decide +kernel
theorem dX4_readComparison_24 : decode cX4_readComparison 24 = .ok (.invokevirtual 124, 3) := by decide +kernel
theorem dX4_readComparison_27 : decode cX4_readComparison 27 = .ok (.aload_n 0, 1) := by decide +kernel
theorem dX4_readComparison_28 : decode cX4_readComparison 28 = .ok (.iload_n 2, 1) := by decide +kernel
theorem dX4_readComparison_29 : decode cX4_readComparison 29 = .ok (.ifCond .eq 8, 3) := by decide +kernel
theorem dX4_readComparison_32 : decode cX4_readComparison 32 = .ok (.bipush 16, 2) := by decide +kernel
theorem dX4_readComparison_34 : decode cX4_readComparison 34 = .ok (.goto 5, 3) := by decide +kernel
theorem dX4_readComparison_37 : decode cX4_readComparison 37 = .ok (.bipush 15, 2) := by decide +kernel
theorem dX4_readComparison_39 : decode cX4_readComparison 39 = .ok (.invokevirtual 79, 3) := by decide +kernel
theorem dX4_readComparison_42 : decode cX4_readComparison 42 = .ok (.ifCond .eq 16, 3) := by decide +kernel
theorem dX4_readComparison_45 : decode cX4_readComparison 45 = .ok (.aload_n 0, 1) := by decide +kernel
theorem dX4_readComparison_46 : decode cX4_readComparison 46 = .ok (.bipush 17, 2) := by decide +kernel
theorem dX4_readComparison_48 : decode cX4_readComparison 48 = .ok (.invokevirtual 79, 3) := by decide +kernel
theorem dX4_readComparison_51 : decode cX4_readComparison 51 = .ok (.ifCond .eq 7, 3) := by decide +kernel
theorem dX4_readComparison_54 : decode cX4_readComparison 54 = .ok (.iconst 1, 1) := by decide +kernel
theorem dX4_readComparison_55 : decode cX4_readComparison 55 = .ok (.goto 4, 3) := by decide +kernel
theorem dX4_readComparison_58 : decode cX4_readComparison 58 = .ok (.iconst 0, 1) := by decide +kernel
theorem dX4_readComparison_59 : decode cX4_readComparison 59 = .ok (.ireturn, 1) := by decide +kernel
set_option maxRecDepth 20000 in
theorem ggX4_readValue_X8_kindAt : GoodIn wsX4_readValue wsX8_kindAt := goodIn_r _ [8, 9, 10, 94, 95, 96] (by decide +kernel) (by decide +kernel)
set_option maxRecDepth 20000 in
theorem gX4_readValue_X8_kindAt : GoodIn wsX4_readValue (wsV RX4 68 RX8 yX8_kindAt wsX8_kindAt) := goodIn_app (goodIn_of _ (by decide +kernel)) ggX4_readValue_X8_kindAt
set_option maxRecDepth 20000 in
theorem ggX4_readValue_X0_set : GoodIn wsX4_readValue wsX0_set := goodIn_r _ [15, 16, 17, 97, 98] (by decide +kernel) (by decide +kernel)
set_option maxRecDepth 20000 in
theorem gX4_readValue_X0_set : GoodIn wsX4_readValue (wsV RX4 124 RX0 yX0_set wsX0_set) := goodIn_app (goodIn_of _ (by decide +kernel)) ggX4_readValue_X0_set
set_option maxRecDepth 20000 in
theorem ggX4_readValue_X4_readName : GoodIn wsX4_readValue wsX4_readName := goodIn_r _ [22, 3, 1, 2, 23, 24, 25, 7, 26, 9, 10, 11, 12, 13, 14, 15, 16, 17, 27, 28, 29, 21, 30, 4, 5, 6, 8, 31, 32, 33, 34, 35, 36, 37, 38, 39, 40, 41, 84, 85, 86, 87, 88, 89, 90, 91, 92, 93, 94, 95, 96, 97, 98] (by decide +kernel) (by decide +kernel)
set_option maxRecDepth 20000 in
theorem gX4_readValue_X4_readName : GoodIn wsX4_readValue (wsV RX4 172 RX4 yX4_readName wsX4_readName) := goodIn_app (goodIn_of _ (by decide +kernel)) ggX4_readValue_X4_readName
set_option maxRecDepth 20000 in
theorem ggX4_readValue_X4_readNameOrField : GoodIn wsX4_readValue wsX4_readNameOrField := goodIn_r _ [45, 2, 3, 1, 23, 24, 25, 7, 26, 9, 10, 11, 12, 13, 14, 15, 16, 17, 46, 47, 48, 21, 49, 4, 5, 6, 8, 50, 51, 52, 53, 54, 55, 56, 31, 32, 33, 34, 35, 36, 37, 38, 39, 40, 41, 57, 58, 59, 60, 61, 62, 63, 64, 65, 66, 67, 68, 69, 84, 85, 86, 87, 88, 89, 90, 91, 92, 93, 94, 95, 96, 97, 98, 99, 100, 101, 102, 103, 104, 105, 106, 107, 108, 109, 110, 111, 112] (by decide +kernel) (by decide +kernel)
set_option maxRecDepth 20000 in
theorem gX4_readValue_X4_readNameOrField : GoodIn wsX4_readValue (wsV RX4 175 RX4 yX4_readNameOrField wsX4_readNameOrField) := goodIn_app (goodIn_of _ (by decide +kernel)) ggX4_readValue_X4_readNameOrField
set_option maxRecDepth 20000 in
theorem ggX4_readValue_X4_readCall : GoodIn wsX4_readValue wsX4_readCall := goodIn_r _ [73, 3, 1, 2, 11, 12, 13, 14, 15, 16, 17, 23, 24, 25, 7, 26, 9, 10, 31, 32, 33, 34, 35, 27, 28, 29, 21, 30, 4, 5, 6, 8, 36, 37, 38, 39, 40, 41, 46, 47, 48, 49, 74, 75, 76, 77, 78, 79, 80, 81, 82, 83, 84, 85, 86, 87, 88, 89, 90, 91, 92, 93, 97, 98, 94, 95, 96] (by decide +kernel) (by decide +kernel)
set_option maxRecDepth 20000 in
theorem gX4_readValue_X4_readCall : GoodIn wsX4_readValue (wsV RX4 137 RX4 yX4_readCall wsX4_readCall) := goodIn_app (goodIn_of _ (by decide +kernel)) ggX4_readValue_X4_readCall
set_option maxRecDepth 20000 in
theorem ggX4_readValue_X8_placeAt : GoodIn wsX4_readValue wsX8_placeAt := goodIn_r _ [34, 9, 10, 35, 94, 95, 96] (by decide +kernel) (by decide +kernel)
set_option maxRecDepth 20000 in
theorem gX4_readValue_X8_placeAt : GoodIn wsX4_readValue (wsV RX4 72 RX8 yX8_placeAt wsX8_placeAt) := goodIn_app (goodIn_of _ (by decide +kernel)) ggX4_readValue_X8_placeAt
set_option maxRecDepth 20000 in
theorem ggX4_readValue_X4_refuse : GoodIn wsX4_readValue wsX4_refuse := goodIn_r _ [39, 40, 41, 84, 85, 86, 87, 88, 89, 90, 91, 92, 93] (by decide +kernel) (by decide +kernel)
set_option maxRecDepth 20000 in
theorem gX4_readValue_X4_refuse : GoodIn wsX4_readValue (wsV RX4 75 RX4 yX4_refuse wsX4_refuse) := goodIn_app (goodIn_of _ (by decide +kernel)) ggX4_readValue_X4_refuse
theorem dX4_readValue_0 : decode cX4_readValue 0 = .ok (.aload_n 0, 1) := by decide +kernel
theorem dX4_readValue_1 : decode cX4_readValue 1 = .ok (.getfield 22, 3) := by decide +kernel
theorem dX4_readValue_4 : decode cX4_readValue 4 = .ok (.aload_n 0, 1) := by decide +kernel
theorem dX4_readValue_5 : decode cX4_readValue 5 = .ok (.getfield 40, 3) := by decide +kernel
theorem dX4_readValue_8 : decode cX4_readValue 8 = .ok (.invokevirtual 68, 3) := by decide +kernel
theorem dX4_readValue_11 : decode cX4_readValue 11 = .ok (.lookupswitch 150 #[(2, 138), (3, 144), (17, 49), (18, 93), (19, 71)], 49) := by decide +kernel
theorem dX4_readValue_60 : decode cX4_readValue 60 = .ok (.aload_n 0, 1) := by decide +kernel
theorem dX4_readValue_61 : decode cX4_readValue 61 = .ok (.getfield 36, 3) := by decide +kernel
theorem dX4_readValue_64 : decode cX4_readValue 64 = .ok (.iload_n 1, 1) := by decide +kernel
theorem dX4_readValue_65 : decode cX4_readValue 65 = .ok (.iconst 4, 1) := by decide +kernel
theorem dX4_readValue_66 : decode cX4_readValue 66 = .ok (.iconst 0, 1) := by decide +kernel
theorem dX4_readValue_67 : decode cX4_readValue 67 = .ok (.invokevirtual 124, 3) := by decide +kernel
theorem dX4_readValue_70 : decode cX4_readValue 70 = .ok (.aload_n 0, 1) := by decide +kernel
theorem dX4_readValue_71 : decode cX4_readValue 71 = .ok (.dup, 1) := by decide +kernel
theorem dX4_readValue_72 : decode cX4_readValue 72 = .ok (.getfield 40, 3) := by decide +kernel
theorem dX4_readValue_75 : decode cX4_readValue 75 = .ok (.iconst 1, 1) := by decide +kernel
theorem dX4_readValue_76 : decode cX4_readValue 76 = .ok (.iadd, 1) := by decide +kernel
theorem dX4_readValue_77 : decode cX4_readValue 77 = .ok (.putfield 40, 3) := by decide +kernel
theorem dX4_readValue_80 : decode cX4_readValue 80 = .ok (.iconst 1, 1) := by decide +kernel
theorem dX4_readValue_81 : decode cX4_readValue 81 = .ok (.ireturn, 1) := by decide +kernel
theorem dX4_readValue_82 : decode cX4_readValue 82 = .ok (.aload_n 0, 1) := by decide +kernel
theorem dX4_readValue_83 : decode cX4_readValue 83 = .ok (.getfield 36, 3) := by decide +kernel
theorem dX4_readValue_86 : decode cX4_readValue 86 = .ok (.iload_n 1, 1) := by decide +kernel
theorem dX4_readValue_87 : decode cX4_readValue 87 = .ok (.iconst 4, 1) := by decide +kernel
theorem dX4_readValue_88 : decode cX4_readValue 88 = .ok (.iconst 1, 1) := by decide +kernel
theorem dX4_readValue_89 : decode cX4_readValue 89 = .ok (.invokevirtual 124, 3) := by decide +kernel
theorem dX4_readValue_92 : decode cX4_readValue 92 = .ok (.aload_n 0, 1) := by decide +kernel
theorem dX4_readValue_93 : decode cX4_readValue 93 = .ok (.dup, 1) := by decide +kernel
theorem dX4_readValue_94 : decode cX4_readValue 94 = .ok (.getfield 40, 3) := by decide +kernel
theorem dX4_readValue_97 : decode cX4_readValue 97 = .ok (.iconst 1, 1) := by decide +kernel
theorem dX4_readValue_98 : decode cX4_readValue 98 = .ok (.iadd, 1) := by decide +kernel
theorem dX4_readValue_99 : decode cX4_readValue 99 = .ok (.putfield 40, 3) := by decide +kernel
theorem dX4_readValue_102 : decode cX4_readValue 102 = .ok (.iconst 1, 1) := by decide +kernel
theorem dX4_readValue_103 : decode cX4_readValue 103 = .ok (.ireturn, 1) := by decide +kernel
theorem dX4_readValue_104 : decode cX4_readValue 104 = .ok (.aload_n 0, 1) := by decide +kernel
theorem dX4_readValue_105 : decode cX4_readValue 105 = .ok (.getfield 36, 3) := by decide +kernel
theorem dX4_readValue_108 : decode cX4_readValue 108 = .ok (.iload_n 1, 1) := by decide +kernel
theorem dX4_readValue_109 : decode cX4_readValue 109 = .ok (.iconst 4, 1) := by decide +kernel
theorem dX4_readValue_110 : decode cX4_readValue 110 = .ok (.iconst 2, 1) := by decide +kernel
theorem dX4_readValue_111 : decode cX4_readValue 111 = .ok (.invokevirtual 124, 3) := by decide +kernel
theorem dX4_readValue_114 : decode cX4_readValue 114 = .ok (.aload_n 0, 1) := by decide +kernel
theorem dX4_readValue_115 : decode cX4_readValue 115 = .ok (.dup, 1) := by decide +kernel
theorem dX4_readValue_116 : decode cX4_readValue 116 = .ok (.getfield 40, 3) := by decide +kernel
theorem dX4_readValue_119 : decode cX4_readValue 119 = .ok (.iconst 1, 1) := by decide +kernel
theorem dX4_readValue_120 : decode cX4_readValue 120 = .ok (.iadd, 1) := by decide +kernel
theorem dX4_readValue_121 : decode cX4_readValue 121 = .ok (.putfield 40, 3) := by decide +kernel
theorem dX4_readValue_124 : decode cX4_readValue 124 = .ok (.aload_n 0, 1) := by decide +kernel
theorem dX4_readValue_125 : decode cX4_readValue 125 = .ok (.iload_n 1, 1) := by decide +kernel
theorem dX4_readValue_126 : decode cX4_readValue 126 = .ok (.iconst 5, 1) := by decide +kernel
theorem dX4_readValue_127 : decode cX4_readValue 127 = .ok (.invokevirtual 172, 3) := by decide +kernel
theorem dX4_readValue_130 : decode cX4_readValue 130 = .ok (.ifCond .eq 17, 3) := by decide +kernel
theorem dX4_readValue_133 : decode cX4_readValue 133 = .ok (.aload_n 0, 1) := by decide +kernel
theorem dX4_readValue_134 : decode cX4_readValue 134 = .ok (.iload_n 1, 1) := by decide +kernel
theorem dX4_readValue_135 : decode cX4_readValue 135 = .ok (.bipush 6, 2) := by decide +kernel
theorem dX4_readValue_137 : decode cX4_readValue 137 = .ok (.invokevirtual 172, 3) := by decide +kernel
theorem dX4_readValue_140 : decode cX4_readValue 140 = .ok (.ifCond .eq 7, 3) := by decide +kernel
theorem dX4_readValue_143 : decode cX4_readValue 143 = .ok (.iconst 1, 1) := by decide +kernel
theorem dX4_readValue_144 : decode cX4_readValue 144 = .ok (.goto 4, 3) := by decide +kernel
theorem dX4_readValue_147 : decode cX4_readValue 147 = .ok (.iconst 0, 1) := by decide +kernel
theorem dX4_readValue_148 : decode cX4_readValue 148 = .ok (.ireturn, 1) := by decide +kernel
theorem dX4_readValue_149 : decode cX4_readValue 149 = .ok (.aload_n 0, 1) := by decide +kernel
theorem dX4_readValue_150 : decode cX4_readValue 150 = .ok (.iload_n 1, 1) := by decide +kernel
theorem dX4_readValue_151 : decode cX4_readValue 151 = .ok (.invokevirtual 175, 3) := by decide +kernel
theorem dX4_readValue_154 : decode cX4_readValue 154 = .ok (.ireturn, 1) := by decide +kernel
theorem dX4_readValue_155 : decode cX4_readValue 155 = .ok (.aload_n 0, 1) := by decide +kernel
theorem dX4_readValue_156 : decode cX4_readValue 156 = .ok (.iload_n 1, 1) := by decide +kernel
theorem dX4_readValue_157 : decode cX4_readValue 157 = .ok (.invokevirtual 137, 3) := by decide +kernel
theorem dX4_readValue_160 : decode cX4_readValue 160 = .ok (.ireturn, 1) := by decide +kernel
theorem dX4_readValue_161 : decode cX4_readValue 161 = .ok (.aload_n 0, 1) := by decide +kernel
theorem dX4_readValue_162 : decode cX4_readValue 162 = .ok (.iconst 1, 1) := by decide +kernel
theorem dX4_readValue_163 : decode cX4_readValue 163 = .ok (.aload_n 0, 1) := by decide +kernel
theorem dX4_readValue_164 : decode cX4_readValue 164 = .ok (.getfield 22, 3) := by decide +kernel
theorem dX4_readValue_167 : decode cX4_readValue 167 = .ok (.aload_n 0, 1) := by decide +kernel
theorem dX4_readValue_168 : decode cX4_readValue 168 = .ok (.getfield 40, 3) := by decide +kernel
theorem dX4_readValue_171 : decode cX4_readValue 171 = .ok (.invokevirtual 72, 3) := by decide +kernel
theorem dX4_readValue_174 : decode cX4_readValue 174 = .ok (.invokevirtual 75, 3) := by decide +kernel
theorem dX4_readValue_177 : decode cX4_readValue 177 = .ok (.ireturn, 1) := by decide +kernel
set_option maxRecDepth 20000 in
theorem ggX4_readName_X8_letterAt : GoodIn wsX4_readName wsX8_letterAt := goodIn_r _ [8, 9, 10, 48, 49, 50] (by decide +kernel) (by decide +kernel)
set_option maxRecDepth 20000 in
theorem gX4_readName_X8_letterAt : GoodIn wsX4_readName (wsV RX4 82 RX8 yX8_letterAt wsX8_letterAt) := goodIn_app (goodIn_of _ (by decide +kernel)) ggX4_readName_X8_letterAt
set_option maxRecDepth 20000 in
theorem ggX4_readName_X0_set : GoodIn wsX4_readName wsX0_set := goodIn_r _ [15, 16, 17, 51, 52] (by decide +kernel) (by decide +kernel)
set_option maxRecDepth 20000 in
theorem gX4_readName_X0_set : GoodIn wsX4_readName (wsV RX4 124 RX0 yX0_set wsX0_set) := goodIn_app (goodIn_of _ (by decide +kernel)) ggX4_readName_X0_set
set_option maxRecDepth 20000 in
theorem ggX4_readName_X4_take : GoodIn wsX4_readName wsX4_take := goodIn_r _ [22, 2, 3, 23, 24, 25, 7, 26, 9, 10, 27, 28, 29, 30, 31, 32, 33, 34, 21, 35, 36, 37, 38, 39, 40, 41, 42, 43, 44, 45, 46, 47, 48, 49, 50] (by decide +kernel) (by decide +kernel)
set_option maxRecDepth 20000 in
theorem gX4_readName_X4_take : GoodIn wsX4_readName (wsV RX4 79 RX4 yX4_take wsX4_take) := goodIn_app (goodIn_of _ (by decide +kernel)) ggX4_readName_X4_take
theorem dX4_readName_0 : decode cX4_readName 0 = .ok (.aload_n 0, 1) := by decide +kernel
theorem dX4_readName_1 : decode cX4_readName 1 = .ok (.getfield 36, 3) := by decide +kernel
theorem dX4_readName_4 : decode cX4_readName 4 = .ok (.iload_n 1, 1) := by decide +kernel
theorem dX4_readName_5 : decode cX4_readName 5 = .ok (.iload_n 2, 1) := by decide +kernel
theorem dX4_readName_6 : decode cX4_readName 6 = .ok (.aload_n 0, 1) := by decide +kernel
theorem dX4_readName_7 : decode cX4_readName 7 = .ok (.getfield 22, 3) := by decide +kernel
theorem dX4_readName_10 : decode cX4_readName 10 = .ok (.aload_n 0, 1) := by decide +kernel
theorem dX4_readName_11 : decode cX4_readName 11 = .ok (.getfield 40, 3) := by decide +kernel
theorem dX4_readName_14 : decode cX4_readName 14 = .ok (.invokevirtual 82, 3) := by decide +kernel
theorem dX4_readName_17 : decode cX4_readName 17 = .ok (.invokevirtual 124, 3) := by decide +kernel
theorem dX4_readName_20 : decode cX4_readName 20 = .ok (.aload_n 0, 1) := by decide +kernel
theorem dX4_readName_21 : decode cX4_readName 21 = .ok (.iconst 2, 1) := by decide +kernel
theorem dX4_readName_22 : decode cX4_readName 22 = .ok (.invokevirtual 79, 3) := by decide +kernel
theorem dX4_readName_25 : decode cX4_readName 25 = .ok (.ireturn, 1) := by decide +kernel
set_option maxRecDepth 20000 in
theorem ggX4_readNameOrField_X8_letterAt : GoodIn wsX4_readNameOrField wsX8_letterAt := goodIn_r _ [8, 9, 10, 68, 69, 70] (by decide +kernel) (by decide +kernel)
set_option maxRecDepth 20000 in
theorem gX4_readNameOrField_X8_letterAt : GoodIn wsX4_readNameOrField (wsV RX4 82 RX8 yX8_letterAt wsX8_letterAt) := goodIn_app (goodIn_of _ (by decide +kernel)) ggX4_readNameOrField_X8_letterAt
set_option maxRecDepth 20000 in
theorem ggX4_readNameOrField_X0_set : GoodIn wsX4_readNameOrField wsX0_set := goodIn_r _ [15, 16, 17, 71, 72] (by decide +kernel) (by decide +kernel)
set_option maxRecDepth 20000 in
theorem gX4_readNameOrField_X0_set : GoodIn wsX4_readNameOrField (wsV RX4 124 RX0 yX0_set wsX0_set) := goodIn_app (goodIn_of _ (by decide +kernel)) ggX4_readNameOrField_X0_set
set_option maxRecDepth 20000 in
theorem ggX4_readNameOrField_X4_seen : GoodIn wsX4_readNameOrField wsX4_seen := goodIn_r _ [22, 3, 1, 23, 24, 25, 7, 26, 9, 10, 58, 59, 60, 61, 62, 63, 64, 65, 66, 67, 68, 69, 70] (by decide +kernel) (by decide +kernel)
set_option maxRecDepth 20000 in
theorem gX4_readNameOrField_X4_seen : GoodIn wsX4_readNameOrField (wsV RX4 51 RX4 yX4_seen wsX4_seen) := goodIn_app (goodIn_of _ (by decide +kernel)) ggX4_readNameOrField_X4_seen
set_option maxRecDepth 20000 in
theorem ggX4_readNameOrField_X4_readUse : GoodIn wsX4_readNameOrField wsX4_readUse := goodIn_r _ [30, 31, 32, 3, 2, 33, 1, 34, 35, 36, 7, 37, 9, 10, 38, 39, 40, 41, 21, 42, 43, 44, 4, 5, 6, 8, 45, 46, 47, 48, 49, 50, 51, 52, 53, 11, 12, 13, 14, 15, 16, 17, 58, 59, 60, 61, 62, 63, 64, 65, 66, 67, 73, 74, 75, 76, 77, 78, 79, 80, 81, 82, 83, 84, 85, 86, 68, 69, 70, 71, 72] (by decide +kernel) (by decide +kernel)
set_option maxRecDepth 20000 in
theorem gX4_readNameOrField_X4_readUse : GoodIn wsX4_readNameOrField (wsV RX4 146 RX4 yX4_readUse wsX4_readUse) := goodIn_app (goodIn_of _ (by decide +kernel)) ggX4_readNameOrField_X4_readUse
set_option maxRecDepth 20000 in
theorem ggX4_readNameOrField_X4_readField : GoodIn wsX4_readNameOrField wsX4_readField := goodIn_r _ [57, 3, 1, 2, 4, 5, 6, 7, 8, 9, 10, 23, 24, 25, 26, 34, 35, 36, 37, 38, 39, 40, 41, 21, 42, 43, 44, 11, 12, 13, 14, 15, 16, 17, 58, 59, 60, 61, 62, 63, 64, 65, 66, 67, 68, 69, 70, 71, 72] (by decide +kernel) (by decide +kernel)
set_option maxRecDepth 20000 in
theorem gX4_readNameOrField_X4_readField : GoodIn wsX4_readNameOrField (wsV RX4 150 RX4 yX4_readField wsX4_readField) := goodIn_app (goodIn_of _ (by decide +kernel)) ggX4_readNameOrField_X4_readField
theorem dX4_readNameOrField_0 : decode cX4_readNameOrField 0 = .ok (.aload_n 0, 1) := by decide +kernel
theorem dX4_readNameOrField_1 : decode cX4_readNameOrField 1 = .ok (.getfield 40, 3) := by decide +kernel
theorem dX4_readNameOrField_4 : decode cX4_readNameOrField 4 = .ok (.istore_n 2, 1) := by decide +kernel
theorem dX4_readNameOrField_5 : decode cX4_readNameOrField 5 = .ok (.aload_n 0, 1) := by decide +kernel
theorem dX4_readNameOrField_6 : decode cX4_readNameOrField 6 = .ok (.getfield 36, 3) := by decide +kernel
theorem dX4_readNameOrField_9 : decode cX4_readNameOrField 9 = .ok (.iload_n 1, 1) := by decide +kernel
theorem dX4_readNameOrField_10 : decode cX4_readNameOrField 10 = .ok (.iconst 5, 1) := by decide +kernel
theorem dX4_readNameOrField_11 : decode cX4_readNameOrField 11 = .ok (.aload_n 0, 1) := by decide +kernel
theorem dX4_readNameOrField_12 : decode cX4_readNameOrField 12 = .ok (.getfield 22, 3) := by decide +kernel
theorem dX4_readNameOrField_15 : decode cX4_readNameOrField 15 = .ok (.iload_n 2, 1) := by decide +kernel
theorem dX4_readNameOrField_16 : decode cX4_readNameOrField 16 = .ok (.invokevirtual 82, 3) := by decide +kernel
theorem dX4_readNameOrField_19 : decode cX4_readNameOrField 19 = .ok (.invokevirtual 124, 3) := by decide +kernel
theorem dX4_readNameOrField_22 : decode cX4_readNameOrField 22 = .ok (.aload_n 0, 1) := by decide +kernel
theorem dX4_readNameOrField_23 : decode cX4_readNameOrField 23 = .ok (.dup, 1) := by decide +kernel
theorem dX4_readNameOrField_24 : decode cX4_readNameOrField 24 = .ok (.getfield 40, 3) := by decide +kernel
theorem dX4_readNameOrField_27 : decode cX4_readNameOrField 27 = .ok (.iconst 1, 1) := by decide +kernel
theorem dX4_readNameOrField_28 : decode cX4_readNameOrField 28 = .ok (.iadd, 1) := by decide +kernel
theorem dX4_readNameOrField_29 : decode cX4_readNameOrField 29 = .ok (.putfield 40, 3) := by decide +kernel
theorem dX4_readNameOrField_32 : decode cX4_readNameOrField 32 = .ok (.aload_n 0, 1) := by decide +kernel
theorem dX4_readNameOrField_33 : decode cX4_readNameOrField 33 = .ok (.bipush 11, 2) := by decide +kernel
theorem dX4_readNameOrField_35 : decode cX4_readNameOrField 35 = .ok (.invokevirtual 51, 3) := by decide +kernel
theorem dX4_readNameOrField_38 : decode cX4_readNameOrField 38 = .ok (.ifCond .ne 15, 3) := by decide +kernel
theorem dX4_readNameOrField_41 : decode cX4_readNameOrField 41 = .ok (.aload_n 0, 1) := by decide +kernel
theorem dX4_readNameOrField_42 : decode cX4_readNameOrField 42 = .ok (.getfield 36, 3) := by decide +kernel
theorem dX4_readNameOrField_45 : decode cX4_readNameOrField 45 = .ok (.iload_n 1, 1) := by decide +kernel
theorem dX4_readNameOrField_46 : decode cX4_readNameOrField 46 = .ok (.iconst 4, 1) := by decide +kernel
theorem dX4_readNameOrField_47 : decode cX4_readNameOrField 47 = .ok (.iconst 3, 1) := by decide +kernel
theorem dX4_readNameOrField_48 : decode cX4_readNameOrField 48 = .ok (.invokevirtual 124, 3) := by decide +kernel
theorem dX4_readNameOrField_51 : decode cX4_readNameOrField 51 = .ok (.iconst 1, 1) := by decide +kernel
theorem dX4_readNameOrField_52 : decode cX4_readNameOrField 52 = .ok (.ireturn, 1) := by decide +kernel
theorem dX4_readNameOrField_53 : decode cX4_readNameOrField 53 = .ok (.aload_n 0, 1) := by decide +kernel
theorem dX4_readNameOrField_54 : decode cX4_readNameOrField 54 = .ok (.getfield 36, 3) := by decide +kernel
theorem dX4_readNameOrField_57 : decode cX4_readNameOrField 57 = .ok (.iload_n 1, 1) := by decide +kernel
theorem dX4_readNameOrField_58 : decode cX4_readNameOrField 58 = .ok (.iconst 4, 1) := by decide +kernel
theorem dX4_readNameOrField_59 : decode cX4_readNameOrField 59 = .ok (.iconst 4, 1) := by decide +kernel
theorem dX4_readNameOrField_60 : decode cX4_readNameOrField 60 = .ok (.invokevirtual 124, 3) := by decide +kernel
theorem dX4_readNameOrField_63 : decode cX4_readNameOrField 63 = .ok (.aload_n 0, 1) := by decide +kernel
theorem dX4_readNameOrField_64 : decode cX4_readNameOrField 64 = .ok (.iload_n 2, 1) := by decide +kernel
theorem dX4_readNameOrField_65 : decode cX4_readNameOrField 65 = .ok (.iload_n 1, 1) := by decide +kernel
theorem dX4_readNameOrField_66 : decode cX4_readNameOrField 66 = .ok (.bipush 7, 2) := by decide +kernel
theorem dX4_readNameOrField_68 : decode cX4_readNameOrField 68 = .ok (.invokevirtual 146, 3) := by decide +kernel
theorem dX4_readNameOrField_71 : decode cX4_readNameOrField 71 = .ok (.ifCond .eq 17, 3) := by decide +kernel
theorem dX4_readNameOrField_74 : decode cX4_readNameOrField 74 = .ok (.aload_n 0, 1) := by decide +kernel
theorem dX4_readNameOrField_75 : decode cX4_readNameOrField 75 = .ok (.iload_n 1, 1) := by decide +kernel
theorem dX4_readNameOrField_76 : decode cX4_readNameOrField 76 = .ok (.bipush 6, 2) := by decide +kernel
theorem dX4_readNameOrField_78 : decode cX4_readNameOrField 78 = .ok (.invokevirtual 150, 3) := by decide +kernel
theorem dX4_readNameOrField_81 : decode cX4_readNameOrField 81 = .ok (.ifCond .eq 7, 3) := by decide +kernel
theorem dX4_readNameOrField_84 : decode cX4_readNameOrField 84 = .ok (.iconst 1, 1) := by decide +kernel
theorem dX4_readNameOrField_85 : decode cX4_readNameOrField 85 = .ok (.goto 4, 3) := by decide +kernel
theorem dX4_readNameOrField_88 : decode cX4_readNameOrField 88 = .ok (.iconst 0, 1) := by decide +kernel
theorem dX4_readNameOrField_89 : decode cX4_readNameOrField 89 = .ok (.ireturn, 1) := by decide +kernel
set_option maxRecDepth 20000 in
theorem ggX4_readCall_X0_set : GoodIn wsX4_readCall wsX0_set := goodIn_r _ [8, 9, 10, 62, 63] (by decide +kernel) (by decide +kernel)
set_option maxRecDepth 20000 in
theorem gX4_readCall_X0_set : GoodIn wsX4_readCall (wsV RX4 124 RX0 yX0_set wsX0_set) := goodIn_app (goodIn_of _ (by decide +kernel)) ggX4_readCall_X0_set
set_option maxRecDepth 20000 in
theorem ggX4_readCall_X8_letterAt : GoodIn wsX4_readCall wsX8_letterAt := goodIn_r _ [15, 16, 17, 64, 65, 66] (by decide +kernel) (by decide +kernel)
set_option maxRecDepth 20000 in
theorem gX4_readCall_X8_letterAt : GoodIn wsX4_readCall (wsV RX4 82 RX8 yX8_letterAt wsX8_letterAt) := goodIn_app (goodIn_of _ (by decide +kernel)) ggX4_readCall_X8_letterAt
set_option maxRecDepth 20000 in
theorem ggX4_readCall_X8_placeAt : GoodIn wsX4_readCall wsX8_placeAt := goodIn_r _ [21, 16, 17, 22, 64, 65, 66] (by decide +kernel) (by decide +kernel)
set_option maxRecDepth 20000 in
theorem gX4_readCall_X8_placeAt : GoodIn wsX4_readCall (wsV RX4 72 RX8 yX8_placeAt wsX8_placeAt) := goodIn_app (goodIn_of _ (by decide +kernel)) ggX4_readCall_X8_placeAt
set_option maxRecDepth 20000 in
theorem ggX4_readCall_X4_take : GoodIn wsX4_readCall wsX4_take := goodIn_r _ [27, 2, 3, 28, 29, 30, 14, 31, 16, 17, 18, 19, 20, 21, 22, 32, 33, 34, 26, 35, 36, 37, 52, 53, 54, 55, 56, 57, 58, 59, 60, 61, 64, 65, 66] (by decide +kernel) (by decide +kernel)
set_option maxRecDepth 20000 in
theorem gX4_readCall_X4_take : GoodIn wsX4_readCall (wsV RX4 79 RX4 yX4_take wsX4_take) := goodIn_app (goodIn_of _ (by decide +kernel)) ggX4_readCall_X4_take
set_option maxRecDepth 20000 in
theorem ggX4_readCall_X4_seen : GoodIn wsX4_readCall wsX4_seen := goodIn_r _ [41, 2, 3, 28, 29, 30, 14, 31, 16, 17, 52, 53, 54, 55, 56, 57, 58, 59, 60, 61, 64, 65, 66] (by decide +kernel) (by decide +kernel)
set_option maxRecDepth 20000 in
theorem gX4_readCall_X4_seen : GoodIn wsX4_readCall (wsV RX4 51 RX4 yX4_seen wsX4_seen) := goodIn_app (goodIn_of _ (by decide +kernel)) ggX4_readCall_X4_seen
set_option maxRecDepth 20000 in
theorem ggX4_readCall_X4_refuse : GoodIn wsX4_readCall wsX4_refuse := goodIn_r _ [35, 36, 37, 52, 53, 54, 55, 56, 57, 58, 59, 60, 61] (by decide +kernel) (by decide +kernel)
set_option maxRecDepth 20000 in
theorem gX4_readCall_X4_refuse : GoodIn wsX4_readCall (wsV RX4 75 RX4 yX4_refuse wsX4_refuse) := goodIn_app (goodIn_of _ (by decide +kernel)) ggX4_readCall_X4_refuse
set_option maxRecDepth 20000 in
theorem ggX4_readCall_X0_addArgument : GoodIn wsX4_readCall wsX0_addArgument := goodIn_r _ [45, 46, 47, 48, 49, 7, 50, 9, 10, 51, 5, 6, 8, 62, 63] (by decide +kernel) (by decide +kernel)
set_option maxRecDepth 20000 in
theorem gX4_readCall_X0_addArgument : GoodIn wsX4_readCall (wsV RX4 178 RX0 yX0_addArgument wsX0_addArgument) := goodIn_app (goodIn_of _ (by decide +kernel)) ggX4_readCall_X0_addArgument
theorem dX4_readCall_0 : decode cX4_readCall 0 = .ok (.aload_n 0, 1) := by decide +kernel
theorem dX4_readCall_1 : decode cX4_readCall 1 = .ok (.getfield 36, 3) := by decide +kernel
theorem dX4_readCall_4 : decode cX4_readCall 4 = .ok (.iload_n 1, 1) := by decide +kernel
theorem dX4_readCall_5 : decode cX4_readCall 5 = .ok (.iconst 4, 1) := by decide +kernel
theorem dX4_readCall_6 : decode cX4_readCall 6 = .ok (.iconst 5, 1) := by decide +kernel
theorem dX4_readCall_7 : decode cX4_readCall 7 = .ok (.invokevirtual 124, 3) := by decide +kernel
theorem dX4_readCall_10 : decode cX4_readCall 10 = .ok (.aload_n 0, 1) := by decide +kernel
theorem dX4_readCall_11 : decode cX4_readCall 11 = .ok (.getfield 36, 3) := by decide +kernel
theorem dX4_readCall_14 : decode cX4_readCall 14 = .ok (.iload_n 1, 1) := by decide +kernel
theorem dX4_readCall_15 : decode cX4_readCall 15 = .ok (.bipush 6, 2) := by decide +kernel
theorem dX4_readCall_17 : decode cX4_readCall 17 = .ok (.aload_n 0, 1) := by decide +kernel
theorem dX4_readCall_18 : decode cX4_readCall 18 = .ok (.getfield 22, 3) := by decide +kernel
theorem dX4_readCall_21 : decode cX4_readCall 21 = .ok (.aload_n 0, 1) := by decide +kernel
theorem dX4_readCall_22 : decode cX4_readCall 22 = .ok (.getfield 40, 3) := by decide +kernel
theorem dX4_readCall_25 : decode cX4_readCall 25 = .ok (.invokevirtual 82, 3) := by decide +kernel
theorem dX4_readCall_28 : decode cX4_readCall 28 = .ok (.invokevirtual 124, 3) := by decide +kernel
theorem dX4_readCall_31 : decode cX4_readCall 31 = .ok (.aload_n 0, 1) := by decide +kernel
theorem dX4_readCall_32 : decode cX4_readCall 32 = .ok (.getfield 36, 3) := by decide +kernel
theorem dX4_readCall_35 : decode cX4_readCall 35 = .ok (.iload_n 1, 1) := by decide +kernel
theorem dX4_readCall_36 : decode cX4_readCall 36 = .ok (.bipush 9, 2) := by decide +kernel
theorem dX4_readCall_38 : decode cX4_readCall 38 = .ok (.aload_n 0, 1) := by decide +kernel
theorem dX4_readCall_39 : decode cX4_readCall 39 = .ok (.getfield 22, 3) := by decide +kernel
theorem dX4_readCall_42 : decode cX4_readCall 42 = .ok (.aload_n 0, 1) := by decide +kernel
theorem dX4_readCall_43 : decode cX4_readCall 43 = .ok (.getfield 40, 3) := by decide +kernel
theorem dX4_readCall_46 : decode cX4_readCall 46 = .ok (.invokevirtual 72, 3) := by decide +kernel
theorem dX4_readCall_49 : decode cX4_readCall 49 = .ok (.invokevirtual 124, 3) := by decide +kernel
theorem dX4_readCall_52 : decode cX4_readCall 52 = .ok (.aload_n 0, 1) := by decide +kernel
theorem dX4_readCall_53 : decode cX4_readCall 53 = .ok (.dup, 1) := by decide +kernel
theorem dX4_readCall_54 : decode cX4_readCall 54 = .ok (.getfield 40, 3) := by decide +kernel
theorem dX4_readCall_57 : decode cX4_readCall 57 = .ok (.iconst 1, 1) := by decide +kernel
theorem dX4_readCall_58 : decode cX4_readCall 58 = .ok (.iadd, 1) := by decide +kernel
theorem dX4_readCall_59 : decode cX4_readCall 59 = .ok (.putfield 40, 3) := by decide +kernel
theorem dX4_readCall_62 : decode cX4_readCall 62 = .ok (.aload_n 0, 1) := by decide +kernel
theorem dX4_readCall_63 : decode cX4_readCall 63 = .ok (.iconst 4, 1) := by decide +kernel
theorem dX4_readCall_64 : decode cX4_readCall 64 = .ok (.invokevirtual 79, 3) := by decide +kernel
theorem dX4_readCall_67 : decode cX4_readCall 67 = .ok (.ifCond .ne 5, 3) := by decide +kernel
theorem dX4_readCall_70 : decode cX4_readCall 70 = .ok (.iconst 0, 1) := by decide +kernel
theorem dX4_readCall_71 : decode cX4_readCall 71 = .ok (.ireturn, 1) := by decide +kernel
theorem dX4_readCall_72 : decode cX4_readCall 72 = .ok (.aload_n 0, 1) := by decide +kernel
theorem dX4_readCall_73 : decode cX4_readCall 73 = .ok (.iconst 5, 1) := by decide +kernel
theorem dX4_readCall_74 : decode cX4_readCall 74 = .ok (.invokevirtual 51, 3) := by decide +kernel
theorem dX4_readCall_77 : decode cX4_readCall 77 = .ok (.ifCond .eq 9, 3) := by decide +kernel
theorem dX4_readCall_80 : decode cX4_readCall 80 = .ok (.aload_n 0, 1) := by decide +kernel
theorem dX4_readCall_81 : decode cX4_readCall 81 = .ok (.iconst 5, 1) := by decide +kernel
theorem dX4_readCall_82 : decode cX4_readCall 82 = .ok (.invokevirtual 79, 3) := by decide +kernel
theorem dX4_readCall_85 : decode cX4_readCall 85 = .ok (.ireturn, 1) := by decide +kernel
theorem dX4_readCall_86 : decode cX4_readCall 86 = .ok (.iconst 0, 1) := by decide +kernel
theorem dX4_readCall_87 : decode cX4_readCall 87 = .ok (.istore_n 2, 1) := by decide +kernel
theorem dX4_readCall_88 : decode cX4_readCall 88 = .ok (.iload_n 2, 1) := by decide +kernel
theorem dX4_readCall_89 : decode cX4_readCall 89 = .ok (.iconst 4, 1) := by decide +kernel
theorem dX4_readCall_90 : decode cX4_readCall 90 = .ok (.if_icmp .gt 81, 3) := by decide +kernel
theorem dX4_readCall_93 : decode cX4_readCall 93 = .ok (.aload_n 0, 1) := by decide +kernel
theorem dX4_readCall_94 : decode cX4_readCall 94 = .ok (.getfield 40, 3) := by decide +kernel
theorem dX4_readCall_97 : decode cX4_readCall 97 = .ok (.istore_n 3, 1) := by decide +kernel
theorem dX4_readCall_98 : decode cX4_readCall 98 = .ok (.aload_n 0, 1) := by decide +kernel
theorem dX4_readCall_99 : decode cX4_readCall 99 = .ok (.iconst 2, 1) := by decide +kernel
theorem dX4_readCall_100 : decode cX4_readCall 100 = .ok (.invokevirtual 79, 3) := by decide +kernel
theorem dX4_readCall_103 : decode cX4_readCall 103 = .ok (.ifCond .ne 5, 3) := by decide +kernel
theorem dX4_readCall_106 : decode cX4_readCall 106 = .ok (.iconst 0, 1) := by decide +kernel
theorem dX4_readCall_107 : decode cX4_readCall 107 = .ok (.ireturn, 1) := by decide +kernel
theorem dX4_readCall_108 : decode cX4_readCall 108 = .ok (.iload_n 2, 1) := by decide +kernel
theorem dX4_readCall_109 : decode cX4_readCall 109 = .ok (.iconst 4, 1) := by decide +kernel
theorem dX4_readCall_110 : decode cX4_readCall 110 = .ok (.if_icmp .ne 17, 3) := by decide +kernel
theorem dX4_readCall_113 : decode cX4_readCall 113 = .ok (.aload_n 0, 1) := by decide +kernel
theorem dX4_readCall_114 : decode cX4_readCall 114 = .ok (.iconst 2, 1) := by decide +kernel
theorem dX4_readCall_115 : decode cX4_readCall 115 = .ok (.aload_n 0, 1) := by decide +kernel
theorem dX4_readCall_116 : decode cX4_readCall 116 = .ok (.getfield 22, 3) := by decide +kernel
theorem dX4_readCall_119 : decode cX4_readCall 119 = .ok (.iload_n 3, 1) := by decide +kernel
theorem dX4_readCall_120 : decode cX4_readCall 120 = .ok (.invokevirtual 72, 3) := by decide +kernel
theorem dX4_readCall_123 : decode cX4_readCall 123 = .ok (.invokevirtual 75, 3) := by decide +kernel
theorem dX4_readCall_126 : decode cX4_readCall 126 = .ok (.ireturn, 1) := by decide +kernel
theorem dX4_readCall_127 : decode cX4_readCall 127 = .ok (.aload_n 0, 1) := by decide +kernel
theorem dX4_readCall_128 : decode cX4_readCall 128 = .ok (.getfield 36, 3) := by decide +kernel
theorem dX4_readCall_131 : decode cX4_readCall 131 = .ok (.iload_n 1, 1) := by decide +kernel
theorem dX4_readCall_132 : decode cX4_readCall 132 = .ok (.aload_n 0, 1) := by decide +kernel
theorem dX4_readCall_133 : decode cX4_readCall 133 = .ok (.getfield 22, 3) := by decide +kernel
theorem dX4_readCall_136 : decode cX4_readCall 136 = .ok (.iload_n 3, 1) := by decide +kernel
theorem dX4_readCall_137 : decode cX4_readCall 137 = .ok (.invokevirtual 82, 3) := by decide +kernel
theorem dX4_readCall_140 : decode cX4_readCall 140 = .ok (.invokevirtual 178, 3) := by decide +kernel
theorem dX4_readCall_143 : decode cX4_readCall 143 = .ok (.aload_n 0, 1) := by decide +kernel
theorem dX4_readCall_144 : decode cX4_readCall 144 = .ok (.bipush 8, 2) := by decide +kernel
theorem dX4_readCall_146 : decode cX4_readCall 146 = .ok (.invokevirtual 51, 3) := by decide +kernel
theorem dX4_readCall_149 : decode cX4_readCall 149 = .ok (.ifCond .ne 6, 3) := by decide +kernel
theorem dX4_readCall_152 : decode cX4_readCall 152 = .ok (.goto 19, 3) := by decide +kernel
theorem dX4_readCall_155 : decode cX4_readCall 155 = .ok (.aload_n 0, 1) := by decide +kernel
theorem dX4_readCall_156 : decode cX4_readCall 156 = .ok (.dup, 1) := by decide +kernel
theorem dX4_readCall_157 : decode cX4_readCall 157 = .ok (.getfield 40, 3) := by decide +kernel
theorem dX4_readCall_160 : decode cX4_readCall 160 = .ok (.iconst 1, 1) := by decide +kernel
theorem dX4_readCall_161 : decode cX4_readCall 161 = .ok (.iadd, 1) := by decide +kernel
theorem dX4_readCall_162 : decode cX4_readCall 162 = .ok (.putfield 40, 3) := by decide +kernel
theorem dX4_readCall_165 : decode cX4_readCall 165 = .ok (.iinc 2 1, 3) := by decide +kernel
theorem dX4_readCall_168 : decode cX4_readCall 168 = .ok (.goto (-80), 3) := by decide +kernel
theorem dX4_readCall_171 : decode cX4_readCall 171 = .ok (.aload_n 0, 1) := by decide +kernel
theorem dX4_readCall_172 : decode cX4_readCall 172 = .ok (.iconst 5, 1) := by decide +kernel
theorem dX4_readCall_173 : decode cX4_readCall 173 = .ok (.invokevirtual 79, 3) := by decide +kernel
theorem dX4_readCall_176 : decode cX4_readCall 176 = .ok (.ireturn, 1) := by decide +kernel
set_option maxRecDepth 20000 in
theorem ggX4_checkCalls_X0_get : GoodIn wsX4_checkCalls wsX0_get := goodIn_r _ [10, 11, 12, 44, 45] (by decide +kernel) (by decide +kernel)
set_option maxRecDepth 20000 in
theorem gX4_checkCalls_X0_get : GoodIn wsX4_checkCalls (wsV RX4 181 RX0 yX0_get wsX0_get) := goodIn_app (goodIn_of _ (by decide +kernel)) ggX4_checkCalls_X0_get
set_option maxRecDepth 20000 in
theorem ggX4_checkCalls_X3_has : GoodIn wsX4_checkCalls wsX3_has := goodIn_r _ [17, 18, 46, 47, 48, 49, 50, 51, 52, 53, 54, 55, 56, 57, 58, 59] (by decide +kernel) (by decide +kernel)
set_option maxRecDepth 20000 in
theorem gX4_checkCalls_X3_has : GoodIn wsX4_checkCalls (wsV RX4 88 RX3 yX3_has wsX3_has) := goodIn_app (goodIn_of _ (by decide +kernel)) ggX4_checkCalls_X3_has
set_option maxRecDepth 20000 in
theorem ggX4_checkCalls_X5_at : GoodIn wsX4_checkCalls wsX5_at := goodIn_r _ [22] (by decide +kernel) (by decide +kernel)
set_option maxRecDepth 20000 in
theorem gX4_checkCalls_X5_at : GoodIn wsX4_checkCalls (va_wsS RX4 114 yX5_at wsX5_at) := goodIn_app (goodIn_of _ (by decide +kernel)) ggX4_checkCalls_X5_at
set_option maxRecDepth 20000 in
theorem ggX4_checkCalls_X0_arguments : GoodIn wsX4_checkCalls wsX0_arguments := goodIn_r _ [26, 27, 7, 8, 9, 10, 11, 12, 44, 45] (by decide +kernel) (by decide +kernel)
set_option maxRecDepth 20000 in
theorem gX4_checkCalls_X0_arguments : GoodIn wsX4_checkCalls (wsV RX4 187 RX0 yX0_arguments wsX0_arguments) := goodIn_app (goodIn_of _ (by decide +kernel)) ggX4_checkCalls_X0_arguments
set_option maxRecDepth 20000 in
theorem ggX4_checkCalls_X4_refuse : GoodIn wsX4_checkCalls wsX4_refuse := goodIn_r _ [32, 3, 33, 34, 35, 36, 37, 38, 39, 40, 41, 42, 43] (by decide +kernel) (by decide +kernel)
set_option maxRecDepth 20000 in
theorem gX4_checkCalls_X4_refuse : GoodIn wsX4_checkCalls (wsV RX4 75 RX4 yX4_refuse wsX4_refuse) := goodIn_app (goodIn_of _ (by decide +kernel)) ggX4_checkCalls_X4_refuse
theorem dX4_checkCalls_0 : decode cX4_checkCalls 0 = .ok (.iconst 0, 1) := by decide +kernel
theorem dX4_checkCalls_1 : decode cX4_checkCalls 1 = .ok (.istore_n 1, 1) := by decide +kernel
theorem dX4_checkCalls_2 : decode cX4_checkCalls 2 = .ok (.iload_n 1, 1) := by decide +kernel
theorem dX4_checkCalls_3 : decode cX4_checkCalls 3 = .ok (.aload_n 0, 1) := by decide +kernel
theorem dX4_checkCalls_4 : decode cX4_checkCalls 4 = .ok (.getfield 36, 3) := by decide +kernel
theorem dX4_checkCalls_7 : decode cX4_checkCalls 7 = .ok (.getfield 128, 3) := by decide +kernel
theorem dX4_checkCalls_10 : decode cX4_checkCalls 10 = .ok (.if_icmp .ge 89, 3) := by decide +kernel
theorem dX4_checkCalls_13 : decode cX4_checkCalls 13 = .ok (.aload_n 0, 1) := by decide +kernel
theorem dX4_checkCalls_14 : decode cX4_checkCalls 14 = .ok (.getfield 46, 3) := by decide +kernel
theorem dX4_checkCalls_17 : decode cX4_checkCalls 17 = .ok (.ifCond .ne 82, 3) := by decide +kernel
theorem dX4_checkCalls_20 : decode cX4_checkCalls 20 = .ok (.aload_n 0, 1) := by decide +kernel
theorem dX4_checkCalls_21 : decode cX4_checkCalls 21 = .ok (.getfield 36, 3) := by decide +kernel
theorem dX4_checkCalls_24 : decode cX4_checkCalls 24 = .ok (.iload_n 1, 1) := by decide +kernel
theorem dX4_checkCalls_25 : decode cX4_checkCalls 25 = .ok (.iconst 4, 1) := by decide +kernel
theorem dX4_checkCalls_26 : decode cX4_checkCalls 26 = .ok (.invokevirtual 181, 3) := by decide +kernel
theorem dX4_checkCalls_29 : decode cX4_checkCalls 29 = .ok (.iconst 5, 1) := by decide +kernel
theorem dX4_checkCalls_30 : decode cX4_checkCalls 30 = .ok (.if_icmp .ne 63, 3) := by decide +kernel
theorem dX4_checkCalls_33 : decode cX4_checkCalls 33 = .ok (.aload_n 0, 1) := by decide +kernel
theorem dX4_checkCalls_34 : decode cX4_checkCalls 34 = .ok (.getfield 36, 3) := by decide +kernel
theorem dX4_checkCalls_37 : decode cX4_checkCalls 37 = .ok (.iload_n 1, 1) := by decide +kernel
theorem dX4_checkCalls_38 : decode cX4_checkCalls 38 = .ok (.bipush 6, 2) := by decide +kernel
theorem dX4_checkCalls_40 : decode cX4_checkCalls 40 = .ok (.invokevirtual 181, 3) := by decide +kernel
theorem dX4_checkCalls_43 : decode cX4_checkCalls 43 = .ok (.istore_n 2, 1) := by decide +kernel
theorem dX4_checkCalls_44 : decode cX4_checkCalls 44 = .ok (.aload_n 0, 1) := by decide +kernel
theorem dX4_checkCalls_45 : decode cX4_checkCalls 45 = .ok (.getfield 26, 3) := by decide +kernel
theorem dX4_checkCalls_48 : decode cX4_checkCalls 48 = .ok (.iload_n 2, 1) := by decide +kernel
theorem dX4_checkCalls_49 : decode cX4_checkCalls 49 = .ok (.invokevirtual 88, 3) := by decide +kernel
theorem dX4_checkCalls_52 : decode cX4_checkCalls 52 = .ok (.ifCond .eq 25, 3) := by decide +kernel
theorem dX4_checkCalls_55 : decode cX4_checkCalls 55 = .ok (.aload_n 0, 1) := by decide +kernel
theorem dX4_checkCalls_56 : decode cX4_checkCalls 56 = .ok (.getfield 26, 3) := by decide +kernel
theorem dX4_checkCalls_59 : decode cX4_checkCalls 59 = .ok (.getfield 184, 3) := by decide +kernel
theorem dX4_checkCalls_62 : decode cX4_checkCalls 62 = .ok (.iload_n 2, 1) := by decide +kernel
theorem dX4_checkCalls_63 : decode cX4_checkCalls 63 = .ok (.invokestatic 114, 3) := by decide +kernel
theorem dX4_checkCalls_66 : decode cX4_checkCalls 66 = .ok (.aload_n 0, 1) := by decide +kernel
theorem dX4_checkCalls_67 : decode cX4_checkCalls 67 = .ok (.getfield 36, 3) := by decide +kernel
theorem dX4_checkCalls_70 : decode cX4_checkCalls 70 = .ok (.iload_n 1, 1) := by decide +kernel
theorem dX4_checkCalls_71 : decode cX4_checkCalls 71 = .ok (.invokevirtual 187, 3) := by decide +kernel
theorem dX4_checkCalls_74 : decode cX4_checkCalls 74 = .ok (.if_icmp .eq 19, 3) := by decide +kernel
theorem dX4_checkCalls_77 : decode cX4_checkCalls 77 = .ok (.aload_n 0, 1) := by decide +kernel
theorem dX4_checkCalls_78 : decode cX4_checkCalls 78 = .ok (.iconst 4, 1) := by decide +kernel
theorem dX4_checkCalls_79 : decode cX4_checkCalls 79 = .ok (.aload_n 0, 1) := by decide +kernel
theorem dX4_checkCalls_80 : decode cX4_checkCalls 80 = .ok (.getfield 36, 3) := by decide +kernel
theorem dX4_checkCalls_83 : decode cX4_checkCalls 83 = .ok (.iload_n 1, 1) := by decide +kernel
theorem dX4_checkCalls_84 : decode cX4_checkCalls 84 = .ok (.bipush 9, 2) := by decide +kernel
theorem dX4_checkCalls_86 : decode cX4_checkCalls 86 = .ok (.invokevirtual 181, 3) := by decide +kernel
theorem dX4_checkCalls_89 : decode cX4_checkCalls 89 = .ok (.invokevirtual 75, 3) := by decide +kernel
theorem dX4_checkCalls_92 : decode cX4_checkCalls 92 = .ok (.pop, 1) := by decide +kernel
theorem dX4_checkCalls_93 : decode cX4_checkCalls 93 = .ok (.iinc 1 1, 3) := by decide +kernel
theorem dX4_checkCalls_96 : decode cX4_checkCalls 96 = .ok (.goto (-94), 3) := by decide +kernel
theorem dX4_checkCalls_99 : decode cX4_checkCalls 99 = .ok (.return_, 1) := by decide +kernel
theorem dX5_at_0 : decode cX5_at 0 = .ok (.iload_n 1, 1) := by decide +kernel
theorem dX5_at_1 : decode cX5_at 1 = .ok (.ifCond .lt 15, 3) := by decide +kernel
theorem dX5_at_4 : decode cX5_at 4 = .ok (.iload_n 1, 1) := by decide +kernel
theorem dX5_at_5 : decode cX5_at 5 = .ok (.aload_n 0, 1) := by decide +kernel
theorem dX5_at_6 : decode cX5_at 6 = .ok (.arraylength, 1) := by decide +kernel
theorem dX5_at_7 : decode cX5_at 7 = .ok (.if_icmp .ge 9, 3) := by decide +kernel
theorem dX5_at_10 : decode cX5_at 10 = .ok (.aload_n 0, 1) := by decide +kernel
theorem dX5_at_11 : decode cX5_at 11 = .ok (.iload_n 1, 1) := by decide +kernel
theorem dX5_at_12 : decode cX5_at 12 = .ok (.iaload, 1) := by decide +kernel
theorem dX5_at_13 : decode cX5_at 13 = .ok (.goto 4, 3) := by decide +kernel
theorem dX5_at_16 : decode cX5_at 16 = .ok (.iconst 0, 1) := by decide +kernel
theorem dX5_at_17 : decode cX5_at 17 = .ok (.ireturn, 1) := by decide +kernel
theorem dX5_put_0 : decode cX5_put 0 = .ok (.iload_n 1, 1) := by decide +kernel
theorem dX5_put_1 : decode cX5_put 1 = .ok (.ifCond .lt 13, 3) := by decide +kernel
theorem dX5_put_4 : decode cX5_put 4 = .ok (.iload_n 1, 1) := by decide +kernel
theorem dX5_put_5 : decode cX5_put 5 = .ok (.aload_n 0, 1) := by decide +kernel
theorem dX5_put_6 : decode cX5_put 6 = .ok (.arraylength, 1) := by decide +kernel
theorem dX5_put_7 : decode cX5_put 7 = .ok (.if_icmp .ge 7, 3) := by decide +kernel
theorem dX5_put_10 : decode cX5_put 10 = .ok (.aload_n 0, 1) := by decide +kernel
theorem dX5_put_11 : decode cX5_put 11 = .ok (.iload_n 1, 1) := by decide +kernel
theorem dX5_put_12 : decode cX5_put 12 = .ok (.iload_n 2, 1) := by decide +kernel
theorem dX5_put_13 : decode cX5_put 13 = .ok (.iastore, 1) := by decide +kernel
theorem dX5_put_14 : decode cX5_put 14 = .ok (.return_, 1) := by decide +kernel
theorem dX6_init_0 : decode cX6_init 0 = .ok (.aload_n 0, 1) := by decide +kernel
theorem dX6_init_1 : decode cX6_init 1 = .ok (.invokespecial 3, 3) := by decide +kernel
theorem dX6_init_4 : decode cX6_init 4 = .ok (.aload_n 0, 1) := by decide +kernel
theorem dX6_init_5 : decode cX6_init 5 = .ok (.sipush 338, 3) := by decide +kernel
theorem dX6_init_8 : decode cX6_init 8 = .ok (.newarray .int, 2) := by decide +kernel
theorem dX6_init_10 : decode cX6_init 10 = .ok (.putfield 11, 3) := by decide +kernel
theorem dX6_init_13 : decode cX6_init 13 = .ok (.aload_n 0, 1) := by decide +kernel
theorem dX6_init_14 : decode cX6_init 14 = .ok (.bipush 12, 2) := by decide +kernel
theorem dX6_init_16 : decode cX6_init 16 = .ok (.newarray .int, 2) := by decide +kernel
theorem dX6_init_18 : decode cX6_init 18 = .ok (.putfield 15, 3) := by decide +kernel
theorem dX6_init_21 : decode cX6_init 21 = .ok (.aload_n 0, 1) := by decide +kernel
theorem dX6_init_22 : decode cX6_init 22 = .ok (.sipush 602, 3) := by decide +kernel
theorem dX6_init_25 : decode cX6_init 25 = .ok (.newarray .int, 2) := by decide +kernel
theorem dX6_init_27 : decode cX6_init 27 = .ok (.putfield 18, 3) := by decide +kernel
theorem dX6_init_30 : decode cX6_init 30 = .ok (.aload_n 0, 1) := by decide +kernel
theorem dX6_init_31 : decode cX6_init 31 = .ok (.aload_n 1, 1) := by decide +kernel
theorem dX6_init_32 : decode cX6_init 32 = .ok (.putfield 21, 3) := by decide +kernel
theorem dX6_init_35 : decode cX6_init 35 = .ok (.aload_n 0, 1) := by decide +kernel
theorem dX6_init_36 : decode cX6_init 36 = .ok (.aload_n 1, 1) := by decide +kernel
theorem dX6_init_37 : decode cX6_init 37 = .ok (.getfield 25, 3) := by decide +kernel
theorem dX6_init_40 : decode cX6_init 40 = .ok (.putfield 31, 3) := by decide +kernel
theorem dX6_init_43 : decode cX6_init 43 = .ok (.aload_n 0, 1) := by decide +kernel
theorem dX6_init_44 : decode cX6_init 44 = .ok (.aload_n 1, 1) := by decide +kernel
theorem dX6_init_45 : decode cX6_init 45 = .ok (.getfield 25, 3) := by decide +kernel
theorem dX6_init_48 : decode cX6_init 48 = .ok (.getfield 32, 3) := by decide +kernel
theorem dX6_init_51 : decode cX6_init 51 = .ok (.putfield 38, 3) := by decide +kernel
theorem dX6_init_54 : decode cX6_init 54 = .ok (.return_, 1) := by decide +kernel
set_option maxRecDepth 20000 in
theorem ggX6_go_X6_begin : GoodIn wsX6_go wsX6_begin := goodIn_r _ [8, 9, 10, 11, 12, 13, 14, 15, 16, 17, 18, 2, 19, 3, 20, 21, 22, 23, 24, 25, 7, 26, 27, 28, 29, 30, 31, 32, 33, 34, 35, 36, 37, 38, 39, 40, 41, 42, 43, 44, 45, 46, 47, 48, 49, 50, 51, 52, 53, 54, 55, 56, 57, 58, 59, 60, 61, 62, 63, 64, 65, 66, 67, 68, 69, 70, 71, 72, 135, 136, 137, 138, 139, 140, 141, 142, 143, 144, 145, 146, 147, 148, 149, 150, 151, 152, 153, 154, 155, 156, 157, 158, 159, 160, 161, 162, 163, 164, 165, 166, 167] (by decide +kernel) (by decide +kernel)
set_option maxRecDepth 20000 in
theorem gX6_go_X6_begin : GoodIn wsX6_go (wsV RX6 39 RX6 yX6_begin wsX6_begin) := goodIn_app (goodIn_of _ (by decide +kernel)) ggX6_go_X6_begin
set_option maxRecDepth 20000 in
theorem ggX6_go_X6_finish : GoodIn wsX6_go wsX6_finish := goodIn_r _ [76, 3, 13, 22, 77, 78, 79, 80, 81, 82, 83, 84, 85, 86, 87, 7, 88, 19, 2, 89, 72, 45, 30, 46, 68, 69, 70, 71, 27, 28, 29, 31, 90, 91, 92, 93, 94, 95, 96, 97, 18, 67, 135, 136, 137, 138, 139, 140, 141, 142, 143, 144, 145, 146, 147, 148, 149, 150, 168, 169] (by decide +kernel) (by decide +kernel)
set_option maxRecDepth 20000 in
theorem gX6_go_X6_finish : GoodIn wsX6_go (wsV RX6 52 RX6 yX6_finish wsX6_finish) := goodIn_app (goodIn_of _ (by decide +kernel)) ggX6_go_X6_finish
set_option maxRecDepth 20000 in
theorem ggX6_go_X6_step : GoodIn wsX6_go wsX6_step := goodIn_r _ [101, 13, 22, 15, 2, 78, 79, 80, 81, 82, 83, 84, 85, 86, 87, 7, 88, 19, 89, 77, 3, 72, 45, 30, 46, 102, 103, 104, 105, 106, 107, 108, 109, 17, 14, 110, 111, 112, 113, 90, 91, 92, 93, 27, 114, 115, 116, 117, 59, 60, 61, 62, 16, 63, 64, 65, 66, 67, 28, 29, 31, 118, 119, 120, 121, 18, 122, 123, 124, 125, 11, 21, 23, 24, 25, 26, 126, 127, 128, 129, 130, 131, 132, 133, 134, 53, 54, 55, 50, 56, 57, 58, 68, 69, 70, 71, 135, 136, 137, 138, 139, 140, 141, 142, 143, 144, 145, 146, 147, 148, 149, 150, 168, 169, 154, 155, 156, 157, 158, 159, 160, 161, 162, 163, 164, 165, 166, 167] (by decide +kernel) (by decide +kernel)
set_option maxRecDepth 20000 in
theorem gX6_go_X6_step : GoodIn wsX6_go (wsV RX6 55 RX6 yX6_step wsX6_step) := goodIn_app (goodIn_of _ (by decide +kernel)) ggX6_go_X6_step
theorem dX6_go_0 : decode cX6_go 0 = .ok (.aload_n 0, 1) := by decide +kernel
theorem dX6_go_1 : decode cX6_go 1 = .ok (.iload_n 1, 1) := by decide +kernel
theorem dX6_go_2 : decode cX6_go 2 = .ok (.iload_n 2, 1) := by decide +kernel
theorem dX6_go_3 : decode cX6_go 3 = .ok (.invokevirtual 39, 3) := by decide +kernel
theorem dX6_go_6 : decode cX6_go 6 = .ok (.iconst 0, 1) := by decide +kernel
theorem dX6_go_7 : decode cX6_go 7 = .ok (.istore_n 3, 1) := by decide +kernel
theorem dX6_go_8 : decode cX6_go 8 = .ok (.iload_n 3, 1) := by decide +kernel
theorem dX6_go_9 : decode cX6_go 9 = .ok (.ldc 43, 2) := by decide +kernel
theorem dX6_go_11 : decode cX6_go 11 = .ok (.if_icmp .ge 35, 3) := by decide +kernel
theorem dX6_go_14 : decode cX6_go 14 = .ok (.aload_n 0, 1) := by decide +kernel
theorem dX6_go_15 : decode cX6_go 15 = .ok (.getfield 44, 3) := by decide +kernel
theorem dX6_go_18 : decode cX6_go 18 = .ok (.iconst (-1), 1) := by decide +kernel
theorem dX6_go_19 : decode cX6_go 19 = .ok (.if_icmp .ne 27, 3) := by decide +kernel
theorem dX6_go_22 : decode cX6_go 22 = .ok (.aload_n 0, 1) := by decide +kernel
theorem dX6_go_23 : decode cX6_go 23 = .ok (.getfield 48, 3) := by decide +kernel
theorem dX6_go_26 : decode cX6_go 26 = .ok (.ifCond .eq 10, 3) := by decide +kernel
theorem dX6_go_29 : decode cX6_go 29 = .ok (.aload_n 0, 1) := by decide +kernel
theorem dX6_go_30 : decode cX6_go 30 = .ok (.invokevirtual 52, 3) := by decide +kernel
theorem dX6_go_33 : decode cX6_go 33 = .ok (.goto 7, 3) := by decide +kernel
theorem dX6_go_36 : decode cX6_go 36 = .ok (.aload_n 0, 1) := by decide +kernel
theorem dX6_go_37 : decode cX6_go 37 = .ok (.invokevirtual 55, 3) := by decide +kernel
theorem dX6_go_40 : decode cX6_go 40 = .ok (.iinc 3 1, 3) := by decide +kernel
theorem dX6_go_43 : decode cX6_go 43 = .ok (.goto (-35), 3) := by decide +kernel
theorem dX6_go_46 : decode cX6_go 46 = .ok (.aload_n 0, 1) := by decide +kernel
theorem dX6_go_47 : decode cX6_go 47 = .ok (.getfield 44, 3) := by decide +kernel
theorem dX6_go_50 : decode cX6_go 50 = .ok (.iconst (-1), 1) := by decide +kernel
theorem dX6_go_51 : decode cX6_go 51 = .ok (.if_icmp .ne 7, 3) := by decide +kernel
theorem dX6_go_54 : decode cX6_go 54 = .ok (.iconst 3, 1) := by decide +kernel
theorem dX6_go_55 : decode cX6_go 55 = .ok (.goto 7, 3) := by decide +kernel
theorem dX6_go_58 : decode cX6_go 58 = .ok (.aload_n 0, 1) := by decide +kernel
theorem dX6_go_59 : decode cX6_go 59 = .ok (.getfield 44, 3) := by decide +kernel
theorem dX6_go_62 : decode cX6_go 62 = .ok (.ireturn, 1) := by decide +kernel
set_option maxRecDepth 20000 in
theorem ggX6_begin_X6_clearNames : GoodIn wsX6_begin wsX6_clearNames := goodIn_r _ [21, 22, 12, 23, 24, 25, 26, 68, 69, 70, 71, 72, 73, 74, 75, 76, 77, 78, 79, 80, 81, 82, 83] (by decide +kernel) (by decide +kernel)
set_option maxRecDepth 20000 in
theorem gX6_begin_X6_clearNames : GoodIn wsX6_begin (wsV RX6 76 RX6 yX6_clearNames wsX6_clearNames) := goodIn_app (goodIn_of _ (by decide +kernel)) ggX6_begin_X6_clearNames
set_option maxRecDepth 20000 in
theorem ggX6_begin_X7_outers : GoodIn wsX6_begin wsX7_outers := goodIn_r _ [31, 32, 33, 34, 35, 36, 37, 38, 39, 40, 25, 41, 42, 43, 44, 45, 46, 47, 84, 85, 86, 87, 88, 89, 90, 91, 92, 93, 94, 95, 96, 97, 98, 99, 100] (by decide +kernel) (by decide +kernel)
set_option maxRecDepth 20000 in
theorem gX6_begin_X7_outers : GoodIn wsX6_begin (wsV RX6 79 RX7 yX7_outers wsX7_outers) := goodIn_app (goodIn_of _ (by decide +kernel)) ggX6_begin_X7_outers
set_option maxRecDepth 20000 in
theorem ggX6_begin_X3_parameter : GoodIn wsX6_begin wsX3_parameter := goodIn_r _ [51, 52, 53, 40, 25, 41, 87, 88, 89, 90, 91, 92, 93, 94, 95, 96, 97, 98, 99, 100] (by decide +kernel) (by decide +kernel)
set_option maxRecDepth 20000 in
theorem gX6_begin_X3_parameter : GoodIn wsX6_begin (wsV RX6 86 RX3 yX3_parameter wsX3_parameter) := goodIn_app (goodIn_of _ (by decide +kernel)) ggX6_begin_X3_parameter
set_option maxRecDepth 20000 in
theorem ggX6_begin_X6_makeLoop : GoodIn wsX6_begin wsX6_makeLoop := goodIn_r _ [57, 8, 58, 59, 60, 20, 61, 11, 62, 23, 24, 25, 26, 68, 69, 70, 71, 72, 73, 74, 75, 76, 77, 78, 79, 80, 81, 82, 83] (by decide +kernel) (by decide +kernel)
set_option maxRecDepth 20000 in
theorem gX6_begin_X6_makeLoop : GoodIn wsX6_begin (wsV RX6 90 RX6 yX6_makeLoop wsX6_makeLoop) := goodIn_app (goodIn_of _ (by decide +kernel)) ggX6_begin_X6_makeLoop
set_option maxRecDepth 20000 in
theorem ggX6_begin_X6_setName : GoodIn wsX6_begin wsX6_setName := goodIn_r _ [66, 22, 12, 23, 24, 25, 26, 68, 69, 70, 71, 72, 73, 74, 75, 76, 77, 78, 79, 80, 81, 82, 83] (by decide +kernel) (by decide +kernel)
set_option maxRecDepth 20000 in
theorem gX6_begin_X6_setName : GoodIn wsX6_begin (wsV RX6 93 RX6 yX6_setName wsX6_setName) := goodIn_app (goodIn_of _ (by decide +kernel)) ggX6_begin_X6_setName
set_option maxRecDepth 20000 in
theorem ggX6_begin_X5_at : GoodIn wsX6_begin wsX5_at := goodIn_r _ [41] (by decide +kernel) (by decide +kernel)
set_option maxRecDepth 20000 in
theorem gX6_begin_X5_at : GoodIn wsX6_begin (va_wsS RX6 99 yX5_at wsX5_at) := goodIn_app (goodIn_of _ (by decide +kernel)) ggX6_begin_X5_at
theorem dX6_begin_0 : decode cX6_begin 0 = .ok (.aload_n 0, 1) := by decide +kernel
theorem dX6_begin_1 : decode cX6_begin 1 = .ok (.aload_n 0, 1) := by decide +kernel
theorem dX6_begin_2 : decode cX6_begin 2 = .ok (.getfield 21, 3) := by decide +kernel
theorem dX6_begin_5 : decode cX6_begin 5 = .ok (.getfield 25, 3) := by decide +kernel
theorem dX6_begin_8 : decode cX6_begin 8 = .ok (.putfield 31, 3) := by decide +kernel
theorem dX6_begin_11 : decode cX6_begin 11 = .ok (.aload_n 0, 1) := by decide +kernel
theorem dX6_begin_12 : decode cX6_begin 12 = .ok (.aload_n 0, 1) := by decide +kernel
theorem dX6_begin_13 : decode cX6_begin 13 = .ok (.getfield 31, 3) := by decide +kernel
theorem dX6_begin_16 : decode cX6_begin 16 = .ok (.getfield 32, 3) := by decide +kernel
theorem dX6_begin_19 : decode cX6_begin 19 = .ok (.putfield 38, 3) := by decide +kernel
theorem dX6_begin_22 : decode cX6_begin 22 = .ok (.aload_n 0, 1) := by decide +kernel
theorem dX6_begin_23 : decode cX6_begin 23 = .ok (.iload_n 2, 1) := by decide +kernel
theorem dX6_begin_24 : decode cX6_begin 24 = .ok (.putfield 58, 3) := by decide +kernel
theorem dX6_begin_27 : decode cX6_begin 27 = .ok (.aload_n 0, 1) := by decide +kernel
theorem dX6_begin_28 : decode cX6_begin 28 = .ok (.iconst 0, 1) := by decide +kernel
theorem dX6_begin_29 : decode cX6_begin 29 = .ok (.putfield 61, 3) := by decide +kernel
theorem dX6_begin_32 : decode cX6_begin 32 = .ok (.aload_n 0, 1) := by decide +kernel
theorem dX6_begin_33 : decode cX6_begin 33 = .ok (.iconst 0, 1) := by decide +kernel
theorem dX6_begin_34 : decode cX6_begin 34 = .ok (.putfield 64, 3) := by decide +kernel
theorem dX6_begin_37 : decode cX6_begin 37 = .ok (.aload_n 0, 1) := by decide +kernel
theorem dX6_begin_38 : decode cX6_begin 38 = .ok (.iconst 0, 1) := by decide +kernel
theorem dX6_begin_39 : decode cX6_begin 39 = .ok (.putfield 67, 3) := by decide +kernel
theorem dX6_begin_42 : decode cX6_begin 42 = .ok (.aload_n 0, 1) := by decide +kernel
theorem dX6_begin_43 : decode cX6_begin 43 = .ok (.iconst (-1), 1) := by decide +kernel
theorem dX6_begin_44 : decode cX6_begin 44 = .ok (.putfield 70, 3) := by decide +kernel
theorem dX6_begin_47 : decode cX6_begin 47 = .ok (.aload_n 0, 1) := by decide +kernel
theorem dX6_begin_48 : decode cX6_begin 48 = .ok (.iconst (-1), 1) := by decide +kernel
theorem dX6_begin_49 : decode cX6_begin 49 = .ok (.putfield 44, 3) := by decide +kernel
theorem dX6_begin_52 : decode cX6_begin 52 = .ok (.aload_n 0, 1) := by decide +kernel
theorem dX6_begin_53 : decode cX6_begin 53 = .ok (.iconst 0, 1) := by decide +kernel
theorem dX6_begin_54 : decode cX6_begin 54 = .ok (.putfield 73, 3) := by decide +kernel
theorem dX6_begin_57 : decode cX6_begin 57 = .ok (.aload_n 0, 1) := by decide +kernel
theorem dX6_begin_58 : decode cX6_begin 58 = .ok (.iconst 0, 1) := by decide +kernel
theorem dX6_begin_59 : decode cX6_begin 59 = .ok (.putfield 48, 3) := by decide +kernel
theorem dX6_begin_62 : decode cX6_begin 62 = .ok (.aload_n 0, 1) := by decide +kernel
theorem dX6_begin_63 : decode cX6_begin 63 = .ok (.invokevirtual 76, 3) := by decide +kernel
theorem dX6_begin_66 : decode cX6_begin 66 = .ok (.iconst 0, 1) := by decide +kernel
theorem dX6_begin_67 : decode cX6_begin 67 = .ok (.istore_n 3, 1) := by decide +kernel
theorem dX6_begin_68 : decode cX6_begin 68 = .ok (.iload_n 3, 1) := by decide +kernel
theorem dX6_begin_69 : decode cX6_begin 69 = .ok (.aload_n 0, 1) := by decide +kernel
theorem dX6_begin_70 : decode cX6_begin 70 = .ok (.getfield 21, 3) := by decide +kernel
theorem dX6_begin_73 : decode cX6_begin 73 = .ok (.invokevirtual 79, 3) := by decide +kernel
theorem dX6_begin_76 : decode cX6_begin 76 = .ok (.if_icmp .ge 56, 3) := by decide +kernel
theorem dX6_begin_79 : decode cX6_begin 79 = .ok (.iload_n 1, 1) := by decide +kernel
theorem dX6_begin_80 : decode cX6_begin 80 = .ok (.iload_n 3, 1) := by decide +kernel
theorem dX6_begin_81 : decode cX6_begin 81 = .ok (.ishr, 1) := by decide +kernel
theorem dX6_begin_82 : decode cX6_begin 82 = .ok (.iconst 1, 1) := by decide +kernel
theorem dX6_begin_83 : decode cX6_begin 83 = .ok (.iand, 1) := by decide +kernel
theorem dX6_begin_84 : decode cX6_begin 84 = .ok (.ifCond .eq 7, 3) := by decide +kernel
theorem dX6_begin_87 : decode cX6_begin 87 = .ok (.iconst 1, 1) := by decide +kernel
theorem dX6_begin_88 : decode cX6_begin 88 = .ok (.goto 4, 3) := by decide +kernel
theorem dX6_begin_91 : decode cX6_begin 91 = .ok (.iconst 0, 1) := by decide +kernel
theorem dX6_begin_92 : decode cX6_begin 92 = .ok (.istore 4, 2) := by decide +kernel
theorem dX6_begin_94 : decode cX6_begin 94 = .ok (.aload_n 0, 1) := by decide +kernel
theorem dX6_begin_95 : decode cX6_begin 95 = .ok (.aload_n 0, 1) := by decide +kernel
theorem dX6_begin_96 : decode cX6_begin 96 = .ok (.getfield 31, 3) := by decide +kernel
theorem dX6_begin_99 : decode cX6_begin 99 = .ok (.aload_n 0, 1) := by decide +kernel
theorem dX6_begin_100 : decode cX6_begin 100 = .ok (.getfield 21, 3) := by decide +kernel
theorem dX6_begin_103 : decode cX6_begin 103 = .ok (.getfield 83, 3) := by decide +kernel
theorem dX6_begin_106 : decode cX6_begin 106 = .ok (.iload_n 3, 1) := by decide +kernel
theorem dX6_begin_107 : decode cX6_begin 107 = .ok (.invokevirtual 86, 3) := by decide +kernel
theorem dX6_begin_110 : decode cX6_begin 110 = .ok (.iload 4, 2) := by decide +kernel
theorem dX6_begin_112 : decode cX6_begin 112 = .ok (.ifCond .eq 10, 3) := by decide +kernel
theorem dX6_begin_115 : decode cX6_begin 115 = .ok (.aload_n 0, 1) := by decide +kernel
theorem dX6_begin_116 : decode cX6_begin 116 = .ok (.invokevirtual 90, 3) := by decide +kernel
theorem dX6_begin_119 : decode cX6_begin 119 = .ok (.goto 4, 3) := by decide +kernel
theorem dX6_begin_122 : decode cX6_begin 122 = .ok (.iconst 0, 1) := by decide +kernel
theorem dX6_begin_123 : decode cX6_begin 123 = .ok (.invokevirtual 93, 3) := by decide +kernel
theorem dX6_begin_126 : decode cX6_begin 126 = .ok (.iinc 3 1, 3) := by decide +kernel
theorem dX6_begin_129 : decode cX6_begin 129 = .ok (.goto (-61), 3) := by decide +kernel
theorem dX6_begin_132 : decode cX6_begin 132 = .ok (.aload_n 0, 1) := by decide +kernel
theorem dX6_begin_133 : decode cX6_begin 133 = .ok (.aload_n 0, 1) := by decide +kernel
theorem dX6_begin_134 : decode cX6_begin 134 = .ok (.getfield 31, 3) := by decide +kernel
theorem dX6_begin_137 : decode cX6_begin 137 = .ok (.getfield 96, 3) := by decide +kernel
theorem dX6_begin_140 : decode cX6_begin 140 = .ok (.aload_n 0, 1) := by decide +kernel
theorem dX6_begin_141 : decode cX6_begin 141 = .ok (.getfield 21, 3) := by decide +kernel
theorem dX6_begin_144 : decode cX6_begin 144 = .ok (.getfield 83, 3) := by decide +kernel
theorem dX6_begin_147 : decode cX6_begin 147 = .ok (.invokestatic 99, 3) := by decide +kernel
theorem dX6_begin_150 : decode cX6_begin 150 = .ok (.putfield 105, 3) := by decide +kernel
theorem dX6_begin_153 : decode cX6_begin 153 = .ok (.return_, 1) := by decide +kernel
set_option maxRecDepth 20000 in
theorem ggX6_step_X0_get : GoodIn wsX6_step wsX0_get := goodIn_r _ [9, 10, 11, 112, 113] (by decide +kernel) (by decide +kernel)
set_option maxRecDepth 20000 in
theorem gX6_step_X0_get : GoodIn wsX6_step (wsV RX6 110 RX0 yX0_get wsX0_get) := goodIn_app (goodIn_of _ (by decide +kernel)) ggX6_step_X0_get
set_option maxRecDepth 20000 in
theorem ggX6_step_X6_leave : GoodIn wsX6_step wsX6_leave := goodIn_r _ [16, 17, 4, 18, 2, 19, 20, 21, 22, 23, 24, 96, 97, 98, 99, 100, 101, 102, 103, 104, 105, 106, 107, 108, 109, 110, 111] (by decide +kernel) (by decide +kernel)
set_option maxRecDepth 20000 in
theorem gX6_step_X6_leave : GoodIn wsX6_step (wsV RX6 113 RX6 yX6_leave wsX6_leave) := goodIn_app (goodIn_of _ (by decide +kernel)) ggX6_step_X6_leave
set_option maxRecDepth 20000 in
theorem ggX6_step_X6_holds : GoodIn wsX6_step wsX6_holds := goodIn_r _ [28, 1, 2, 5, 6, 7, 8, 9, 10, 11, 29, 30, 31, 15, 32, 33, 34, 35, 36, 37, 38, 39, 40, 41, 42, 43, 17, 21, 22, 23, 24, 96, 97, 98, 99, 100, 101, 102, 103, 104, 105, 106, 107, 108, 109, 110, 111, 112, 113] (by decide +kernel) (by decide +kernel)
set_option maxRecDepth 20000 in
theorem gX6_step_X6_holds : GoodIn wsX6_step (wsV RX6 117 RX6 yX6_holds wsX6_holds) := goodIn_app (goodIn_of _ (by decide +kernel)) ggX6_step_X6_holds
set_option maxRecDepth 20000 in
theorem ggX6_step_X6_work : GoodIn wsX6_step wsX6_work := goodIn_r _ [47, 1, 2, 19, 20, 5, 6, 7, 8, 9, 10, 11, 39, 40, 41, 15, 42, 43, 17, 21, 22, 23, 24, 29, 30, 31, 32, 33, 34, 35, 36, 37, 38, 48, 49, 50, 51, 52, 53, 54, 55, 56, 4, 57, 58, 59, 60, 61, 62, 63, 64, 65, 66, 67, 68, 69, 18, 70, 71, 72, 73, 74, 75, 76, 77, 78, 79, 80, 81, 82, 83, 84, 85, 86, 87, 88, 89, 90, 91, 92, 93, 94, 95, 96, 97, 98, 99, 100, 101, 102, 103, 104, 105, 106, 107, 108, 109, 110, 111, 112, 113, 114, 115, 116, 117, 118, 119, 120, 121, 122, 123, 124, 125, 126, 127] (by decide +kernel) (by decide +kernel)
set_option maxRecDepth 20000 in
theorem gX6_step_X6_work : GoodIn wsX6_step (wsV RX6 121 RX6 yX6_work wsX6_work) := goodIn_app (goodIn_of _ (by decide +kernel)) ggX6_step_X6_work
theorem dX6_step_0 : decode cX6_step 0 = .ok (.aload_n 0, 1) := by decide +kernel
theorem dX6_step_1 : decode cX6_step 1 = .ok (.getfield 38, 3) := by decide +kernel
theorem dX6_step_4 : decode cX6_step 4 = .ok (.aload_n 0, 1) := by decide +kernel
theorem dX6_step_5 : decode cX6_step 5 = .ok (.getfield 105, 3) := by decide +kernel
theorem dX6_step_8 : decode cX6_step 8 = .ok (.iconst 0, 1) := by decide +kernel
theorem dX6_step_9 : decode cX6_step 9 = .ok (.invokevirtual 110, 3) := by decide +kernel
theorem dX6_step_12 : decode cX6_step 12 = .ok (.istore_n 1, 1) := by decide +kernel
theorem dX6_step_13 : decode cX6_step 13 = .ok (.iload_n 1, 1) := by decide +kernel
theorem dX6_step_14 : decode cX6_step 14 = .ok (.iconst 1, 1) := by decide +kernel
theorem dX6_step_15 : decode cX6_step 15 = .ok (.if_icmp .ne 23, 3) := by decide +kernel
theorem dX6_step_18 : decode cX6_step 18 = .ok (.aload_n 0, 1) := by decide +kernel
theorem dX6_step_19 : decode cX6_step 19 = .ok (.aload_n 0, 1) := by decide +kernel
theorem dX6_step_20 : decode cX6_step 20 = .ok (.getfield 38, 3) := by decide +kernel
theorem dX6_step_23 : decode cX6_step 23 = .ok (.aload_n 0, 1) := by decide +kernel
theorem dX6_step_24 : decode cX6_step 24 = .ok (.getfield 105, 3) := by decide +kernel
theorem dX6_step_27 : decode cX6_step 27 = .ok (.bipush 10, 2) := by decide +kernel
theorem dX6_step_29 : decode cX6_step 29 = .ok (.invokevirtual 110, 3) := by decide +kernel
theorem dX6_step_32 : decode cX6_step 32 = .ok (.putfield 105, 3) := by decide +kernel
theorem dX6_step_35 : decode cX6_step 35 = .ok (.goto 88, 3) := by decide +kernel
theorem dX6_step_38 : decode cX6_step 38 = .ok (.iload_n 1, 1) := by decide +kernel
theorem dX6_step_39 : decode cX6_step 39 = .ok (.ifCond .ne 11, 3) := by decide +kernel
theorem dX6_step_42 : decode cX6_step 42 = .ok (.aload_n 0, 1) := by decide +kernel
theorem dX6_step_43 : decode cX6_step 43 = .ok (.iconst 0, 1) := by decide +kernel
theorem dX6_step_44 : decode cX6_step 44 = .ok (.invokevirtual 113, 3) := by decide +kernel
theorem dX6_step_47 : decode cX6_step 47 = .ok (.goto 76, 3) := by decide +kernel
theorem dX6_step_50 : decode cX6_step 50 = .ok (.aload_n 0, 1) := by decide +kernel
theorem dX6_step_51 : decode cX6_step 51 = .ok (.getfield 61, 3) := by decide +kernel
theorem dX6_step_54 : decode cX6_step 54 = .ok (.sipush 400, 3) := by decide +kernel
theorem dX6_step_57 : decode cX6_step 57 = .ok (.if_icmp .lt 11, 3) := by decide +kernel
theorem dX6_step_60 : decode cX6_step 60 = .ok (.aload_n 0, 1) := by decide +kernel
theorem dX6_step_61 : decode cX6_step 61 = .ok (.iconst 3, 1) := by decide +kernel
theorem dX6_step_62 : decode cX6_step 62 = .ok (.putfield 44, 3) := by decide +kernel
theorem dX6_step_65 : decode cX6_step 65 = .ok (.goto 58, 3) := by decide +kernel
theorem dX6_step_68 : decode cX6_step 68 = .ok (.aload_n 0, 1) := by decide +kernel
theorem dX6_step_69 : decode cX6_step 69 = .ok (.dup, 1) := by decide +kernel
theorem dX6_step_70 : decode cX6_step 70 = .ok (.getfield 61, 3) := by decide +kernel
theorem dX6_step_73 : decode cX6_step 73 = .ok (.iconst 1, 1) := by decide +kernel
theorem dX6_step_74 : decode cX6_step 74 = .ok (.iadd, 1) := by decide +kernel
theorem dX6_step_75 : decode cX6_step 75 = .ok (.putfield 61, 3) := by decide +kernel
theorem dX6_step_78 : decode cX6_step 78 = .ok (.iload_n 1, 1) := by decide +kernel
theorem dX6_step_79 : decode cX6_step 79 = .ok (.iconst 2, 1) := by decide +kernel
theorem dX6_step_80 : decode cX6_step 80 = .ok (.if_icmp .ne 39, 3) := by decide +kernel
theorem dX6_step_83 : decode cX6_step 83 = .ok (.aload_n 0, 1) := by decide +kernel
theorem dX6_step_84 : decode cX6_step 84 = .ok (.aload_n 0, 1) := by decide +kernel
theorem dX6_step_85 : decode cX6_step 85 = .ok (.invokevirtual 117, 3) := by decide +kernel
theorem dX6_step_88 : decode cX6_step 88 = .ok (.ifCond .eq 12, 3) := by decide +kernel
theorem dX6_step_91 : decode cX6_step 91 = .ok (.aload_n 0, 1) := by decide +kernel
theorem dX6_step_92 : decode cX6_step 92 = .ok (.getfield 105, 3) := by decide +kernel
theorem dX6_step_95 : decode cX6_step 95 = .ok (.iconst 1, 1) := by decide +kernel
theorem dX6_step_96 : decode cX6_step 96 = .ok (.iadd, 1) := by decide +kernel
theorem dX6_step_97 : decode cX6_step 97 = .ok (.goto 16, 3) := by decide +kernel
theorem dX6_step_100 : decode cX6_step 100 = .ok (.aload_n 0, 1) := by decide +kernel
theorem dX6_step_101 : decode cX6_step 101 = .ok (.getfield 38, 3) := by decide +kernel
theorem dX6_step_104 : decode cX6_step 104 = .ok (.aload_n 0, 1) := by decide +kernel
theorem dX6_step_105 : decode cX6_step 105 = .ok (.getfield 105, 3) := by decide +kernel
theorem dX6_step_108 : decode cX6_step 108 = .ok (.bipush 10, 2) := by decide +kernel
theorem dX6_step_110 : decode cX6_step 110 = .ok (.invokevirtual 110, 3) := by decide +kernel
theorem dX6_step_113 : decode cX6_step 113 = .ok (.putfield 105, 3) := by decide +kernel
theorem dX6_step_116 : decode cX6_step 116 = .ok (.goto 7, 3) := by decide +kernel
theorem dX6_step_119 : decode cX6_step 119 = .ok (.aload_n 0, 1) := by decide +kernel
theorem dX6_step_120 : decode cX6_step 120 = .ok (.invokevirtual 121, 3) := by decide +kernel
theorem dX6_step_123 : decode cX6_step 123 = .ok (.return_, 1) := by decide +kernel
set_option maxRecDepth 20000 in
theorem ggX6_holds_X0_get : GoodIn wsX6_holds wsX0_get := goodIn_r _ [7, 8, 9, 47, 48] (by decide +kernel) (by decide +kernel)
set_option maxRecDepth 20000 in
theorem gX6_holds_X0_get : GoodIn wsX6_holds (wsV RX6 110 RX0 yX0_get wsX0_get) := goodIn_app (goodIn_of _ (by decide +kernel)) ggX6_holds_X0_get
set_option maxRecDepth 20000 in
theorem ggX6_holds_X6_choose : GoodIn wsX6_holds wsX6_choose := goodIn_r _ [14, 15, 16, 17, 18, 19, 20, 31, 32, 33, 34, 35, 36, 37, 38, 39, 40, 41, 42, 43, 44, 45, 46] (by decide +kernel) (by decide +kernel)
set_option maxRecDepth 20000 in
theorem gX6_holds_X6_choose : GoodIn wsX6_holds (wsV RX6 124 RX6 yX6_choose wsX6_choose) := goodIn_app (goodIn_of _ (by decide +kernel)) ggX6_holds_X6_choose
set_option maxRecDepth 20000 in
theorem ggX6_holds_X6_nameOf : GoodIn wsX6_holds wsX6_nameOf := goodIn_r _ [24, 25, 26, 27, 28, 29, 30, 31, 32, 33, 34, 35, 36, 37, 38, 39, 40, 41, 42, 43, 44, 45, 46] (by decide +kernel) (by decide +kernel)
set_option maxRecDepth 20000 in
theorem gX6_holds_X6_nameOf : GoodIn wsX6_holds (wsV RX6 127 RX6 yX6_nameOf wsX6_nameOf) := goodIn_app (goodIn_of _ (by decide +kernel)) ggX6_holds_X6_nameOf
theorem dX6_holds_0 : decode cX6_holds 0 = .ok (.aload_n 0, 1) := by decide +kernel
theorem dX6_holds_1 : decode cX6_holds 1 = .ok (.getfield 38, 3) := by decide +kernel
theorem dX6_holds_4 : decode cX6_holds 4 = .ok (.aload_n 0, 1) := by decide +kernel
theorem dX6_holds_5 : decode cX6_holds 5 = .ok (.getfield 105, 3) := by decide +kernel
theorem dX6_holds_8 : decode cX6_holds 8 = .ok (.iconst 4, 1) := by decide +kernel
theorem dX6_holds_9 : decode cX6_holds 9 = .ok (.invokevirtual 110, 3) := by decide +kernel
theorem dX6_holds_12 : decode cX6_holds 12 = .ok (.istore_n 1, 1) := by decide +kernel
theorem dX6_holds_13 : decode cX6_holds 13 = .ok (.iload_n 1, 1) := by decide +kernel
theorem dX6_holds_14 : decode cX6_holds 14 = .ok (.iconst 1, 1) := by decide +kernel
theorem dX6_holds_15 : decode cX6_holds 15 = .ok (.if_icmp .ne 8, 3) := by decide +kernel
theorem dX6_holds_18 : decode cX6_holds 18 = .ok (.aload_n 0, 1) := by decide +kernel
theorem dX6_holds_19 : decode cX6_holds 19 = .ok (.invokevirtual 124, 3) := by decide +kernel
theorem dX6_holds_22 : decode cX6_holds 22 = .ok (.ireturn, 1) := by decide +kernel
theorem dX6_holds_23 : decode cX6_holds 23 = .ok (.aload_n 0, 1) := by decide +kernel
theorem dX6_holds_24 : decode cX6_holds 24 = .ok (.aload_n 0, 1) := by decide +kernel
theorem dX6_holds_25 : decode cX6_holds 25 = .ok (.getfield 38, 3) := by decide +kernel
theorem dX6_holds_28 : decode cX6_holds 28 = .ok (.aload_n 0, 1) := by decide +kernel
theorem dX6_holds_29 : decode cX6_holds 29 = .ok (.getfield 105, 3) := by decide +kernel
theorem dX6_holds_32 : decode cX6_holds 32 = .ok (.iconst 1, 1) := by decide +kernel
theorem dX6_holds_33 : decode cX6_holds 33 = .ok (.invokevirtual 110, 3) := by decide +kernel
theorem dX6_holds_36 : decode cX6_holds 36 = .ok (.invokevirtual 127, 3) := by decide +kernel
theorem dX6_holds_39 : decode cX6_holds 39 = .ok (.ifCond .ne 7, 3) := by decide +kernel
theorem dX6_holds_42 : decode cX6_holds 42 = .ok (.iconst 1, 1) := by decide +kernel
theorem dX6_holds_43 : decode cX6_holds 43 = .ok (.goto 4, 3) := by decide +kernel
theorem dX6_holds_46 : decode cX6_holds 46 = .ok (.iconst 0, 1) := by decide +kernel
theorem dX6_holds_47 : decode cX6_holds 47 = .ok (.istore_n 2, 1) := by decide +kernel
theorem dX6_holds_48 : decode cX6_holds 48 = .ok (.iload_n 2, 1) := by decide +kernel
theorem dX6_holds_49 : decode cX6_holds 49 = .ok (.iload_n 1, 1) := by decide +kernel
theorem dX6_holds_50 : decode cX6_holds 50 = .ok (.bipush 6, 2) := by decide +kernel
theorem dX6_holds_52 : decode cX6_holds 52 = .ok (.if_icmp .ne 7, 3) := by decide +kernel
theorem dX6_holds_55 : decode cX6_holds 55 = .ok (.iconst 1, 1) := by decide +kernel
theorem dX6_holds_56 : decode cX6_holds 56 = .ok (.goto 4, 3) := by decide +kernel
theorem dX6_holds_59 : decode cX6_holds 59 = .ok (.iconst 0, 1) := by decide +kernel
theorem dX6_holds_60 : decode cX6_holds 60 = .ok (.if_icmp .ne 7, 3) := by decide +kernel
theorem dX6_holds_63 : decode cX6_holds 63 = .ok (.iconst 1, 1) := by decide +kernel
theorem dX6_holds_64 : decode cX6_holds 64 = .ok (.goto 4, 3) := by decide +kernel
theorem dX6_holds_67 : decode cX6_holds 67 = .ok (.iconst 0, 1) := by decide +kernel
theorem dX6_holds_68 : decode cX6_holds 68 = .ok (.ireturn, 1) := by decide +kernel
set_option maxRecDepth 20000 in
theorem ggX6_choose_J9_floorMod_7cf53 : GoodIn wsX6_choose wsJ9_floorMod_7cf53 := goodIn_r _ [6] (by decide +kernel) (by decide +kernel)
set_option maxRecDepth 20000 in
theorem gX6_choose_J9_floorMod_7cf53 : GoodIn wsX6_choose (va_wsS RX6 131 yJ9_floorMod_7cf53 wsJ9_floorMod_7cf53) := goodIn_app (goodIn_of _ (by decide +kernel)) ggX6_choose_J9_floorMod_7cf53
theorem dX6_choose_0 : decode cX6_choose 0 = .ok (.aload_n 0, 1) := by decide +kernel
theorem dX6_choose_1 : decode cX6_choose 1 = .ok (.getfield 67, 3) := by decide +kernel
theorem dX6_choose_4 : decode cX6_choose 4 = .ok (.bipush 8, 2) := by decide +kernel
theorem dX6_choose_6 : decode cX6_choose 6 = .ok (.invokestatic 131, 3) := by decide +kernel
theorem dX6_choose_9 : decode cX6_choose 9 = .ok (.istore_n 1, 1) := by decide +kernel
theorem dX6_choose_10 : decode cX6_choose 10 = .ok (.aload_n 0, 1) := by decide +kernel
theorem dX6_choose_11 : decode cX6_choose 11 = .ok (.dup, 1) := by decide +kernel
theorem dX6_choose_12 : decode cX6_choose 12 = .ok (.getfield 67, 3) := by decide +kernel
theorem dX6_choose_15 : decode cX6_choose 15 = .ok (.iconst 1, 1) := by decide +kernel
theorem dX6_choose_16 : decode cX6_choose 16 = .ok (.iadd, 1) := by decide +kernel
theorem dX6_choose_17 : decode cX6_choose 17 = .ok (.putfield 67, 3) := by decide +kernel
theorem dX6_choose_20 : decode cX6_choose 20 = .ok (.aload_n 0, 1) := by decide +kernel
theorem dX6_choose_21 : decode cX6_choose 21 = .ok (.getfield 58, 3) := by decide +kernel
theorem dX6_choose_24 : decode cX6_choose 24 = .ok (.iload_n 1, 1) := by decide +kernel
theorem dX6_choose_25 : decode cX6_choose 25 = .ok (.ishr, 1) := by decide +kernel
theorem dX6_choose_26 : decode cX6_choose 26 = .ok (.iconst 1, 1) := by decide +kernel
theorem dX6_choose_27 : decode cX6_choose 27 = .ok (.iand, 1) := by decide +kernel
theorem dX6_choose_28 : decode cX6_choose 28 = .ok (.ifCond .eq 7, 3) := by decide +kernel
theorem dX6_choose_31 : decode cX6_choose 31 = .ok (.iconst 1, 1) := by decide +kernel
theorem dX6_choose_32 : decode cX6_choose 32 = .ok (.goto 4, 3) := by decide +kernel
theorem dX6_choose_35 : decode cX6_choose 35 = .ok (.iconst 0, 1) := by decide +kernel
theorem dX6_choose_36 : decode cX6_choose 36 = .ok (.ireturn, 1) := by decide +kernel
set_option maxRecDepth 20000 in
theorem ggX6_work_X0_get : GoodIn wsX6_work wsX0_get := goodIn_r _ [9, 10, 11, 99, 100] (by decide +kernel) (by decide +kernel)
set_option maxRecDepth 20000 in
theorem gX6_work_X0_get : GoodIn wsX6_work (wsV RX6 110 RX0 yX0_get wsX0_get) := goodIn_app (goodIn_of _ (by decide +kernel)) ggX6_work_X0_get
set_option maxRecDepth 20000 in
theorem ggX6_work_X6_nameOf : GoodIn wsX6_work wsX6_nameOf := goodIn_r _ [16, 17, 18, 19, 20, 21, 22, 83, 84, 85, 86, 87, 88, 89, 90, 91, 92, 93, 94, 95, 96, 97, 98] (by decide +kernel) (by decide +kernel)
set_option maxRecDepth 20000 in
theorem gX6_work_X6_nameOf : GoodIn wsX6_work (wsV RX6 127 RX6 yX6_nameOf wsX6_nameOf) := goodIn_app (goodIn_of _ (by decide +kernel)) ggX6_work_X6_nameOf
set_option maxRecDepth 20000 in
theorem ggX6_work_X6_choose : GoodIn wsX6_work wsX6_choose := goodIn_r _ [26, 27, 28, 29, 30, 31, 32, 83, 84, 85, 86, 87, 88, 89, 90, 91, 92, 93, 94, 95, 96, 97, 98] (by decide +kernel) (by decide +kernel)
set_option maxRecDepth 20000 in
theorem gX6_work_X6_choose : GoodIn wsX6_work (wsV RX6 124 RX6 yX6_choose wsX6_choose) := goodIn_app (goodIn_of _ (by decide +kernel)) ggX6_work_X6_choose
set_option maxRecDepth 20000 in
theorem ggX6_work_X6_makeLoop : GoodIn wsX6_work wsX6_makeLoop := goodIn_r _ [36, 37, 38, 39, 40, 15, 41, 42, 43, 44, 45, 21, 46, 83, 84, 85, 86, 87, 88, 89, 90, 91, 92, 93, 94, 95, 96, 97, 98] (by decide +kernel) (by decide +kernel)
set_option maxRecDepth 20000 in
theorem gX6_work_X6_makeLoop : GoodIn wsX6_work (wsV RX6 90 RX6 yX6_makeLoop wsX6_makeLoop) := goodIn_app (goodIn_of _ (by decide +kernel)) ggX6_work_X6_makeLoop
set_option maxRecDepth 20000 in
theorem ggX6_work_X6_make : GoodIn wsX6_work wsX6_make := goodIn_r _ [41, 37, 42, 43, 44, 45, 21, 46, 83, 84, 85, 86, 87, 88, 89, 90, 91, 92, 93, 94, 95, 96, 97, 98] (by decide +kernel) (by decide +kernel)
set_option maxRecDepth 20000 in
theorem gX6_work_X6_make : GoodIn wsX6_work (wsV RX6 139 RX6 yX6_make wsX6_make) := goodIn_app (goodIn_of _ (by decide +kernel)) ggX6_work_X6_make
set_option maxRecDepth 20000 in
theorem ggX6_work_X6_fieldOf : GoodIn wsX6_work wsX6_fieldOf := goodIn_r _ [50, 42, 1, 2, 51, 43, 5, 6, 7, 8, 9, 10, 11, 19, 20, 21, 22, 83, 84, 85, 86, 87, 88, 89, 90, 91, 92, 93, 94, 95, 96, 97, 98, 99, 100] (by decide +kernel) (by decide +kernel)
set_option maxRecDepth 20000 in
theorem gX6_work_X6_fieldOf : GoodIn wsX6_work (wsV RX6 142 RX6 yX6_fieldOf wsX6_fieldOf) := goodIn_app (goodIn_of _ (by decide +kernel)) ggX6_work_X6_fieldOf
set_option maxRecDepth 20000 in
theorem ggX6_work_X6_enter : GoodIn wsX6_work wsX6_enter := goodIn_r _ [55, 18, 42, 56, 2, 1, 17, 57, 58, 4, 44, 45, 21, 46, 59, 60, 61, 15, 62, 63, 64, 65, 8, 66, 67, 6, 7, 9, 10, 11, 68, 69, 70, 71, 19, 20, 22, 72, 73, 74, 75, 76, 77, 78, 79, 80, 81, 82, 83, 84, 85, 86, 87, 88, 89, 90, 91, 92, 93, 94, 95, 96, 97, 98, 101, 102, 103, 104, 105, 106, 107, 108, 109, 110, 111, 112, 113, 114, 99, 100] (by decide +kernel) (by decide +kernel)
set_option maxRecDepth 20000 in
theorem gX6_work_X6_enter : GoodIn wsX6_work (wsV RX6 145 RX6 yX6_enter wsX6_enter) := goodIn_app (goodIn_of _ (by decide +kernel)) ggX6_work_X6_enter
theorem dX6_work_0 : decode cX6_work 0 = .ok (.aload_n 0, 1) := by decide +kernel
theorem dX6_work_1 : decode cX6_work 1 = .ok (.getfield 38, 3) := by decide +kernel
theorem dX6_work_4 : decode cX6_work 4 = .ok (.aload_n 0, 1) := by decide +kernel
theorem dX6_work_5 : decode cX6_work 5 = .ok (.getfield 105, 3) := by decide +kernel
theorem dX6_work_8 : decode cX6_work 8 = .ok (.iconst 5, 1) := by decide +kernel
theorem dX6_work_9 : decode cX6_work 9 = .ok (.invokevirtual 110, 3) := by decide +kernel
theorem dX6_work_12 : decode cX6_work 12 = .ok (.istore_n 1, 1) := by decide +kernel
theorem dX6_work_13 : decode cX6_work 13 = .ok (.aload_n 0, 1) := by decide +kernel
theorem dX6_work_14 : decode cX6_work 14 = .ok (.getfield 38, 3) := by decide +kernel
theorem dX6_work_17 : decode cX6_work 17 = .ok (.aload_n 0, 1) := by decide +kernel
theorem dX6_work_18 : decode cX6_work 18 = .ok (.getfield 105, 3) := by decide +kernel
theorem dX6_work_21 : decode cX6_work 21 = .ok (.bipush 6, 2) := by decide +kernel
theorem dX6_work_23 : decode cX6_work 23 = .ok (.invokevirtual 110, 3) := by decide +kernel
theorem dX6_work_26 : decode cX6_work 26 = .ok (.istore_n 2, 1) := by decide +kernel
theorem dX6_work_27 : decode cX6_work 27 = .ok (.aload_n 0, 1) := by decide +kernel
theorem dX6_work_28 : decode cX6_work 28 = .ok (.iload_n 1, 1) := by decide +kernel
theorem dX6_work_29 : decode cX6_work 29 = .ok (.invokevirtual 127, 3) := by decide +kernel
theorem dX6_work_32 : decode cX6_work 32 = .ok (.istore_n 3, 1) := by decide +kernel
theorem dX6_work_33 : decode cX6_work 33 = .ok (.aload_n 0, 1) := by decide +kernel
theorem dX6_work_34 : decode cX6_work 34 = .ok (.getfield 38, 3) := by decide +kernel
theorem dX6_work_37 : decode cX6_work 37 = .ok (.aload_n 0, 1) := by decide +kernel
theorem dX6_work_38 : decode cX6_work 38 = .ok (.getfield 105, 3) := by decide +kernel
theorem dX6_work_41 : decode cX6_work 41 = .ok (.iconst 4, 1) := by decide +kernel
theorem dX6_work_42 : decode cX6_work 42 = .ok (.invokevirtual 110, 3) := by decide +kernel
theorem dX6_work_45 : decode cX6_work 45 = .ok (.istore 4, 2) := by decide +kernel
theorem dX6_work_47 : decode cX6_work 47 = .ok (.aload_n 0, 1) := by decide +kernel
theorem dX6_work_48 : decode cX6_work 48 = .ok (.iconst 0, 1) := by decide +kernel
theorem dX6_work_49 : decode cX6_work 49 = .ok (.putfield 136, 3) := by decide +kernel
theorem dX6_work_52 : decode cX6_work 52 = .ok (.aload_n 0, 1) := by decide +kernel
theorem dX6_work_53 : decode cX6_work 53 = .ok (.iconst 1, 1) := by decide +kernel
theorem dX6_work_54 : decode cX6_work 54 = .ok (.putfield 48, 3) := by decide +kernel
theorem dX6_work_57 : decode cX6_work 57 = .ok (.iload 4, 2) := by decide +kernel
theorem dX6_work_59 : decode cX6_work 59 = .ok (.iconst 1, 1) := by decide +kernel
theorem dX6_work_60 : decode cX6_work 60 = .ok (.if_icmp .ne 25, 3) := by decide +kernel
theorem dX6_work_63 : decode cX6_work 63 = .ok (.aload_n 0, 1) := by decide +kernel
theorem dX6_work_64 : decode cX6_work 64 = .ok (.aload_n 0, 1) := by decide +kernel
theorem dX6_work_65 : decode cX6_work 65 = .ok (.invokevirtual 124, 3) := by decide +kernel
theorem dX6_work_68 : decode cX6_work 68 = .ok (.ifCond .eq 10, 3) := by decide +kernel
theorem dX6_work_71 : decode cX6_work 71 = .ok (.aload_n 0, 1) := by decide +kernel
theorem dX6_work_72 : decode cX6_work 72 = .ok (.invokevirtual 90, 3) := by decide +kernel
theorem dX6_work_75 : decode cX6_work 75 = .ok (.goto 4, 3) := by decide +kernel
theorem dX6_work_78 : decode cX6_work 78 = .ok (.iconst 0, 1) := by decide +kernel
theorem dX6_work_79 : decode cX6_work 79 = .ok (.putfield 136, 3) := by decide +kernel
theorem dX6_work_82 : decode cX6_work 82 = .ok (.goto 70, 3) := by decide +kernel
theorem dX6_work_85 : decode cX6_work 85 = .ok (.iload 4, 2) := by decide +kernel
theorem dX6_work_87 : decode cX6_work 87 = .ok (.iconst 2, 1) := by decide +kernel
theorem dX6_work_88 : decode cX6_work 88 = .ok (.if_icmp .ne 20, 3) := by decide +kernel
theorem dX6_work_91 : decode cX6_work 91 = .ok (.aload_n 0, 1) := by decide +kernel
theorem dX6_work_92 : decode cX6_work 92 = .ok (.aload_n 0, 1) := by decide +kernel
theorem dX6_work_93 : decode cX6_work 93 = .ok (.iload_n 3, 1) := by decide +kernel
theorem dX6_work_94 : decode cX6_work 94 = .ok (.aload_n 0, 1) := by decide +kernel
theorem dX6_work_95 : decode cX6_work 95 = .ok (.iload_n 2, 1) := by decide +kernel
theorem dX6_work_96 : decode cX6_work 96 = .ok (.invokevirtual 127, 3) := by decide +kernel
theorem dX6_work_99 : decode cX6_work 99 = .ok (.invokevirtual 139, 3) := by decide +kernel
theorem dX6_work_102 : decode cX6_work 102 = .ok (.putfield 136, 3) := by decide +kernel
theorem dX6_work_105 : decode cX6_work 105 = .ok (.goto 47, 3) := by decide +kernel
theorem dX6_work_108 : decode cX6_work 108 = .ok (.iload 4, 2) := by decide +kernel
theorem dX6_work_110 : decode cX6_work 110 = .ok (.iconst 3, 1) := by decide +kernel
theorem dX6_work_111 : decode cX6_work 111 = .ok (.if_icmp .ne 11, 3) := by decide +kernel
theorem dX6_work_114 : decode cX6_work 114 = .ok (.aload_n 0, 1) := by decide +kernel
theorem dX6_work_115 : decode cX6_work 115 = .ok (.iload_n 3, 1) := by decide +kernel
theorem dX6_work_116 : decode cX6_work 116 = .ok (.putfield 136, 3) := by decide +kernel
theorem dX6_work_119 : decode cX6_work 119 = .ok (.goto 33, 3) := by decide +kernel
theorem dX6_work_122 : decode cX6_work 122 = .ok (.iload 4, 2) := by decide +kernel
theorem dX6_work_124 : decode cX6_work 124 = .ok (.iconst 4, 1) := by decide +kernel
theorem dX6_work_125 : decode cX6_work 125 = .ok (.if_icmp .ne 16, 3) := by decide +kernel
theorem dX6_work_128 : decode cX6_work 128 = .ok (.aload_n 0, 1) := by decide +kernel
theorem dX6_work_129 : decode cX6_work 129 = .ok (.aload_n 0, 1) := by decide +kernel
theorem dX6_work_130 : decode cX6_work 130 = .ok (.iload_n 3, 1) := by decide +kernel
theorem dX6_work_131 : decode cX6_work 131 = .ok (.iload_n 2, 1) := by decide +kernel
theorem dX6_work_132 : decode cX6_work 132 = .ok (.invokevirtual 142, 3) := by decide +kernel
theorem dX6_work_135 : decode cX6_work 135 = .ok (.putfield 136, 3) := by decide +kernel
theorem dX6_work_138 : decode cX6_work 138 = .ok (.goto 14, 3) := by decide +kernel
theorem dX6_work_141 : decode cX6_work 141 = .ok (.iload 4, 2) := by decide +kernel
theorem dX6_work_143 : decode cX6_work 143 = .ok (.iconst 5, 1) := by decide +kernel
theorem dX6_work_144 : decode cX6_work 144 = .ok (.if_icmp .ne 8, 3) := by decide +kernel
theorem dX6_work_147 : decode cX6_work 147 = .ok (.aload_n 0, 1) := by decide +kernel
theorem dX6_work_148 : decode cX6_work 148 = .ok (.iload_n 2, 1) := by decide +kernel
theorem dX6_work_149 : decode cX6_work 149 = .ok (.invokevirtual 145, 3) := by decide +kernel
theorem dX6_work_152 : decode cX6_work 152 = .ok (.return_, 1) := by decide +kernel
set_option maxRecDepth 20000 in
theorem ggX6_finish_X0_get : GoodIn wsX6_finish wsX0_get := goodIn_r _ [9, 10, 11, 58, 59] (by decide +kernel) (by decide +kernel)
set_option maxRecDepth 20000 in
theorem gX6_finish_X0_get : GoodIn wsX6_finish (wsV RX6 110 RX0 yX0_get wsX0_get) := goodIn_app (goodIn_of _ (by decide +kernel)) ggX6_finish_X0_get
set_option maxRecDepth 20000 in
theorem ggX6_finish_X6_leave : GoodIn wsX6_finish wsX6_leave := goodIn_r _ [16, 17, 18, 19, 3, 4, 1, 20, 21, 22, 23, 42, 43, 44, 45, 46, 47, 48, 49, 50, 51, 52, 53, 54, 55, 56, 57] (by decide +kernel) (by decide +kernel)
set_option maxRecDepth 20000 in
theorem gX6_finish_X6_leave : GoodIn wsX6_finish (wsV RX6 113 RX6 yX6_leave wsX6_leave) := goodIn_app (goodIn_of _ (by decide +kernel)) ggX6_finish_X6_leave
set_option maxRecDepth 20000 in
theorem ggX6_finish_X6_setName : GoodIn wsX6_finish wsX6_setName := goodIn_r _ [27, 28, 17, 29, 30, 22, 31, 42, 43, 44, 45, 46, 47, 48, 49, 50, 51, 52, 53, 54, 55, 56, 57] (by decide +kernel) (by decide +kernel)
set_option maxRecDepth 20000 in
theorem gX6_finish_X6_setName : GoodIn wsX6_finish (wsV RX6 93 RX6 yX6_setName wsX6_setName) := goodIn_app (goodIn_of _ (by decide +kernel)) ggX6_finish_X6_setName
set_option maxRecDepth 20000 in
theorem ggX6_finish_X6_nameOf : GoodIn wsX6_finish wsX6_nameOf := goodIn_r _ [35, 28, 17, 20, 21, 22, 23, 42, 43, 44, 45, 46, 47, 48, 49, 50, 51, 52, 53, 54, 55, 56, 57] (by decide +kernel) (by decide +kernel)
set_option maxRecDepth 20000 in
theorem gX6_finish_X6_nameOf : GoodIn wsX6_finish (wsV RX6 127 RX6 yX6_nameOf wsX6_nameOf) := goodIn_app (goodIn_of _ (by decide +kernel)) ggX6_finish_X6_nameOf
set_option maxRecDepth 20000 in
theorem ggX6_finish_X6_store : GoodIn wsX6_finish wsX6_store := goodIn_r _ [39, 18, 2, 3, 40, 41, 4, 5, 6, 7, 8, 9, 10, 11, 29, 30, 22, 31, 42, 43, 44, 45, 46, 47, 48, 49, 50, 51, 52, 53, 54, 55, 56, 57, 58, 59] (by decide +kernel) (by decide +kernel)
set_option maxRecDepth 20000 in
theorem gX6_finish_X6_store : GoodIn wsX6_finish (wsV RX6 148 RX6 yX6_store wsX6_store) := goodIn_app (goodIn_of _ (by decide +kernel)) ggX6_finish_X6_store
theorem dX6_finish_0 : decode cX6_finish 0 = .ok (.aload_n 0, 1) := by decide +kernel
theorem dX6_finish_1 : decode cX6_finish 1 = .ok (.iconst 0, 1) := by decide +kernel
theorem dX6_finish_2 : decode cX6_finish 2 = .ok (.putfield 48, 3) := by decide +kernel
theorem dX6_finish_5 : decode cX6_finish 5 = .ok (.aload_n 0, 1) := by decide +kernel
theorem dX6_finish_6 : decode cX6_finish 6 = .ok (.getfield 38, 3) := by decide +kernel
theorem dX6_finish_9 : decode cX6_finish 9 = .ok (.aload_n 0, 1) := by decide +kernel
theorem dX6_finish_10 : decode cX6_finish 10 = .ok (.getfield 105, 3) := by decide +kernel
theorem dX6_finish_13 : decode cX6_finish 13 = .ok (.iconst 1, 1) := by decide +kernel
theorem dX6_finish_14 : decode cX6_finish 14 = .ok (.invokevirtual 110, 3) := by decide +kernel
theorem dX6_finish_17 : decode cX6_finish 17 = .ok (.istore_n 1, 1) := by decide +kernel
theorem dX6_finish_18 : decode cX6_finish 18 = .ok (.aload_n 0, 1) := by decide +kernel
theorem dX6_finish_19 : decode cX6_finish 19 = .ok (.getfield 38, 3) := by decide +kernel
theorem dX6_finish_22 : decode cX6_finish 22 = .ok (.aload_n 0, 1) := by decide +kernel
theorem dX6_finish_23 : decode cX6_finish 23 = .ok (.getfield 105, 3) := by decide +kernel
theorem dX6_finish_26 : decode cX6_finish 26 = .ok (.iconst 0, 1) := by decide +kernel
theorem dX6_finish_27 : decode cX6_finish 27 = .ok (.invokevirtual 110, 3) := by decide +kernel
theorem dX6_finish_30 : decode cX6_finish 30 = .ok (.istore_n 2, 1) := by decide +kernel
theorem dX6_finish_31 : decode cX6_finish 31 = .ok (.iload_n 2, 1) := by decide +kernel
theorem dX6_finish_32 : decode cX6_finish 32 = .ok (.bipush 6, 2) := by decide +kernel
theorem dX6_finish_34 : decode cX6_finish 34 = .ok (.if_icmp .ne 12, 3) := by decide +kernel
theorem dX6_finish_37 : decode cX6_finish 37 = .ok (.aload_n 0, 1) := by decide +kernel
theorem dX6_finish_38 : decode cX6_finish 38 = .ok (.aload_n 0, 1) := by decide +kernel
theorem dX6_finish_39 : decode cX6_finish 39 = .ok (.getfield 136, 3) := by decide +kernel
theorem dX6_finish_42 : decode cX6_finish 42 = .ok (.invokevirtual 113, 3) := by decide +kernel
theorem dX6_finish_45 : decode cX6_finish 45 = .ok (.return_, 1) := by decide +kernel
theorem dX6_finish_46 : decode cX6_finish 46 = .ok (.iload_n 2, 1) := by decide +kernel
theorem dX6_finish_47 : decode cX6_finish 47 = .ok (.iconst 3, 1) := by decide +kernel
theorem dX6_finish_48 : decode cX6_finish 48 = .ok (.if_icmp .ne 15, 3) := by decide +kernel
theorem dX6_finish_51 : decode cX6_finish 51 = .ok (.aload_n 0, 1) := by decide +kernel
theorem dX6_finish_52 : decode cX6_finish 52 = .ok (.iload_n 1, 1) := by decide +kernel
theorem dX6_finish_53 : decode cX6_finish 53 = .ok (.aload_n 0, 1) := by decide +kernel
theorem dX6_finish_54 : decode cX6_finish 54 = .ok (.getfield 136, 3) := by decide +kernel
theorem dX6_finish_57 : decode cX6_finish 57 = .ok (.invokevirtual 93, 3) := by decide +kernel
theorem dX6_finish_60 : decode cX6_finish 60 = .ok (.goto 17, 3) := by decide +kernel
theorem dX6_finish_63 : decode cX6_finish 63 = .ok (.iload_n 2, 1) := by decide +kernel
theorem dX6_finish_64 : decode cX6_finish 64 = .ok (.iconst 4, 1) := by decide +kernel
theorem dX6_finish_65 : decode cX6_finish 65 = .ok (.if_icmp .ne 12, 3) := by decide +kernel
theorem dX6_finish_68 : decode cX6_finish 68 = .ok (.aload_n 0, 1) := by decide +kernel
theorem dX6_finish_69 : decode cX6_finish 69 = .ok (.aload_n 0, 1) := by decide +kernel
theorem dX6_finish_70 : decode cX6_finish 70 = .ok (.iload_n 1, 1) := by decide +kernel
theorem dX6_finish_71 : decode cX6_finish 71 = .ok (.invokevirtual 127, 3) := by decide +kernel
theorem dX6_finish_74 : decode cX6_finish 74 = .ok (.invokevirtual 148, 3) := by decide +kernel
theorem dX6_finish_77 : decode cX6_finish 77 = .ok (.aload_n 0, 1) := by decide +kernel
theorem dX6_finish_78 : decode cX6_finish 78 = .ok (.dup, 1) := by decide +kernel
theorem dX6_finish_79 : decode cX6_finish 79 = .ok (.getfield 105, 3) := by decide +kernel
theorem dX6_finish_82 : decode cX6_finish 82 = .ok (.iconst 1, 1) := by decide +kernel
theorem dX6_finish_83 : decode cX6_finish 83 = .ok (.iadd, 1) := by decide +kernel
theorem dX6_finish_84 : decode cX6_finish 84 = .ok (.putfield 105, 3) := by decide +kernel
theorem dX6_finish_87 : decode cX6_finish 87 = .ok (.return_, 1) := by decide +kernel
set_option maxRecDepth 20000 in
theorem ggX6_fieldOf_X0_get : GoodIn wsX6_fieldOf wsX0_get := goodIn_r _ [10, 11, 12, 33, 34] (by decide +kernel) (by decide +kernel)
set_option maxRecDepth 20000 in
theorem gX6_fieldOf_X0_get : GoodIn wsX6_fieldOf (wsV RX6 110 RX0 yX0_get wsX0_get) := goodIn_app (goodIn_of _ (by decide +kernel)) ggX6_fieldOf_X0_get
set_option maxRecDepth 20000 in
theorem ggX6_fieldOf_X5_at : GoodIn wsX6_fieldOf wsX5_at := goodIn_r _ [16] (by decide +kernel) (by decide +kernel)
set_option maxRecDepth 20000 in
theorem gX6_fieldOf_X5_at : GoodIn wsX6_fieldOf (va_wsS RX6 99 yX5_at wsX5_at) := goodIn_app (goodIn_of _ (by decide +kernel)) ggX6_fieldOf_X5_at
theorem dX6_fieldOf_0 : decode cX6_fieldOf 0 = .ok (.iload_n 1, 1) := by decide +kernel
theorem dX6_fieldOf_1 : decode cX6_fieldOf 1 = .ok (.ifCond .ne 27, 3) := by decide +kernel
theorem dX6_fieldOf_4 : decode cX6_fieldOf 4 = .ok (.aload_n 0, 1) := by decide +kernel
theorem dX6_fieldOf_5 : decode cX6_fieldOf 5 = .ok (.iconst 2, 1) := by decide +kernel
theorem dX6_fieldOf_6 : decode cX6_fieldOf 6 = .ok (.putfield 44, 3) := by decide +kernel
theorem dX6_fieldOf_9 : decode cX6_fieldOf 9 = .ok (.aload_n 0, 1) := by decide +kernel
theorem dX6_fieldOf_10 : decode cX6_fieldOf 10 = .ok (.aload_n 0, 1) := by decide +kernel
theorem dX6_fieldOf_11 : decode cX6_fieldOf 11 = .ok (.getfield 38, 3) := by decide +kernel
theorem dX6_fieldOf_14 : decode cX6_fieldOf 14 = .ok (.aload_n 0, 1) := by decide +kernel
theorem dX6_fieldOf_15 : decode cX6_fieldOf 15 = .ok (.getfield 105, 3) := by decide +kernel
theorem dX6_fieldOf_18 : decode cX6_fieldOf 18 = .ok (.bipush 7, 2) := by decide +kernel
theorem dX6_fieldOf_20 : decode cX6_fieldOf 20 = .ok (.invokevirtual 110, 3) := by decide +kernel
theorem dX6_fieldOf_23 : decode cX6_fieldOf 23 = .ok (.putfield 70, 3) := by decide +kernel
theorem dX6_fieldOf_26 : decode cX6_fieldOf 26 = .ok (.iconst 0, 1) := by decide +kernel
theorem dX6_fieldOf_27 : decode cX6_fieldOf 27 = .ok (.ireturn, 1) := by decide +kernel
theorem dX6_fieldOf_28 : decode cX6_fieldOf 28 = .ok (.aload_n 0, 1) := by decide +kernel
theorem dX6_fieldOf_29 : decode cX6_fieldOf 29 = .ok (.getfield 18, 3) := by decide +kernel
theorem dX6_fieldOf_32 : decode cX6_fieldOf 32 = .ok (.iload_n 1, 1) := by decide +kernel
theorem dX6_fieldOf_33 : decode cX6_fieldOf 33 = .ok (.iconst 2, 1) := by decide +kernel
theorem dX6_fieldOf_34 : decode cX6_fieldOf 34 = .ok (.imul, 1) := by decide +kernel
theorem dX6_fieldOf_35 : decode cX6_fieldOf 35 = .ok (.iload_n 2, 1) := by decide +kernel
theorem dX6_fieldOf_36 : decode cX6_fieldOf 36 = .ok (.iadd, 1) := by decide +kernel
theorem dX6_fieldOf_37 : decode cX6_fieldOf 37 = .ok (.invokestatic 99, 3) := by decide +kernel
theorem dX6_fieldOf_40 : decode cX6_fieldOf 40 = .ok (.ireturn, 1) := by decide +kernel
set_option maxRecDepth 20000 in
theorem ggX6_store_X0_get : GoodIn wsX6_store wsX0_get := goodIn_r _ [11, 12, 13, 34, 35] (by decide +kernel) (by decide +kernel)
set_option maxRecDepth 20000 in
theorem gX6_store_X0_get : GoodIn wsX6_store (wsV RX6 110 RX0 yX0_get wsX0_get) := goodIn_app (goodIn_of _ (by decide +kernel)) ggX6_store_X0_get
set_option maxRecDepth 20000 in
theorem ggX6_store_X5_put : GoodIn wsX6_store wsX5_put := goodIn_r _ [17] (by decide +kernel) (by decide +kernel)
set_option maxRecDepth 20000 in
theorem gX6_store_X5_put : GoodIn wsX6_store (va_wsS RX6 151 yX5_put wsX5_put) := goodIn_app (goodIn_of _ (by decide +kernel)) ggX6_store_X5_put
theorem dX6_store_0 : decode cX6_store 0 = .ok (.iload_n 1, 1) := by decide +kernel
theorem dX6_store_1 : decode cX6_store 1 = .ok (.ifCond .ne 25, 3) := by decide +kernel
theorem dX6_store_4 : decode cX6_store 4 = .ok (.aload_n 0, 1) := by decide +kernel
theorem dX6_store_5 : decode cX6_store 5 = .ok (.iconst 2, 1) := by decide +kernel
theorem dX6_store_6 : decode cX6_store 6 = .ok (.putfield 44, 3) := by decide +kernel
theorem dX6_store_9 : decode cX6_store 9 = .ok (.aload_n 0, 1) := by decide +kernel
theorem dX6_store_10 : decode cX6_store 10 = .ok (.aload_n 0, 1) := by decide +kernel
theorem dX6_store_11 : decode cX6_store 11 = .ok (.getfield 38, 3) := by decide +kernel
theorem dX6_store_14 : decode cX6_store 14 = .ok (.aload_n 0, 1) := by decide +kernel
theorem dX6_store_15 : decode cX6_store 15 = .ok (.getfield 105, 3) := by decide +kernel
theorem dX6_store_18 : decode cX6_store 18 = .ok (.iconst 3, 1) := by decide +kernel
theorem dX6_store_19 : decode cX6_store 19 = .ok (.invokevirtual 110, 3) := by decide +kernel
theorem dX6_store_22 : decode cX6_store 22 = .ok (.putfield 70, 3) := by decide +kernel
theorem dX6_store_25 : decode cX6_store 25 = .ok (.return_, 1) := by decide +kernel
theorem dX6_store_26 : decode cX6_store 26 = .ok (.aload_n 0, 1) := by decide +kernel
theorem dX6_store_27 : decode cX6_store 27 = .ok (.getfield 18, 3) := by decide +kernel
theorem dX6_store_30 : decode cX6_store 30 = .ok (.iload_n 1, 1) := by decide +kernel
theorem dX6_store_31 : decode cX6_store 31 = .ok (.iconst 2, 1) := by decide +kernel
theorem dX6_store_32 : decode cX6_store 32 = .ok (.imul, 1) := by decide +kernel
theorem dX6_store_33 : decode cX6_store 33 = .ok (.aload_n 0, 1) := by decide +kernel
theorem dX6_store_34 : decode cX6_store 34 = .ok (.getfield 38, 3) := by decide +kernel
theorem dX6_store_37 : decode cX6_store 37 = .ok (.aload_n 0, 1) := by decide +kernel
theorem dX6_store_38 : decode cX6_store 38 = .ok (.getfield 105, 3) := by decide +kernel
theorem dX6_store_41 : decode cX6_store 41 = .ok (.iconst 2, 1) := by decide +kernel
theorem dX6_store_42 : decode cX6_store 42 = .ok (.invokevirtual 110, 3) := by decide +kernel
theorem dX6_store_45 : decode cX6_store 45 = .ok (.iadd, 1) := by decide +kernel
theorem dX6_store_46 : decode cX6_store 46 = .ok (.aload_n 0, 1) := by decide +kernel
theorem dX6_store_47 : decode cX6_store 47 = .ok (.getfield 136, 3) := by decide +kernel
theorem dX6_store_50 : decode cX6_store 50 = .ok (.invokestatic 151, 3) := by decide +kernel
theorem dX6_store_53 : decode cX6_store 53 = .ok (.return_, 1) := by decide +kernel
set_option maxRecDepth 20000 in
theorem ggX6_enter_X5_put : GoodIn wsX6_enter wsX5_put := goodIn_r _ [13] (by decide +kernel) (by decide +kernel)
set_option maxRecDepth 20000 in
theorem gX6_enter_X5_put : GoodIn wsX6_enter (va_wsS RX6 151 yX5_put wsX5_put) := goodIn_app (goodIn_of _ (by decide +kernel)) ggX6_enter_X5_put
set_option maxRecDepth 20000 in
theorem ggX6_enter_X6_clearNames : GoodIn wsX6_enter wsX6_clearNames := goodIn_r _ [18, 6, 1, 10, 11, 12, 13, 48, 49, 50, 51, 52, 53, 54, 55, 56, 57, 58, 59, 60, 61, 62, 63] (by decide +kernel) (by decide +kernel)
set_option maxRecDepth 20000 in
theorem gX6_enter_X6_clearNames : GoodIn wsX6_enter (wsV RX6 76 RX6 yX6_clearNames wsX6_clearNames) := goodIn_app (goodIn_of _ (by decide +kernel)) ggX6_enter_X6_clearNames
set_option maxRecDepth 20000 in
theorem ggX6_enter_X0_arguments : GoodIn wsX6_enter wsX0_arguments := goodIn_r _ [23, 24, 25, 26, 22, 27, 28, 29, 78, 79] (by decide +kernel) (by decide +kernel)
set_option maxRecDepth 20000 in
theorem gX6_enter_X0_arguments : GoodIn wsX6_enter (wsV RX6 155 RX0 yX0_arguments wsX0_arguments) := goodIn_app (goodIn_of _ (by decide +kernel)) ggX6_enter_X0_arguments
set_option maxRecDepth 20000 in
theorem ggX6_enter_X0_argument : GoodIn wsX6_enter wsX0_argument := goodIn_r _ [33, 24, 25, 26, 22, 27, 28, 29, 78, 79] (by decide +kernel) (by decide +kernel)
set_option maxRecDepth 20000 in
theorem gX6_enter_X0_argument : GoodIn wsX6_enter (wsV RX6 158 RX0 yX0_argument wsX0_argument) := goodIn_app (goodIn_of _ (by decide +kernel)) ggX6_enter_X0_argument
set_option maxRecDepth 20000 in
theorem ggX6_enter_X5_at : GoodIn wsX6_enter wsX5_at := goodIn_r _ [36] (by decide +kernel) (by decide +kernel)
set_option maxRecDepth 20000 in
theorem gX6_enter_X5_at : GoodIn wsX6_enter (va_wsS RX6 99 yX5_at wsX5_at) := goodIn_app (goodIn_of _ (by decide +kernel)) ggX6_enter_X5_at
set_option maxRecDepth 20000 in
theorem ggX6_enter_X3_parameter : GoodIn wsX6_enter wsX3_parameter := goodIn_r _ [41, 42, 43, 35, 12, 36, 64, 65, 66, 67, 68, 69, 70, 71, 72, 73, 74, 75, 76, 77] (by decide +kernel) (by decide +kernel)
set_option maxRecDepth 20000 in
theorem gX6_enter_X3_parameter : GoodIn wsX6_enter (wsV RX6 86 RX3 yX3_parameter wsX3_parameter) := goodIn_app (goodIn_of _ (by decide +kernel)) ggX6_enter_X3_parameter
set_option maxRecDepth 20000 in
theorem ggX6_enter_X6_setName : GoodIn wsX6_enter wsX6_setName := goodIn_r _ [47, 6, 1, 10, 11, 12, 13, 48, 49, 50, 51, 52, 53, 54, 55, 56, 57, 58, 59, 60, 61, 62, 63] (by decide +kernel) (by decide +kernel)
set_option maxRecDepth 20000 in
theorem gX6_enter_X6_setName : GoodIn wsX6_enter (wsV RX6 93 RX6 yX6_setName wsX6_setName) := goodIn_app (goodIn_of _ (by decide +kernel)) ggX6_enter_X6_setName
theorem dX6_enter_0 : decode cX6_enter 0 = .ok (.aload_n 0, 1) := by decide +kernel
theorem dX6_enter_1 : decode cX6_enter 1 = .ok (.getfield 73, 3) := by decide +kernel
theorem dX6_enter_4 : decode cX6_enter 4 = .ok (.bipush 12, 2) := by decide +kernel
theorem dX6_enter_6 : decode cX6_enter 6 = .ok (.if_icmp .lt 9, 3) := by decide +kernel
theorem dX6_enter_9 : decode cX6_enter 9 = .ok (.aload_n 0, 1) := by decide +kernel
theorem dX6_enter_10 : decode cX6_enter 10 = .ok (.iconst 3, 1) := by decide +kernel
theorem dX6_enter_11 : decode cX6_enter 11 = .ok (.putfield 44, 3) := by decide +kernel
theorem dX6_enter_14 : decode cX6_enter 14 = .ok (.return_, 1) := by decide +kernel
theorem dX6_enter_15 : decode cX6_enter 15 = .ok (.aload_n 0, 1) := by decide +kernel
theorem dX6_enter_16 : decode cX6_enter 16 = .ok (.getfield 73, 3) := by decide +kernel
theorem dX6_enter_19 : decode cX6_enter 19 = .ok (.istore_n 2, 1) := by decide +kernel
theorem dX6_enter_20 : decode cX6_enter 20 = .ok (.aload_n 0, 1) := by decide +kernel
theorem dX6_enter_21 : decode cX6_enter 21 = .ok (.getfield 15, 3) := by decide +kernel
theorem dX6_enter_24 : decode cX6_enter 24 = .ok (.aload_n 0, 1) := by decide +kernel
theorem dX6_enter_25 : decode cX6_enter 25 = .ok (.getfield 73, 3) := by decide +kernel
theorem dX6_enter_28 : decode cX6_enter 28 = .ok (.aload_n 0, 1) := by decide +kernel
theorem dX6_enter_29 : decode cX6_enter 29 = .ok (.getfield 105, 3) := by decide +kernel
theorem dX6_enter_32 : decode cX6_enter 32 = .ok (.invokestatic 151, 3) := by decide +kernel
theorem dX6_enter_35 : decode cX6_enter 35 = .ok (.aload_n 0, 1) := by decide +kernel
theorem dX6_enter_36 : decode cX6_enter 36 = .ok (.dup, 1) := by decide +kernel
theorem dX6_enter_37 : decode cX6_enter 37 = .ok (.getfield 73, 3) := by decide +kernel
theorem dX6_enter_40 : decode cX6_enter 40 = .ok (.iconst 1, 1) := by decide +kernel
theorem dX6_enter_41 : decode cX6_enter 41 = .ok (.iadd, 1) := by decide +kernel
theorem dX6_enter_42 : decode cX6_enter 42 = .ok (.putfield 73, 3) := by decide +kernel
theorem dX6_enter_45 : decode cX6_enter 45 = .ok (.aload_n 0, 1) := by decide +kernel
theorem dX6_enter_46 : decode cX6_enter 46 = .ok (.invokevirtual 76, 3) := by decide +kernel
theorem dX6_enter_49 : decode cX6_enter 49 = .ok (.iconst 0, 1) := by decide +kernel
theorem dX6_enter_50 : decode cX6_enter 50 = .ok (.istore_n 3, 1) := by decide +kernel
theorem dX6_enter_51 : decode cX6_enter 51 = .ok (.iload_n 3, 1) := by decide +kernel
theorem dX6_enter_52 : decode cX6_enter 52 = .ok (.aload_n 0, 1) := by decide +kernel
theorem dX6_enter_53 : decode cX6_enter 53 = .ok (.getfield 38, 3) := by decide +kernel
theorem dX6_enter_56 : decode cX6_enter 56 = .ok (.aload_n 0, 1) := by decide +kernel
theorem dX6_enter_57 : decode cX6_enter 57 = .ok (.getfield 105, 3) := by decide +kernel
theorem dX6_enter_60 : decode cX6_enter 60 = .ok (.invokevirtual 155, 3) := by decide +kernel
theorem dX6_enter_63 : decode cX6_enter 63 = .ok (.if_icmp .ge 50, 3) := by decide +kernel
theorem dX6_enter_66 : decode cX6_enter 66 = .ok (.aload_n 0, 1) := by decide +kernel
theorem dX6_enter_67 : decode cX6_enter 67 = .ok (.getfield 11, 3) := by decide +kernel
theorem dX6_enter_70 : decode cX6_enter 70 = .ok (.iload_n 2, 1) := by decide +kernel
theorem dX6_enter_71 : decode cX6_enter 71 = .ok (.bipush 26, 2) := by decide +kernel
theorem dX6_enter_73 : decode cX6_enter 73 = .ok (.imul, 1) := by decide +kernel
theorem dX6_enter_74 : decode cX6_enter 74 = .ok (.aload_n 0, 1) := by decide +kernel
theorem dX6_enter_75 : decode cX6_enter 75 = .ok (.getfield 38, 3) := by decide +kernel
theorem dX6_enter_78 : decode cX6_enter 78 = .ok (.aload_n 0, 1) := by decide +kernel
theorem dX6_enter_79 : decode cX6_enter 79 = .ok (.getfield 105, 3) := by decide +kernel
theorem dX6_enter_82 : decode cX6_enter 82 = .ok (.iload_n 3, 1) := by decide +kernel
theorem dX6_enter_83 : decode cX6_enter 83 = .ok (.invokevirtual 158, 3) := by decide +kernel
theorem dX6_enter_86 : decode cX6_enter 86 = .ok (.iadd, 1) := by decide +kernel
theorem dX6_enter_87 : decode cX6_enter 87 = .ok (.invokestatic 99, 3) := by decide +kernel
theorem dX6_enter_90 : decode cX6_enter 90 = .ok (.istore 4, 2) := by decide +kernel
theorem dX6_enter_92 : decode cX6_enter 92 = .ok (.aload_n 0, 1) := by decide +kernel
theorem dX6_enter_93 : decode cX6_enter 93 = .ok (.aload_n 0, 1) := by decide +kernel
theorem dX6_enter_94 : decode cX6_enter 94 = .ok (.getfield 31, 3) := by decide +kernel
theorem dX6_enter_97 : decode cX6_enter 97 = .ok (.iload_n 1, 1) := by decide +kernel
theorem dX6_enter_98 : decode cX6_enter 98 = .ok (.iload_n 3, 1) := by decide +kernel
theorem dX6_enter_99 : decode cX6_enter 99 = .ok (.invokevirtual 86, 3) := by decide +kernel
theorem dX6_enter_102 : decode cX6_enter 102 = .ok (.iload 4, 2) := by decide +kernel
theorem dX6_enter_104 : decode cX6_enter 104 = .ok (.invokevirtual 93, 3) := by decide +kernel
theorem dX6_enter_107 : decode cX6_enter 107 = .ok (.iinc 3 1, 3) := by decide +kernel
theorem dX6_enter_110 : decode cX6_enter 110 = .ok (.goto (-59), 3) := by decide +kernel
theorem dX6_enter_113 : decode cX6_enter 113 = .ok (.aload_n 0, 1) := by decide +kernel
theorem dX6_enter_114 : decode cX6_enter 114 = .ok (.aload_n 0, 1) := by decide +kernel
theorem dX6_enter_115 : decode cX6_enter 115 = .ok (.getfield 31, 3) := by decide +kernel
theorem dX6_enter_118 : decode cX6_enter 118 = .ok (.getfield 96, 3) := by decide +kernel
theorem dX6_enter_121 : decode cX6_enter 121 = .ok (.iload_n 1, 1) := by decide +kernel
theorem dX6_enter_122 : decode cX6_enter 122 = .ok (.invokestatic 99, 3) := by decide +kernel
theorem dX6_enter_125 : decode cX6_enter 125 = .ok (.putfield 105, 3) := by decide +kernel
theorem dX6_enter_128 : decode cX6_enter 128 = .ok (.aload_n 0, 1) := by decide +kernel
theorem dX6_enter_129 : decode cX6_enter 129 = .ok (.iconst 0, 1) := by decide +kernel
theorem dX6_enter_130 : decode cX6_enter 130 = .ok (.putfield 48, 3) := by decide +kernel
theorem dX6_enter_133 : decode cX6_enter 133 = .ok (.return_, 1) := by decide +kernel
set_option maxRecDepth 20000 in
theorem ggX6_leave_X5_at : GoodIn wsX6_leave wsX5_at := goodIn_r _ [10] (by decide +kernel) (by decide +kernel)
set_option maxRecDepth 20000 in
theorem gX6_leave_X5_at : GoodIn wsX6_leave (va_wsS RX6 99 yX5_at wsX5_at) := goodIn_app (goodIn_of _ (by decide +kernel)) ggX6_leave_X5_at
theorem dX6_leave_0 : decode cX6_leave 0 = .ok (.aload_n 0, 1) := by decide +kernel
theorem dX6_leave_1 : decode cX6_leave 1 = .ok (.getfield 73, 3) := by decide +kernel
theorem dX6_leave_4 : decode cX6_leave 4 = .ok (.ifCond .ne 17, 3) := by decide +kernel
theorem dX6_leave_7 : decode cX6_leave 7 = .ok (.aload_n 0, 1) := by decide +kernel
theorem dX6_leave_8 : decode cX6_leave 8 = .ok (.iload_n 1, 1) := by decide +kernel
theorem dX6_leave_9 : decode cX6_leave 9 = .ok (.ifCond .ne 7, 3) := by decide +kernel
theorem dX6_leave_12 : decode cX6_leave 12 = .ok (.iconst 0, 1) := by decide +kernel
theorem dX6_leave_13 : decode cX6_leave 13 = .ok (.goto 4, 3) := by decide +kernel
theorem dX6_leave_16 : decode cX6_leave 16 = .ok (.iconst 1, 1) := by decide +kernel
theorem dX6_leave_17 : decode cX6_leave 17 = .ok (.putfield 44, 3) := by decide +kernel
theorem dX6_leave_20 : decode cX6_leave 20 = .ok (.return_, 1) := by decide +kernel
theorem dX6_leave_21 : decode cX6_leave 21 = .ok (.aload_n 0, 1) := by decide +kernel
theorem dX6_leave_22 : decode cX6_leave 22 = .ok (.dup, 1) := by decide +kernel
theorem dX6_leave_23 : decode cX6_leave 23 = .ok (.getfield 73, 3) := by decide +kernel
theorem dX6_leave_26 : decode cX6_leave 26 = .ok (.iconst 1, 1) := by decide +kernel
theorem dX6_leave_27 : decode cX6_leave 27 = .ok (.isub, 1) := by decide +kernel
theorem dX6_leave_28 : decode cX6_leave 28 = .ok (.putfield 73, 3) := by decide +kernel
theorem dX6_leave_31 : decode cX6_leave 31 = .ok (.aload_n 0, 1) := by decide +kernel
theorem dX6_leave_32 : decode cX6_leave 32 = .ok (.aload_n 0, 1) := by decide +kernel
theorem dX6_leave_33 : decode cX6_leave 33 = .ok (.getfield 15, 3) := by decide +kernel
theorem dX6_leave_36 : decode cX6_leave 36 = .ok (.aload_n 0, 1) := by decide +kernel
theorem dX6_leave_37 : decode cX6_leave 37 = .ok (.getfield 73, 3) := by decide +kernel
theorem dX6_leave_40 : decode cX6_leave 40 = .ok (.invokestatic 99, 3) := by decide +kernel
theorem dX6_leave_43 : decode cX6_leave 43 = .ok (.putfield 105, 3) := by decide +kernel
theorem dX6_leave_46 : decode cX6_leave 46 = .ok (.aload_n 0, 1) := by decide +kernel
theorem dX6_leave_47 : decode cX6_leave 47 = .ok (.iload_n 1, 1) := by decide +kernel
theorem dX6_leave_48 : decode cX6_leave 48 = .ok (.putfield 136, 3) := by decide +kernel
theorem dX6_leave_51 : decode cX6_leave 51 = .ok (.aload_n 0, 1) := by decide +kernel
theorem dX6_leave_52 : decode cX6_leave 52 = .ok (.iconst 1, 1) := by decide +kernel
theorem dX6_leave_53 : decode cX6_leave 53 = .ok (.putfield 48, 3) := by decide +kernel
theorem dX6_leave_56 : decode cX6_leave 56 = .ok (.return_, 1) := by decide +kernel
set_option maxRecDepth 20000 in
theorem ggX6_makeLoop_X6_make : GoodIn wsX6_makeLoop wsX6_make := goodIn_r _ [6, 1, 7, 8, 9, 10, 11, 12, 13, 14, 15, 16, 17, 18, 19, 20, 21, 22, 23, 24, 25, 26, 27, 28] (by decide +kernel) (by decide +kernel)
set_option maxRecDepth 20000 in
theorem gX6_makeLoop_X6_make : GoodIn wsX6_makeLoop (wsV RX6 139 RX6 yX6_make wsX6_make) := goodIn_app (goodIn_of _ (by decide +kernel)) ggX6_makeLoop_X6_make
theorem dX6_makeLoop_0 : decode cX6_makeLoop 0 = .ok (.aload_n 0, 1) := by decide +kernel
theorem dX6_makeLoop_1 : decode cX6_makeLoop 1 = .ok (.aload_n 0, 1) := by decide +kernel
theorem dX6_makeLoop_2 : decode cX6_makeLoop 2 = .ok (.getfield 64, 3) := by decide +kernel
theorem dX6_makeLoop_5 : decode cX6_makeLoop 5 = .ok (.iconst 1, 1) := by decide +kernel
theorem dX6_makeLoop_6 : decode cX6_makeLoop 6 = .ok (.iadd, 1) := by decide +kernel
theorem dX6_makeLoop_7 : decode cX6_makeLoop 7 = .ok (.aload_n 0, 1) := by decide +kernel
theorem dX6_makeLoop_8 : decode cX6_makeLoop 8 = .ok (.getfield 64, 3) := by decide +kernel
theorem dX6_makeLoop_11 : decode cX6_makeLoop 11 = .ok (.iconst 1, 1) := by decide +kernel
theorem dX6_makeLoop_12 : decode cX6_makeLoop 12 = .ok (.iadd, 1) := by decide +kernel
theorem dX6_makeLoop_13 : decode cX6_makeLoop 13 = .ok (.invokevirtual 139, 3) := by decide +kernel
theorem dX6_makeLoop_16 : decode cX6_makeLoop 16 = .ok (.ireturn, 1) := by decide +kernel
set_option maxRecDepth 20000 in
theorem ggX6_make_X5_put : GoodIn wsX6_make wsX5_put := goodIn_r _ [7] (by decide +kernel) (by decide +kernel)
set_option maxRecDepth 20000 in
theorem gX6_make_X5_put : GoodIn wsX6_make (va_wsS RX6 151 yX5_put wsX5_put) := goodIn_app (goodIn_of _ (by decide +kernel)) ggX6_make_X5_put
theorem dX6_make_0 : decode cX6_make 0 = .ok (.aload_n 0, 1) := by decide +kernel
theorem dX6_make_1 : decode cX6_make 1 = .ok (.getfield 64, 3) := by decide +kernel
theorem dX6_make_4 : decode cX6_make 4 = .ok (.sipush 300, 3) := by decide +kernel
theorem dX6_make_7 : decode cX6_make 7 = .ok (.if_icmp .lt 10, 3) := by decide +kernel
theorem dX6_make_10 : decode cX6_make 10 = .ok (.aload_n 0, 1) := by decide +kernel
theorem dX6_make_11 : decode cX6_make 11 = .ok (.iconst 3, 1) := by decide +kernel
theorem dX6_make_12 : decode cX6_make 12 = .ok (.putfield 44, 3) := by decide +kernel
theorem dX6_make_15 : decode cX6_make 15 = .ok (.iconst 0, 1) := by decide +kernel
theorem dX6_make_16 : decode cX6_make 16 = .ok (.ireturn, 1) := by decide +kernel
theorem dX6_make_17 : decode cX6_make 17 = .ok (.aload_n 0, 1) := by decide +kernel
theorem dX6_make_18 : decode cX6_make 18 = .ok (.dup, 1) := by decide +kernel
theorem dX6_make_19 : decode cX6_make 19 = .ok (.getfield 64, 3) := by decide +kernel
theorem dX6_make_22 : decode cX6_make 22 = .ok (.iconst 1, 1) := by decide +kernel
theorem dX6_make_23 : decode cX6_make 23 = .ok (.iadd, 1) := by decide +kernel
theorem dX6_make_24 : decode cX6_make 24 = .ok (.putfield 64, 3) := by decide +kernel
theorem dX6_make_27 : decode cX6_make 27 = .ok (.aload_n 0, 1) := by decide +kernel
theorem dX6_make_28 : decode cX6_make 28 = .ok (.getfield 18, 3) := by decide +kernel
theorem dX6_make_31 : decode cX6_make 31 = .ok (.aload_n 0, 1) := by decide +kernel
theorem dX6_make_32 : decode cX6_make 32 = .ok (.getfield 64, 3) := by decide +kernel
theorem dX6_make_35 : decode cX6_make 35 = .ok (.iconst 2, 1) := by decide +kernel
theorem dX6_make_36 : decode cX6_make 36 = .ok (.imul, 1) := by decide +kernel
theorem dX6_make_37 : decode cX6_make 37 = .ok (.iload_n 1, 1) := by decide +kernel
theorem dX6_make_38 : decode cX6_make 38 = .ok (.invokestatic 151, 3) := by decide +kernel
theorem dX6_make_41 : decode cX6_make 41 = .ok (.aload_n 0, 1) := by decide +kernel
theorem dX6_make_42 : decode cX6_make 42 = .ok (.getfield 18, 3) := by decide +kernel
theorem dX6_make_45 : decode cX6_make 45 = .ok (.aload_n 0, 1) := by decide +kernel
theorem dX6_make_46 : decode cX6_make 46 = .ok (.getfield 64, 3) := by decide +kernel
theorem dX6_make_49 : decode cX6_make 49 = .ok (.iconst 2, 1) := by decide +kernel
theorem dX6_make_50 : decode cX6_make 50 = .ok (.imul, 1) := by decide +kernel
theorem dX6_make_51 : decode cX6_make 51 = .ok (.iconst 1, 1) := by decide +kernel
theorem dX6_make_52 : decode cX6_make 52 = .ok (.iadd, 1) := by decide +kernel
theorem dX6_make_53 : decode cX6_make 53 = .ok (.iload_n 2, 1) := by decide +kernel
theorem dX6_make_54 : decode cX6_make 54 = .ok (.invokestatic 151, 3) := by decide +kernel
theorem dX6_make_57 : decode cX6_make 57 = .ok (.aload_n 0, 1) := by decide +kernel
theorem dX6_make_58 : decode cX6_make 58 = .ok (.getfield 64, 3) := by decide +kernel
theorem dX6_make_61 : decode cX6_make 61 = .ok (.ireturn, 1) := by decide +kernel
set_option maxRecDepth 20000 in
theorem ggX6_clearNames_X5_put : GoodIn wsX6_clearNames wsX5_put := goodIn_r _ [6] (by decide +kernel) (by decide +kernel)
set_option maxRecDepth 20000 in
theorem gX6_clearNames_X5_put : GoodIn wsX6_clearNames (va_wsS RX6 151 yX5_put wsX5_put) := goodIn_app (goodIn_of _ (by decide +kernel)) ggX6_clearNames_X5_put
theorem dX6_clearNames_0 : decode cX6_clearNames 0 = .ok (.iconst 0, 1) := by decide +kernel
theorem dX6_clearNames_1 : decode cX6_clearNames 1 = .ok (.istore_n 1, 1) := by decide +kernel
theorem dX6_clearNames_2 : decode cX6_clearNames 2 = .ok (.iload_n 1, 1) := by decide +kernel
theorem dX6_clearNames_3 : decode cX6_clearNames 3 = .ok (.bipush 26, 2) := by decide +kernel
theorem dX6_clearNames_5 : decode cX6_clearNames 5 = .ok (.if_icmp .ge 26, 3) := by decide +kernel
theorem dX6_clearNames_8 : decode cX6_clearNames 8 = .ok (.aload_n 0, 1) := by decide +kernel
theorem dX6_clearNames_9 : decode cX6_clearNames 9 = .ok (.getfield 11, 3) := by decide +kernel
theorem dX6_clearNames_12 : decode cX6_clearNames 12 = .ok (.aload_n 0, 1) := by decide +kernel
theorem dX6_clearNames_13 : decode cX6_clearNames 13 = .ok (.getfield 73, 3) := by decide +kernel
theorem dX6_clearNames_16 : decode cX6_clearNames 16 = .ok (.bipush 26, 2) := by decide +kernel
theorem dX6_clearNames_18 : decode cX6_clearNames 18 = .ok (.imul, 1) := by decide +kernel
theorem dX6_clearNames_19 : decode cX6_clearNames 19 = .ok (.iload_n 1, 1) := by decide +kernel
theorem dX6_clearNames_20 : decode cX6_clearNames 20 = .ok (.iadd, 1) := by decide +kernel
theorem dX6_clearNames_21 : decode cX6_clearNames 21 = .ok (.iconst 0, 1) := by decide +kernel
theorem dX6_clearNames_22 : decode cX6_clearNames 22 = .ok (.invokestatic 151, 3) := by decide +kernel
theorem dX6_clearNames_25 : decode cX6_clearNames 25 = .ok (.iinc 1 1, 3) := by decide +kernel
theorem dX6_clearNames_28 : decode cX6_clearNames 28 = .ok (.goto (-26), 3) := by decide +kernel
theorem dX6_clearNames_31 : decode cX6_clearNames 31 = .ok (.return_, 1) := by decide +kernel
set_option maxRecDepth 20000 in
theorem ggX6_nameOf_X5_at : GoodIn wsX6_nameOf wsX5_at := goodIn_r _ [6] (by decide +kernel) (by decide +kernel)
set_option maxRecDepth 20000 in
theorem gX6_nameOf_X5_at : GoodIn wsX6_nameOf (va_wsS RX6 99 yX5_at wsX5_at) := goodIn_app (goodIn_of _ (by decide +kernel)) ggX6_nameOf_X5_at
theorem dX6_nameOf_0 : decode cX6_nameOf 0 = .ok (.aload_n 0, 1) := by decide +kernel
theorem dX6_nameOf_1 : decode cX6_nameOf 1 = .ok (.getfield 11, 3) := by decide +kernel
theorem dX6_nameOf_4 : decode cX6_nameOf 4 = .ok (.aload_n 0, 1) := by decide +kernel
theorem dX6_nameOf_5 : decode cX6_nameOf 5 = .ok (.getfield 73, 3) := by decide +kernel
theorem dX6_nameOf_8 : decode cX6_nameOf 8 = .ok (.bipush 26, 2) := by decide +kernel
theorem dX6_nameOf_10 : decode cX6_nameOf 10 = .ok (.imul, 1) := by decide +kernel
theorem dX6_nameOf_11 : decode cX6_nameOf 11 = .ok (.iload_n 1, 1) := by decide +kernel
theorem dX6_nameOf_12 : decode cX6_nameOf 12 = .ok (.iadd, 1) := by decide +kernel
theorem dX6_nameOf_13 : decode cX6_nameOf 13 = .ok (.invokestatic 99, 3) := by decide +kernel
theorem dX6_nameOf_16 : decode cX6_nameOf 16 = .ok (.ireturn, 1) := by decide +kernel
set_option maxRecDepth 20000 in
theorem ggX6_setName_X5_put : GoodIn wsX6_setName wsX5_put := goodIn_r _ [6] (by decide +kernel) (by decide +kernel)
set_option maxRecDepth 20000 in
theorem gX6_setName_X5_put : GoodIn wsX6_setName (va_wsS RX6 151 yX5_put wsX5_put) := goodIn_app (goodIn_of _ (by decide +kernel)) ggX6_setName_X5_put
theorem dX6_setName_0 : decode cX6_setName 0 = .ok (.aload_n 0, 1) := by decide +kernel
theorem dX6_setName_1 : decode cX6_setName 1 = .ok (.getfield 11, 3) := by decide +kernel
theorem dX6_setName_4 : decode cX6_setName 4 = .ok (.aload_n 0, 1) := by decide +kernel
theorem dX6_setName_5 : decode cX6_setName 5 = .ok (.getfield 73, 3) := by decide +kernel
theorem dX6_setName_8 : decode cX6_setName 8 = .ok (.bipush 26, 2) := by decide +kernel
theorem dX6_setName_10 : decode cX6_setName 10 = .ok (.imul, 1) := by decide +kernel
theorem dX6_setName_11 : decode cX6_setName 11 = .ok (.iload_n 1, 1) := by decide +kernel
theorem dX6_setName_12 : decode cX6_setName 12 = .ok (.iadd, 1) := by decide +kernel
theorem dX6_setName_13 : decode cX6_setName 13 = .ok (.iload_n 2, 1) := by decide +kernel
theorem dX6_setName_14 : decode cX6_setName 14 = .ok (.invokestatic 151, 3) := by decide +kernel
theorem dX6_setName_17 : decode cX6_setName 17 = .ok (.return_, 1) := by decide +kernel
theorem dX7_init_0 : decode cX7_init 0 = .ok (.aload_n 0, 1) := by decide +kernel
theorem dX7_init_1 : decode cX7_init 1 = .ok (.invokespecial 3, 3) := by decide +kernel
theorem dX7_init_4 : decode cX7_init 4 = .ok (.aload_n 0, 1) := by decide +kernel
theorem dX7_init_5 : decode cX7_init 5 = .ok (.iconst (-1), 1) := by decide +kernel
theorem dX7_init_6 : decode cX7_init 6 = .ok (.putfield 9, 3) := by decide +kernel
theorem dX7_init_9 : decode cX7_init 9 = .ok (.aload_n 0, 1) := by decide +kernel
theorem dX7_init_10 : decode cX7_init 10 = .ok (.iconst 4, 1) := by decide +kernel
theorem dX7_init_11 : decode cX7_init 11 = .ok (.newarray .int, 2) := by decide +kernel
theorem dX7_init_13 : decode cX7_init 13 = .ok (.putfield 15, 3) := by decide +kernel
theorem dX7_init_16 : decode cX7_init 16 = .ok (.aload_n 0, 1) := by decide +kernel
theorem dX7_init_17 : decode cX7_init 17 = .ok (.aload_n 1, 1) := by decide +kernel
theorem dX7_init_18 : decode cX7_init 18 = .ok (.putfield 19, 3) := by decide +kernel
theorem dX7_init_21 : decode cX7_init 21 = .ok (.return_, 1) := by decide +kernel
set_option maxRecDepth 20000 in
theorem ggX7_startAt_J7_fill_53178 : GoodIn wsX7_startAt wsJ7_fill_53178 := goodIn_r _ [6] (by decide +kernel) (by decide +kernel)
set_option maxRecDepth 20000 in
theorem gX7_startAt_J7_fill_53178 : GoodIn wsX7_startAt (va_wsS RX7 23 yJ7_fill_53178 wsJ7_fill_53178) := goodIn_app (goodIn_of _ (by decide +kernel)) ggX7_startAt_J7_fill_53178
theorem dX7_startAt_0 : decode cX7_startAt 0 = .ok (.aload_n 0, 1) := by decide +kernel
theorem dX7_startAt_1 : decode cX7_startAt 1 = .ok (.iload_n 1, 1) := by decide +kernel
theorem dX7_startAt_2 : decode cX7_startAt 2 = .ok (.putfield 9, 3) := by decide +kernel
theorem dX7_startAt_5 : decode cX7_startAt 5 = .ok (.aload_n 0, 1) := by decide +kernel
theorem dX7_startAt_6 : decode cX7_startAt 6 = .ok (.getfield 15, 3) := by decide +kernel
theorem dX7_startAt_9 : decode cX7_startAt 9 = .ok (.iconst 3, 1) := by decide +kernel
theorem dX7_startAt_10 : decode cX7_startAt 10 = .ok (.invokestatic 23, 3) := by decide +kernel
theorem dX7_startAt_13 : decode cX7_startAt 13 = .ok (.return_, 1) := by decide +kernel
set_option maxRecDepth 20000 in
theorem ggX7_outers_X5_at : GoodIn wsX7_outers wsX5_at := goodIn_r _ [11] (by decide +kernel) (by decide +kernel)
set_option maxRecDepth 20000 in
theorem gX7_outers_X5_at : GoodIn wsX7_outers (va_wsS RX7 34 yX5_at wsX5_at) := goodIn_app (goodIn_of _ (by decide +kernel)) ggX7_outers_X5_at
set_option maxRecDepth 20000 in
theorem ggX7_outers_X3_has : GoodIn wsX7_outers wsX3_has := goodIn_r _ [16, 17, 21, 22, 23, 24, 25, 26, 27, 28, 29, 30, 31, 32, 33, 34] (by decide +kernel) (by decide +kernel)
set_option maxRecDepth 20000 in
theorem gX7_outers_X3_has : GoodIn wsX7_outers (wsV RX7 40 RX3 yX3_has wsX3_has) := goodIn_app (goodIn_of _ (by decide +kernel)) ggX7_outers_X3_has
theorem dX7_outers_0 : decode cX7_outers 0 = .ok (.aload_n 0, 1) := by decide +kernel
theorem dX7_outers_1 : decode cX7_outers 1 = .ok (.getfield 19, 3) := by decide +kernel
theorem dX7_outers_4 : decode cX7_outers 4 = .ok (.getfield 29, 3) := by decide +kernel
theorem dX7_outers_7 : decode cX7_outers 7 = .ok (.aload_n 0, 1) := by decide +kernel
theorem dX7_outers_8 : decode cX7_outers 8 = .ok (.getfield 9, 3) := by decide +kernel
theorem dX7_outers_11 : decode cX7_outers 11 = .ok (.invokestatic 34, 3) := by decide +kernel
theorem dX7_outers_14 : decode cX7_outers 14 = .ok (.aload_n 0, 1) := by decide +kernel
theorem dX7_outers_15 : decode cX7_outers 15 = .ok (.getfield 19, 3) := by decide +kernel
theorem dX7_outers_18 : decode cX7_outers 18 = .ok (.aload_n 0, 1) := by decide +kernel
theorem dX7_outers_19 : decode cX7_outers 19 = .ok (.getfield 9, 3) := by decide +kernel
theorem dX7_outers_22 : decode cX7_outers 22 = .ok (.invokevirtual 40, 3) := by decide +kernel
theorem dX7_outers_25 : decode cX7_outers 25 = .ok (.ifCond .eq 7, 3) := by decide +kernel
theorem dX7_outers_28 : decode cX7_outers 28 = .ok (.iconst 4, 1) := by decide +kernel
theorem dX7_outers_29 : decode cX7_outers 29 = .ok (.goto 4, 3) := by decide +kernel
theorem dX7_outers_32 : decode cX7_outers 32 = .ok (.iconst 0, 1) := by decide +kernel
theorem dX7_outers_33 : decode cX7_outers 33 = .ok (.invokestatic 44, 3) := by decide +kernel
theorem dX7_outers_36 : decode cX7_outers 36 = .ok (.ireturn, 1) := by decide +kernel
set_option maxRecDepth 20000 in
theorem ggX7_allows_X3_has : GoodIn wsX7_allows wsX3_has := goodIn_r _ [8, 9, 27, 28, 29, 30, 31, 32, 33, 34, 35, 36, 37, 38, 39, 40] (by decide +kernel) (by decide +kernel)
set_option maxRecDepth 20000 in
theorem gX7_allows_X3_has : GoodIn wsX7_allows (wsV RX7 40 RX3 yX3_has wsX3_has) := goodIn_app (goodIn_of _ (by decide +kernel)) ggX7_allows_X3_has
set_option maxRecDepth 20000 in
theorem ggX7_allows_X7_outers : GoodIn wsX7_allows wsX7_outers := goodIn_r _ [14, 1, 15, 2, 16, 17, 18, 19, 20, 21, 22, 23, 4, 5, 6, 7, 8, 9, 24, 25, 26, 27, 28, 29, 30, 31, 32, 33, 34, 35, 36, 37, 38, 39, 40] (by decide +kernel) (by decide +kernel)
set_option maxRecDepth 20000 in
theorem gX7_allows_X7_outers : GoodIn wsX7_allows (wsV RX7 50 RX7 yX7_outers wsX7_outers) := goodIn_app (goodIn_of _ (by decide +kernel)) ggX7_allows_X7_outers
set_option maxRecDepth 20000 in
theorem ggX7_allows_X5_at : GoodIn wsX7_allows wsX5_at := goodIn_r _ [23] (by decide +kernel) (by decide +kernel)
set_option maxRecDepth 20000 in
theorem gX7_allows_X5_at : GoodIn wsX7_allows (va_wsS RX7 34 yX5_at wsX5_at) := goodIn_app (goodIn_of _ (by decide +kernel)) ggX7_allows_X5_at
theorem dX7_allows_0 : decode cX7_allows 0 = .ok (.aload_n 0, 1) := by decide +kernel
theorem dX7_allows_1 : decode cX7_allows 1 = .ok (.getfield 19, 3) := by decide +kernel
theorem dX7_allows_4 : decode cX7_allows 4 = .ok (.aload_n 0, 1) := by decide +kernel
theorem dX7_allows_5 : decode cX7_allows 5 = .ok (.getfield 9, 3) := by decide +kernel
theorem dX7_allows_8 : decode cX7_allows 8 = .ok (.invokevirtual 40, 3) := by decide +kernel
theorem dX7_allows_11 : decode cX7_allows 11 = .ok (.ifCond .eq 17, 3) := by decide +kernel
theorem dX7_allows_14 : decode cX7_allows 14 = .ok (.iload_n 1, 1) := by decide +kernel
theorem dX7_allows_15 : decode cX7_allows 15 = .ok (.ifCond .lt 13, 3) := by decide +kernel
theorem dX7_allows_18 : decode cX7_allows 18 = .ok (.iload_n 1, 1) := by decide +kernel
theorem dX7_allows_19 : decode cX7_allows 19 = .ok (.iconst 1, 1) := by decide +kernel
theorem dX7_allows_20 : decode cX7_allows 20 = .ok (.aload_n 0, 1) := by decide +kernel
theorem dX7_allows_21 : decode cX7_allows 21 = .ok (.invokevirtual 50, 3) := by decide +kernel
theorem dX7_allows_24 : decode cX7_allows 24 = .ok (.ishl, 1) := by decide +kernel
theorem dX7_allows_25 : decode cX7_allows 25 = .ok (.if_icmp .lt 5, 3) := by decide +kernel
theorem dX7_allows_28 : decode cX7_allows 28 = .ok (.iconst 0, 1) := by decide +kernel
theorem dX7_allows_29 : decode cX7_allows 29 = .ok (.ireturn, 1) := by decide +kernel
theorem dX7_allows_30 : decode cX7_allows 30 = .ok (.iconst 0, 1) := by decide +kernel
theorem dX7_allows_31 : decode cX7_allows 31 = .ok (.istore_n 2, 1) := by decide +kernel
theorem dX7_allows_32 : decode cX7_allows 32 = .ok (.iload_n 2, 1) := by decide +kernel
theorem dX7_allows_33 : decode cX7_allows 33 = .ok (.aload_n 0, 1) := by decide +kernel
theorem dX7_allows_34 : decode cX7_allows 34 = .ok (.invokevirtual 50, 3) := by decide +kernel
theorem dX7_allows_37 : decode cX7_allows 37 = .ok (.if_icmp .ge 38, 3) := by decide +kernel
theorem dX7_allows_40 : decode cX7_allows 40 = .ok (.iload_n 1, 1) := by decide +kernel
theorem dX7_allows_41 : decode cX7_allows 41 = .ok (.iload_n 2, 1) := by decide +kernel
theorem dX7_allows_42 : decode cX7_allows 42 = .ok (.ishr, 1) := by decide +kernel
theorem dX7_allows_43 : decode cX7_allows 43 = .ok (.iconst 1, 1) := by decide +kernel
theorem dX7_allows_44 : decode cX7_allows 44 = .ok (.iand, 1) := by decide +kernel
theorem dX7_allows_45 : decode cX7_allows 45 = .ok (.ifCond .eq 7, 3) := by decide +kernel
theorem dX7_allows_48 : decode cX7_allows 48 = .ok (.iconst 2, 1) := by decide +kernel
theorem dX7_allows_49 : decode cX7_allows 49 = .ok (.goto 4, 3) := by decide +kernel
theorem dX7_allows_52 : decode cX7_allows 52 = .ok (.iconst 1, 1) := by decide +kernel
theorem dX7_allows_53 : decode cX7_allows 53 = .ok (.istore_n 3, 1) := by decide +kernel
theorem dX7_allows_54 : decode cX7_allows 54 = .ok (.aload_n 0, 1) := by decide +kernel
theorem dX7_allows_55 : decode cX7_allows 55 = .ok (.getfield 15, 3) := by decide +kernel
theorem dX7_allows_58 : decode cX7_allows 58 = .ok (.iload_n 2, 1) := by decide +kernel
theorem dX7_allows_59 : decode cX7_allows 59 = .ok (.invokestatic 34, 3) := by decide +kernel
theorem dX7_allows_62 : decode cX7_allows 62 = .ok (.iload_n 3, 1) := by decide +kernel
theorem dX7_allows_63 : decode cX7_allows 63 = .ok (.iand, 1) := by decide +kernel
theorem dX7_allows_64 : decode cX7_allows 64 = .ok (.ifCond .ne 5, 3) := by decide +kernel
theorem dX7_allows_67 : decode cX7_allows 67 = .ok (.iconst 0, 1) := by decide +kernel
theorem dX7_allows_68 : decode cX7_allows 68 = .ok (.ireturn, 1) := by decide +kernel
theorem dX7_allows_69 : decode cX7_allows 69 = .ok (.iinc 2 1, 3) := by decide +kernel
theorem dX7_allows_72 : decode cX7_allows 72 = .ok (.goto (-40), 3) := by decide +kernel
theorem dX7_allows_75 : decode cX7_allows 75 = .ok (.iconst 1, 1) := by decide +kernel
theorem dX7_allows_76 : decode cX7_allows 76 = .ok (.ireturn, 1) := by decide +kernel
theorem dX8_init_0 : decode cX8_init 0 = .ok (.aload_n 0, 1) := by decide +kernel
theorem dX8_init_1 : decode cX8_init 1 = .ok (.invokespecial 3, 3) := by decide +kernel
theorem dX8_init_4 : decode cX8_init 4 = .ok (.aload_n 0, 1) := by decide +kernel
theorem dX8_init_5 : decode cX8_init 5 = .ok (.sipush 1200, 3) := by decide +kernel
theorem dX8_init_8 : decode cX8_init 8 = .ok (.newarray .int, 2) := by decide +kernel
theorem dX8_init_10 : decode cX8_init 10 = .ok (.putfield 9, 3) := by decide +kernel
theorem dX8_init_13 : decode cX8_init 13 = .ok (.return_, 1) := by decide +kernel
set_option maxRecDepth 20000 in
theorem ggX8_scan_X8_isSmall : GoodIn wsX8_scan wsX8_isSmall := goodIn_r _ [13] (by decide +kernel) (by decide +kernel)
set_option maxRecDepth 20000 in
theorem gX8_scan_X8_isSmall : GoodIn wsX8_scan (va_wsS RX8 28 yX8_isSmall wsX8_isSmall) := goodIn_app (goodIn_of _ (by decide +kernel)) ggX8_scan_X8_isSmall
set_option maxRecDepth 20000 in
theorem ggX8_scan_X8_endOfWord : GoodIn wsX8_scan wsX8_endOfWord := goodIn_r _ [17, 6, 10, 11, 12, 13, 85, 86, 87] (by decide +kernel) (by decide +kernel)
set_option maxRecDepth 20000 in
theorem gX8_scan_X8_endOfWord : GoodIn wsX8_scan (wsV RX8 32 RX8 yX8_endOfWord wsX8_endOfWord) := goodIn_app (goodIn_of _ (by decide +kernel)) ggX8_scan_X8_endOfWord
set_option maxRecDepth 20000 in
theorem ggX8_scan_X8_kindOfWord : GoodIn wsX8_scan wsX8_kindOfWord := goodIn_r _ [20, 21, 22, 12, 23, 24, 25, 26, 27, 28, 29, 30, 31, 32, 33, 34, 35, 36, 37, 38, 39, 40, 41, 42, 43, 44, 45, 46, 47, 48, 49, 50, 51, 52, 53, 54, 55, 56, 57, 58, 59, 60, 61, 62, 63, 64, 65, 66, 67, 68, 69, 70, 71, 72] (by decide +kernel) (by decide +kernel)
set_option maxRecDepth 20000 in
theorem gX8_scan_X8_kindOfWord : GoodIn wsX8_scan (va_wsS RX8 36 yX8_kindOfWord wsX8_kindOfWord) := goodIn_app (goodIn_of _ (by decide +kernel)) ggX8_scan_X8_kindOfWord
set_option maxRecDepth 20000 in
theorem ggX8_scan_X8_add : GoodIn wsX8_scan wsX8_add := goodIn_r _ [76, 77, 1, 78, 79, 80, 81, 85, 86, 87] (by decide +kernel) (by decide +kernel)
set_option maxRecDepth 20000 in
theorem gX8_scan_X8_add : GoodIn wsX8_scan (wsV RX8 40 RX8 yX8_add wsX8_add) := goodIn_app (goodIn_of _ (by decide +kernel)) ggX8_scan_X8_add
set_option maxRecDepth 20000 in
theorem ggX8_scan_X8_kindOfSign : GoodIn wsX8_scan wsX8_kindOfSign := goodIn_r _ [84] (by decide +kernel) (by decide +kernel)
set_option maxRecDepth 20000 in
theorem gX8_scan_X8_kindOfSign : GoodIn wsX8_scan (va_wsS RX8 47 yX8_kindOfSign wsX8_kindOfSign) := goodIn_app (goodIn_of _ (by decide +kernel)) ggX8_scan_X8_kindOfSign
theorem dX8_scan_0 : decode cX8_scan 0 = .ok (.aload_n 0, 1) := by decide +kernel
theorem dX8_scan_1 : decode cX8_scan 1 = .ok (.iconst 0, 1) := by decide +kernel
theorem dX8_scan_2 : decode cX8_scan 2 = .ok (.putfield 15, 3) := by decide +kernel
theorem dX8_scan_5 : decode cX8_scan 5 = .ok (.aload_n 0, 1) := by decide +kernel
theorem dX8_scan_6 : decode cX8_scan 6 = .ok (.iload_n 2, 1) := by decide +kernel
theorem dX8_scan_7 : decode cX8_scan 7 = .ok (.aload_n 1, 1) := by decide +kernel
theorem dX8_scan_8 : decode cX8_scan 8 = .ok (.arraylength, 1) := by decide +kernel
theorem dX8_scan_9 : decode cX8_scan 9 = .ok (.invokestatic 19, 3) := by decide +kernel
theorem dX8_scan_12 : decode cX8_scan 12 = .ok (.putfield 25, 3) := by decide +kernel
theorem dX8_scan_15 : decode cX8_scan 15 = .ok (.iconst 0, 1) := by decide +kernel
theorem dX8_scan_16 : decode cX8_scan 16 = .ok (.istore_n 3, 1) := by decide +kernel
theorem dX8_scan_17 : decode cX8_scan 17 = .ok (.iload_n 3, 1) := by decide +kernel
theorem dX8_scan_18 : decode cX8_scan 18 = .ok (.aload_n 0, 1) := by decide +kernel
theorem dX8_scan_19 : decode cX8_scan 19 = .ok (.getfield 25, 3) := by decide +kernel
theorem dX8_scan_22 : decode cX8_scan 22 = .ok (.if_icmp .ge 114, 3) := by decide +kernel
theorem dX8_scan_25 : decode cX8_scan 25 = .ok (.aload_n 1, 1) := by decide +kernel
theorem dX8_scan_26 : decode cX8_scan 26 = .ok (.iload_n 3, 1) := by decide +kernel
theorem dX8_scan_27 : decode cX8_scan 27 = .ok (.baload, 1) := by decide +kernel
theorem dX8_scan_28 : decode cX8_scan 28 = .ok (.istore 4, 2) := by decide +kernel
theorem dX8_scan_30 : decode cX8_scan 30 = .ok (.iload 4, 2) := by decide +kernel
theorem dX8_scan_32 : decode cX8_scan 32 = .ok (.invokestatic 28, 3) := by decide +kernel
theorem dX8_scan_35 : decode cX8_scan 35 = .ok (.ifCond .eq 42, 3) := by decide +kernel
theorem dX8_scan_38 : decode cX8_scan 38 = .ok (.aload_n 0, 1) := by decide +kernel
theorem dX8_scan_39 : decode cX8_scan 39 = .ok (.aload_n 1, 1) := by decide +kernel
theorem dX8_scan_40 : decode cX8_scan 40 = .ok (.iload_n 3, 1) := by decide +kernel
theorem dX8_scan_41 : decode cX8_scan 41 = .ok (.invokevirtual 32, 3) := by decide +kernel
theorem dX8_scan_44 : decode cX8_scan 44 = .ok (.istore 5, 2) := by decide +kernel
theorem dX8_scan_46 : decode cX8_scan 46 = .ok (.aload_n 0, 1) := by decide +kernel
theorem dX8_scan_47 : decode cX8_scan 47 = .ok (.aload_n 1, 1) := by decide +kernel
theorem dX8_scan_48 : decode cX8_scan 48 = .ok (.iload_n 3, 1) := by decide +kernel
theorem dX8_scan_49 : decode cX8_scan 49 = .ok (.iload 5, 2) := by decide +kernel
theorem dX8_scan_51 : decode cX8_scan 51 = .ok (.iload_n 3, 1) := by decide +kernel
theorem dX8_scan_52 : decode cX8_scan 52 = .ok (.isub, 1) := by decide +kernel
theorem dX8_scan_53 : decode cX8_scan 53 = .ok (.invokestatic 36, 3) := by decide +kernel
theorem dX8_scan_56 : decode cX8_scan 56 = .ok (.iload_n 3, 1) := by decide +kernel
theorem dX8_scan_57 : decode cX8_scan 57 = .ok (.iload 4, 2) := by decide +kernel
theorem dX8_scan_59 : decode cX8_scan 59 = .ok (.bipush 97, 2) := by decide +kernel
theorem dX8_scan_61 : decode cX8_scan 61 = .ok (.isub, 1) := by decide +kernel
theorem dX8_scan_62 : decode cX8_scan 62 = .ok (.invokevirtual 40, 3) := by decide +kernel
theorem dX8_scan_65 : decode cX8_scan 65 = .ok (.iload_n 3, 1) := by decide +kernel
theorem dX8_scan_66 : decode cX8_scan 66 = .ok (.iload 5, 2) := by decide +kernel
theorem dX8_scan_68 : decode cX8_scan 68 = .ok (.iconst 1, 1) := by decide +kernel
theorem dX8_scan_69 : decode cX8_scan 69 = .ok (.isub, 1) := by decide +kernel
theorem dX8_scan_70 : decode cX8_scan 70 = .ok (.invokestatic 44, 3) := by decide +kernel
theorem dX8_scan_73 : decode cX8_scan 73 = .ok (.istore_n 3, 1) := by decide +kernel
theorem dX8_scan_74 : decode cX8_scan 74 = .ok (.goto 56, 3) := by decide +kernel
theorem dX8_scan_77 : decode cX8_scan 77 = .ok (.iload 4, 2) := by decide +kernel
theorem dX8_scan_79 : decode cX8_scan 79 = .ok (.bipush 65, 2) := by decide +kernel
theorem dX8_scan_81 : decode cX8_scan 81 = .ok (.if_icmp .lt 24, 3) := by decide +kernel
theorem dX8_scan_84 : decode cX8_scan 84 = .ok (.iload 4, 2) := by decide +kernel
theorem dX8_scan_86 : decode cX8_scan 86 = .ok (.bipush 73, 2) := by decide +kernel
theorem dX8_scan_88 : decode cX8_scan 88 = .ok (.if_icmp .ge 17, 3) := by decide +kernel
theorem dX8_scan_91 : decode cX8_scan 91 = .ok (.aload_n 0, 1) := by decide +kernel
theorem dX8_scan_92 : decode cX8_scan 92 = .ok (.iconst 3, 1) := by decide +kernel
theorem dX8_scan_93 : decode cX8_scan 93 = .ok (.iload_n 3, 1) := by decide +kernel
theorem dX8_scan_94 : decode cX8_scan 94 = .ok (.iload 4, 2) := by decide +kernel
theorem dX8_scan_96 : decode cX8_scan 96 = .ok (.bipush 65, 2) := by decide +kernel
theorem dX8_scan_98 : decode cX8_scan 98 = .ok (.isub, 1) := by decide +kernel
theorem dX8_scan_99 : decode cX8_scan 99 = .ok (.invokevirtual 40, 3) := by decide +kernel
theorem dX8_scan_102 : decode cX8_scan 102 = .ok (.goto 28, 3) := by decide +kernel
theorem dX8_scan_105 : decode cX8_scan 105 = .ok (.iload 4, 2) := by decide +kernel
theorem dX8_scan_107 : decode cX8_scan 107 = .ok (.bipush 32, 2) := by decide +kernel
theorem dX8_scan_109 : decode cX8_scan 109 = .ok (.if_icmp .eq 21, 3) := by decide +kernel
theorem dX8_scan_112 : decode cX8_scan 112 = .ok (.iload 4, 2) := by decide +kernel
theorem dX8_scan_114 : decode cX8_scan 114 = .ok (.bipush 10, 2) := by decide +kernel
theorem dX8_scan_116 : decode cX8_scan 116 = .ok (.if_icmp .eq 14, 3) := by decide +kernel
theorem dX8_scan_119 : decode cX8_scan 119 = .ok (.aload_n 0, 1) := by decide +kernel
theorem dX8_scan_120 : decode cX8_scan 120 = .ok (.iload 4, 2) := by decide +kernel
theorem dX8_scan_122 : decode cX8_scan 122 = .ok (.invokestatic 47, 3) := by decide +kernel
theorem dX8_scan_125 : decode cX8_scan 125 = .ok (.iload_n 3, 1) := by decide +kernel
theorem dX8_scan_126 : decode cX8_scan 126 = .ok (.iconst 0, 1) := by decide +kernel
theorem dX8_scan_127 : decode cX8_scan 127 = .ok (.invokevirtual 40, 3) := by decide +kernel
theorem dX8_scan_130 : decode cX8_scan 130 = .ok (.iinc 3 1, 3) := by decide +kernel
theorem dX8_scan_133 : decode cX8_scan 133 = .ok (.goto (-116), 3) := by decide +kernel
theorem dX8_scan_136 : decode cX8_scan 136 = .ok (.return_, 1) := by decide +kernel
theorem dX8_kindAt_0 : decode cX8_kindAt 0 = .ok (.iload_n 1, 1) := by decide +kernel
theorem dX8_kindAt_1 : decode cX8_kindAt 1 = .ok (.ifCond .lt 34, 3) := by decide +kernel
theorem dX8_kindAt_4 : decode cX8_kindAt 4 = .ok (.iload_n 1, 1) := by decide +kernel
theorem dX8_kindAt_5 : decode cX8_kindAt 5 = .ok (.aload_n 0, 1) := by decide +kernel
theorem dX8_kindAt_6 : decode cX8_kindAt 6 = .ok (.getfield 15, 3) := by decide +kernel
theorem dX8_kindAt_9 : decode cX8_kindAt 9 = .ok (.if_icmp .ge 26, 3) := by decide +kernel
theorem dX8_kindAt_12 : decode cX8_kindAt 12 = .ok (.iload_n 1, 1) := by decide +kernel
theorem dX8_kindAt_13 : decode cX8_kindAt 13 = .ok (.aload_n 0, 1) := by decide +kernel
theorem dX8_kindAt_14 : decode cX8_kindAt 14 = .ok (.getfield 9, 3) := by decide +kernel
theorem dX8_kindAt_17 : decode cX8_kindAt 17 = .ok (.arraylength, 1) := by decide +kernel
theorem dX8_kindAt_18 : decode cX8_kindAt 18 = .ok (.if_icmp .ge 17, 3) := by decide +kernel
theorem dX8_kindAt_21 : decode cX8_kindAt 21 = .ok (.aload_n 0, 1) := by decide +kernel
theorem dX8_kindAt_22 : decode cX8_kindAt 22 = .ok (.getfield 9, 3) := by decide +kernel
theorem dX8_kindAt_25 : decode cX8_kindAt 25 = .ok (.iload_n 1, 1) := by decide +kernel
theorem dX8_kindAt_26 : decode cX8_kindAt 26 = .ok (.iaload, 1) := by decide +kernel
theorem dX8_kindAt_27 : decode cX8_kindAt 27 = .ok (.iconst 5, 1) := by decide +kernel
theorem dX8_kindAt_28 : decode cX8_kindAt 28 = .ok (.ishr, 1) := by decide +kernel
theorem dX8_kindAt_29 : decode cX8_kindAt 29 = .ok (.bipush 31, 2) := by decide +kernel
theorem dX8_kindAt_31 : decode cX8_kindAt 31 = .ok (.iand, 1) := by decide +kernel
theorem dX8_kindAt_32 : decode cX8_kindAt 32 = .ok (.goto 4, 3) := by decide +kernel
theorem dX8_kindAt_35 : decode cX8_kindAt 35 = .ok (.iconst 0, 1) := by decide +kernel
theorem dX8_kindAt_36 : decode cX8_kindAt 36 = .ok (.ireturn, 1) := by decide +kernel
theorem dX8_placeAt_0 : decode cX8_placeAt 0 = .ok (.iload_n 1, 1) := by decide +kernel
theorem dX8_placeAt_1 : decode cX8_placeAt 1 = .ok (.ifCond .lt 32, 3) := by decide +kernel
theorem dX8_placeAt_4 : decode cX8_placeAt 4 = .ok (.iload_n 1, 1) := by decide +kernel
theorem dX8_placeAt_5 : decode cX8_placeAt 5 = .ok (.aload_n 0, 1) := by decide +kernel
theorem dX8_placeAt_6 : decode cX8_placeAt 6 = .ok (.getfield 15, 3) := by decide +kernel
theorem dX8_placeAt_9 : decode cX8_placeAt 9 = .ok (.if_icmp .ge 24, 3) := by decide +kernel
theorem dX8_placeAt_12 : decode cX8_placeAt 12 = .ok (.iload_n 1, 1) := by decide +kernel
theorem dX8_placeAt_13 : decode cX8_placeAt 13 = .ok (.aload_n 0, 1) := by decide +kernel
theorem dX8_placeAt_14 : decode cX8_placeAt 14 = .ok (.getfield 9, 3) := by decide +kernel
theorem dX8_placeAt_17 : decode cX8_placeAt 17 = .ok (.arraylength, 1) := by decide +kernel
theorem dX8_placeAt_18 : decode cX8_placeAt 18 = .ok (.if_icmp .ge 15, 3) := by decide +kernel
theorem dX8_placeAt_21 : decode cX8_placeAt 21 = .ok (.aload_n 0, 1) := by decide +kernel
theorem dX8_placeAt_22 : decode cX8_placeAt 22 = .ok (.getfield 9, 3) := by decide +kernel
theorem dX8_placeAt_25 : decode cX8_placeAt 25 = .ok (.iload_n 1, 1) := by decide +kernel
theorem dX8_placeAt_26 : decode cX8_placeAt 26 = .ok (.iaload, 1) := by decide +kernel
theorem dX8_placeAt_27 : decode cX8_placeAt 27 = .ok (.bipush 10, 2) := by decide +kernel
theorem dX8_placeAt_29 : decode cX8_placeAt 29 = .ok (.ishr, 1) := by decide +kernel
theorem dX8_placeAt_30 : decode cX8_placeAt 30 = .ok (.goto 7, 3) := by decide +kernel
theorem dX8_placeAt_33 : decode cX8_placeAt 33 = .ok (.aload_n 0, 1) := by decide +kernel
theorem dX8_placeAt_34 : decode cX8_placeAt 34 = .ok (.getfield 25, 3) := by decide +kernel
theorem dX8_placeAt_37 : decode cX8_placeAt 37 = .ok (.ireturn, 1) := by decide +kernel
theorem dX8_letterAt_0 : decode cX8_letterAt 0 = .ok (.iload_n 1, 1) := by decide +kernel
theorem dX8_letterAt_1 : decode cX8_letterAt 1 = .ok (.ifCond .lt 32, 3) := by decide +kernel
theorem dX8_letterAt_4 : decode cX8_letterAt 4 = .ok (.iload_n 1, 1) := by decide +kernel
theorem dX8_letterAt_5 : decode cX8_letterAt 5 = .ok (.aload_n 0, 1) := by decide +kernel
theorem dX8_letterAt_6 : decode cX8_letterAt 6 = .ok (.getfield 15, 3) := by decide +kernel
theorem dX8_letterAt_9 : decode cX8_letterAt 9 = .ok (.if_icmp .ge 24, 3) := by decide +kernel
theorem dX8_letterAt_12 : decode cX8_letterAt 12 = .ok (.iload_n 1, 1) := by decide +kernel
theorem dX8_letterAt_13 : decode cX8_letterAt 13 = .ok (.aload_n 0, 1) := by decide +kernel
theorem dX8_letterAt_14 : decode cX8_letterAt 14 = .ok (.getfield 9, 3) := by decide +kernel
theorem dX8_letterAt_17 : decode cX8_letterAt 17 = .ok (.arraylength, 1) := by decide +kernel
theorem dX8_letterAt_18 : decode cX8_letterAt 18 = .ok (.if_icmp .ge 15, 3) := by decide +kernel
theorem dX8_letterAt_21 : decode cX8_letterAt 21 = .ok (.aload_n 0, 1) := by decide +kernel
theorem dX8_letterAt_22 : decode cX8_letterAt 22 = .ok (.getfield 9, 3) := by decide +kernel
theorem dX8_letterAt_25 : decode cX8_letterAt 25 = .ok (.iload_n 1, 1) := by decide +kernel
theorem dX8_letterAt_26 : decode cX8_letterAt 26 = .ok (.iaload, 1) := by decide +kernel
theorem dX8_letterAt_27 : decode cX8_letterAt 27 = .ok (.bipush 31, 2) := by decide +kernel
theorem dX8_letterAt_29 : decode cX8_letterAt 29 = .ok (.iand, 1) := by decide +kernel
theorem dX8_letterAt_30 : decode cX8_letterAt 30 = .ok (.goto 4, 3) := by decide +kernel
theorem dX8_letterAt_33 : decode cX8_letterAt 33 = .ok (.iconst 0, 1) := by decide +kernel
theorem dX8_letterAt_34 : decode cX8_letterAt 34 = .ok (.ireturn, 1) := by decide +kernel
set_option maxRecDepth 20000 in
theorem ggX8_add_X5_put : GoodIn wsX8_add wsX5_put := goodIn_r _ [6] (by decide +kernel) (by decide +kernel)
set_option maxRecDepth 20000 in
theorem gX8_add_X5_put : GoodIn wsX8_add (va_wsS RX8 51 yX5_put wsX5_put) := goodIn_app (goodIn_of _ (by decide +kernel)) ggX8_add_X5_put
theorem dX8_add_0 : decode cX8_add 0 = .ok (.aload_n 0, 1) := by decide +kernel
theorem dX8_add_1 : decode cX8_add 1 = .ok (.getfield 9, 3) := by decide +kernel
theorem dX8_add_4 : decode cX8_add 4 = .ok (.aload_n 0, 1) := by decide +kernel
theorem dX8_add_5 : decode cX8_add 5 = .ok (.getfield 15, 3) := by decide +kernel
theorem dX8_add_8 : decode cX8_add 8 = .ok (.iload_n 2, 1) := by decide +kernel
theorem dX8_add_9 : decode cX8_add 9 = .ok (.bipush 10, 2) := by decide +kernel
theorem dX8_add_11 : decode cX8_add 11 = .ok (.ishl, 1) := by decide +kernel
theorem dX8_add_12 : decode cX8_add 12 = .ok (.iload_n 1, 1) := by decide +kernel
theorem dX8_add_13 : decode cX8_add 13 = .ok (.iconst 5, 1) := by decide +kernel
theorem dX8_add_14 : decode cX8_add 14 = .ok (.ishl, 1) := by decide +kernel
theorem dX8_add_15 : decode cX8_add 15 = .ok (.ior, 1) := by decide +kernel
theorem dX8_add_16 : decode cX8_add 16 = .ok (.iload_n 3, 1) := by decide +kernel
theorem dX8_add_17 : decode cX8_add 17 = .ok (.ior, 1) := by decide +kernel
theorem dX8_add_18 : decode cX8_add 18 = .ok (.invokestatic 51, 3) := by decide +kernel
theorem dX8_add_21 : decode cX8_add 21 = .ok (.aload_n 0, 1) := by decide +kernel
theorem dX8_add_22 : decode cX8_add 22 = .ok (.dup, 1) := by decide +kernel
theorem dX8_add_23 : decode cX8_add 23 = .ok (.getfield 15, 3) := by decide +kernel
theorem dX8_add_26 : decode cX8_add 26 = .ok (.iconst 1, 1) := by decide +kernel
theorem dX8_add_27 : decode cX8_add 27 = .ok (.iadd, 1) := by decide +kernel
theorem dX8_add_28 : decode cX8_add 28 = .ok (.putfield 15, 3) := by decide +kernel
theorem dX8_add_31 : decode cX8_add 31 = .ok (.return_, 1) := by decide +kernel
set_option maxRecDepth 20000 in
theorem ggX8_endOfWord_X8_isSmall : GoodIn wsX8_endOfWord wsX8_isSmall := goodIn_r _ [5] (by decide +kernel) (by decide +kernel)
set_option maxRecDepth 20000 in
theorem gX8_endOfWord_X8_isSmall : GoodIn wsX8_endOfWord (va_wsS RX8 28 yX8_isSmall wsX8_isSmall) := goodIn_app (goodIn_of _ (by decide +kernel)) ggX8_endOfWord_X8_isSmall
theorem dX8_endOfWord_0 : decode cX8_endOfWord 0 = .ok (.iload_n 2, 1) := by decide +kernel
theorem dX8_endOfWord_1 : decode cX8_endOfWord 1 = .ok (.iconst 1, 1) := by decide +kernel
theorem dX8_endOfWord_2 : decode cX8_endOfWord 2 = .ok (.iadd, 1) := by decide +kernel
theorem dX8_endOfWord_3 : decode cX8_endOfWord 3 = .ok (.istore_n 3, 1) := by decide +kernel
theorem dX8_endOfWord_4 : decode cX8_endOfWord 4 = .ok (.iload_n 3, 1) := by decide +kernel
theorem dX8_endOfWord_5 : decode cX8_endOfWord 5 = .ok (.aload_n 0, 1) := by decide +kernel
theorem dX8_endOfWord_6 : decode cX8_endOfWord 6 = .ok (.getfield 25, 3) := by decide +kernel
theorem dX8_endOfWord_9 : decode cX8_endOfWord 9 = .ok (.if_icmp .ge 24, 3) := by decide +kernel
theorem dX8_endOfWord_12 : decode cX8_endOfWord 12 = .ok (.iload_n 3, 1) := by decide +kernel
theorem dX8_endOfWord_13 : decode cX8_endOfWord 13 = .ok (.aload_n 1, 1) := by decide +kernel
theorem dX8_endOfWord_14 : decode cX8_endOfWord 14 = .ok (.arraylength, 1) := by decide +kernel
theorem dX8_endOfWord_15 : decode cX8_endOfWord 15 = .ok (.if_icmp .ge 18, 3) := by decide +kernel
theorem dX8_endOfWord_18 : decode cX8_endOfWord 18 = .ok (.aload_n 1, 1) := by decide +kernel
theorem dX8_endOfWord_19 : decode cX8_endOfWord 19 = .ok (.iload_n 3, 1) := by decide +kernel
theorem dX8_endOfWord_20 : decode cX8_endOfWord 20 = .ok (.baload, 1) := by decide +kernel
theorem dX8_endOfWord_21 : decode cX8_endOfWord 21 = .ok (.invokestatic 28, 3) := by decide +kernel
theorem dX8_endOfWord_24 : decode cX8_endOfWord 24 = .ok (.ifCond .eq 9, 3) := by decide +kernel
theorem dX8_endOfWord_27 : decode cX8_endOfWord 27 = .ok (.iinc 3 1, 3) := by decide +kernel
theorem dX8_endOfWord_30 : decode cX8_endOfWord 30 = .ok (.goto (-26), 3) := by decide +kernel
theorem dX8_endOfWord_33 : decode cX8_endOfWord 33 = .ok (.iload_n 3, 1) := by decide +kernel
theorem dX8_endOfWord_34 : decode cX8_endOfWord 34 = .ok (.ireturn, 1) := by decide +kernel
theorem dX8_isSmall_0 : decode cX8_isSmall 0 = .ok (.iload_n 0, 1) := by decide +kernel
theorem dX8_isSmall_1 : decode cX8_isSmall 1 = .ok (.bipush 97, 2) := by decide +kernel
theorem dX8_isSmall_3 : decode cX8_isSmall 3 = .ok (.if_icmp .lt 13, 3) := by decide +kernel
theorem dX8_isSmall_6 : decode cX8_isSmall 6 = .ok (.iload_n 0, 1) := by decide +kernel
theorem dX8_isSmall_7 : decode cX8_isSmall 7 = .ok (.bipush 122, 2) := by decide +kernel
theorem dX8_isSmall_9 : decode cX8_isSmall 9 = .ok (.if_icmp .gt 7, 3) := by decide +kernel
theorem dX8_isSmall_12 : decode cX8_isSmall 12 = .ok (.iconst 1, 1) := by decide +kernel
theorem dX8_isSmall_13 : decode cX8_isSmall 13 = .ok (.goto 4, 3) := by decide +kernel
theorem dX8_isSmall_16 : decode cX8_isSmall 16 = .ok (.iconst 0, 1) := by decide +kernel
theorem dX8_isSmall_17 : decode cX8_isSmall 17 = .ok (.ireturn, 1) := by decide +kernel
theorem dX8_kindOfSign_0 : decode cX8_kindOfSign 0 = .ok (.iload_n 0, 1) := by decide +kernel
theorem dX8_kindOfSign_1 : decode cX8_kindOfSign 1 = .ok (.lookupswitch 97 #[(40, 75), (41, 77), (44, 85), (46, 94), (59, 88), (61, 91), (123, 79), (125, 82)], 75) := by decide +kernel
theorem dX8_kindOfSign_76 : decode cX8_kindOfSign 76 = .ok (.iconst 4, 1) := by decide +kernel
theorem dX8_kindOfSign_77 : decode cX8_kindOfSign 77 = .ok (.ireturn, 1) := by decide +kernel
theorem dX8_kindOfSign_78 : decode cX8_kindOfSign 78 = .ok (.iconst 5, 1) := by decide +kernel
theorem dX8_kindOfSign_79 : decode cX8_kindOfSign 79 = .ok (.ireturn, 1) := by decide +kernel
theorem dX8_kindOfSign_80 : decode cX8_kindOfSign 80 = .ok (.bipush 6, 2) := by decide +kernel
theorem dX8_kindOfSign_82 : decode cX8_kindOfSign 82 = .ok (.ireturn, 1) := by decide +kernel
theorem dX8_kindOfSign_83 : decode cX8_kindOfSign 83 = .ok (.bipush 7, 2) := by decide +kernel
theorem dX8_kindOfSign_85 : decode cX8_kindOfSign 85 = .ok (.ireturn, 1) := by decide +kernel
theorem dX8_kindOfSign_86 : decode cX8_kindOfSign 86 = .ok (.bipush 8, 2) := by decide +kernel
theorem dX8_kindOfSign_88 : decode cX8_kindOfSign 88 = .ok (.ireturn, 1) := by decide +kernel
theorem dX8_kindOfSign_89 : decode cX8_kindOfSign 89 = .ok (.bipush 9, 2) := by decide +kernel
theorem dX8_kindOfSign_91 : decode cX8_kindOfSign 91 = .ok (.ireturn, 1) := by decide +kernel
theorem dX8_kindOfSign_92 : decode cX8_kindOfSign 92 = .ok (.bipush 10, 2) := by decide +kernel
theorem dX8_kindOfSign_94 : decode cX8_kindOfSign 94 = .ok (.ireturn, 1) := by decide +kernel
theorem dX8_kindOfSign_95 : decode cX8_kindOfSign 95 = .ok (.bipush 11, 2) := by decide +kernel
theorem dX8_kindOfSign_97 : decode cX8_kindOfSign 97 = .ok (.ireturn, 1) := by decide +kernel
theorem dX8_kindOfSign_98 : decode cX8_kindOfSign 98 = .ok (.iconst 1, 1) := by decide +kernel
theorem dX8_kindOfSign_99 : decode cX8_kindOfSign 99 = .ok (.ireturn, 1) := by decide +kernel
set_option maxRecDepth 20000 in
theorem ggX8_kindOfWord_X8_spells : GoodIn wsX8_kindOfWord wsX8_spells := goodIn_r _ [4, 5, 6, 7, 8, 9, 10, 11, 12, 13, 14, 15, 16, 17, 18, 19, 20, 21, 22, 23, 24, 25, 26, 27, 28, 29, 30, 31, 32, 33, 34, 35, 36, 37, 38, 39, 40, 41, 42, 43, 44, 45, 46, 47, 48, 49, 50, 51, 52, 53] (by decide +kernel) (by decide +kernel)
set_option maxRecDepth 20000 in
theorem gX8_kindOfWord_X8_spells : GoodIn wsX8_kindOfWord (va_wsS RX8 59 yX8_spells wsX8_spells) := goodIn_app (goodIn_of _ (by decide +kernel)) ggX8_kindOfWord_X8_spells
theorem dX8_kindOfWord_0 : decode cX8_kindOfWord 0 = .ok (.iload_n 2, 1) := by decide +kernel
theorem dX8_kindOfWord_1 : decode cX8_kindOfWord 1 = .ok (.tableswitch 190 1 7 #[43, 45, 77, 122, 139, 156, 173], 43) := by decide +kernel
theorem dX8_kindOfWord_44 : decode cX8_kindOfWord 44 = .ok (.iconst 2, 1) := by decide +kernel
theorem dX8_kindOfWord_45 : decode cX8_kindOfWord 45 = .ok (.ireturn, 1) := by decide +kernel
theorem dX8_kindOfWord_46 : decode cX8_kindOfWord 46 = .ok (.aload_n 0, 1) := by decide +kernel
theorem dX8_kindOfWord_47 : decode cX8_kindOfWord 47 = .ok (.iload_n 1, 1) := by decide +kernel
theorem dX8_kindOfWord_48 : decode cX8_kindOfWord 48 = .ok (.ldc 57, 2) := by decide +kernel
theorem dX8_kindOfWord_50 : decode cX8_kindOfWord 50 = .ok (.invokestatic 59, 3) := by decide +kernel
theorem dX8_kindOfWord_53 : decode cX8_kindOfWord 53 = .ok (.ifCond .eq 8, 3) := by decide +kernel
theorem dX8_kindOfWord_56 : decode cX8_kindOfWord 56 = .ok (.bipush 12, 2) := by decide +kernel
theorem dX8_kindOfWord_58 : decode cX8_kindOfWord 58 = .ok (.goto 19, 3) := by decide +kernel
theorem dX8_kindOfWord_61 : decode cX8_kindOfWord 61 = .ok (.aload_n 0, 1) := by decide +kernel
theorem dX8_kindOfWord_62 : decode cX8_kindOfWord 62 = .ok (.iload_n 1, 1) := by decide +kernel
theorem dX8_kindOfWord_63 : decode cX8_kindOfWord 63 = .ok (.ldc 63, 2) := by decide +kernel
theorem dX8_kindOfWord_65 : decode cX8_kindOfWord 65 = .ok (.invokestatic 59, 3) := by decide +kernel
theorem dX8_kindOfWord_68 : decode cX8_kindOfWord 68 = .ok (.ifCond .eq 8, 3) := by decide +kernel
theorem dX8_kindOfWord_71 : decode cX8_kindOfWord 71 = .ok (.bipush 15, 2) := by decide +kernel
theorem dX8_kindOfWord_73 : decode cX8_kindOfWord 73 = .ok (.goto 4, 3) := by decide +kernel
theorem dX8_kindOfWord_76 : decode cX8_kindOfWord 76 = .ok (.iconst 1, 1) := by decide +kernel
theorem dX8_kindOfWord_77 : decode cX8_kindOfWord 77 = .ok (.ireturn, 1) := by decide +kernel
theorem dX8_kindOfWord_78 : decode cX8_kindOfWord 78 = .ok (.aload_n 0, 1) := by decide +kernel
theorem dX8_kindOfWord_79 : decode cX8_kindOfWord 79 = .ok (.iload_n 1, 1) := by decide +kernel
theorem dX8_kindOfWord_80 : decode cX8_kindOfWord 80 = .ok (.ldc 65, 2) := by decide +kernel
theorem dX8_kindOfWord_82 : decode cX8_kindOfWord 82 = .ok (.invokestatic 59, 3) := by decide +kernel
theorem dX8_kindOfWord_85 : decode cX8_kindOfWord 85 = .ok (.ifCond .eq 6, 3) := by decide +kernel
theorem dX8_kindOfWord_88 : decode cX8_kindOfWord 88 = .ok (.bipush 19, 2) := by decide +kernel
theorem dX8_kindOfWord_90 : decode cX8_kindOfWord 90 = .ok (.ireturn, 1) := by decide +kernel
theorem dX8_kindOfWord_91 : decode cX8_kindOfWord 91 = .ok (.aload_n 0, 1) := by decide +kernel
theorem dX8_kindOfWord_92 : decode cX8_kindOfWord 92 = .ok (.iload_n 1, 1) := by decide +kernel
theorem dX8_kindOfWord_93 : decode cX8_kindOfWord 93 = .ok (.ldc 67, 2) := by decide +kernel
theorem dX8_kindOfWord_95 : decode cX8_kindOfWord 95 = .ok (.invokestatic 59, 3) := by decide +kernel
theorem dX8_kindOfWord_98 : decode cX8_kindOfWord 98 = .ok (.ifCond .eq 8, 3) := by decide +kernel
theorem dX8_kindOfWord_101 : decode cX8_kindOfWord 101 = .ok (.bipush 18, 2) := by decide +kernel
theorem dX8_kindOfWord_103 : decode cX8_kindOfWord 103 = .ok (.goto 19, 3) := by decide +kernel
theorem dX8_kindOfWord_106 : decode cX8_kindOfWord 106 = .ok (.aload_n 0, 1) := by decide +kernel
theorem dX8_kindOfWord_107 : decode cX8_kindOfWord 107 = .ok (.iload_n 1, 1) := by decide +kernel
theorem dX8_kindOfWord_108 : decode cX8_kindOfWord 108 = .ok (.ldc 69, 2) := by decide +kernel
theorem dX8_kindOfWord_110 : decode cX8_kindOfWord 110 = .ok (.invokestatic 59, 3) := by decide +kernel
theorem dX8_kindOfWord_113 : decode cX8_kindOfWord 113 = .ok (.ifCond .eq 8, 3) := by decide +kernel
theorem dX8_kindOfWord_116 : decode cX8_kindOfWord 116 = .ok (.bipush 16, 2) := by decide +kernel
theorem dX8_kindOfWord_118 : decode cX8_kindOfWord 118 = .ok (.goto 4, 3) := by decide +kernel
theorem dX8_kindOfWord_121 : decode cX8_kindOfWord 121 = .ok (.iconst 1, 1) := by decide +kernel
theorem dX8_kindOfWord_122 : decode cX8_kindOfWord 122 = .ok (.ireturn, 1) := by decide +kernel
theorem dX8_kindOfWord_123 : decode cX8_kindOfWord 123 = .ok (.aload_n 0, 1) := by decide +kernel
theorem dX8_kindOfWord_124 : decode cX8_kindOfWord 124 = .ok (.iload_n 1, 1) := by decide +kernel
theorem dX8_kindOfWord_125 : decode cX8_kindOfWord 125 = .ok (.ldc 71, 2) := by decide +kernel
theorem dX8_kindOfWord_127 : decode cX8_kindOfWord 127 = .ok (.invokestatic 59, 3) := by decide +kernel
theorem dX8_kindOfWord_130 : decode cX8_kindOfWord 130 = .ok (.ifCond .eq 8, 3) := by decide +kernel
theorem dX8_kindOfWord_133 : decode cX8_kindOfWord 133 = .ok (.bipush 13, 2) := by decide +kernel
theorem dX8_kindOfWord_135 : decode cX8_kindOfWord 135 = .ok (.goto 4, 3) := by decide +kernel
theorem dX8_kindOfWord_138 : decode cX8_kindOfWord 138 = .ok (.iconst 1, 1) := by decide +kernel
theorem dX8_kindOfWord_139 : decode cX8_kindOfWord 139 = .ok (.ireturn, 1) := by decide +kernel
theorem dX8_kindOfWord_140 : decode cX8_kindOfWord 140 = .ok (.aload_n 0, 1) := by decide +kernel
theorem dX8_kindOfWord_141 : decode cX8_kindOfWord 141 = .ok (.iload_n 1, 1) := by decide +kernel
theorem dX8_kindOfWord_142 : decode cX8_kindOfWord 142 = .ok (.ldc 73, 2) := by decide +kernel
theorem dX8_kindOfWord_144 : decode cX8_kindOfWord 144 = .ok (.invokestatic 59, 3) := by decide +kernel
theorem dX8_kindOfWord_147 : decode cX8_kindOfWord 147 = .ok (.ifCond .eq 8, 3) := by decide +kernel
theorem dX8_kindOfWord_150 : decode cX8_kindOfWord 150 = .ok (.bipush 14, 2) := by decide +kernel
theorem dX8_kindOfWord_152 : decode cX8_kindOfWord 152 = .ok (.goto 4, 3) := by decide +kernel
theorem dX8_kindOfWord_155 : decode cX8_kindOfWord 155 = .ok (.iconst 1, 1) := by decide +kernel
theorem dX8_kindOfWord_156 : decode cX8_kindOfWord 156 = .ok (.ireturn, 1) := by decide +kernel
theorem dX8_kindOfWord_157 : decode cX8_kindOfWord 157 = .ok (.aload_n 0, 1) := by decide +kernel
theorem dX8_kindOfWord_158 : decode cX8_kindOfWord 158 = .ok (.iload_n 1, 1) := by decide +kernel
theorem dX8_kindOfWord_159 : decode cX8_kindOfWord 159 = .ok (.ldc 75, 2) := by decide +kernel
theorem dX8_kindOfWord_161 : decode cX8_kindOfWord 161 = .ok (.invokestatic 59, 3) := by decide +kernel
theorem dX8_kindOfWord_164 : decode cX8_kindOfWord 164 = .ok (.ifCond .eq 8, 3) := by decide +kernel
theorem dX8_kindOfWord_167 : decode cX8_kindOfWord 167 = .ok (.bipush 20, 2) := by decide +kernel
theorem dX8_kindOfWord_169 : decode cX8_kindOfWord 169 = .ok (.goto 4, 3) := by decide +kernel
theorem dX8_kindOfWord_172 : decode cX8_kindOfWord 172 = .ok (.iconst 1, 1) := by decide +kernel
theorem dX8_kindOfWord_173 : decode cX8_kindOfWord 173 = .ok (.ireturn, 1) := by decide +kernel
theorem dX8_kindOfWord_174 : decode cX8_kindOfWord 174 = .ok (.aload_n 0, 1) := by decide +kernel
theorem dX8_kindOfWord_175 : decode cX8_kindOfWord 175 = .ok (.iload_n 1, 1) := by decide +kernel
theorem dX8_kindOfWord_176 : decode cX8_kindOfWord 176 = .ok (.ldc 77, 2) := by decide +kernel
theorem dX8_kindOfWord_178 : decode cX8_kindOfWord 178 = .ok (.invokestatic 59, 3) := by decide +kernel
theorem dX8_kindOfWord_181 : decode cX8_kindOfWord 181 = .ok (.ifCond .eq 8, 3) := by decide +kernel
theorem dX8_kindOfWord_184 : decode cX8_kindOfWord 184 = .ok (.bipush 17, 2) := by decide +kernel
theorem dX8_kindOfWord_186 : decode cX8_kindOfWord 186 = .ok (.goto 4, 3) := by decide +kernel
theorem dX8_kindOfWord_189 : decode cX8_kindOfWord 189 = .ok (.iconst 1, 1) := by decide +kernel
theorem dX8_kindOfWord_190 : decode cX8_kindOfWord 190 = .ok (.ireturn, 1) := by decide +kernel
theorem dX8_kindOfWord_191 : decode cX8_kindOfWord 191 = .ok (.iconst 1, 1) := by decide +kernel
theorem dX8_kindOfWord_192 : decode cX8_kindOfWord 192 = .ok (.ireturn, 1) := by decide +kernel
set_option maxRecDepth 20000 in
theorem ggX8_spells_J0_length_8abf5 : GoodIn wsX8_spells wsJ0_length_8abf5 := goodIn_r _ [5, 6, 7, 8, 9, 4, 10, 11, 12] (by decide +kernel) (by decide +kernel)
set_option maxRecDepth 20000 in
theorem gX8_spells_J0_length_8abf5 : GoodIn wsX8_spells (wsV RX8 79 RJ0 yJ0_length_8abf5 wsJ0_length_8abf5) := goodIn_app (goodIn_of _ (by decide +kernel)) ggX8_spells_J0_length_8abf5
set_option maxRecDepth 20000 in
theorem ggX8_spells_J0_charAt_5068e : GoodIn wsX8_spells wsJ0_charAt_5068e := goodIn_r _ [16, 6, 17, 18, 19, 4, 20, 11, 12, 21, 22, 23, 24, 25, 26, 27, 28, 29, 30, 31, 32, 33, 34, 35, 36, 37, 38, 39, 40, 41, 42, 43, 44, 45, 46, 47, 48, 49] (by decide +kernel) (by decide +kernel)
set_option maxRecDepth 20000 in
theorem gX8_spells_J0_charAt_5068e : GoodIn wsX8_spells (wsV RX8 84 RJ0 yJ0_charAt_5068e wsJ0_charAt_5068e) := goodIn_app (goodIn_of _ (by decide +kernel)) ggX8_spells_J0_charAt_5068e
theorem dX8_spells_0 : decode cX8_spells 0 = .ok (.iload_n 1, 1) := by decide +kernel
theorem dX8_spells_1 : decode cX8_spells 1 = .ok (.ifCond .lt 14, 3) := by decide +kernel
theorem dX8_spells_4 : decode cX8_spells 4 = .ok (.iload_n 1, 1) := by decide +kernel
theorem dX8_spells_5 : decode cX8_spells 5 = .ok (.aload_n 2, 1) := by decide +kernel
theorem dX8_spells_6 : decode cX8_spells 6 = .ok (.invokevirtual 79, 3) := by decide +kernel
theorem dX8_spells_9 : decode cX8_spells 9 = .ok (.iadd, 1) := by decide +kernel
theorem dX8_spells_10 : decode cX8_spells 10 = .ok (.aload_n 0, 1) := by decide +kernel
theorem dX8_spells_11 : decode cX8_spells 11 = .ok (.arraylength, 1) := by decide +kernel
theorem dX8_spells_12 : decode cX8_spells 12 = .ok (.if_icmp .le 5, 3) := by decide +kernel
theorem dX8_spells_15 : decode cX8_spells 15 = .ok (.iconst 0, 1) := by decide +kernel
theorem dX8_spells_16 : decode cX8_spells 16 = .ok (.ireturn, 1) := by decide +kernel
theorem dX8_spells_17 : decode cX8_spells 17 = .ok (.iconst 0, 1) := by decide +kernel
theorem dX8_spells_18 : decode cX8_spells 18 = .ok (.istore_n 3, 1) := by decide +kernel
theorem dX8_spells_19 : decode cX8_spells 19 = .ok (.iload_n 3, 1) := by decide +kernel
theorem dX8_spells_20 : decode cX8_spells 20 = .ok (.aload_n 2, 1) := by decide +kernel
theorem dX8_spells_21 : decode cX8_spells 21 = .ok (.invokevirtual 79, 3) := by decide +kernel
theorem dX8_spells_24 : decode cX8_spells 24 = .ok (.if_icmp .ge 24, 3) := by decide +kernel
theorem dX8_spells_27 : decode cX8_spells 27 = .ok (.aload_n 0, 1) := by decide +kernel
theorem dX8_spells_28 : decode cX8_spells 28 = .ok (.iload_n 1, 1) := by decide +kernel
theorem dX8_spells_29 : decode cX8_spells 29 = .ok (.iload_n 3, 1) := by decide +kernel
theorem dX8_spells_30 : decode cX8_spells 30 = .ok (.iadd, 1) := by decide +kernel
theorem dX8_spells_31 : decode cX8_spells 31 = .ok (.baload, 1) := by decide +kernel
theorem dX8_spells_32 : decode cX8_spells 32 = .ok (.aload_n 2, 1) := by decide +kernel
theorem dX8_spells_33 : decode cX8_spells 33 = .ok (.iload_n 3, 1) := by decide +kernel
theorem dX8_spells_34 : decode cX8_spells 34 = .ok (.invokevirtual 84, 3) := by decide +kernel
theorem dX8_spells_37 : decode cX8_spells 37 = .ok (.if_icmp .eq 5, 3) := by decide +kernel
theorem dX8_spells_40 : decode cX8_spells 40 = .ok (.iconst 0, 1) := by decide +kernel
theorem dX8_spells_41 : decode cX8_spells 41 = .ok (.ireturn, 1) := by decide +kernel
theorem dX8_spells_42 : decode cX8_spells 42 = .ok (.iinc 3 1, 3) := by decide +kernel
theorem dX8_spells_45 : decode cX8_spells 45 = .ok (.goto (-26), 3) := by decide +kernel
theorem dX8_spells_48 : decode cX8_spells 48 = .ok (.iconst 1, 1) := by decide +kernel
theorem dX8_spells_49 : decode cX8_spells 49 = .ok (.ireturn, 1) := by decide +kernel
theorem dX9_init_0 : decode cX9_init 0 = .ok (.aload_n 0, 1) := by decide +kernel
theorem dX9_init_1 : decode cX9_init 1 = .ok (.invokespecial 3, 3) := by decide +kernel
theorem dX9_init_4 : decode cX9_init 4 = .ok (.aload_n 0, 1) := by decide +kernel
theorem dX9_init_5 : decode cX9_init 5 = .ok (.bipush 40, 2) := by decide +kernel
theorem dX9_init_7 : decode cX9_init 7 = .ok (.newarray .int, 2) := by decide +kernel
theorem dX9_init_9 : decode cX9_init 9 = .ok (.putfield 9, 3) := by decide +kernel
theorem dX9_init_12 : decode cX9_init 12 = .ok (.aload_n 0, 1) := by decide +kernel
theorem dX9_init_13 : decode cX9_init 13 = .ok (.sipush 256, 3) := by decide +kernel
theorem dX9_init_16 : decode cX9_init 16 = .ok (.newarray .int, 2) := by decide +kernel
theorem dX9_init_18 : decode cX9_init 18 = .ok (.putfield 15, 3) := by decide +kernel
theorem dX9_init_21 : decode cX9_init 21 = .ok (.aload_n 0, 1) := by decide +kernel
theorem dX9_init_22 : decode cX9_init 22 = .ok (.iconst 1, 1) := by decide +kernel
theorem dX9_init_23 : decode cX9_init 23 = .ok (.putfield 18, 3) := by decide +kernel
theorem dX9_init_26 : decode cX9_init 26 = .ok (.aload_n 0, 1) := by decide +kernel
theorem dX9_init_27 : decode cX9_init 27 = .ok (.aload_n 1, 1) := by decide +kernel
theorem dX9_init_28 : decode cX9_init 28 = .ok (.putfield 22, 3) := by decide +kernel
theorem dX9_init_31 : decode cX9_init 31 = .ok (.aload_n 0, 1) := by decide +kernel
theorem dX9_init_32 : decode cX9_init 32 = .ok (.aload_n 2, 1) := by decide +kernel
theorem dX9_init_33 : decode cX9_init 33 = .ok (.putfield 26, 3) := by decide +kernel
theorem dX9_init_36 : decode cX9_init 36 = .ok (.return_, 1) := by decide +kernel
set_option maxRecDepth 20000 in
theorem ggX9_fill_J7_fill_53178 : GoodIn wsX9_fill wsJ7_fill_53178 := goodIn_r _ [10] (by decide +kernel) (by decide +kernel)
set_option maxRecDepth 20000 in
theorem gX9_fill_J7_fill_53178 : GoodIn wsX9_fill (va_wsS RX9 34 yJ7_fill_53178 wsJ7_fill_53178) := goodIn_app (goodIn_of _ (by decide +kernel)) ggX9_fill_J7_fill_53178
set_option maxRecDepth 20000 in
theorem ggX9_fill_X5_at : GoodIn wsX9_fill wsX5_at := goodIn_r _ [14] (by decide +kernel) (by decide +kernel)
set_option maxRecDepth 20000 in
theorem gX9_fill_X5_at : GoodIn wsX9_fill (va_wsS RX9 40 yX5_at wsX5_at) := goodIn_app (goodIn_of _ (by decide +kernel)) ggX9_fill_X5_at
set_option maxRecDepth 20000 in
theorem ggX9_fill_X7_allows : GoodIn wsX9_fill wsX7_allows := goodIn_r _ [19, 20, 21, 22, 23, 24, 25, 26, 27, 28, 29, 30, 31, 18, 32, 33, 34, 35, 36, 37, 38, 12, 13, 14, 174, 175, 176, 177, 178, 179, 180, 181, 182, 183, 184, 185, 186, 187, 188, 189, 190] (by decide +kernel) (by decide +kernel)
set_option maxRecDepth 20000 in
theorem gX9_fill_X7_allows : GoodIn wsX9_fill (wsV RX9 46 RX7 yX7_allows wsX7_allows) := goodIn_app (goodIn_of _ (by decide +kernel)) ggX9_fill_X7_allows
set_option maxRecDepth 20000 in
theorem ggX9_fill_X6_go : GoodIn wsX9_fill wsX6_go := goodIn_r _ [43, 44, 45, 46, 47, 48, 49, 42, 50, 51, 52, 53, 54, 55, 56, 57, 58, 59, 60, 61, 62, 63, 64, 65, 66, 67, 68, 69, 70, 71, 13, 72, 73, 30, 31, 18, 32, 20, 33, 21, 34, 35, 36, 37, 38, 12, 14, 23, 24, 25, 26, 27, 28, 74, 75, 76, 77, 78, 79, 80, 81, 82, 83, 84, 85, 86, 87, 88, 89, 90, 91, 92, 93, 94, 95, 96, 97, 98, 99, 100, 101, 102, 103, 104, 105, 106, 107, 108, 109, 110, 111, 112, 113, 114, 115, 116, 117, 118, 119, 120, 121, 122, 123, 124, 125, 126, 127, 128, 129, 130, 131, 132, 133, 134, 135, 136, 137, 138, 139, 140, 141, 142, 143, 144, 145, 146, 147, 148, 149, 150, 151, 152, 153, 154, 155, 191, 192, 193, 194, 195, 196, 197, 198, 199, 200, 201, 202, 203, 204, 205, 206, 174, 175, 176, 177, 178, 179, 180, 181, 182, 183, 184, 185, 186, 187, 188, 189, 190, 207, 208] (by decide +kernel) (by decide +kernel)
set_option maxRecDepth 20000 in
theorem gX9_fill_X6_go : GoodIn wsX9_fill (wsV RX9 52 RX6 yX6_go wsX6_go) := goodIn_app (goodIn_of _ (by decide +kernel)) ggX9_fill_X6_go
set_option maxRecDepth 20000 in
theorem ggX9_fill_X9_noteFailure : GoodIn wsX9_fill wsX9_noteFailure := goodIn_r _ [160, 6, 161, 3, 2, 11, 12, 13, 14, 162, 71, 72, 168, 169, 170, 171, 172, 173, 191, 192, 193, 194, 195, 196, 197, 198, 199, 200, 201, 202, 203, 204, 205, 206] (by decide +kernel) (by decide +kernel)
set_option maxRecDepth 20000 in
theorem gX9_fill_X9_noteFailure : GoodIn wsX9_fill (wsV RX9 58 RX9 yX9_noteFailure wsX9_noteFailure) := goodIn_app (goodIn_of _ (by decide +kernel)) ggX9_fill_X9_noteFailure
set_option maxRecDepth 20000 in
theorem ggX9_fill_X9_skipTheSame : GoodIn wsX9_fill wsX9_skipTheSame := goodIn_r _ [166, 6, 167, 4, 162, 71, 13, 72, 168, 169, 170, 171, 172, 173, 191, 192, 193, 194, 195, 196, 197, 198, 199, 200, 201, 202, 203, 204, 205, 206] (by decide +kernel) (by decide +kernel)
set_option maxRecDepth 20000 in
theorem gX9_fill_X9_skipTheSame : GoodIn wsX9_fill (wsV RX9 62 RX9 yX9_skipTheSame wsX9_skipTheSame) := goodIn_app (goodIn_of _ (by decide +kernel)) ggX9_fill_X9_skipTheSame
theorem dX9_fill_0 : decode cX9_fill 0 = .ok (.aload_n 0, 1) := by decide +kernel
theorem dX9_fill_1 : decode cX9_fill 1 = .ok (.getfield 18, 3) := by decide +kernel
theorem dX9_fill_4 : decode cX9_fill 4 = .ok (.ifCond .ne 4, 3) := by decide +kernel
theorem dX9_fill_7 : decode cX9_fill 7 = .ok (.return_, 1) := by decide +kernel
theorem dX9_fill_8 : decode cX9_fill 8 = .ok (.aload_n 0, 1) := by decide +kernel
theorem dX9_fill_9 : decode cX9_fill 9 = .ok (.iload_n 1, 1) := by decide +kernel
theorem dX9_fill_10 : decode cX9_fill 10 = .ok (.putfield 30, 3) := by decide +kernel
theorem dX9_fill_13 : decode cX9_fill 13 = .ok (.aload_n 0, 1) := by decide +kernel
theorem dX9_fill_14 : decode cX9_fill 14 = .ok (.getfield 9, 3) := by decide +kernel
theorem dX9_fill_17 : decode cX9_fill 17 = .ok (.iconst (-1), 1) := by decide +kernel
theorem dX9_fill_18 : decode cX9_fill 18 = .ok (.invokestatic 34, 3) := by decide +kernel
theorem dX9_fill_21 : decode cX9_fill 21 = .ok (.aload_n 0, 1) := by decide +kernel
theorem dX9_fill_22 : decode cX9_fill 22 = .ok (.getfield 15, 3) := by decide +kernel
theorem dX9_fill_25 : decode cX9_fill 25 = .ok (.iconst (-1), 1) := by decide +kernel
theorem dX9_fill_26 : decode cX9_fill 26 = .ok (.invokestatic 34, 3) := by decide +kernel
theorem dX9_fill_29 : decode cX9_fill 29 = .ok (.iconst 0, 1) := by decide +kernel
theorem dX9_fill_30 : decode cX9_fill 30 = .ok (.istore_n 2, 1) := by decide +kernel
theorem dX9_fill_31 : decode cX9_fill 31 = .ok (.iload_n 2, 1) := by decide +kernel
theorem dX9_fill_32 : decode cX9_fill 32 = .ok (.sipush 4096, 3) := by decide +kernel
theorem dX9_fill_35 : decode cX9_fill 35 = .ok (.if_icmp .ge 75, 3) := by decide +kernel
theorem dX9_fill_38 : decode cX9_fill 38 = .ok (.aload_n 0, 1) := by decide +kernel
theorem dX9_fill_39 : decode cX9_fill 39 = .ok (.getfield 30, 3) := by decide +kernel
theorem dX9_fill_42 : decode cX9_fill 42 = .ok (.ifCond .le 68, 3) := by decide +kernel
theorem dX9_fill_45 : decode cX9_fill 45 = .ok (.iload_n 2, 1) := by decide +kernel
theorem dX9_fill_46 : decode cX9_fill 46 = .ok (.sipush 256, 3) := by decide +kernel
theorem dX9_fill_49 : decode cX9_fill 49 = .ok (.idiv, 1) := by decide +kernel
theorem dX9_fill_50 : decode cX9_fill 50 = .ok (.istore_n 3, 1) := by decide +kernel
theorem dX9_fill_51 : decode cX9_fill 51 = .ok (.iload_n 2, 1) := by decide +kernel
theorem dX9_fill_52 : decode cX9_fill 52 = .ok (.sipush 256, 3) := by decide +kernel
theorem dX9_fill_55 : decode cX9_fill 55 = .ok (.irem, 1) := by decide +kernel
theorem dX9_fill_56 : decode cX9_fill 56 = .ok (.istore 4, 2) := by decide +kernel
theorem dX9_fill_58 : decode cX9_fill 58 = .ok (.aload_n 0, 1) := by decide +kernel
theorem dX9_fill_59 : decode cX9_fill 59 = .ok (.getfield 15, 3) := by decide +kernel
theorem dX9_fill_62 : decode cX9_fill 62 = .ok (.iload 4, 2) := by decide +kernel
theorem dX9_fill_64 : decode cX9_fill 64 = .ok (.invokestatic 40, 3) := by decide +kernel
theorem dX9_fill_67 : decode cX9_fill 67 = .ok (.iload_n 3, 1) := by decide +kernel
theorem dX9_fill_68 : decode cX9_fill 68 = .ok (.if_icmp .eq 36, 3) := by decide +kernel
theorem dX9_fill_71 : decode cX9_fill 71 = .ok (.aload_n 0, 1) := by decide +kernel
theorem dX9_fill_72 : decode cX9_fill 72 = .ok (.getfield 22, 3) := by decide +kernel
theorem dX9_fill_75 : decode cX9_fill 75 = .ok (.iload_n 3, 1) := by decide +kernel
theorem dX9_fill_76 : decode cX9_fill 76 = .ok (.invokevirtual 46, 3) := by decide +kernel
theorem dX9_fill_79 : decode cX9_fill 79 = .ok (.ifCond .eq 25, 3) := by decide +kernel
theorem dX9_fill_82 : decode cX9_fill 82 = .ok (.aload_n 0, 1) := by decide +kernel
theorem dX9_fill_83 : decode cX9_fill 83 = .ok (.iload_n 2, 1) := by decide +kernel
theorem dX9_fill_84 : decode cX9_fill 84 = .ok (.aload_n 0, 1) := by decide +kernel
theorem dX9_fill_85 : decode cX9_fill 85 = .ok (.getfield 26, 3) := by decide +kernel
theorem dX9_fill_88 : decode cX9_fill 88 = .ok (.iload_n 3, 1) := by decide +kernel
theorem dX9_fill_89 : decode cX9_fill 89 = .ok (.iload 4, 2) := by decide +kernel
theorem dX9_fill_91 : decode cX9_fill 91 = .ok (.invokevirtual 52, 3) := by decide +kernel
theorem dX9_fill_94 : decode cX9_fill 94 = .ok (.invokevirtual 58, 3) := by decide +kernel
theorem dX9_fill_97 : decode cX9_fill 97 = .ok (.aload_n 0, 1) := by decide +kernel
theorem dX9_fill_98 : decode cX9_fill 98 = .ok (.iload_n 3, 1) := by decide +kernel
theorem dX9_fill_99 : decode cX9_fill 99 = .ok (.iload 4, 2) := by decide +kernel
theorem dX9_fill_101 : decode cX9_fill 101 = .ok (.invokevirtual 62, 3) := by decide +kernel
theorem dX9_fill_104 : decode cX9_fill 104 = .ok (.iinc 2 1, 3) := by decide +kernel
theorem dX9_fill_107 : decode cX9_fill 107 = .ok (.goto (-76), 3) := by decide +kernel
theorem dX9_fill_110 : decode cX9_fill 110 = .ok (.aload_n 0, 1) := by decide +kernel
theorem dX9_fill_111 : decode cX9_fill 111 = .ok (.iconst 0, 1) := by decide +kernel
theorem dX9_fill_112 : decode cX9_fill 112 = .ok (.putfield 18, 3) := by decide +kernel
theorem dX9_fill_115 : decode cX9_fill 115 = .ok (.return_, 1) := by decide +kernel
set_option maxRecDepth 20000 in
theorem ggX9_noteFailure_X5_at : GoodIn wsX9_noteFailure wsX5_at := goodIn_r _ [8] (by decide +kernel) (by decide +kernel)
set_option maxRecDepth 20000 in
theorem gX9_noteFailure_X5_at : GoodIn wsX9_noteFailure (va_wsS RX9 40 yX5_at wsX5_at) := goodIn_app (goodIn_of _ (by decide +kernel)) ggX9_noteFailure_X5_at
set_option maxRecDepth 20000 in
theorem ggX9_noteFailure_X5_put : GoodIn wsX9_noteFailure wsX5_put := goodIn_r _ [11] (by decide +kernel) (by decide +kernel)
set_option maxRecDepth 20000 in
theorem gX9_noteFailure_X5_put : GoodIn wsX9_noteFailure (va_wsS RX9 68 yX5_put wsX5_put) := goodIn_app (goodIn_of _ (by decide +kernel)) ggX9_noteFailure_X5_put
theorem dX9_noteFailure_0 : decode cX9_noteFailure 0 = .ok (.aload_n 0, 1) := by decide +kernel
theorem dX9_noteFailure_1 : decode cX9_noteFailure 1 = .ok (.getfield 26, 3) := by decide +kernel
theorem dX9_noteFailure_4 : decode cX9_noteFailure 4 = .ok (.getfield 65, 3) := by decide +kernel
theorem dX9_noteFailure_7 : decode cX9_noteFailure 7 = .ok (.istore_n 3, 1) := by decide +kernel
theorem dX9_noteFailure_8 : decode cX9_noteFailure 8 = .ok (.iload_n 2, 1) := by decide +kernel
theorem dX9_noteFailure_9 : decode cX9_noteFailure 9 = .ok (.iconst 2, 1) := by decide +kernel
theorem dX9_noteFailure_10 : decode cX9_noteFailure 10 = .ok (.if_icmp .ne 34, 3) := by decide +kernel
theorem dX9_noteFailure_13 : decode cX9_noteFailure 13 = .ok (.aload_n 0, 1) := by decide +kernel
theorem dX9_noteFailure_14 : decode cX9_noteFailure 14 = .ok (.getfield 9, 3) := by decide +kernel
theorem dX9_noteFailure_17 : decode cX9_noteFailure 17 = .ok (.iload_n 3, 1) := by decide +kernel
theorem dX9_noteFailure_18 : decode cX9_noteFailure 18 = .ok (.invokestatic 40, 3) := by decide +kernel
theorem dX9_noteFailure_21 : decode cX9_noteFailure 21 = .ok (.iconst (-1), 1) := by decide +kernel
theorem dX9_noteFailure_22 : decode cX9_noteFailure 22 = .ok (.if_icmp .ne 22, 3) := by decide +kernel
theorem dX9_noteFailure_25 : decode cX9_noteFailure 25 = .ok (.aload_n 0, 1) := by decide +kernel
theorem dX9_noteFailure_26 : decode cX9_noteFailure 26 = .ok (.getfield 9, 3) := by decide +kernel
theorem dX9_noteFailure_29 : decode cX9_noteFailure 29 = .ok (.iload_n 3, 1) := by decide +kernel
theorem dX9_noteFailure_30 : decode cX9_noteFailure 30 = .ok (.iload_n 1, 1) := by decide +kernel
theorem dX9_noteFailure_31 : decode cX9_noteFailure 31 = .ok (.invokestatic 68, 3) := by decide +kernel
theorem dX9_noteFailure_34 : decode cX9_noteFailure 34 = .ok (.aload_n 0, 1) := by decide +kernel
theorem dX9_noteFailure_35 : decode cX9_noteFailure 35 = .ok (.dup, 1) := by decide +kernel
theorem dX9_noteFailure_36 : decode cX9_noteFailure 36 = .ok (.getfield 30, 3) := by decide +kernel
theorem dX9_noteFailure_39 : decode cX9_noteFailure 39 = .ok (.iconst 1, 1) := by decide +kernel
theorem dX9_noteFailure_40 : decode cX9_noteFailure 40 = .ok (.isub, 1) := by decide +kernel
theorem dX9_noteFailure_41 : decode cX9_noteFailure 41 = .ok (.putfield 30, 3) := by decide +kernel
theorem dX9_noteFailure_44 : decode cX9_noteFailure 44 = .ok (.return_, 1) := by decide +kernel
set_option maxRecDepth 20000 in
theorem ggX9_skipTheSame_X5_put : GoodIn wsX9_skipTheSame wsX5_put := goodIn_r _ [7] (by decide +kernel) (by decide +kernel)
set_option maxRecDepth 20000 in
theorem gX9_skipTheSame_X5_put : GoodIn wsX9_skipTheSame (va_wsS RX9 68 yX5_put wsX5_put) := goodIn_app (goodIn_of _ (by decide +kernel)) ggX9_skipTheSame_X5_put
theorem dX9_skipTheSame_0 : decode cX9_skipTheSame 0 = .ok (.aload_n 0, 1) := by decide +kernel
theorem dX9_skipTheSame_1 : decode cX9_skipTheSame 1 = .ok (.getfield 26, 3) := by decide +kernel
theorem dX9_skipTheSame_4 : decode cX9_skipTheSame 4 = .ok (.getfield 72, 3) := by decide +kernel
theorem dX9_skipTheSame_7 : decode cX9_skipTheSame 7 = .ok (.bipush 8, 2) := by decide +kernel
theorem dX9_skipTheSame_9 : decode cX9_skipTheSame 9 = .ok (.if_icmp .ge 36, 3) := by decide +kernel
theorem dX9_skipTheSame_12 : decode cX9_skipTheSame 12 = .ok (.iload_n 2, 1) := by decide +kernel
theorem dX9_skipTheSame_13 : decode cX9_skipTheSame 13 = .ok (.istore_n 3, 1) := by decide +kernel
theorem dX9_skipTheSame_14 : decode cX9_skipTheSame 14 = .ok (.iload_n 3, 1) := by decide +kernel
theorem dX9_skipTheSame_15 : decode cX9_skipTheSame 15 = .ok (.sipush 256, 3) := by decide +kernel
theorem dX9_skipTheSame_18 : decode cX9_skipTheSame 18 = .ok (.if_icmp .ge 27, 3) := by decide +kernel
theorem dX9_skipTheSame_21 : decode cX9_skipTheSame 21 = .ok (.aload_n 0, 1) := by decide +kernel
theorem dX9_skipTheSame_22 : decode cX9_skipTheSame 22 = .ok (.getfield 15, 3) := by decide +kernel
theorem dX9_skipTheSame_25 : decode cX9_skipTheSame 25 = .ok (.iload_n 3, 1) := by decide +kernel
theorem dX9_skipTheSame_26 : decode cX9_skipTheSame 26 = .ok (.iload_n 1, 1) := by decide +kernel
theorem dX9_skipTheSame_27 : decode cX9_skipTheSame 27 = .ok (.invokestatic 68, 3) := by decide +kernel
theorem dX9_skipTheSame_30 : decode cX9_skipTheSame 30 = .ok (.iload_n 3, 1) := by decide +kernel
theorem dX9_skipTheSame_31 : decode cX9_skipTheSame 31 = .ok (.iconst 1, 1) := by decide +kernel
theorem dX9_skipTheSame_32 : decode cX9_skipTheSame 32 = .ok (.aload_n 0, 1) := by decide +kernel
theorem dX9_skipTheSame_33 : decode cX9_skipTheSame 33 = .ok (.getfield 26, 3) := by decide +kernel
theorem dX9_skipTheSame_36 : decode cX9_skipTheSame 36 = .ok (.getfield 72, 3) := by decide +kernel
theorem dX9_skipTheSame_39 : decode cX9_skipTheSame 39 = .ok (.ishl, 1) := by decide +kernel
theorem dX9_skipTheSame_40 : decode cX9_skipTheSame 40 = .ok (.iadd, 1) := by decide +kernel
theorem dX9_skipTheSame_41 : decode cX9_skipTheSame 41 = .ok (.istore_n 3, 1) := by decide +kernel
theorem dX9_skipTheSame_42 : decode cX9_skipTheSame 42 = .ok (.goto (-28), 3) := by decide +kernel
theorem dX9_skipTheSame_45 : decode cX9_skipTheSame 45 = .ok (.return_, 1) := by decide +kernel
set_option maxRecDepth 20000 in
theorem ggX10_init_X8_init : GoodIn wsX10_init wsX8_init := goodIn_r _ [42, 43, 2, 3, 39, 44, 143, 144, 145] (by decide +kernel) (by decide +kernel)
set_option maxRecDepth 20000 in
theorem gX10_init_X8_init_n15 : GoodIn wsX10_init (wsX8_init) := ggX10_init_X8_init
set_option maxRecDepth 20000 in
theorem ggX10_init_X3_init : GoodIn wsX10_init wsX3_init := goodIn_r _ [46, 47, 2, 3, 48, 49, 50, 51, 39, 52, 53, 54, 55, 56, 57, 58, 59, 60, 61, 62, 63, 64, 219, 220, 146, 147, 148, 149, 150, 151, 152, 153, 154, 155, 156, 157, 158, 159] (by decide +kernel) (by decide +kernel)
set_option maxRecDepth 20000 in
theorem gX10_init_X3_init_n22 : GoodIn wsX10_init (wsX3_init) := ggX10_init_X3_init
set_option maxRecDepth 20000 in
theorem ggX10_init_X4_init : GoodIn wsX10_init wsX4_init := goodIn_r _ [67, 68, 2, 3, 39, 69, 70, 71, 72, 73, 74, 75, 160, 161, 162, 163, 164, 165, 166, 167, 168, 169, 146, 147, 148, 149, 150, 151, 152, 153, 154, 155, 156, 157, 158, 159] (by decide +kernel) (by decide +kernel)
set_option maxRecDepth 20000 in
theorem gX10_init_X4_init : GoodIn wsX10_init (wsX4_init) := ggX10_init_X4_init
set_option maxRecDepth 20000 in
theorem ggX10_init_X7_init : GoodIn wsX10_init wsX7_init := goodIn_r _ [78, 79, 2, 3, 80, 39, 81, 82, 170, 171, 172] (by decide +kernel) (by decide +kernel)
set_option maxRecDepth 20000 in
theorem gX10_init_X7_init : GoodIn wsX10_init (wsX7_init) := ggX10_init_X7_init
set_option maxRecDepth 20000 in
theorem ggX10_init_X1_init : GoodIn wsX10_init wsX1_init := goodIn_r _ [85, 86, 2, 3, 87, 88, 39, 89, 90, 91, 92, 93, 94, 95, 96, 97, 98, 173, 174, 175, 176, 177, 178, 179, 180, 181, 182, 183, 184, 185, 186, 170, 171, 172, 146, 147, 148, 149, 150, 151, 152, 153, 154, 155, 156, 157, 158, 159] (by decide +kernel) (by decide +kernel)
set_option maxRecDepth 20000 in
theorem gX10_init_X1_init : GoodIn wsX10_init (wsX1_init) := ggX10_init_X1_init
set_option maxRecDepth 20000 in
theorem ggX10_init_X6_init : GoodIn wsX10_init wsX6_init := goodIn_r _ [101, 102, 2, 3, 39, 103, 104, 105, 106, 107, 108, 109, 110, 187, 188, 189, 190, 191, 192, 193, 194, 195, 196, 197, 198, 199, 200, 201, 202, 170, 171, 172, 146, 147, 148, 149, 150, 151, 152, 153, 154, 155, 156, 157, 158, 159] (by decide +kernel) (by decide +kernel)
set_option maxRecDepth 20000 in
theorem gX10_init_X6_init : GoodIn wsX10_init (wsX6_init) := ggX10_init_X6_init
set_option maxRecDepth 20000 in
theorem ggX10_init_X9_init : GoodIn wsX10_init wsX9_init := goodIn_r _ [113, 114, 2, 3, 39, 115, 116, 117, 118, 119, 203, 204, 205, 206, 207, 208] (by decide +kernel) (by decide +kernel)
set_option maxRecDepth 20000 in
theorem gX10_init_X9_init : GoodIn wsX10_init (wsX9_init) := ggX10_init_X9_init
set_option maxRecDepth 20000 in
theorem ggX10_init_X2_init : GoodIn wsX10_init wsX2_init := goodIn_r _ [122, 123, 2, 3, 39, 124, 125, 126, 127, 128, 129, 209, 210, 211, 212, 213, 214, 215, 216, 217, 218] (by decide +kernel) (by decide +kernel)
set_option maxRecDepth 20000 in
theorem gX10_init_X2_init : GoodIn wsX10_init (wsX2_init) := ggX10_init_X2_init
theorem dX10_init_0 : decode cX10_init 0 = .ok (.aload_n 0, 1) := by decide +kernel
theorem dX10_init_1 : decode cX10_init 1 = .ok (.invokespecial 3, 3) := by decide +kernel
theorem dX10_init_4 : decode cX10_init 4 = .ok (.aload_n 0, 1) := by decide +kernel
theorem dX10_init_5 : decode cX10_init 5 = .ok (.sipush 1200, 3) := by decide +kernel
theorem dX10_init_8 : decode cX10_init 8 = .ok (.newarray .byte, 2) := by decide +kernel
theorem dX10_init_10 : decode cX10_init 10 = .ok (.putfield 9, 3) := by decide +kernel
theorem dX10_init_13 : decode cX10_init 13 = .ok (.aload_n 0, 1) := by decide +kernel
theorem dX10_init_14 : decode cX10_init 14 = .ok (.new 13, 3) := by decide +kernel
theorem dX10_init_17 : decode cX10_init 17 = .ok (.dup, 1) := by decide +kernel
theorem dX10_init_18 : decode cX10_init 18 = .ok (.invokespecial 15, 3) := by decide +kernel
theorem dX10_init_21 : decode cX10_init 21 = .ok (.putfield 16, 3) := by decide +kernel
theorem dX10_init_24 : decode cX10_init 24 = .ok (.aload_n 0, 1) := by decide +kernel
theorem dX10_init_25 : decode cX10_init 25 = .ok (.new 20, 3) := by decide +kernel
theorem dX10_init_28 : decode cX10_init 28 = .ok (.dup, 1) := by decide +kernel
theorem dX10_init_29 : decode cX10_init 29 = .ok (.invokespecial 22, 3) := by decide +kernel
theorem dX10_init_32 : decode cX10_init 32 = .ok (.putfield 23, 3) := by decide +kernel
theorem dX10_init_35 : decode cX10_init 35 = .ok (.aload_n 0, 1) := by decide +kernel
theorem dX10_init_36 : decode cX10_init 36 = .ok (.new 27, 3) := by decide +kernel
theorem dX10_init_39 : decode cX10_init 39 = .ok (.dup, 1) := by decide +kernel
theorem dX10_init_40 : decode cX10_init 40 = .ok (.aload_n 0, 1) := by decide +kernel
theorem dX10_init_41 : decode cX10_init 41 = .ok (.getfield 16, 3) := by decide +kernel
theorem dX10_init_44 : decode cX10_init 44 = .ok (.aload_n 0, 1) := by decide +kernel
theorem dX10_init_45 : decode cX10_init 45 = .ok (.getfield 23, 3) := by decide +kernel
theorem dX10_init_48 : decode cX10_init 48 = .ok (.invokespecial 29, 3) := by decide +kernel
theorem dX10_init_51 : decode cX10_init 51 = .ok (.putfield 32, 3) := by decide +kernel
theorem dX10_init_54 : decode cX10_init 54 = .ok (.aload_n 0, 1) := by decide +kernel
theorem dX10_init_55 : decode cX10_init 55 = .ok (.iconst (-1), 1) := by decide +kernel
theorem dX10_init_56 : decode cX10_init 56 = .ok (.putfield 36, 3) := by decide +kernel
theorem dX10_init_59 : decode cX10_init 59 = .ok (.aload_n 0, 1) := by decide +kernel
theorem dX10_init_60 : decode cX10_init 60 = .ok (.new 40, 3) := by decide +kernel
theorem dX10_init_63 : decode cX10_init 63 = .ok (.dup, 1) := by decide +kernel
theorem dX10_init_64 : decode cX10_init 64 = .ok (.new 20, 3) := by decide +kernel
theorem dX10_init_67 : decode cX10_init 67 = .ok (.dup, 1) := by decide +kernel
theorem dX10_init_68 : decode cX10_init 68 = .ok (.invokespecial 22, 3) := by decide +kernel
theorem dX10_init_71 : decode cX10_init 71 = .ok (.invokespecial 42, 3) := by decide +kernel
theorem dX10_init_74 : decode cX10_init 74 = .ok (.putfield 45, 3) := by decide +kernel
theorem dX10_init_77 : decode cX10_init 77 = .ok (.aload_n 0, 1) := by decide +kernel
theorem dX10_init_78 : decode cX10_init 78 = .ok (.new 49, 3) := by decide +kernel
theorem dX10_init_81 : decode cX10_init 81 = .ok (.dup, 1) := by decide +kernel
theorem dX10_init_82 : decode cX10_init 82 = .ok (.aload_n 0, 1) := by decide +kernel
theorem dX10_init_83 : decode cX10_init 83 = .ok (.getfield 45, 3) := by decide +kernel
theorem dX10_init_86 : decode cX10_init 86 = .ok (.invokespecial 51, 3) := by decide +kernel
theorem dX10_init_89 : decode cX10_init 89 = .ok (.putfield 54, 3) := by decide +kernel
theorem dX10_init_92 : decode cX10_init 92 = .ok (.aload_n 0, 1) := by decide +kernel
theorem dX10_init_93 : decode cX10_init 93 = .ok (.new 58, 3) := by decide +kernel
theorem dX10_init_96 : decode cX10_init 96 = .ok (.dup, 1) := by decide +kernel
theorem dX10_init_97 : decode cX10_init 97 = .ok (.aload_n 0, 1) := by decide +kernel
theorem dX10_init_98 : decode cX10_init 98 = .ok (.getfield 45, 3) := by decide +kernel
theorem dX10_init_101 : decode cX10_init 101 = .ok (.invokespecial 60, 3) := by decide +kernel
theorem dX10_init_104 : decode cX10_init 104 = .ok (.putfield 61, 3) := by decide +kernel
theorem dX10_init_107 : decode cX10_init 107 = .ok (.aload_n 0, 1) := by decide +kernel
theorem dX10_init_108 : decode cX10_init 108 = .ok (.new 65, 3) := by decide +kernel
theorem dX10_init_111 : decode cX10_init 111 = .ok (.dup, 1) := by decide +kernel
theorem dX10_init_112 : decode cX10_init 112 = .ok (.aload_n 0, 1) := by decide +kernel
theorem dX10_init_113 : decode cX10_init 113 = .ok (.getfield 45, 3) := by decide +kernel
theorem dX10_init_116 : decode cX10_init 116 = .ok (.aload_n 0, 1) := by decide +kernel
theorem dX10_init_117 : decode cX10_init 117 = .ok (.getfield 61, 3) := by decide +kernel
theorem dX10_init_120 : decode cX10_init 120 = .ok (.invokespecial 67, 3) := by decide +kernel
theorem dX10_init_123 : decode cX10_init 123 = .ok (.putfield 70, 3) := by decide +kernel
theorem dX10_init_126 : decode cX10_init 126 = .ok (.aload_n 0, 1) := by decide +kernel
theorem dX10_init_127 : decode cX10_init 127 = .ok (.new 74, 3) := by decide +kernel
theorem dX10_init_130 : decode cX10_init 130 = .ok (.dup, 1) := by decide +kernel
theorem dX10_init_131 : decode cX10_init 131 = .ok (.aload_n 0, 1) := by decide +kernel
theorem dX10_init_132 : decode cX10_init 132 = .ok (.getfield 54, 3) := by decide +kernel
theorem dX10_init_135 : decode cX10_init 135 = .ok (.invokespecial 76, 3) := by decide +kernel
theorem dX10_init_138 : decode cX10_init 138 = .ok (.putfield 79, 3) := by decide +kernel
theorem dX10_init_141 : decode cX10_init 141 = .ok (.aload_n 0, 1) := by decide +kernel
theorem dX10_init_142 : decode cX10_init 142 = .ok (.iconst 4, 1) := by decide +kernel
theorem dX10_init_143 : decode cX10_init 143 = .ok (.newarray .int, 2) := by decide +kernel
theorem dX10_init_145 : decode cX10_init 145 = .ok (.dup, 1) := by decide +kernel
theorem dX10_init_146 : decode cX10_init 146 = .ok (.iconst 0, 1) := by decide +kernel
theorem dX10_init_147 : decode cX10_init 147 = .ok (.iconst (-1), 1) := by decide +kernel
theorem dX10_init_148 : decode cX10_init 148 = .ok (.iastore, 1) := by decide +kernel
theorem dX10_init_149 : decode cX10_init 149 = .ok (.dup, 1) := by decide +kernel
theorem dX10_init_150 : decode cX10_init 150 = .ok (.iconst 1, 1) := by decide +kernel
theorem dX10_init_151 : decode cX10_init 151 = .ok (.iconst (-1), 1) := by decide +kernel
theorem dX10_init_152 : decode cX10_init 152 = .ok (.iastore, 1) := by decide +kernel
theorem dX10_init_153 : decode cX10_init 153 = .ok (.dup, 1) := by decide +kernel
theorem dX10_init_154 : decode cX10_init 154 = .ok (.iconst 2, 1) := by decide +kernel
theorem dX10_init_155 : decode cX10_init 155 = .ok (.iconst (-1), 1) := by decide +kernel
theorem dX10_init_156 : decode cX10_init 156 = .ok (.iastore, 1) := by decide +kernel
theorem dX10_init_157 : decode cX10_init 157 = .ok (.dup, 1) := by decide +kernel
theorem dX10_init_158 : decode cX10_init 158 = .ok (.iconst 3, 1) := by decide +kernel
theorem dX10_init_159 : decode cX10_init 159 = .ok (.iconst (-1), 1) := by decide +kernel
theorem dX10_init_160 : decode cX10_init 160 = .ok (.iastore, 1) := by decide +kernel
theorem dX10_init_161 : decode cX10_init 161 = .ok (.putfield 83, 3) := by decide +kernel
theorem dX10_init_164 : decode cX10_init 164 = .ok (.return_, 1) := by decide +kernel
set_option maxRecDepth 20000 in
theorem ggX10_feed_X10_putNumber : GoodIn wsX10_feed wsX10_putNumber := goodIn_r _ [6, 1, 7, 8, 9, 10, 11, 12, 13, 14, 15, 16, 17, 18, 19, 20] (by decide +kernel) (by decide +kernel)
set_option maxRecDepth 20000 in
theorem gX10_feed_X10_putNumber : GoodIn wsX10_feed (wsV RX10 90 RX10 yX10_putNumber wsX10_putNumber) := goodIn_app (goodIn_of _ (by decide +kernel)) ggX10_feed_X10_putNumber
theorem dX10_feed_0 : decode cX10_feed 0 = .ok (.aload_n 0, 1) := by decide +kernel
theorem dX10_feed_1 : decode cX10_feed 1 = .ok (.getfield 87, 3) := by decide +kernel
theorem dX10_feed_4 : decode cX10_feed 4 = .ok (.bipush 20, 2) := by decide +kernel
theorem dX10_feed_6 : decode cX10_feed 6 = .ok (.iadd, 1) := by decide +kernel
theorem dX10_feed_7 : decode cX10_feed 7 = .ok (.sipush 1200, 3) := by decide +kernel
theorem dX10_feed_10 : decode cX10_feed 10 = .ok (.if_icmp .le 5, 3) := by decide +kernel
theorem dX10_feed_13 : decode cX10_feed 13 = .ok (.iconst (-1), 1) := by decide +kernel
theorem dX10_feed_14 : decode cX10_feed 14 = .ok (.ireturn, 1) := by decide +kernel
theorem dX10_feed_15 : decode cX10_feed 15 = .ok (.aload_n 0, 1) := by decide +kernel
theorem dX10_feed_16 : decode cX10_feed 16 = .ok (.iload_n 1, 1) := by decide +kernel
theorem dX10_feed_17 : decode cX10_feed 17 = .ok (.invokevirtual 90, 3) := by decide +kernel
theorem dX10_feed_20 : decode cX10_feed 20 = .ok (.aload_n 0, 1) := by decide +kernel
theorem dX10_feed_21 : decode cX10_feed 21 = .ok (.iload_n 2, 1) := by decide +kernel
theorem dX10_feed_22 : decode cX10_feed 22 = .ok (.invokevirtual 90, 3) := by decide +kernel
theorem dX10_feed_25 : decode cX10_feed 25 = .ok (.aload_n 0, 1) := by decide +kernel
theorem dX10_feed_26 : decode cX10_feed 26 = .ok (.iload_n 3, 1) := by decide +kernel
theorem dX10_feed_27 : decode cX10_feed 27 = .ok (.invokevirtual 90, 3) := by decide +kernel
theorem dX10_feed_30 : decode cX10_feed 30 = .ok (.aload_n 0, 1) := by decide +kernel
theorem dX10_feed_31 : decode cX10_feed 31 = .ok (.iload 4, 2) := by decide +kernel
theorem dX10_feed_33 : decode cX10_feed 33 = .ok (.invokevirtual 90, 3) := by decide +kernel
theorem dX10_feed_36 : decode cX10_feed 36 = .ok (.aload_n 0, 1) := by decide +kernel
theorem dX10_feed_37 : decode cX10_feed 37 = .ok (.iload 5, 2) := by decide +kernel
theorem dX10_feed_39 : decode cX10_feed 39 = .ok (.invokevirtual 90, 3) := by decide +kernel
theorem dX10_feed_42 : decode cX10_feed 42 = .ok (.aload_n 0, 1) := by decide +kernel
theorem dX10_feed_43 : decode cX10_feed 43 = .ok (.getfield 87, 3) := by decide +kernel
theorem dX10_feed_46 : decode cX10_feed 46 = .ok (.ireturn, 1) := by decide +kernel
set_option maxRecDepth 20000 in
theorem ggX10_text_X8_scan : GoodIn wsX10_text wsX8_scan := goodIn_r _ [18, 19, 20, 21, 22, 23, 24, 25, 26, 27, 28, 29, 17, 30, 31, 32, 33, 34, 35, 36, 37, 38, 39, 40, 41, 42, 43, 44, 45, 46, 47, 48, 49, 50, 51, 52, 53, 54, 55, 56, 57, 58, 59, 60, 61, 62, 63, 64, 65, 66, 67, 68, 69, 70, 71, 72, 73, 74, 75, 76, 77, 78, 79, 80, 81, 82, 83, 84, 85, 86, 87, 88, 89, 90, 91, 92, 93, 94, 95, 96, 97, 98, 99, 100, 101, 356, 357, 358] (by decide +kernel) (by decide +kernel)
set_option maxRecDepth 20000 in
theorem gX10_text_X8_scan : GoodIn wsX10_text (wsV RX10 94 RX8 yX8_scan wsX8_scan) := goodIn_app (goodIn_of _ (by decide +kernel)) ggX10_text_X8_scan
set_option maxRecDepth 20000 in
theorem ggX10_text_X4_readInto : GoodIn wsX10_text wsX4_readInto := goodIn_r _ [106, 107, 108, 109, 110, 111, 112, 113, 114, 115, 116, 117, 118, 119, 120, 121, 122, 123, 124, 125, 126, 127, 128, 105, 129, 130, 131, 132, 133, 17, 134, 19, 94, 135, 136, 137, 138, 139, 140, 141, 142, 143, 144, 145, 146, 147, 24, 148, 149, 150, 151, 152, 153, 154, 155, 156, 157, 158, 159, 160, 161, 162, 163, 164, 165, 166, 96, 97, 98, 167, 168, 169, 170, 171, 172, 173, 174, 175, 176, 177, 178, 179, 180, 181, 182, 183, 184, 185, 186, 187, 188, 189, 190, 191, 192, 193, 194, 195, 196, 197, 198, 199, 200, 201, 202, 203, 204, 205, 206, 207, 208, 209, 210, 211, 212, 213, 214, 215, 216, 217, 218, 219, 220, 221, 222, 223, 224, 225, 226, 227, 228, 229, 230, 231, 232, 233, 234, 235, 236, 237, 238, 239, 240, 241, 242, 243, 244, 245, 246, 247, 248, 249, 250, 251, 252, 253, 254, 255, 256, 257, 258, 259, 260, 261, 262, 263, 264, 265, 266, 267, 268, 269, 270, 271, 272, 273, 274, 275, 276, 277, 278, 279, 280, 281, 282, 283, 284, 285, 286, 287, 288, 289, 290, 291, 292, 293, 329, 330, 331, 332, 333, 334, 335, 336, 337, 338, 342, 343, 344, 345, 346, 347, 348, 349, 350, 351, 352, 353, 354, 355, 359, 360, 356, 357, 358] (by decide +kernel) (by decide +kernel)
set_option maxRecDepth 20000 in
theorem gX10_text_X4_readInto : GoodIn wsX10_text (wsV RX10 98 RX4 yX4_readInto wsX4_readInto) := goodIn_app (goodIn_of _ (by decide +kernel)) ggX10_text_X4_readInto
set_option maxRecDepth 20000 in
theorem ggX10_text_X7_startAt : GoodIn wsX10_text wsX7_startAt := goodIn_r _ [298, 299, 300, 301, 302, 303, 304, 339, 340, 341] (by decide +kernel) (by decide +kernel)
set_option maxRecDepth 20000 in
theorem gX10_text_X7_startAt : GoodIn wsX10_text (wsV RX10 116 RX7 yX7_startAt wsX7_startAt) := goodIn_app (goodIn_of _ (by decide +kernel)) ggX10_text_X7_startAt
set_option maxRecDepth 20000 in
theorem ggX10_text_X10_forget : GoodIn wsX10_text wsX10_forget := goodIn_r _ [309, 310, 311, 312, 313, 314, 315, 316, 317, 318, 319, 320, 321, 322, 323, 324, 325, 326, 327, 328, 361, 362, 363, 364, 365, 366, 367, 368, 369, 370, 371, 372, 373, 374, 375, 376, 377, 378, 379, 380, 381, 382, 383, 384, 385, 386, 387, 388, 389, 390] (by decide +kernel) (by decide +kernel)
set_option maxRecDepth 20000 in
theorem gX10_text_X10_forget : GoodIn wsX10_text (wsV RX10 119 RX10 yX10_forget wsX10_forget) := goodIn_app (goodIn_of _ (by decide +kernel)) ggX10_text_X10_forget
theorem dX10_text_0 : decode cX10_text 0 = .ok (.iload_n 1, 1) := by decide +kernel
theorem dX10_text_1 : decode cX10_text 1 = .ok (.ifCond .lt 11, 3) := by decide +kernel
theorem dX10_text_4 : decode cX10_text 4 = .ok (.iload_n 1, 1) := by decide +kernel
theorem dX10_text_5 : decode cX10_text 5 = .ok (.aload_n 0, 1) := by decide +kernel
theorem dX10_text_6 : decode cX10_text 6 = .ok (.getfield 87, 3) := by decide +kernel
theorem dX10_text_9 : decode cX10_text 9 = .ok (.if_icmp .le 6, 3) := by decide +kernel
theorem dX10_text_12 : decode cX10_text 12 = .ok (.bipush (-2), 2) := by decide +kernel
theorem dX10_text_14 : decode cX10_text 14 = .ok (.ireturn, 1) := by decide +kernel
theorem dX10_text_15 : decode cX10_text 15 = .ok (.aload_n 0, 1) := by decide +kernel
theorem dX10_text_16 : decode cX10_text 16 = .ok (.iconst 0, 1) := by decide +kernel
theorem dX10_text_17 : decode cX10_text 17 = .ok (.putfield 87, 3) := by decide +kernel
theorem dX10_text_20 : decode cX10_text 20 = .ok (.aload_n 0, 1) := by decide +kernel
theorem dX10_text_21 : decode cX10_text 21 = .ok (.getfield 16, 3) := by decide +kernel
theorem dX10_text_24 : decode cX10_text 24 = .ok (.aload_n 0, 1) := by decide +kernel
theorem dX10_text_25 : decode cX10_text 25 = .ok (.getfield 9, 3) := by decide +kernel
theorem dX10_text_28 : decode cX10_text 28 = .ok (.iload_n 1, 1) := by decide +kernel
theorem dX10_text_29 : decode cX10_text 29 = .ok (.invokevirtual 94, 3) := by decide +kernel
theorem dX10_text_32 : decode cX10_text 32 = .ok (.aload_n 0, 1) := by decide +kernel
theorem dX10_text_33 : decode cX10_text 33 = .ok (.getfield 32, 3) := by decide +kernel
theorem dX10_text_36 : decode cX10_text 36 = .ok (.aload_n 0, 1) := by decide +kernel
theorem dX10_text_37 : decode cX10_text 37 = .ok (.getfield 23, 3) := by decide +kernel
theorem dX10_text_40 : decode cX10_text 40 = .ok (.invokevirtual 98, 3) := by decide +kernel
theorem dX10_text_43 : decode cX10_text 43 = .ok (.aload_n 0, 1) := by decide +kernel
theorem dX10_text_44 : decode cX10_text 44 = .ok (.aload_n 0, 1) := by decide +kernel
theorem dX10_text_45 : decode cX10_text 45 = .ok (.getfield 32, 3) := by decide +kernel
theorem dX10_text_48 : decode cX10_text 48 = .ok (.getfield 101, 3) := by decide +kernel
theorem dX10_text_51 : decode cX10_text 51 = .ok (.putfield 104, 3) := by decide +kernel
theorem dX10_text_54 : decode cX10_text 54 = .ok (.aload_n 0, 1) := by decide +kernel
theorem dX10_text_55 : decode cX10_text 55 = .ok (.aload_n 0, 1) := by decide +kernel
theorem dX10_text_56 : decode cX10_text 56 = .ok (.getfield 32, 3) := by decide +kernel
theorem dX10_text_59 : decode cX10_text 59 = .ok (.getfield 107, 3) := by decide +kernel
theorem dX10_text_62 : decode cX10_text 62 = .ok (.putfield 36, 3) := by decide +kernel
theorem dX10_text_65 : decode cX10_text 65 = .ok (.aload_n 0, 1) := by decide +kernel
theorem dX10_text_66 : decode cX10_text 66 = .ok (.getfield 104, 3) := by decide +kernel
theorem dX10_text_69 : decode cX10_text 69 = .ok (.ifCond .eq 5, 3) := by decide +kernel
theorem dX10_text_72 : decode cX10_text 72 = .ok (.iconst (-1), 1) := by decide +kernel
theorem dX10_text_73 : decode cX10_text 73 = .ok (.ireturn, 1) := by decide +kernel
theorem dX10_text_74 : decode cX10_text 74 = .ok (.aload_n 0, 1) := by decide +kernel
theorem dX10_text_75 : decode cX10_text 75 = .ok (.getfield 45, 3) := by decide +kernel
theorem dX10_text_78 : decode cX10_text 78 = .ok (.getfield 110, 3) := by decide +kernel
theorem dX10_text_81 : decode cX10_text 81 = .ok (.astore_n 2, 1) := by decide +kernel
theorem dX10_text_82 : decode cX10_text 82 = .ok (.aload_n 0, 1) := by decide +kernel
theorem dX10_text_83 : decode cX10_text 83 = .ok (.getfield 45, 3) := by decide +kernel
theorem dX10_text_86 : decode cX10_text 86 = .ok (.aload_n 0, 1) := by decide +kernel
theorem dX10_text_87 : decode cX10_text 87 = .ok (.getfield 23, 3) := by decide +kernel
theorem dX10_text_90 : decode cX10_text 90 = .ok (.putfield 110, 3) := by decide +kernel
theorem dX10_text_93 : decode cX10_text 93 = .ok (.aload_n 0, 1) := by decide +kernel
theorem dX10_text_94 : decode cX10_text 94 = .ok (.aload_n 2, 1) := by decide +kernel
theorem dX10_text_95 : decode cX10_text 95 = .ok (.putfield 23, 3) := by decide +kernel
theorem dX10_text_98 : decode cX10_text 98 = .ok (.aload_n 0, 1) := by decide +kernel
theorem dX10_text_99 : decode cX10_text 99 = .ok (.getfield 45, 3) := by decide +kernel
theorem dX10_text_102 : decode cX10_text 102 = .ok (.aload_n 0, 1) := by decide +kernel
theorem dX10_text_103 : decode cX10_text 103 = .ok (.getfield 45, 3) := by decide +kernel
theorem dX10_text_106 : decode cX10_text 106 = .ok (.getfield 110, 3) := by decide +kernel
theorem dX10_text_109 : decode cX10_text 109 = .ok (.getfield 113, 3) := by decide +kernel
theorem dX10_text_112 : decode cX10_text 112 = .ok (.invokevirtual 116, 3) := by decide +kernel
theorem dX10_text_115 : decode cX10_text 115 = .ok (.aload_n 0, 1) := by decide +kernel
theorem dX10_text_116 : decode cX10_text 116 = .ok (.invokevirtual 119, 3) := by decide +kernel
theorem dX10_text_119 : decode cX10_text 119 = .ok (.aload_n 0, 1) := by decide +kernel
theorem dX10_text_120 : decode cX10_text 120 = .ok (.getfield 45, 3) := by decide +kernel
theorem dX10_text_123 : decode cX10_text 123 = .ok (.getfield 110, 3) := by decide +kernel
theorem dX10_text_126 : decode cX10_text 126 = .ok (.getfield 122, 3) := by decide +kernel
theorem dX10_text_129 : decode cX10_text 129 = .ok (.ireturn, 1) := by decide +kernel
theorem dX10_fault_0 : decode cX10_fault 0 = .ok (.iload_n 1, 1) := by decide +kernel
theorem dX10_fault_1 : decode cX10_fault 1 = .ok (.ifCond .ne 8, 3) := by decide +kernel
theorem dX10_fault_4 : decode cX10_fault 4 = .ok (.aload_n 0, 1) := by decide +kernel
theorem dX10_fault_5 : decode cX10_fault 5 = .ok (.getfield 104, 3) := by decide +kernel
theorem dX10_fault_8 : decode cX10_fault 8 = .ok (.ireturn, 1) := by decide +kernel
theorem dX10_fault_9 : decode cX10_fault 9 = .ok (.iload_n 1, 1) := by decide +kernel
theorem dX10_fault_10 : decode cX10_fault 10 = .ok (.iconst 1, 1) := by decide +kernel
theorem dX10_fault_11 : decode cX10_fault 11 = .ok (.if_icmp .ne 10, 3) := by decide +kernel
theorem dX10_fault_14 : decode cX10_fault 14 = .ok (.aload_n 0, 1) := by decide +kernel
theorem dX10_fault_15 : decode cX10_fault 15 = .ok (.getfield 36, 3) := by decide +kernel
theorem dX10_fault_18 : decode cX10_fault 18 = .ok (.goto 4, 3) := by decide +kernel
theorem dX10_fault_21 : decode cX10_fault 21 = .ok (.iconst (-1), 1) := by decide +kernel
theorem dX10_fault_22 : decode cX10_fault 22 = .ok (.ireturn, 1) := by decide +kernel
set_option maxRecDepth 20000 in
theorem ggX10_entry_X3_has : GoodIn wsX10_entry wsX3_has := goodIn_r _ [7, 8, 47, 48, 49, 50, 51, 52, 53, 54, 55, 56, 57, 58, 59, 60] (by decide +kernel) (by decide +kernel)
set_option maxRecDepth 20000 in
theorem gX10_entry_X3_has : GoodIn wsX10_entry (wsV RX10 125 RX3 yX3_has wsX3_has) := goodIn_app (goodIn_of _ (by decide +kernel)) ggX10_entry_X3_has
set_option maxRecDepth 20000 in
theorem ggX10_entry_X7_startAt : GoodIn wsX10_entry wsX7_startAt := goodIn_r _ [13, 14, 15, 16, 17, 18, 19, 44, 45, 46] (by decide +kernel) (by decide +kernel)
set_option maxRecDepth 20000 in
theorem gX10_entry_X7_startAt : GoodIn wsX10_entry (wsV RX10 116 RX7 yX7_startAt wsX7_startAt) := goodIn_app (goodIn_of _ (by decide +kernel)) ggX10_entry_X7_startAt
set_option maxRecDepth 20000 in
theorem ggX10_entry_X10_forget : GoodIn wsX10_entry wsX10_forget := goodIn_r _ [24, 25, 26, 27, 28, 29, 30, 31, 32, 33, 34, 35, 36, 37, 38, 39, 40, 41, 42, 43, 61, 62, 63, 64, 65, 66, 67, 68, 69, 70, 71, 72, 73, 74, 75, 76, 77, 78, 79, 80, 81, 82, 83, 84, 85, 86, 87, 88, 89, 90] (by decide +kernel) (by decide +kernel)
set_option maxRecDepth 20000 in
theorem gX10_entry_X10_forget : GoodIn wsX10_entry (wsV RX10 119 RX10 yX10_forget wsX10_forget) := goodIn_app (goodIn_of _ (by decide +kernel)) ggX10_entry_X10_forget
theorem dX10_entry_0 : decode cX10_entry 0 = .ok (.aload_n 0, 1) := by decide +kernel
theorem dX10_entry_1 : decode cX10_entry 1 = .ok (.getfield 45, 3) := by decide +kernel
theorem dX10_entry_4 : decode cX10_entry 4 = .ok (.getfield 110, 3) := by decide +kernel
theorem dX10_entry_7 : decode cX10_entry 7 = .ok (.iload_n 1, 1) := by decide +kernel
theorem dX10_entry_8 : decode cX10_entry 8 = .ok (.invokevirtual 125, 3) := by decide +kernel
theorem dX10_entry_11 : decode cX10_entry 11 = .ok (.ifCond .ne 5, 3) := by decide +kernel
theorem dX10_entry_14 : decode cX10_entry 14 = .ok (.iconst 0, 1) := by decide +kernel
theorem dX10_entry_15 : decode cX10_entry 15 = .ok (.ireturn, 1) := by decide +kernel
theorem dX10_entry_16 : decode cX10_entry 16 = .ok (.aload_n 0, 1) := by decide +kernel
theorem dX10_entry_17 : decode cX10_entry 17 = .ok (.getfield 45, 3) := by decide +kernel
theorem dX10_entry_20 : decode cX10_entry 20 = .ok (.iload_n 1, 1) := by decide +kernel
theorem dX10_entry_21 : decode cX10_entry 21 = .ok (.invokevirtual 116, 3) := by decide +kernel
theorem dX10_entry_24 : decode cX10_entry 24 = .ok (.aload_n 0, 1) := by decide +kernel
theorem dX10_entry_25 : decode cX10_entry 25 = .ok (.invokevirtual 119, 3) := by decide +kernel
theorem dX10_entry_28 : decode cX10_entry 28 = .ok (.iconst 1, 1) := by decide +kernel
theorem dX10_entry_29 : decode cX10_entry 29 = .ok (.ireturn, 1) := by decide +kernel
set_option maxRecDepth 20000 in
theorem ggX10_outer_X7_outers : GoodIn wsX10_outer wsX7_outers := goodIn_r _ [7, 8, 9, 10, 11, 12, 13, 14, 15, 16, 17, 18, 19, 20, 21, 22, 23, 24, 52, 53, 54, 55, 56, 57, 58, 59, 60, 61, 62, 63, 64, 65, 66, 67, 68] (by decide +kernel) (by decide +kernel)
set_option maxRecDepth 20000 in
theorem gX10_outer_X7_outers : GoodIn wsX10_outer (wsV RX10 129 RX7 yX7_outers wsX7_outers) := goodIn_app (goodIn_of _ (by decide +kernel)) ggX10_outer_X7_outers
set_option maxRecDepth 20000 in
theorem ggX10_outer_X5_put : GoodIn wsX10_outer wsX5_put := goodIn_r _ [27] (by decide +kernel) (by decide +kernel)
set_option maxRecDepth 20000 in
theorem gX10_outer_X5_put : GoodIn wsX10_outer (va_wsS RX10 136 yX5_put wsX5_put) := goodIn_app (goodIn_of _ (by decide +kernel)) ggX10_outer_X5_put
set_option maxRecDepth 20000 in
theorem ggX10_outer_X10_forget : GoodIn wsX10_outer wsX10_forget := goodIn_r _ [32, 33, 34, 35, 36, 37, 38, 39, 40, 41, 42, 43, 44, 45, 46, 47, 48, 49, 50, 51, 69, 70, 71, 72, 73, 74, 75, 76, 77, 78, 79, 80, 81, 82, 83, 84, 85, 86, 87, 88, 89, 90, 91, 92, 93, 94, 95, 96, 97, 98] (by decide +kernel) (by decide +kernel)
set_option maxRecDepth 20000 in
theorem gX10_outer_X10_forget : GoodIn wsX10_outer (wsV RX10 119 RX10 yX10_forget wsX10_forget) := goodIn_app (goodIn_of _ (by decide +kernel)) ggX10_outer_X10_forget
theorem dX10_outer_0 : decode cX10_outer 0 = .ok (.iload_n 1, 1) := by decide +kernel
theorem dX10_outer_1 : decode cX10_outer 1 = .ok (.ifCond .lt 24, 3) := by decide +kernel
theorem dX10_outer_4 : decode cX10_outer 4 = .ok (.iload_n 1, 1) := by decide +kernel
theorem dX10_outer_5 : decode cX10_outer 5 = .ok (.aload_n 0, 1) := by decide +kernel
theorem dX10_outer_6 : decode cX10_outer 6 = .ok (.getfield 45, 3) := by decide +kernel
theorem dX10_outer_9 : decode cX10_outer 9 = .ok (.invokevirtual 129, 3) := by decide +kernel
theorem dX10_outer_12 : decode cX10_outer 12 = .ok (.if_icmp .ge 13, 3) := by decide +kernel
theorem dX10_outer_15 : decode cX10_outer 15 = .ok (.iload_n 2, 1) := by decide +kernel
theorem dX10_outer_16 : decode cX10_outer 16 = .ok (.iconst 1, 1) := by decide +kernel
theorem dX10_outer_17 : decode cX10_outer 17 = .ok (.if_icmp .lt 8, 3) := by decide +kernel
theorem dX10_outer_20 : decode cX10_outer 20 = .ok (.iload_n 2, 1) := by decide +kernel
theorem dX10_outer_21 : decode cX10_outer 21 = .ok (.iconst 3, 1) := by decide +kernel
theorem dX10_outer_22 : decode cX10_outer 22 = .ok (.if_icmp .le 5, 3) := by decide +kernel
theorem dX10_outer_25 : decode cX10_outer 25 = .ok (.iconst 0, 1) := by decide +kernel
theorem dX10_outer_26 : decode cX10_outer 26 = .ok (.ireturn, 1) := by decide +kernel
theorem dX10_outer_27 : decode cX10_outer 27 = .ok (.aload_n 0, 1) := by decide +kernel
theorem dX10_outer_28 : decode cX10_outer 28 = .ok (.getfield 45, 3) := by decide +kernel
theorem dX10_outer_31 : decode cX10_outer 31 = .ok (.getfield 133, 3) := by decide +kernel
theorem dX10_outer_34 : decode cX10_outer 34 = .ok (.iload_n 1, 1) := by decide +kernel
theorem dX10_outer_35 : decode cX10_outer 35 = .ok (.iload_n 2, 1) := by decide +kernel
theorem dX10_outer_36 : decode cX10_outer 36 = .ok (.invokestatic 136, 3) := by decide +kernel
theorem dX10_outer_39 : decode cX10_outer 39 = .ok (.aload_n 0, 1) := by decide +kernel
theorem dX10_outer_40 : decode cX10_outer 40 = .ok (.invokevirtual 119, 3) := by decide +kernel
theorem dX10_outer_43 : decode cX10_outer 43 = .ok (.iconst 1, 1) := by decide +kernel
theorem dX10_outer_44 : decode cX10_outer 44 = .ok (.ireturn, 1) := by decide +kernel
set_option maxRecDepth 20000 in
theorem ggX10_mark_X10_markIndex : GoodIn wsX10_mark wsX10_markIndex := goodIn_r _ [7, 8, 9, 10, 11, 12, 13, 14, 15, 16, 17, 18, 19, 20, 150, 151, 152, 153, 154, 155, 156, 157, 158, 159, 160, 161, 162, 177, 178, 179, 180, 181, 182, 183, 184, 185, 186, 187, 188, 189, 190, 191, 192, 193] (by decide +kernel) (by decide +kernel)
set_option maxRecDepth 20000 in
theorem gX10_mark_X10_markIndex : GoodIn wsX10_mark (wsV RX10 142 RX10 yX10_markIndex wsX10_markIndex) := goodIn_app (goodIn_of _ (by decide +kernel)) ggX10_mark_X10_markIndex
set_option maxRecDepth 20000 in
theorem ggX10_mark_X1_settle : GoodIn wsX10_mark wsX1_settle := goodIn_r _ [25, 26, 27, 28, 29, 30, 31, 32, 33, 34, 35, 36, 24, 37, 38, 39, 40, 41, 42, 43, 44, 45, 46, 47, 48, 49, 50, 51, 52, 53, 54, 55, 56, 57, 58, 59, 12, 13, 14, 15, 16, 60, 61, 62, 63, 64, 65, 66, 67, 68, 69, 70, 71, 72, 18, 19, 20, 73, 74, 75, 76, 77, 78, 79, 80, 81, 82, 83, 84, 85, 86, 87, 88, 89, 90, 91, 92, 93, 94, 95, 96, 97, 98, 99, 100, 101, 102, 103, 104, 105, 106, 107, 108, 109, 110, 111, 112, 113, 114, 115, 116, 117, 118, 119, 120, 121, 122, 123, 124, 125, 126, 127, 128, 129, 130, 131, 132, 133, 134, 135, 136, 137, 138, 139, 140, 141, 142, 143, 144, 145, 146, 147, 148, 149, 163, 164, 165, 166, 167, 168, 169, 170, 171, 172, 173, 174, 175, 176, 194, 195, 177, 178, 179, 180, 181, 182, 183, 184, 185, 186, 187, 188, 189, 190, 191, 192, 193] (by decide +kernel) (by decide +kernel)
set_option maxRecDepth 20000 in
theorem gX10_mark_X1_settle : GoodIn wsX10_mark (wsV RX10 146 RX1 yX1_settle wsX1_settle) := goodIn_app (goodIn_of _ (by decide +kernel)) ggX10_mark_X1_settle
set_option maxRecDepth 20000 in
theorem ggX10_mark_X5_at : GoodIn wsX10_mark wsX5_at := goodIn_r _ [20] (by decide +kernel) (by decide +kernel)
set_option maxRecDepth 20000 in
theorem gX10_mark_X5_at : GoodIn wsX10_mark (va_wsS RX10 153 yX5_at wsX5_at) := goodIn_app (goodIn_of _ (by decide +kernel)) ggX10_mark_X5_at
theorem dX10_mark_0 : decode cX10_mark 0 = .ok (.aload_n 0, 1) := by decide +kernel
theorem dX10_mark_1 : decode cX10_mark 1 = .ok (.iload_n 1, 1) := by decide +kernel
theorem dX10_mark_2 : decode cX10_mark 2 = .ok (.iload_n 2, 1) := by decide +kernel
theorem dX10_mark_3 : decode cX10_mark 3 = .ok (.iload_n 3, 1) := by decide +kernel
theorem dX10_mark_4 : decode cX10_mark 4 = .ok (.invokevirtual 142, 3) := by decide +kernel
theorem dX10_mark_7 : decode cX10_mark 7 = .ok (.istore 4, 2) := by decide +kernel
theorem dX10_mark_9 : decode cX10_mark 9 = .ok (.iload 4, 2) := by decide +kernel
theorem dX10_mark_11 : decode cX10_mark 11 = .ok (.iconst (-1), 1) := by decide +kernel
theorem dX10_mark_12 : decode cX10_mark 12 = .ok (.if_icmp .ne 5, 3) := by decide +kernel
theorem dX10_mark_15 : decode cX10_mark 15 = .ok (.iconst (-1), 1) := by decide +kernel
theorem dX10_mark_16 : decode cX10_mark 16 = .ok (.ireturn, 1) := by decide +kernel
theorem dX10_mark_17 : decode cX10_mark 17 = .ok (.aload_n 0, 1) := by decide +kernel
theorem dX10_mark_18 : decode cX10_mark 18 = .ok (.getfield 54, 3) := by decide +kernel
theorem dX10_mark_21 : decode cX10_mark 21 = .ok (.lconst 0, 1) := by decide +kernel
theorem dX10_mark_22 : decode cX10_mark 22 = .ok (.invokevirtual 146, 3) := by decide +kernel
theorem dX10_mark_25 : decode cX10_mark 25 = .ok (.aload_n 0, 1) := by decide +kernel
theorem dX10_mark_26 : decode cX10_mark 26 = .ok (.getfield 54, 3) := by decide +kernel
theorem dX10_mark_29 : decode cX10_mark 29 = .ok (.getfield 150, 3) := by decide +kernel
theorem dX10_mark_32 : decode cX10_mark 32 = .ok (.iload 4, 2) := by decide +kernel
theorem dX10_mark_34 : decode cX10_mark 34 = .ok (.invokestatic 153, 3) := by decide +kernel
theorem dX10_mark_37 : decode cX10_mark 37 = .ok (.ireturn, 1) := by decide +kernel
set_option maxRecDepth 20000 in
theorem ggX10_use_X1_settle : GoodIn wsX10_use wsX1_settle := goodIn_r _ [13, 14, 15, 16, 17, 18, 19, 20, 21, 22, 23, 24, 12, 25, 26, 27, 28, 29, 30, 31, 32, 33, 34, 35, 36, 37, 38, 39, 40, 41, 42, 43, 44, 45, 46, 47, 48, 49, 50, 51, 52, 53, 54, 55, 56, 57, 58, 59, 60, 61, 62, 63, 64, 65, 66, 67, 68, 69, 70, 71, 72, 73, 74, 75, 76, 77, 78, 79, 80, 81, 82, 83, 84, 85, 86, 87, 88, 89, 90, 91, 92, 93, 94, 95, 96, 97, 98, 99, 100, 101, 102, 103, 104, 105, 106, 107, 108, 109, 110, 111, 112, 113, 114, 115, 116, 117, 118, 119, 120, 121, 122, 123, 124, 125, 126, 127, 128, 129, 130, 131, 132, 133, 134, 135, 136, 137, 138, 139, 140, 141, 142, 143, 144, 145, 181, 182, 183, 184, 185, 186, 187, 188, 189, 190, 191, 192, 193, 194, 195, 196, 164, 165, 166, 167, 168, 169, 170, 171, 172, 173, 174, 175, 176, 177, 178, 179, 180] (by decide +kernel) (by decide +kernel)
set_option maxRecDepth 20000 in
theorem gX10_use_X1_settle : GoodIn wsX10_use (wsV RX10 146 RX1 yX1_settle wsX1_settle) := goodIn_app (goodIn_of _ (by decide +kernel)) ggX10_use_X1_settle
set_option maxRecDepth 20000 in
theorem ggX10_use_X5_at : GoodIn wsX10_use wsX5_at := goodIn_r _ [68] (by decide +kernel) (by decide +kernel)
set_option maxRecDepth 20000 in
theorem gX10_use_X5_at : GoodIn wsX10_use (va_wsS RX10 153 yX5_at wsX5_at) := goodIn_app (goodIn_of _ (by decide +kernel)) ggX10_use_X5_at
set_option maxRecDepth 20000 in
theorem ggX10_use_X10_verdictOfUse : GoodIn wsX10_use wsX10_verdictOfUse := goodIn_r _ [150] (by decide +kernel) (by decide +kernel)
set_option maxRecDepth 20000 in
theorem gX10_use_X10_verdictOfUse : GoodIn wsX10_use (va_wsS RX10 163 yX10_verdictOfUse wsX10_verdictOfUse) := goodIn_app (goodIn_of _ (by decide +kernel)) ggX10_use_X10_verdictOfUse
theorem dX10_use_0 : decode cX10_use 0 = .ok (.aload_n 0, 1) := by decide +kernel
theorem dX10_use_1 : decode cX10_use 1 = .ok (.getfield 45, 3) := by decide +kernel
theorem dX10_use_4 : decode cX10_use 4 = .ok (.getfield 110, 3) := by decide +kernel
theorem dX10_use_7 : decode cX10_use 7 = .ok (.astore_n 3, 1) := by decide +kernel
theorem dX10_use_8 : decode cX10_use 8 = .ok (.iload_n 1, 1) := by decide +kernel
theorem dX10_use_9 : decode cX10_use 9 = .ok (.ifCond .lt 11, 3) := by decide +kernel
theorem dX10_use_12 : decode cX10_use 12 = .ok (.iload_n 1, 1) := by decide +kernel
theorem dX10_use_13 : decode cX10_use 13 = .ok (.aload_n 3, 1) := by decide +kernel
theorem dX10_use_14 : decode cX10_use 14 = .ok (.getfield 157, 3) := by decide +kernel
theorem dX10_use_17 : decode cX10_use 17 = .ok (.if_icmp .lt 5, 3) := by decide +kernel
theorem dX10_use_20 : decode cX10_use 20 = .ok (.iconst (-1), 1) := by decide +kernel
theorem dX10_use_21 : decode cX10_use 21 = .ok (.ireturn, 1) := by decide +kernel
theorem dX10_use_22 : decode cX10_use 22 = .ok (.iload_n 2, 1) := by decide +kernel
theorem dX10_use_23 : decode cX10_use 23 = .ok (.tableswitch 79 0 3 #[29, 52, 61, 70], 29) := by decide +kernel
theorem dX10_use_52 : decode cX10_use 52 = .ok (.aload_n 0, 1) := by decide +kernel
theorem dX10_use_53 : decode cX10_use 53 = .ok (.getfield 54, 3) := by decide +kernel
theorem dX10_use_56 : decode cX10_use 56 = .ok (.lconst 0, 1) := by decide +kernel
theorem dX10_use_57 : decode cX10_use 57 = .ok (.invokevirtual 146, 3) := by decide +kernel
theorem dX10_use_60 : decode cX10_use 60 = .ok (.aload_n 0, 1) := by decide +kernel
theorem dX10_use_61 : decode cX10_use 61 = .ok (.getfield 54, 3) := by decide +kernel
theorem dX10_use_64 : decode cX10_use 64 = .ok (.getfield 160, 3) := by decide +kernel
theorem dX10_use_67 : decode cX10_use 67 = .ok (.iload_n 1, 1) := by decide +kernel
theorem dX10_use_68 : decode cX10_use 68 = .ok (.invokestatic 153, 3) := by decide +kernel
theorem dX10_use_71 : decode cX10_use 71 = .ok (.invokestatic 163, 3) := by decide +kernel
theorem dX10_use_74 : decode cX10_use 74 = .ok (.ireturn, 1) := by decide +kernel
theorem dX10_use_75 : decode cX10_use 75 = .ok (.aload_n 3, 1) := by decide +kernel
theorem dX10_use_76 : decode cX10_use 76 = .ok (.getfield 167, 3) := by decide +kernel
theorem dX10_use_79 : decode cX10_use 79 = .ok (.iload_n 1, 1) := by decide +kernel
theorem dX10_use_80 : decode cX10_use 80 = .ok (.invokestatic 153, 3) := by decide +kernel
theorem dX10_use_83 : decode cX10_use 83 = .ok (.ireturn, 1) := by decide +kernel
theorem dX10_use_84 : decode cX10_use 84 = .ok (.aload_n 3, 1) := by decide +kernel
theorem dX10_use_85 : decode cX10_use 85 = .ok (.getfield 170, 3) := by decide +kernel
theorem dX10_use_88 : decode cX10_use 88 = .ok (.iload_n 1, 1) := by decide +kernel
theorem dX10_use_89 : decode cX10_use 89 = .ok (.invokestatic 153, 3) := by decide +kernel
theorem dX10_use_92 : decode cX10_use 92 = .ok (.ireturn, 1) := by decide +kernel
theorem dX10_use_93 : decode cX10_use 93 = .ok (.aload_n 3, 1) := by decide +kernel
theorem dX10_use_94 : decode cX10_use 94 = .ok (.getfield 173, 3) := by decide +kernel
theorem dX10_use_97 : decode cX10_use 97 = .ok (.iload_n 1, 1) := by decide +kernel
theorem dX10_use_98 : decode cX10_use 98 = .ok (.invokestatic 153, 3) := by decide +kernel
theorem dX10_use_101 : decode cX10_use 101 = .ok (.ireturn, 1) := by decide +kernel
theorem dX10_use_102 : decode cX10_use 102 = .ok (.iconst (-1), 1) := by decide +kernel
theorem dX10_use_103 : decode cX10_use 103 = .ok (.ireturn, 1) := by decide +kernel
set_option maxRecDepth 20000 in
theorem ggX10_test_X1_settle : GoodIn wsX10_test wsX1_settle := goodIn_r _ [12, 13, 14, 15, 16, 17, 18, 19, 20, 21, 22, 23, 11, 24, 25, 26, 27, 28, 29, 30, 31, 32, 33, 34, 35, 36, 37, 38, 39, 40, 41, 42, 43, 44, 45, 46, 47, 48, 49, 50, 51, 52, 53, 54, 55, 56, 57, 58, 59, 60, 61, 62, 63, 64, 65, 66, 67, 68, 69, 70, 71, 72, 73, 74, 75, 76, 77, 78, 79, 80, 81, 82, 83, 84, 85, 86, 87, 88, 89, 90, 91, 92, 93, 94, 95, 96, 97, 98, 99, 100, 101, 102, 103, 104, 105, 106, 107, 108, 109, 110, 111, 112, 113, 114, 115, 116, 117, 118, 119, 120, 121, 122, 123, 124, 125, 126, 127, 128, 129, 130, 131, 132, 133, 134, 135, 136, 137, 138, 139, 140, 141, 142, 143, 144, 180, 181, 182, 183, 184, 185, 186, 187, 188, 189, 190, 191, 192, 193, 194, 195, 163, 164, 165, 166, 167, 168, 169, 170, 171, 172, 173, 174, 175, 176, 177, 178, 179] (by decide +kernel) (by decide +kernel)
set_option maxRecDepth 20000 in
theorem gX10_test_X1_settle : GoodIn wsX10_test (wsV RX10 146 RX1 yX1_settle wsX1_settle) := goodIn_app (goodIn_of _ (by decide +kernel)) ggX10_test_X1_settle
set_option maxRecDepth 20000 in
theorem ggX10_test_X5_at : GoodIn wsX10_test wsX5_at := goodIn_r _ [67] (by decide +kernel) (by decide +kernel)
set_option maxRecDepth 20000 in
theorem gX10_test_X5_at : GoodIn wsX10_test (va_wsS RX10 153 yX5_at wsX5_at) := goodIn_app (goodIn_of _ (by decide +kernel)) ggX10_test_X5_at
set_option maxRecDepth 20000 in
theorem ggX10_test_X10_verdictOfTest : GoodIn wsX10_test wsX10_verdictOfTest := goodIn_r _ [149] (by decide +kernel) (by decide +kernel)
set_option maxRecDepth 20000 in
theorem gX10_test_X10_verdictOfTest : GoodIn wsX10_test (va_wsS RX10 182 yX10_verdictOfTest wsX10_verdictOfTest) := goodIn_app (goodIn_of _ (by decide +kernel)) ggX10_test_X10_verdictOfTest
theorem dX10_test_0 : decode cX10_test 0 = .ok (.aload_n 0, 1) := by decide +kernel
theorem dX10_test_1 : decode cX10_test 1 = .ok (.getfield 45, 3) := by decide +kernel
theorem dX10_test_4 : decode cX10_test 4 = .ok (.getfield 110, 3) := by decide +kernel
theorem dX10_test_7 : decode cX10_test 7 = .ok (.astore_n 3, 1) := by decide +kernel
theorem dX10_test_8 : decode cX10_test 8 = .ok (.iload_n 1, 1) := by decide +kernel
theorem dX10_test_9 : decode cX10_test 9 = .ok (.ifCond .lt 11, 3) := by decide +kernel
theorem dX10_test_12 : decode cX10_test 12 = .ok (.iload_n 1, 1) := by decide +kernel
theorem dX10_test_13 : decode cX10_test 13 = .ok (.aload_n 3, 1) := by decide +kernel
theorem dX10_test_14 : decode cX10_test 14 = .ok (.getfield 176, 3) := by decide +kernel
theorem dX10_test_17 : decode cX10_test 17 = .ok (.if_icmp .lt 5, 3) := by decide +kernel
theorem dX10_test_20 : decode cX10_test 20 = .ok (.iconst (-1), 1) := by decide +kernel
theorem dX10_test_21 : decode cX10_test 21 = .ok (.ireturn, 1) := by decide +kernel
theorem dX10_test_22 : decode cX10_test 22 = .ok (.iload_n 2, 1) := by decide +kernel
theorem dX10_test_23 : decode cX10_test 23 = .ok (.tableswitch 66 0 2 #[25, 48, 57], 25) := by decide +kernel
theorem dX10_test_48 : decode cX10_test 48 = .ok (.aload_n 0, 1) := by decide +kernel
theorem dX10_test_49 : decode cX10_test 49 = .ok (.getfield 54, 3) := by decide +kernel
theorem dX10_test_52 : decode cX10_test 52 = .ok (.lconst 0, 1) := by decide +kernel
