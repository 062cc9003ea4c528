theorem dX11_worth_153 : decode cX11_worth 153 = .ok (.pop, 1) := by decide +kernel
theorem dX11_worth_154 : decode cX11_worth 154 = .ok (.goto 24, 3) := by decide +kernel
theorem dX11_worth_157 : decode cX11_worth 157 = .ok (.aload_n 0, 1) := by decide +kernel
theorem dX11_worth_158 : decode cX11_worth 158 = .ok (.getfield 140, 3) := by decide +kernel
theorem dX11_worth_161 : decode cX11_worth 161 = .ok (.iconst 1, 1) := by decide +kernel
theorem dX11_worth_162 : decode cX11_worth 162 = .ok (.if_icmp .ne 10, 3) := by decide +kernel
theorem dX11_worth_165 : decode cX11_worth 165 = .ok (.aload_n 0, 1) := by decide +kernel
theorem dX11_worth_166 : decode cX11_worth 166 = .ok (.invokevirtual 233, 3) := by decide +kernel
theorem dX11_worth_169 : decode cX11_worth 169 = .ok (.goto 9, 3) := by decide +kernel
theorem dX11_worth_172 : decode cX11_worth 172 = .ok (.aload_n 0, 1) := by decide +kernel
theorem dX11_worth_173 : decode cX11_worth 173 = .ok (.iconst 1, 1) := by decide +kernel
theorem dX11_worth_174 : decode cX11_worth 174 = .ok (.iload_n 1, 1) := by decide +kernel
theorem dX11_worth_175 : decode cX11_worth 175 = .ok (.invokevirtual 179, 3) := by decide +kernel
theorem dX11_worth_178 : decode cX11_worth 178 = .ok (.return_, 1) := by decide +kernel
theorem dX11_call_0 : decode cX11_call 0 = .ok (.aload_n 0, 1) := by decide +kernel
theorem dX11_call_1 : decode cX11_call 1 = .ok (.getfield 137, 3) := by decide +kernel
theorem dX11_call_4 : decode cX11_call 4 = .ok (.istore_n 1, 1) := by decide +kernel
theorem dX11_call_5 : decode cX11_call 5 = .ok (.aload_n 0, 1) := by decide +kernel
theorem dX11_call_6 : decode cX11_call 6 = .ok (.iconst 1, 1) := by decide +kernel
theorem dX11_call_7 : decode cX11_call 7 = .ok (.invokevirtual 205, 3) := by decide +kernel
theorem dX11_call_10 : decode cX11_call 10 = .ok (.istore_n 2, 1) := by decide +kernel
theorem dX11_call_11 : decode cX11_call 11 = .ok (.aload_n 0, 1) := by decide +kernel
theorem dX11_call_12 : decode cX11_call 12 = .ok (.bipush 40, 2) := by decide +kernel
theorem dX11_call_14 : decode cX11_call 14 = .ok (.invokevirtual 201, 3) := by decide +kernel
theorem dX11_call_17 : decode cX11_call 17 = .ok (.iconst 0, 1) := by decide +kernel
theorem dX11_call_18 : decode cX11_call 18 = .ok (.istore_n 3, 1) := by decide +kernel
theorem dX11_call_19 : decode cX11_call 19 = .ok (.iconst 0, 1) := by decide +kernel
theorem dX11_call_20 : decode cX11_call 20 = .ok (.istore 4, 2) := by decide +kernel
theorem dX11_call_22 : decode cX11_call 22 = .ok (.aload_n 0, 1) := by decide +kernel
theorem dX11_call_23 : decode cX11_call 23 = .ok (.getfield 164, 3) := by decide +kernel
theorem dX11_call_26 : decode cX11_call 26 = .ok (.ifCond .ne 16, 3) := by decide +kernel
theorem dX11_call_29 : decode cX11_call 29 = .ok (.aload_n 0, 1) := by decide +kernel
theorem dX11_call_30 : decode cX11_call 30 = .ok (.bipush 41, 2) := by decide +kernel
theorem dX11_call_32 : decode cX11_call 32 = .ok (.invokevirtual 170, 3) := by decide +kernel
theorem dX11_call_35 : decode cX11_call 35 = .ok (.ifCond .ne 7, 3) := by decide +kernel
theorem dX11_call_38 : decode cX11_call 38 = .ok (.iconst 1, 1) := by decide +kernel
theorem dX11_call_39 : decode cX11_call 39 = .ok (.goto 4, 3) := by decide +kernel
theorem dX11_call_42 : decode cX11_call 42 = .ok (.iconst 0, 1) := by decide +kernel
theorem dX11_call_43 : decode cX11_call 43 = .ok (.istore 5, 2) := by decide +kernel
theorem dX11_call_45 : decode cX11_call 45 = .ok (.iload 5, 2) := by decide +kernel
theorem dX11_call_47 : decode cX11_call 47 = .ok (.ifCond .eq 59, 3) := by decide +kernel
theorem dX11_call_50 : decode cX11_call 50 = .ok (.aload_n 0, 1) := by decide +kernel
theorem dX11_call_51 : decode cX11_call 51 = .ok (.getfield 164, 3) := by decide +kernel
theorem dX11_call_54 : decode cX11_call 54 = .ok (.ifCond .ne 52, 3) := by decide +kernel
theorem dX11_call_57 : decode cX11_call 57 = .ok (.aload_n 0, 1) := by decide +kernel
theorem dX11_call_58 : decode cX11_call 58 = .ok (.getfield 140, 3) := by decide +kernel
theorem dX11_call_61 : decode cX11_call 61 = .ok (.ifCond .ne 17, 3) := by decide +kernel
theorem dX11_call_64 : decode cX11_call 64 = .ok (.iload_n 3, 1) := by decide +kernel
theorem dX11_call_65 : decode cX11_call 65 = .ok (.iconst 4, 1) := by decide +kernel
theorem dX11_call_66 : decode cX11_call 66 = .ok (.if_icmp .ne 12, 3) := by decide +kernel
theorem dX11_call_69 : decode cX11_call 69 = .ok (.aload_n 0, 1) := by decide +kernel
theorem dX11_call_70 : decode cX11_call 70 = .ok (.iconst 2, 1) := by decide +kernel
theorem dX11_call_71 : decode cX11_call 71 = .ok (.aload_n 0, 1) := by decide +kernel
theorem dX11_call_72 : decode cX11_call 72 = .ok (.getfield 137, 3) := by decide +kernel
theorem dX11_call_75 : decode cX11_call 75 = .ok (.invokevirtual 179, 3) := by decide +kernel
theorem dX11_call_78 : decode cX11_call 78 = .ok (.iload 4, 2) := by decide +kernel
theorem dX11_call_80 : decode cX11_call 80 = .ok (.aload_n 0, 1) := by decide +kernel
theorem dX11_call_81 : decode cX11_call 81 = .ok (.iconst 0, 1) := by decide +kernel
theorem dX11_call_82 : decode cX11_call 82 = .ok (.invokevirtual 205, 3) := by decide +kernel
theorem dX11_call_85 : decode cX11_call 85 = .ok (.iconst 5, 1) := by decide +kernel
theorem dX11_call_86 : decode cX11_call 86 = .ok (.iload_n 3, 1) := by decide +kernel
theorem dX11_call_87 : decode cX11_call 87 = .ok (.imul, 1) := by decide +kernel
theorem dX11_call_88 : decode cX11_call 88 = .ok (.ishl, 1) := by decide +kernel
theorem dX11_call_89 : decode cX11_call 89 = .ok (.ior, 1) := by decide +kernel
theorem dX11_call_90 : decode cX11_call 90 = .ok (.istore 4, 2) := by decide +kernel
theorem dX11_call_92 : decode cX11_call 92 = .ok (.iinc 3 1, 3) := by decide +kernel
theorem dX11_call_95 : decode cX11_call 95 = .ok (.aload_n 0, 1) := by decide +kernel
theorem dX11_call_96 : decode cX11_call 96 = .ok (.bipush 44, 2) := by decide +kernel
theorem dX11_call_98 : decode cX11_call 98 = .ok (.invokevirtual 176, 3) := by decide +kernel
theorem dX11_call_101 : decode cX11_call 101 = .ok (.istore 5, 2) := by decide +kernel
theorem dX11_call_103 : decode cX11_call 103 = .ok (.goto (-58), 3) := by decide +kernel
theorem dX11_call_106 : decode cX11_call 106 = .ok (.aload_n 0, 1) := by decide +kernel
theorem dX11_call_107 : decode cX11_call 107 = .ok (.bipush 41, 2) := by decide +kernel
theorem dX11_call_109 : decode cX11_call 109 = .ok (.invokevirtual 201, 3) := by decide +kernel
theorem dX11_call_112 : decode cX11_call 112 = .ok (.aload_n 0, 1) := by decide +kernel
theorem dX11_call_113 : decode cX11_call 113 = .ok (.getfield 164, 3) := by decide +kernel
theorem dX11_call_116 : decode cX11_call 116 = .ok (.ifCond .eq 4, 3) := by decide +kernel
theorem dX11_call_119 : decode cX11_call 119 = .ok (.return_, 1) := by decide +kernel
theorem dX11_call_120 : decode cX11_call 120 = .ok (.aload_n 0, 1) := by decide +kernel
theorem dX11_call_121 : decode cX11_call 121 = .ok (.getfield 65, 3) := by decide +kernel
theorem dX11_call_124 : decode cX11_call 124 = .ok (.aload_n 0, 1) := by decide +kernel
theorem dX11_call_125 : decode cX11_call 125 = .ok (.getfield 186, 3) := by decide +kernel
theorem dX11_call_128 : decode cX11_call 128 = .ok (.iload_n 1, 1) := by decide +kernel
theorem dX11_call_129 : decode cX11_call 129 = .ok (.iastore, 1) := by decide +kernel
theorem dX11_call_130 : decode cX11_call 130 = .ok (.aload_n 0, 1) := by decide +kernel
theorem dX11_call_131 : decode cX11_call 131 = .ok (.getfield 68, 3) := by decide +kernel
theorem dX11_call_134 : decode cX11_call 134 = .ok (.aload_n 0, 1) := by decide +kernel
theorem dX11_call_135 : decode cX11_call 135 = .ok (.getfield 186, 3) := by decide +kernel
theorem dX11_call_138 : decode cX11_call 138 = .ok (.iload_n 2, 1) := by decide +kernel
theorem dX11_call_139 : decode cX11_call 139 = .ok (.iastore, 1) := by decide +kernel
theorem dX11_call_140 : decode cX11_call 140 = .ok (.aload_n 0, 1) := by decide +kernel
theorem dX11_call_141 : decode cX11_call 141 = .ok (.getfield 71, 3) := by decide +kernel
theorem dX11_call_144 : decode cX11_call 144 = .ok (.aload_n 0, 1) := by decide +kernel
theorem dX11_call_145 : decode cX11_call 145 = .ok (.getfield 186, 3) := by decide +kernel
theorem dX11_call_148 : decode cX11_call 148 = .ok (.iload_n 3, 1) := by decide +kernel
theorem dX11_call_149 : decode cX11_call 149 = .ok (.iastore, 1) := by decide +kernel
theorem dX11_call_150 : decode cX11_call 150 = .ok (.aload_n 0, 1) := by decide +kernel
theorem dX11_call_151 : decode cX11_call 151 = .ok (.dup, 1) := by decide +kernel
theorem dX11_call_152 : decode cX11_call 152 = .ok (.getfield 186, 3) := by decide +kernel
theorem dX11_call_155 : decode cX11_call 155 = .ok (.iconst 1, 1) := by decide +kernel
theorem dX11_call_156 : decode cX11_call 156 = .ok (.iadd, 1) := by decide +kernel
theorem dX11_call_157 : decode cX11_call 157 = .ok (.putfield 186, 3) := by decide +kernel
theorem dX11_call_160 : decode cX11_call 160 = .ok (.aload_n 0, 1) := by decide +kernel
theorem dX11_call_161 : decode cX11_call 161 = .ok (.getfield 29, 3) := by decide +kernel
theorem dX11_call_164 : decode cX11_call 164 = .ok (.sipush 1300, 3) := by decide +kernel
theorem dX11_call_167 : decode cX11_call 167 = .ok (.aload_n 0, 1) := by decide +kernel
theorem dX11_call_168 : decode cX11_call 168 = .ok (.bipush 6, 2) := by decide +kernel
theorem dX11_call_170 : decode cX11_call 170 = .ok (.iload_n 2, 1) := by decide +kernel
theorem dX11_call_171 : decode cX11_call 171 = .ok (.iload_n 3, 1) := by decide +kernel
theorem dX11_call_172 : decode cX11_call 172 = .ok (.iconst 0, 1) := by decide +kernel
theorem dX11_call_173 : decode cX11_call 173 = .ok (.invokevirtual 216, 3) := by decide +kernel
theorem dX11_call_176 : decode cX11_call 176 = .ok (.iadd, 1) := by decide +kernel
theorem dX11_call_177 : decode cX11_call 177 = .ok (.iload 4, 2) := by decide +kernel
theorem dX11_call_179 : decode cX11_call 179 = .ok (.iastore, 1) := by decide +kernel
theorem dX11_call_180 : decode cX11_call 180 = .ok (.return_, 1) := by decide +kernel
theorem dX11_text_0 : decode cX11_text 0 = .ok (.aload_n 0, 1) := by decide +kernel
theorem dX11_text_1 : decode cX11_text 1 = .ok (.iconst 0, 1) := by decide +kernel
theorem dX11_text_2 : decode cX11_text 2 = .ok (.putfield 121, 3) := by decide +kernel
theorem dX11_text_5 : decode cX11_text 5 = .ok (.iload_n 1, 1) := by decide +kernel
theorem dX11_text_6 : decode cX11_text 6 = .ok (.ifCond .lt 11, 3) := by decide +kernel
theorem dX11_text_9 : decode cX11_text 9 = .ok (.iload_n 1, 1) := by decide +kernel
theorem dX11_text_10 : decode cX11_text 10 = .ok (.aload_n 0, 1) := by decide +kernel
theorem dX11_text_11 : decode cX11_text 11 = .ok (.getfield 124, 3) := by decide +kernel
theorem dX11_text_14 : decode cX11_text 14 = .ok (.if_icmp .le 6, 3) := by decide +kernel
theorem dX11_text_17 : decode cX11_text 17 = .ok (.bipush (-2), 2) := by decide +kernel
theorem dX11_text_19 : decode cX11_text 19 = .ok (.ireturn, 1) := by decide +kernel
theorem dX11_text_20 : decode cX11_text 20 = .ok (.aload_n 0, 1) := by decide +kernel
theorem dX11_text_21 : decode cX11_text 21 = .ok (.iload_n 1, 1) := by decide +kernel
theorem dX11_text_22 : decode cX11_text 22 = .ok (.putfield 130, 3) := by decide +kernel
theorem dX11_text_25 : decode cX11_text 25 = .ok (.aload_n 0, 1) := by decide +kernel
theorem dX11_text_26 : decode cX11_text 26 = .ok (.iconst 0, 1) := by decide +kernel
theorem dX11_text_27 : decode cX11_text 27 = .ok (.putfield 124, 3) := by decide +kernel
theorem dX11_text_30 : decode cX11_text 30 = .ok (.aload_n 0, 1) := by decide +kernel
theorem dX11_text_31 : decode cX11_text 31 = .ok (.invokevirtual 239, 3) := by decide +kernel
theorem dX11_text_34 : decode cX11_text 34 = .ok (.aload_n 0, 1) := by decide +kernel
theorem dX11_text_35 : decode cX11_text 35 = .ok (.aload_n 0, 1) := by decide +kernel
theorem dX11_text_36 : decode cX11_text 36 = .ok (.getfield 164, 3) := by decide +kernel
theorem dX11_text_39 : decode cX11_text 39 = .ok (.putfield 242, 3) := by decide +kernel
theorem dX11_text_42 : decode cX11_text 42 = .ok (.aload_n 0, 1) := by decide +kernel
theorem dX11_text_43 : decode cX11_text 43 = .ok (.aload_n 0, 1) := by decide +kernel
theorem dX11_text_44 : decode cX11_text 44 = .ok (.getfield 167, 3) := by decide +kernel
theorem dX11_text_47 : decode cX11_text 47 = .ok (.putfield 13, 3) := by decide +kernel
theorem dX11_text_50 : decode cX11_text 50 = .ok (.aload_n 0, 1) := by decide +kernel
theorem dX11_text_51 : decode cX11_text 51 = .ok (.getfield 164, 3) := by decide +kernel
theorem dX11_text_54 : decode cX11_text 54 = .ok (.ifCond .eq 5, 3) := by decide +kernel
theorem dX11_text_57 : decode cX11_text 57 = .ok (.iconst (-1), 1) := by decide +kernel
theorem dX11_text_58 : decode cX11_text 58 = .ok (.ireturn, 1) := by decide +kernel
theorem dX11_text_59 : decode cX11_text 59 = .ok (.aload_n 0, 1) := by decide +kernel
theorem dX11_text_60 : decode cX11_text 60 = .ok (.invokevirtual 245, 3) := by decide +kernel
theorem dX11_text_63 : decode cX11_text 63 = .ok (.aload_n 0, 1) := by decide +kernel
theorem dX11_text_64 : decode cX11_text 64 = .ok (.invokevirtual 248, 3) := by decide +kernel
theorem dX11_text_67 : decode cX11_text 67 = .ok (.ireturn, 1) := by decide +kernel
theorem dX11_comes_0 : decode cX11_comes 0 = .ok (.aload_n 0, 1) := by decide +kernel
theorem dX11_comes_1 : decode cX11_comes 1 = .ok (.aload_n 0, 1) := by decide +kernel
theorem dX11_comes_2 : decode cX11_comes 2 = .ok (.getfield 183, 3) := by decide +kernel
theorem dX11_comes_5 : decode cX11_comes 5 = .ok (.putfield 251, 3) := by decide +kernel
theorem dX11_comes_8 : decode cX11_comes 8 = .ok (.iconst 0, 1) := by decide +kernel
theorem dX11_comes_9 : decode cX11_comes 9 = .ok (.istore_n 1, 1) := by decide +kernel
theorem dX11_comes_10 : decode cX11_comes 10 = .ok (.iload_n 1, 1) := by decide +kernel
theorem dX11_comes_11 : decode cX11_comes 11 = .ok (.aload_n 0, 1) := by decide +kernel
theorem dX11_comes_12 : decode cX11_comes 12 = .ok (.getfield 183, 3) := by decide +kernel
theorem dX11_comes_15 : decode cX11_comes 15 = .ok (.if_icmp .ge 89, 3) := by decide +kernel
theorem dX11_comes_18 : decode cX11_comes 18 = .ok (.aload_n 0, 1) := by decide +kernel
theorem dX11_comes_19 : decode cX11_comes 19 = .ok (.getfield 17, 3) := by decide +kernel
theorem dX11_comes_22 : decode cX11_comes 22 = .ok (.iload_n 1, 1) := by decide +kernel
theorem dX11_comes_23 : decode cX11_comes 23 = .ok (.aload_n 0, 1) := by decide +kernel
theorem dX11_comes_24 : decode cX11_comes 24 = .ok (.getfield 17, 3) := by decide +kernel
theorem dX11_comes_27 : decode cX11_comes 27 = .ok (.sipush 1300, 3) := by decide +kernel
theorem dX11_comes_30 : decode cX11_comes 30 = .ok (.iload_n 1, 1) := by decide +kernel
theorem dX11_comes_31 : decode cX11_comes 31 = .ok (.iadd, 1) := by decide +kernel
theorem dX11_comes_32 : decode cX11_comes 32 = .ok (.iaload, 1) := by decide +kernel
theorem dX11_comes_33 : decode cX11_comes 33 = .ok (.iastore, 1) := by decide +kernel
theorem dX11_comes_34 : decode cX11_comes 34 = .ok (.aload_n 0, 1) := by decide +kernel
theorem dX11_comes_35 : decode cX11_comes 35 = .ok (.getfield 20, 3) := by decide +kernel
theorem dX11_comes_38 : decode cX11_comes 38 = .ok (.iload_n 1, 1) := by decide +kernel
theorem dX11_comes_39 : decode cX11_comes 39 = .ok (.aload_n 0, 1) := by decide +kernel
theorem dX11_comes_40 : decode cX11_comes 40 = .ok (.getfield 20, 3) := by decide +kernel
theorem dX11_comes_43 : decode cX11_comes 43 = .ok (.sipush 1300, 3) := by decide +kernel
theorem dX11_comes_46 : decode cX11_comes 46 = .ok (.iload_n 1, 1) := by decide +kernel
theorem dX11_comes_47 : decode cX11_comes 47 = .ok (.iadd, 1) := by decide +kernel
theorem dX11_comes_48 : decode cX11_comes 48 = .ok (.iaload, 1) := by decide +kernel
theorem dX11_comes_49 : decode cX11_comes 49 = .ok (.iastore, 1) := by decide +kernel
theorem dX11_comes_50 : decode cX11_comes 50 = .ok (.aload_n 0, 1) := by decide +kernel
theorem dX11_comes_51 : decode cX11_comes 51 = .ok (.getfield 23, 3) := by decide +kernel
theorem dX11_comes_54 : decode cX11_comes 54 = .ok (.iload_n 1, 1) := by decide +kernel
theorem dX11_comes_55 : decode cX11_comes 55 = .ok (.aload_n 0, 1) := by decide +kernel
theorem dX11_comes_56 : decode cX11_comes 56 = .ok (.getfield 23, 3) := by decide +kernel
theorem dX11_comes_59 : decode cX11_comes 59 = .ok (.sipush 1300, 3) := by decide +kernel
theorem dX11_comes_62 : decode cX11_comes 62 = .ok (.iload_n 1, 1) := by decide +kernel
theorem dX11_comes_63 : decode cX11_comes 63 = .ok (.iadd, 1) := by decide +kernel
theorem dX11_comes_64 : decode cX11_comes 64 = .ok (.iaload, 1) := by decide +kernel
theorem dX11_comes_65 : decode cX11_comes 65 = .ok (.iastore, 1) := by decide +kernel
theorem dX11_comes_66 : decode cX11_comes 66 = .ok (.aload_n 0, 1) := by decide +kernel
theorem dX11_comes_67 : decode cX11_comes 67 = .ok (.getfield 26, 3) := by decide +kernel
theorem dX11_comes_70 : decode cX11_comes 70 = .ok (.iload_n 1, 1) := by decide +kernel
theorem dX11_comes_71 : decode cX11_comes 71 = .ok (.aload_n 0, 1) := by decide +kernel
theorem dX11_comes_72 : decode cX11_comes 72 = .ok (.getfield 26, 3) := by decide +kernel
theorem dX11_comes_75 : decode cX11_comes 75 = .ok (.sipush 1300, 3) := by decide +kernel
theorem dX11_comes_78 : decode cX11_comes 78 = .ok (.iload_n 1, 1) := by decide +kernel
theorem dX11_comes_79 : decode cX11_comes 79 = .ok (.iadd, 1) := by decide +kernel
theorem dX11_comes_80 : decode cX11_comes 80 = .ok (.iaload, 1) := by decide +kernel
theorem dX11_comes_81 : decode cX11_comes 81 = .ok (.iastore, 1) := by decide +kernel
theorem dX11_comes_82 : decode cX11_comes 82 = .ok (.aload_n 0, 1) := by decide +kernel
theorem dX11_comes_83 : decode cX11_comes 83 = .ok (.getfield 29, 3) := by decide +kernel
theorem dX11_comes_86 : decode cX11_comes 86 = .ok (.iload_n 1, 1) := by decide +kernel
theorem dX11_comes_87 : decode cX11_comes 87 = .ok (.aload_n 0, 1) := by decide +kernel
theorem dX11_comes_88 : decode cX11_comes 88 = .ok (.getfield 29, 3) := by decide +kernel
theorem dX11_comes_91 : decode cX11_comes 91 = .ok (.sipush 1300, 3) := by decide +kernel
theorem dX11_comes_94 : decode cX11_comes 94 = .ok (.iload_n 1, 1) := by decide +kernel
theorem dX11_comes_95 : decode cX11_comes 95 = .ok (.iadd, 1) := by decide +kernel
theorem dX11_comes_96 : decode cX11_comes 96 = .ok (.iaload, 1) := by decide +kernel
theorem dX11_comes_97 : decode cX11_comes 97 = .ok (.iastore, 1) := by decide +kernel
theorem dX11_comes_98 : decode cX11_comes 98 = .ok (.iinc 1 1, 3) := by decide +kernel
theorem dX11_comes_101 : decode cX11_comes 101 = .ok (.goto (-91), 3) := by decide +kernel
theorem dX11_comes_104 : decode cX11_comes 104 = .ok (.iconst 0, 1) := by decide +kernel
theorem dX11_comes_105 : decode cX11_comes 105 = .ok (.istore_n 1, 1) := by decide +kernel
theorem dX11_comes_106 : decode cX11_comes 106 = .ok (.iload_n 1, 1) := by decide +kernel
theorem dX11_comes_107 : decode cX11_comes 107 = .ok (.bipush 8, 2) := by decide +kernel
theorem dX11_comes_109 : decode cX11_comes 109 = .ok (.if_icmp .ge 39, 3) := by decide +kernel
theorem dX11_comes_112 : decode cX11_comes 112 = .ok (.aload_n 0, 1) := by decide +kernel
theorem dX11_comes_113 : decode cX11_comes 113 = .ok (.getfield 32, 3) := by decide +kernel
theorem dX11_comes_116 : decode cX11_comes 116 = .ok (.iload_n 1, 1) := by decide +kernel
theorem dX11_comes_117 : decode cX11_comes 117 = .ok (.aload_n 0, 1) := by decide +kernel
theorem dX11_comes_118 : decode cX11_comes 118 = .ok (.getfield 32, 3) := by decide +kernel
theorem dX11_comes_121 : decode cX11_comes 121 = .ok (.bipush 8, 2) := by decide +kernel
theorem dX11_comes_123 : decode cX11_comes 123 = .ok (.iload_n 1, 1) := by decide +kernel
theorem dX11_comes_124 : decode cX11_comes 124 = .ok (.iadd, 1) := by decide +kernel
theorem dX11_comes_125 : decode cX11_comes 125 = .ok (.iaload, 1) := by decide +kernel
theorem dX11_comes_126 : decode cX11_comes 126 = .ok (.iastore, 1) := by decide +kernel
theorem dX11_comes_127 : decode cX11_comes 127 = .ok (.aload_n 0, 1) := by decide +kernel
theorem dX11_comes_128 : decode cX11_comes 128 = .ok (.getfield 35, 3) := by decide +kernel
theorem dX11_comes_131 : decode cX11_comes 131 = .ok (.iload_n 1, 1) := by decide +kernel
theorem dX11_comes_132 : decode cX11_comes 132 = .ok (.aload_n 0, 1) := by decide +kernel
theorem dX11_comes_133 : decode cX11_comes 133 = .ok (.getfield 35, 3) := by decide +kernel
theorem dX11_comes_136 : decode cX11_comes 136 = .ok (.bipush 8, 2) := by decide +kernel
theorem dX11_comes_138 : decode cX11_comes 138 = .ok (.iload_n 1, 1) := by decide +kernel
theorem dX11_comes_139 : decode cX11_comes 139 = .ok (.iadd, 1) := by decide +kernel
theorem dX11_comes_140 : decode cX11_comes 140 = .ok (.iaload, 1) := by decide +kernel
theorem dX11_comes_141 : decode cX11_comes 141 = .ok (.iastore, 1) := by decide +kernel
theorem dX11_comes_142 : decode cX11_comes 142 = .ok (.iinc 1 1, 3) := by decide +kernel
theorem dX11_comes_145 : decode cX11_comes 145 = .ok (.goto (-39), 3) := by decide +kernel
theorem dX11_comes_148 : decode cX11_comes 148 = .ok (.iconst 0, 1) := by decide +kernel
theorem dX11_comes_149 : decode cX11_comes 149 = .ok (.istore_n 1, 1) := by decide +kernel
theorem dX11_comes_150 : decode cX11_comes 150 = .ok (.iload_n 1, 1) := by decide +kernel
theorem dX11_comes_151 : decode cX11_comes 151 = .ok (.bipush 32, 2) := by decide +kernel
theorem dX11_comes_153 : decode cX11_comes 153 = .ok (.if_icmp .ge 24, 3) := by decide +kernel
theorem dX11_comes_156 : decode cX11_comes 156 = .ok (.aload_n 0, 1) := by decide +kernel
theorem dX11_comes_157 : decode cX11_comes 157 = .ok (.getfield 38, 3) := by decide +kernel
theorem dX11_comes_160 : decode cX11_comes 160 = .ok (.iload_n 1, 1) := by decide +kernel
theorem dX11_comes_161 : decode cX11_comes 161 = .ok (.aload_n 0, 1) := by decide +kernel
theorem dX11_comes_162 : decode cX11_comes 162 = .ok (.getfield 38, 3) := by decide +kernel
theorem dX11_comes_165 : decode cX11_comes 165 = .ok (.bipush 32, 2) := by decide +kernel
theorem dX11_comes_167 : decode cX11_comes 167 = .ok (.iload_n 1, 1) := by decide +kernel
theorem dX11_comes_168 : decode cX11_comes 168 = .ok (.iadd, 1) := by decide +kernel
theorem dX11_comes_169 : decode cX11_comes 169 = .ok (.iaload, 1) := by decide +kernel
theorem dX11_comes_170 : decode cX11_comes 170 = .ok (.iastore, 1) := by decide +kernel
theorem dX11_comes_171 : decode cX11_comes 171 = .ok (.iinc 1 1, 3) := by decide +kernel
theorem dX11_comes_174 : decode cX11_comes 174 = .ok (.goto (-24), 3) := by decide +kernel
theorem dX11_comes_177 : decode cX11_comes 177 = .ok (.aload_n 0, 1) := by decide +kernel
theorem dX11_comes_178 : decode cX11_comes 178 = .ok (.getfield 41, 3) := by decide +kernel
theorem dX11_comes_181 : decode cX11_comes 181 = .ok (.iconst 0, 1) := by decide +kernel
theorem dX11_comes_182 : decode cX11_comes 182 = .ok (.aload_n 0, 1) := by decide +kernel
theorem dX11_comes_183 : decode cX11_comes 183 = .ok (.getfield 41, 3) := by decide +kernel
theorem dX11_comes_186 : decode cX11_comes 186 = .ok (.iconst 1, 1) := by decide +kernel
theorem dX11_comes_187 : decode cX11_comes 187 = .ok (.iaload, 1) := by decide +kernel
theorem dX11_comes_188 : decode cX11_comes 188 = .ok (.iastore, 1) := by decide +kernel
theorem dX11_comes_189 : decode cX11_comes 189 = .ok (.iconst 0, 1) := by decide +kernel
theorem dX11_comes_190 : decode cX11_comes 190 = .ok (.istore_n 1, 1) := by decide +kernel
theorem dX11_comes_191 : decode cX11_comes 191 = .ok (.iload_n 1, 1) := by decide +kernel
theorem dX11_comes_192 : decode cX11_comes 192 = .ok (.bipush 41, 2) := by decide +kernel
theorem dX11_comes_194 : decode cX11_comes 194 = .ok (.if_icmp .ge 54, 3) := by decide +kernel
theorem dX11_comes_197 : decode cX11_comes 197 = .ok (.aload_n 0, 1) := by decide +kernel
theorem dX11_comes_198 : decode cX11_comes 198 = .ok (.getfield 44, 3) := by decide +kernel
theorem dX11_comes_201 : decode cX11_comes 201 = .ok (.iload_n 1, 1) := by decide +kernel
theorem dX11_comes_202 : decode cX11_comes 202 = .ok (.aload_n 0, 1) := by decide +kernel
theorem dX11_comes_203 : decode cX11_comes 203 = .ok (.getfield 44, 3) := by decide +kernel
theorem dX11_comes_206 : decode cX11_comes 206 = .ok (.bipush 41, 2) := by decide +kernel
theorem dX11_comes_208 : decode cX11_comes 208 = .ok (.iload_n 1, 1) := by decide +kernel
theorem dX11_comes_209 : decode cX11_comes 209 = .ok (.iadd, 1) := by decide +kernel
theorem dX11_comes_210 : decode cX11_comes 210 = .ok (.iaload, 1) := by decide +kernel
theorem dX11_comes_211 : decode cX11_comes 211 = .ok (.iastore, 1) := by decide +kernel
theorem dX11_comes_212 : decode cX11_comes 212 = .ok (.aload_n 0, 1) := by decide +kernel
theorem dX11_comes_213 : decode cX11_comes 213 = .ok (.getfield 47, 3) := by decide +kernel
theorem dX11_comes_216 : decode cX11_comes 216 = .ok (.iload_n 1, 1) := by decide +kernel
theorem dX11_comes_217 : decode cX11_comes 217 = .ok (.aload_n 0, 1) := by decide +kernel
theorem dX11_comes_218 : decode cX11_comes 218 = .ok (.getfield 47, 3) := by decide +kernel
theorem dX11_comes_221 : decode cX11_comes 221 = .ok (.bipush 41, 2) := by decide +kernel
theorem dX11_comes_223 : decode cX11_comes 223 = .ok (.iload_n 1, 1) := by decide +kernel
theorem dX11_comes_224 : decode cX11_comes 224 = .ok (.iadd, 1) := by decide +kernel
theorem dX11_comes_225 : decode cX11_comes 225 = .ok (.iaload, 1) := by decide +kernel
theorem dX11_comes_226 : decode cX11_comes 226 = .ok (.iastore, 1) := by decide +kernel
theorem dX11_comes_227 : decode cX11_comes 227 = .ok (.aload_n 0, 1) := by decide +kernel
theorem dX11_comes_228 : decode cX11_comes 228 = .ok (.getfield 50, 3) := by decide +kernel
theorem dX11_comes_231 : decode cX11_comes 231 = .ok (.iload_n 1, 1) := by decide +kernel
theorem dX11_comes_232 : decode cX11_comes 232 = .ok (.aload_n 0, 1) := by decide +kernel
theorem dX11_comes_233 : decode cX11_comes 233 = .ok (.getfield 50, 3) := by decide +kernel
theorem dX11_comes_236 : decode cX11_comes 236 = .ok (.bipush 41, 2) := by decide +kernel
theorem dX11_comes_238 : decode cX11_comes 238 = .ok (.iload_n 1, 1) := by decide +kernel
theorem dX11_comes_239 : decode cX11_comes 239 = .ok (.iadd, 1) := by decide +kernel
theorem dX11_comes_240 : decode cX11_comes 240 = .ok (.iaload, 1) := by decide +kernel
theorem dX11_comes_241 : decode cX11_comes 241 = .ok (.iastore, 1) := by decide +kernel
theorem dX11_comes_242 : decode cX11_comes 242 = .ok (.iinc 1 1, 3) := by decide +kernel
theorem dX11_comes_245 : decode cX11_comes 245 = .ok (.goto (-54), 3) := by decide +kernel
theorem dX11_comes_248 : decode cX11_comes 248 = .ok (.aload_n 0, 1) := by decide +kernel
theorem dX11_comes_249 : decode cX11_comes 249 = .ok (.getfield 53, 3) := by decide +kernel
theorem dX11_comes_252 : decode cX11_comes 252 = .ok (.iconst 0, 1) := by decide +kernel
theorem dX11_comes_253 : decode cX11_comes 253 = .ok (.aload_n 0, 1) := by decide +kernel
theorem dX11_comes_254 : decode cX11_comes 254 = .ok (.getfield 53, 3) := by decide +kernel
theorem dX11_comes_257 : decode cX11_comes 257 = .ok (.iconst 1, 1) := by decide +kernel
theorem dX11_comes_258 : decode cX11_comes 258 = .ok (.iaload, 1) := by decide +kernel
theorem dX11_comes_259 : decode cX11_comes 259 = .ok (.iastore, 1) := by decide +kernel
theorem dX11_comes_260 : decode cX11_comes 260 = .ok (.iconst 0, 1) := by decide +kernel
theorem dX11_comes_261 : decode cX11_comes 261 = .ok (.istore_n 1, 1) := by decide +kernel
theorem dX11_comes_262 : decode cX11_comes 262 = .ok (.iload_n 1, 1) := by decide +kernel
theorem dX11_comes_263 : decode cX11_comes 263 = .ok (.bipush 25, 2) := by decide +kernel
theorem dX11_comes_265 : decode cX11_comes 265 = .ok (.if_icmp .ge 39, 3) := by decide +kernel
theorem dX11_comes_268 : decode cX11_comes 268 = .ok (.aload_n 0, 1) := by decide +kernel
theorem dX11_comes_269 : decode cX11_comes 269 = .ok (.getfield 56, 3) := by decide +kernel
theorem dX11_comes_272 : decode cX11_comes 272 = .ok (.iload_n 1, 1) := by decide +kernel
theorem dX11_comes_273 : decode cX11_comes 273 = .ok (.aload_n 0, 1) := by decide +kernel
theorem dX11_comes_274 : decode cX11_comes 274 = .ok (.getfield 56, 3) := by decide +kernel
theorem dX11_comes_277 : decode cX11_comes 277 = .ok (.bipush 25, 2) := by decide +kernel
theorem dX11_comes_279 : decode cX11_comes 279 = .ok (.iload_n 1, 1) := by decide +kernel
theorem dX11_comes_280 : decode cX11_comes 280 = .ok (.iadd, 1) := by decide +kernel
theorem dX11_comes_281 : decode cX11_comes 281 = .ok (.iaload, 1) := by decide +kernel
theorem dX11_comes_282 : decode cX11_comes 282 = .ok (.iastore, 1) := by decide +kernel
theorem dX11_comes_283 : decode cX11_comes 283 = .ok (.aload_n 0, 1) := by decide +kernel
theorem dX11_comes_284 : decode cX11_comes 284 = .ok (.getfield 59, 3) := by decide +kernel
theorem dX11_comes_287 : decode cX11_comes 287 = .ok (.iload_n 1, 1) := by decide +kernel
theorem dX11_comes_288 : decode cX11_comes 288 = .ok (.aload_n 0, 1) := by decide +kernel
theorem dX11_comes_289 : decode cX11_comes 289 = .ok (.getfield 59, 3) := by decide +kernel
theorem dX11_comes_292 : decode cX11_comes 292 = .ok (.bipush 25, 2) := by decide +kernel
theorem dX11_comes_294 : decode cX11_comes 294 = .ok (.iload_n 1, 1) := by decide +kernel
theorem dX11_comes_295 : decode cX11_comes 295 = .ok (.iadd, 1) := by decide +kernel
theorem dX11_comes_296 : decode cX11_comes 296 = .ok (.iaload, 1) := by decide +kernel
theorem dX11_comes_297 : decode cX11_comes 297 = .ok (.iastore, 1) := by decide +kernel
theorem dX11_comes_298 : decode cX11_comes 298 = .ok (.iinc 1 1, 3) := by decide +kernel
theorem dX11_comes_301 : decode cX11_comes 301 = .ok (.goto (-39), 3) := by decide +kernel
theorem dX11_comes_304 : decode cX11_comes 304 = .ok (.aload_n 0, 1) := by decide +kernel
theorem dX11_comes_305 : decode cX11_comes 305 = .ok (.getfield 62, 3) := by decide +kernel
theorem dX11_comes_308 : decode cX11_comes 308 = .ok (.iconst 0, 1) := by decide +kernel
theorem dX11_comes_309 : decode cX11_comes 309 = .ok (.aload_n 0, 1) := by decide +kernel
theorem dX11_comes_310 : decode cX11_comes 310 = .ok (.getfield 62, 3) := by decide +kernel
theorem dX11_comes_313 : decode cX11_comes 313 = .ok (.iconst 1, 1) := by decide +kernel
theorem dX11_comes_314 : decode cX11_comes 314 = .ok (.iaload, 1) := by decide +kernel
theorem dX11_comes_315 : decode cX11_comes 315 = .ok (.iastore, 1) := by decide +kernel
theorem dX11_comes_316 : decode cX11_comes 316 = .ok (.aload_n 0, 1) := by decide +kernel
theorem dX11_comes_317 : decode cX11_comes 317 = .ok (.aload_n 0, 1) := by decide +kernel
theorem dX11_comes_318 : decode cX11_comes 318 = .ok (.getfield 41, 3) := by decide +kernel
theorem dX11_comes_321 : decode cX11_comes 321 = .ok (.iconst 0, 1) := by decide +kernel
theorem dX11_comes_322 : decode cX11_comes 322 = .ok (.iaload, 1) := by decide +kernel
theorem dX11_comes_323 : decode cX11_comes 323 = .ok (.invokevirtual 254, 3) := by decide +kernel
theorem dX11_comes_326 : decode cX11_comes 326 = .ok (.return_, 1) := by decide +kernel
theorem dX11_routinesMany_0 : decode cX11_routinesMany 0 = .ok (.iconst 0, 1) := by decide +kernel
theorem dX11_routinesMany_1 : decode cX11_routinesMany 1 = .ok (.istore_n 1, 1) := by decide +kernel
theorem dX11_routinesMany_2 : decode cX11_routinesMany 2 = .ok (.iconst 0, 1) := by decide +kernel
theorem dX11_routinesMany_3 : decode cX11_routinesMany 3 = .ok (.istore_n 2, 1) := by decide +kernel
theorem dX11_routinesMany_4 : decode cX11_routinesMany 4 = .ok (.iload_n 2, 1) := by decide +kernel
theorem dX11_routinesMany_5 : decode cX11_routinesMany 5 = .ok (.bipush 8, 2) := by decide +kernel
theorem dX11_routinesMany_7 : decode cX11_routinesMany 7 = .ok (.if_icmp .ge 27, 3) := by decide +kernel
theorem dX11_routinesMany_10 : decode cX11_routinesMany 10 = .ok (.iload_n 1, 1) := by decide +kernel
theorem dX11_routinesMany_11 : decode cX11_routinesMany 11 = .ok (.aload_n 0, 1) := by decide +kernel
theorem dX11_routinesMany_12 : decode cX11_routinesMany 12 = .ok (.getfield 32, 3) := by decide +kernel
theorem dX11_routinesMany_15 : decode cX11_routinesMany 15 = .ok (.iload_n 2, 1) := by decide +kernel
theorem dX11_routinesMany_16 : decode cX11_routinesMany 16 = .ok (.iaload, 1) := by decide +kernel
theorem dX11_routinesMany_17 : decode cX11_routinesMany 17 = .ok (.iconst (-1), 1) := by decide +kernel
theorem dX11_routinesMany_18 : decode cX11_routinesMany 18 = .ok (.if_icmp .ne 7, 3) := by decide +kernel
theorem dX11_routinesMany_21 : decode cX11_routinesMany 21 = .ok (.iconst 0, 1) := by decide +kernel
theorem dX11_routinesMany_22 : decode cX11_routinesMany 22 = .ok (.goto 4, 3) := by decide +kernel
theorem dX11_routinesMany_25 : decode cX11_routinesMany 25 = .ok (.iconst 1, 1) := by decide +kernel
theorem dX11_routinesMany_26 : decode cX11_routinesMany 26 = .ok (.iadd, 1) := by decide +kernel
theorem dX11_routinesMany_27 : decode cX11_routinesMany 27 = .ok (.istore_n 1, 1) := by decide +kernel
theorem dX11_routinesMany_28 : decode cX11_routinesMany 28 = .ok (.iinc 2 1, 3) := by decide +kernel
theorem dX11_routinesMany_31 : decode cX11_routinesMany 31 = .ok (.goto (-27), 3) := by decide +kernel
theorem dX11_routinesMany_34 : decode cX11_routinesMany 34 = .ok (.iload_n 1, 1) := by decide +kernel
theorem dX11_routinesMany_35 : decode cX11_routinesMany 35 = .ok (.ireturn, 1) := by decide +kernel
theorem dX11_fault_0 : decode cX11_fault 0 = .ok (.aload_n 0, 1) := by decide +kernel
theorem dX11_fault_1 : decode cX11_fault 1 = .ok (.iconst 0, 1) := by decide +kernel
theorem dX11_fault_2 : decode cX11_fault 2 = .ok (.putfield 121, 3) := by decide +kernel
theorem dX11_fault_5 : decode cX11_fault 5 = .ok (.iload_n 1, 1) := by decide +kernel
theorem dX11_fault_6 : decode cX11_fault 6 = .ok (.ifCond .ne 10, 3) := by decide +kernel
theorem dX11_fault_9 : decode cX11_fault 9 = .ok (.aload_n 0, 1) := by decide +kernel
theorem dX11_fault_10 : decode cX11_fault 10 = .ok (.getfield 242, 3) := by decide +kernel
theorem dX11_fault_13 : decode cX11_fault 13 = .ok (.goto 16, 3) := by decide +kernel
theorem dX11_fault_16 : decode cX11_fault 16 = .ok (.iload_n 1, 1) := by decide +kernel
theorem dX11_fault_17 : decode cX11_fault 17 = .ok (.iconst 1, 1) := by decide +kernel
theorem dX11_fault_18 : decode cX11_fault 18 = .ok (.if_icmp .ne 10, 3) := by decide +kernel
theorem dX11_fault_21 : decode cX11_fault 21 = .ok (.aload_n 0, 1) := by decide +kernel
theorem dX11_fault_22 : decode cX11_fault 22 = .ok (.getfield 13, 3) := by decide +kernel
theorem dX11_fault_25 : decode cX11_fault 25 = .ok (.goto 4, 3) := by decide +kernel
theorem dX11_fault_28 : decode cX11_fault 28 = .ok (.iconst (-1), 1) := by decide +kernel
theorem dX11_fault_29 : decode cX11_fault 29 = .ok (.ireturn, 1) := by decide +kernel
theorem dX11_enters_0 : decode cX11_enters 0 = .ok (.aload_n 0, 1) := by decide +kernel
theorem dX11_enters_1 : decode cX11_enters 1 = .ok (.iload_n 1, 1) := by decide +kernel
theorem dX11_enters_2 : decode cX11_enters 2 = .ok (.putfield 83, 3) := by decide +kernel
theorem dX11_enters_5 : decode cX11_enters 5 = .ok (.iconst 0, 1) := by decide +kernel
theorem dX11_enters_6 : decode cX11_enters 6 = .ok (.istore_n 2, 1) := by decide +kernel
theorem dX11_enters_7 : decode cX11_enters 7 = .ok (.iload_n 2, 1) := by decide +kernel
theorem dX11_enters_8 : decode cX11_enters 8 = .ok (.iconst 4, 1) := by decide +kernel
theorem dX11_enters_9 : decode cX11_enters 9 = .ok (.if_icmp .ge 16, 3) := by decide +kernel
theorem dX11_enters_12 : decode cX11_enters 12 = .ok (.aload_n 0, 1) := by decide +kernel
theorem dX11_enters_13 : decode cX11_enters 13 = .ok (.getfield 86, 3) := by decide +kernel
theorem dX11_enters_16 : decode cX11_enters 16 = .ok (.iload_n 2, 1) := by decide +kernel
theorem dX11_enters_17 : decode cX11_enters 17 = .ok (.iconst 3, 1) := by decide +kernel
theorem dX11_enters_18 : decode cX11_enters 18 = .ok (.iastore, 1) := by decide +kernel
theorem dX11_enters_19 : decode cX11_enters 19 = .ok (.iinc 2 1, 3) := by decide +kernel
theorem dX11_enters_22 : decode cX11_enters 22 = .ok (.goto (-15), 3) := by decide +kernel
theorem dX11_enters_25 : decode cX11_enters 25 = .ok (.return_, 1) := by decide +kernel
theorem dX11_entry_0 : decode cX11_entry 0 = .ok (.aload_n 0, 1) := by decide +kernel
theorem dX11_entry_1 : decode cX11_entry 1 = .ok (.iconst 0, 1) := by decide +kernel
theorem dX11_entry_2 : decode cX11_entry 2 = .ok (.putfield 121, 3) := by decide +kernel
theorem dX11_entry_5 : decode cX11_entry 5 = .ok (.iload_n 1, 1) := by decide +kernel
theorem dX11_entry_6 : decode cX11_entry 6 = .ok (.ifCond .lt 19, 3) := by decide +kernel
theorem dX11_entry_9 : decode cX11_entry 9 = .ok (.iload_n 1, 1) := by decide +kernel
theorem dX11_entry_10 : decode cX11_entry 10 = .ok (.bipush 7, 2) := by decide +kernel
theorem dX11_entry_12 : decode cX11_entry 12 = .ok (.if_icmp .gt 13, 3) := by decide +kernel
theorem dX11_entry_15 : decode cX11_entry 15 = .ok (.aload_n 0, 1) := by decide +kernel
theorem dX11_entry_16 : decode cX11_entry 16 = .ok (.getfield 32, 3) := by decide +kernel
theorem dX11_entry_19 : decode cX11_entry 19 = .ok (.iload_n 1, 1) := by decide +kernel
theorem dX11_entry_20 : decode cX11_entry 20 = .ok (.iaload, 1) := by decide +kernel
theorem dX11_entry_21 : decode cX11_entry 21 = .ok (.iconst (-1), 1) := by decide +kernel
theorem dX11_entry_22 : decode cX11_entry 22 = .ok (.if_icmp .ne 5, 3) := by decide +kernel
theorem dX11_entry_25 : decode cX11_entry 25 = .ok (.iconst 0, 1) := by decide +kernel
theorem dX11_entry_26 : decode cX11_entry 26 = .ok (.ireturn, 1) := by decide +kernel
theorem dX11_entry_27 : decode cX11_entry 27 = .ok (.aload_n 0, 1) := by decide +kernel
theorem dX11_entry_28 : decode cX11_entry 28 = .ok (.iload_n 1, 1) := by decide +kernel
theorem dX11_entry_29 : decode cX11_entry 29 = .ok (.invokevirtual 254, 3) := by decide +kernel
theorem dX11_entry_32 : decode cX11_entry 32 = .ok (.iconst 1, 1) := by decide +kernel
theorem dX11_entry_33 : decode cX11_entry 33 = .ok (.ireturn, 1) := by decide +kernel
theorem dX11_outer_0 : decode cX11_outer 0 = .ok (.aload_n 0, 1) := by decide +kernel
theorem dX11_outer_1 : decode cX11_outer 1 = .ok (.iconst 0, 1) := by decide +kernel
theorem dX11_outer_2 : decode cX11_outer 2 = .ok (.putfield 121, 3) := by decide +kernel
theorem dX11_outer_5 : decode cX11_outer 5 = .ok (.aload_n 0, 1) := by decide +kernel
theorem dX11_outer_6 : decode cX11_outer 6 = .ok (.getfield 83, 3) := by decide +kernel
theorem dX11_outer_9 : decode cX11_outer 9 = .ok (.iconst (-1), 1) := by decide +kernel
theorem dX11_outer_10 : decode cX11_outer 10 = .ok (.if_icmp .eq 30, 3) := by decide +kernel
theorem dX11_outer_13 : decode cX11_outer 13 = .ok (.iload_n 1, 1) := by decide +kernel
theorem dX11_outer_14 : decode cX11_outer 14 = .ok (.ifCond .lt 26, 3) := by decide +kernel
theorem dX11_outer_17 : decode cX11_outer 17 = .ok (.iload_n 1, 1) := by decide +kernel
theorem dX11_outer_18 : decode cX11_outer 18 = .ok (.aload_n 0, 1) := by decide +kernel
theorem dX11_outer_19 : decode cX11_outer 19 = .ok (.getfield 35, 3) := by decide +kernel
theorem dX11_outer_22 : decode cX11_outer 22 = .ok (.aload_n 0, 1) := by decide +kernel
theorem dX11_outer_23 : decode cX11_outer 23 = .ok (.getfield 83, 3) := by decide +kernel
theorem dX11_outer_26 : decode cX11_outer 26 = .ok (.iaload, 1) := by decide +kernel
theorem dX11_outer_27 : decode cX11_outer 27 = .ok (.if_icmp .ge 13, 3) := by decide +kernel
theorem dX11_outer_30 : decode cX11_outer 30 = .ok (.iload_n 2, 1) := by decide +kernel
theorem dX11_outer_31 : decode cX11_outer 31 = .ok (.iconst 1, 1) := by decide +kernel
theorem dX11_outer_32 : decode cX11_outer 32 = .ok (.if_icmp .lt 8, 3) := by decide +kernel
theorem dX11_outer_35 : decode cX11_outer 35 = .ok (.iload_n 2, 1) := by decide +kernel
theorem dX11_outer_36 : decode cX11_outer 36 = .ok (.iconst 3, 1) := by decide +kernel
theorem dX11_outer_37 : decode cX11_outer 37 = .ok (.if_icmp .le 5, 3) := by decide +kernel
theorem dX11_outer_40 : decode cX11_outer 40 = .ok (.iconst 0, 1) := by decide +kernel
theorem dX11_outer_41 : decode cX11_outer 41 = .ok (.ireturn, 1) := by decide +kernel
theorem dX11_outer_42 : decode cX11_outer 42 = .ok (.aload_n 0, 1) := by decide +kernel
theorem dX11_outer_43 : decode cX11_outer 43 = .ok (.getfield 86, 3) := by decide +kernel
theorem dX11_outer_46 : decode cX11_outer 46 = .ok (.iload_n 1, 1) := by decide +kernel
theorem dX11_outer_47 : decode cX11_outer 47 = .ok (.iload_n 2, 1) := by decide +kernel
theorem dX11_outer_48 : decode cX11_outer 48 = .ok (.iastore, 1) := by decide +kernel
theorem dX11_outer_49 : decode cX11_outer 49 = .ok (.iconst 1, 1) := by decide +kernel
theorem dX11_outer_50 : decode cX11_outer 50 = .ok (.ireturn, 1) := by decide +kernel
theorem dX11_factOf_0 : decode cX11_factOf 0 = .ok (.lload_n 0, 1) := by decide +kernel
theorem dX11_factOf_1 : decode cX11_factOf 1 = .ok (.iconst 2, 1) := by decide +kernel
theorem dX11_factOf_2 : decode cX11_factOf 2 = .ok (.iload_n 2, 1) := by decide +kernel
theorem dX11_factOf_3 : decode cX11_factOf 3 = .ok (.imul, 1) := by decide +kernel
theorem dX11_factOf_4 : decode cX11_factOf 4 = .ok (.lshr, 1) := by decide +kernel
theorem dX11_factOf_5 : decode cX11_factOf 5 = .ok (.l2i, 1) := by decide +kernel
theorem dX11_factOf_6 : decode cX11_factOf 6 = .ok (.iconst 3, 1) := by decide +kernel
theorem dX11_factOf_7 : decode cX11_factOf 7 = .ok (.iand, 1) := by decide +kernel
theorem dX11_factOf_8 : decode cX11_factOf 8 = .ok (.ireturn, 1) := by decide +kernel
theorem dX11_with_0 : decode cX11_with 0 = .ok (.lload_n 0, 1) := by decide +kernel
theorem dX11_with_1 : decode cX11_with 1 = .ok (.ldc2_w 257, 3) := by decide +kernel
theorem dX11_with_4 : decode cX11_with 4 = .ok (.iconst 2, 1) := by decide +kernel
theorem dX11_with_5 : decode cX11_with 5 = .ok (.iload_n 2, 1) := by decide +kernel
theorem dX11_with_6 : decode cX11_with 6 = .ok (.imul, 1) := by decide +kernel
theorem dX11_with_7 : decode cX11_with 7 = .ok (.lshl, 1) := by decide +kernel
theorem dX11_with_8 : decode cX11_with 8 = .ok (.ldc2_w 259, 3) := by decide +kernel
theorem dX11_with_11 : decode cX11_with 11 = .ok (.lxor, 1) := by decide +kernel
theorem dX11_with_12 : decode cX11_with 12 = .ok (.land, 1) := by decide +kernel
theorem dX11_with_13 : decode cX11_with 13 = .ok (.iload_n 3, 1) := by decide +kernel
theorem dX11_with_14 : decode cX11_with 14 = .ok (.i2l, 1) := by decide +kernel
theorem dX11_with_15 : decode cX11_with 15 = .ok (.iconst 2, 1) := by decide +kernel
theorem dX11_with_16 : decode cX11_with 16 = .ok (.iload_n 2, 1) := by decide +kernel
theorem dX11_with_17 : decode cX11_with 17 = .ok (.imul, 1) := by decide +kernel
theorem dX11_with_18 : decode cX11_with 18 = .ok (.lshl, 1) := by decide +kernel
theorem dX11_with_19 : decode cX11_with 19 = .ok (.lor, 1) := by decide +kernel
theorem dX11_with_20 : decode cX11_with 20 = .ok (.lreturn, 1) := by decide +kernel
theorem dX11_puts_0 : decode cX11_puts 0 = .ok (.aload_n 0, 1) := by decide +kernel
theorem dX11_puts_1 : decode cX11_puts 1 = .ok (.getfield 96, 3) := by decide +kernel
theorem dX11_puts_4 : decode cX11_puts 4 = .ok (.iload_n 1, 1) := by decide +kernel
theorem dX11_puts_5 : decode cX11_puts 5 = .ok (.baload, 1) := by decide +kernel
theorem dX11_puts_6 : decode cX11_puts 6 = .ok (.ifCond .eq 9, 3) := by decide +kernel
theorem dX11_puts_9 : decode cX11_puts 9 = .ok (.iload_n 2, 1) := by decide +kernel
theorem dX11_puts_10 : decode cX11_puts 10 = .ok (.iconst 2, 1) := by decide +kernel
theorem dX11_puts_11 : decode cX11_puts 11 = .ok (.iand, 1) := by decide +kernel
theorem dX11_puts_12 : decode cX11_puts 12 = .ok (.goto 4, 3) := by decide +kernel
theorem dX11_puts_15 : decode cX11_puts 15 = .ok (.iload_n 2, 1) := by decide +kernel
theorem dX11_puts_16 : decode cX11_puts 16 = .ok (.istore_n 3, 1) := by decide +kernel
theorem dX11_puts_17 : decode cX11_puts 17 = .ok (.aload_n 0, 1) := by decide +kernel
theorem dX11_puts_18 : decode cX11_puts 18 = .ok (.getfield 93, 3) := by decide +kernel
theorem dX11_puts_21 : decode cX11_puts 21 = .ok (.iload_n 1, 1) := by decide +kernel
theorem dX11_puts_22 : decode cX11_puts 22 = .ok (.iaload, 1) := by decide +kernel
theorem dX11_puts_23 : decode cX11_puts 23 = .ok (.iload_n 3, 1) := by decide +kernel
theorem dX11_puts_24 : decode cX11_puts 24 = .ok (.ior, 1) := by decide +kernel
theorem dX11_puts_25 : decode cX11_puts 25 = .ok (.aload_n 0, 1) := by decide +kernel
theorem dX11_puts_26 : decode cX11_puts 26 = .ok (.getfield 93, 3) := by decide +kernel
theorem dX11_puts_29 : decode cX11_puts 29 = .ok (.iload_n 1, 1) := by decide +kernel
theorem dX11_puts_30 : decode cX11_puts 30 = .ok (.iaload, 1) := by decide +kernel
theorem dX11_puts_31 : decode cX11_puts 31 = .ok (.if_icmp .ne 4, 3) := by decide +kernel
theorem dX11_puts_34 : decode cX11_puts 34 = .ok (.return_, 1) := by decide +kernel
theorem dX11_puts_35 : decode cX11_puts 35 = .ok (.aload_n 0, 1) := by decide +kernel
theorem dX11_puts_36 : decode cX11_puts 36 = .ok (.getfield 93, 3) := by decide +kernel
theorem dX11_puts_39 : decode cX11_puts 39 = .ok (.iload_n 1, 1) := by decide +kernel
theorem dX11_puts_40 : decode cX11_puts 40 = .ok (.dup2, 1) := by decide +kernel
theorem dX11_puts_41 : decode cX11_puts 41 = .ok (.iaload, 1) := by decide +kernel
theorem dX11_puts_42 : decode cX11_puts 42 = .ok (.iload_n 3, 1) := by decide +kernel
theorem dX11_puts_43 : decode cX11_puts 43 = .ok (.ior, 1) := by decide +kernel
theorem dX11_puts_44 : decode cX11_puts 44 = .ok (.iastore, 1) := by decide +kernel
theorem dX11_puts_45 : decode cX11_puts 45 = .ok (.aload_n 0, 1) := by decide +kernel
theorem dX11_puts_46 : decode cX11_puts 46 = .ok (.iconst 1, 1) := by decide +kernel
theorem dX11_puts_47 : decode cX11_puts 47 = .ok (.putfield 261, 3) := by decide +kernel
theorem dX11_puts_50 : decode cX11_puts 50 = .ok (.return_, 1) := by decide +kernel
theorem dX11_flows_0 : decode cX11_flows 0 = .ok (.aload_n 0, 1) := by decide +kernel
theorem dX11_flows_1 : decode cX11_flows 1 = .ok (.getfield 89, 3) := by decide +kernel
theorem dX11_flows_4 : decode cX11_flows 4 = .ok (.iload_n 1, 1) := by decide +kernel
theorem dX11_flows_5 : decode cX11_flows 5 = .ok (.laload, 1) := by decide +kernel
theorem dX11_flows_6 : decode cX11_flows 6 = .ok (.lload_n 2, 1) := by decide +kernel
theorem dX11_flows_7 : decode cX11_flows 7 = .ok (.lor, 1) := by decide +kernel
theorem dX11_flows_8 : decode cX11_flows 8 = .ok (.lstore 4, 2) := by decide +kernel
theorem dX11_flows_10 : decode cX11_flows 10 = .ok (.lload 4, 2) := by decide +kernel
theorem dX11_flows_12 : decode cX11_flows 12 = .ok (.aload_n 0, 1) := by decide +kernel
theorem dX11_flows_13 : decode cX11_flows 13 = .ok (.getfield 89, 3) := by decide +kernel
theorem dX11_flows_16 : decode cX11_flows 16 = .ok (.iload_n 1, 1) := by decide +kernel
theorem dX11_flows_17 : decode cX11_flows 17 = .ok (.laload, 1) := by decide +kernel
theorem dX11_flows_18 : decode cX11_flows 18 = .ok (.lcmp, 1) := by decide +kernel
theorem dX11_flows_19 : decode cX11_flows 19 = .ok (.ifCond .ne 4, 3) := by decide +kernel
theorem dX11_flows_22 : decode cX11_flows 22 = .ok (.return_, 1) := by decide +kernel
theorem dX11_flows_23 : decode cX11_flows 23 = .ok (.aload_n 0, 1) := by decide +kernel
theorem dX11_flows_24 : decode cX11_flows 24 = .ok (.getfield 89, 3) := by decide +kernel
theorem dX11_flows_27 : decode cX11_flows 27 = .ok (.iload_n 1, 1) := by decide +kernel
theorem dX11_flows_28 : decode cX11_flows 28 = .ok (.lload 4, 2) := by decide +kernel
theorem dX11_flows_30 : decode cX11_flows 30 = .ok (.lastore, 1) := by decide +kernel
theorem dX11_flows_31 : decode cX11_flows 31 = .ok (.aload_n 0, 1) := by decide +kernel
theorem dX11_flows_32 : decode cX11_flows 32 = .ok (.iconst 1, 1) := by decide +kernel
theorem dX11_flows_33 : decode cX11_flows 33 = .ok (.putfield 261, 3) := by decide +kernel
theorem dX11_flows_36 : decode cX11_flows 36 = .ok (.return_, 1) := by decide +kernel
theorem dX11_begins_0 : decode cX11_begins 0 = .ok (.ldc2_w 265, 3) := by decide +kernel
theorem dX11_begins_3 : decode cX11_begins 3 = .ok (.lstore_n 2, 1) := by decide +kernel
theorem dX11_begins_4 : decode cX11_begins 4 = .ok (.iconst 0, 1) := by decide +kernel
theorem dX11_begins_5 : decode cX11_begins 5 = .ok (.istore 4, 2) := by decide +kernel
theorem dX11_begins_7 : decode cX11_begins 7 = .ok (.iload 4, 2) := by decide +kernel
theorem dX11_begins_9 : decode cX11_begins 9 = .ok (.bipush 26, 2) := by decide +kernel
theorem dX11_begins_11 : decode cX11_begins 11 = .ok (.if_icmp .ge 17, 3) := by decide +kernel
theorem dX11_begins_14 : decode cX11_begins 14 = .ok (.lload_n 2, 1) := by decide +kernel
theorem dX11_begins_15 : decode cX11_begins 15 = .ok (.iload 4, 2) := by decide +kernel
theorem dX11_begins_17 : decode cX11_begins 17 = .ok (.iconst 1, 1) := by decide +kernel
theorem dX11_begins_18 : decode cX11_begins 18 = .ok (.invokestatic 267, 3) := by decide +kernel
theorem dX11_begins_21 : decode cX11_begins 21 = .ok (.lstore_n 2, 1) := by decide +kernel
theorem dX11_begins_22 : decode cX11_begins 22 = .ok (.iinc 4 1, 3) := by decide +kernel
theorem dX11_begins_25 : decode cX11_begins 25 = .ok (.goto (-18), 3) := by decide +kernel
theorem dX11_begins_28 : decode cX11_begins 28 = .ok (.lload_n 2, 1) := by decide +kernel
theorem dX11_begins_29 : decode cX11_begins 29 = .ok (.bipush 26, 2) := by decide +kernel
theorem dX11_begins_31 : decode cX11_begins 31 = .ok (.iconst 1, 1) := by decide +kernel
theorem dX11_begins_32 : decode cX11_begins 32 = .ok (.invokestatic 267, 3) := by decide +kernel
theorem dX11_begins_35 : decode cX11_begins 35 = .ok (.lstore_n 2, 1) := by decide +kernel
theorem dX11_begins_36 : decode cX11_begins 36 = .ok (.iconst 0, 1) := by decide +kernel
theorem dX11_begins_37 : decode cX11_begins 37 = .ok (.istore 4, 2) := by decide +kernel
theorem dX11_begins_39 : decode cX11_begins 39 = .ok (.iload 4, 2) := by decide +kernel
theorem dX11_begins_41 : decode cX11_begins 41 = .ok (.aload_n 0, 1) := by decide +kernel
theorem dX11_begins_42 : decode cX11_begins 42 = .ok (.getfield 35, 3) := by decide +kernel
theorem dX11_begins_45 : decode cX11_begins 45 = .ok (.iload_n 1, 1) := by decide +kernel
theorem dX11_begins_46 : decode cX11_begins 46 = .ok (.iaload, 1) := by decide +kernel
theorem dX11_begins_47 : decode cX11_begins 47 = .ok (.if_icmp .ge 46, 3) := by decide +kernel
theorem dX11_begins_50 : decode cX11_begins 50 = .ok (.aload_n 0, 1) := by decide +kernel
theorem dX11_begins_51 : decode cX11_begins 51 = .ok (.getfield 93, 3) := by decide +kernel
theorem dX11_begins_54 : decode cX11_begins 54 = .ok (.iconst 4, 1) := by decide +kernel
theorem dX11_begins_55 : decode cX11_begins 55 = .ok (.iload_n 1, 1) := by decide +kernel
theorem dX11_begins_56 : decode cX11_begins 56 = .ok (.imul, 1) := by decide +kernel
theorem dX11_begins_57 : decode cX11_begins 57 = .ok (.iload 4, 2) := by decide +kernel
theorem dX11_begins_59 : decode cX11_begins 59 = .ok (.iadd, 1) := by decide +kernel
theorem dX11_begins_60 : decode cX11_begins 60 = .ok (.iaload, 1) := by decide +kernel
theorem dX11_begins_61 : decode cX11_begins 61 = .ok (.istore 5, 2) := by decide +kernel
theorem dX11_begins_63 : decode cX11_begins 63 = .ok (.iload 5, 2) := by decide +kernel
theorem dX11_begins_65 : decode cX11_begins 65 = .ok (.ifCond .ne 4, 3) := by decide +kernel
theorem dX11_begins_68 : decode cX11_begins 68 = .ok (.return_, 1) := by decide +kernel
theorem dX11_begins_69 : decode cX11_begins 69 = .ok (.lload_n 2, 1) := by decide +kernel
theorem dX11_begins_70 : decode cX11_begins 70 = .ok (.aload_n 0, 1) := by decide +kernel
theorem dX11_begins_71 : decode cX11_begins 71 = .ok (.getfield 38, 3) := by decide +kernel
theorem dX11_begins_74 : decode cX11_begins 74 = .ok (.iconst 4, 1) := by decide +kernel
theorem dX11_begins_75 : decode cX11_begins 75 = .ok (.iload_n 1, 1) := by decide +kernel
theorem dX11_begins_76 : decode cX11_begins 76 = .ok (.imul, 1) := by decide +kernel
theorem dX11_begins_77 : decode cX11_begins 77 = .ok (.iload 4, 2) := by decide +kernel
theorem dX11_begins_79 : decode cX11_begins 79 = .ok (.iadd, 1) := by decide +kernel
theorem dX11_begins_80 : decode cX11_begins 80 = .ok (.iaload, 1) := by decide +kernel
theorem dX11_begins_81 : decode cX11_begins 81 = .ok (.iload 5, 2) := by decide +kernel
theorem dX11_begins_83 : decode cX11_begins 83 = .ok (.invokestatic 267, 3) := by decide +kernel
theorem dX11_begins_86 : decode cX11_begins 86 = .ok (.lstore_n 2, 1) := by decide +kernel
theorem dX11_begins_87 : decode cX11_begins 87 = .ok (.iinc 4 1, 3) := by decide +kernel
theorem dX11_begins_90 : decode cX11_begins 90 = .ok (.goto (-51), 3) := by decide +kernel
theorem dX11_begins_93 : decode cX11_begins 93 = .ok (.aload_n 0, 1) := by decide +kernel
theorem dX11_begins_94 : decode cX11_begins 94 = .ok (.aload_n 0, 1) := by decide +kernel
theorem dX11_begins_95 : decode cX11_begins 95 = .ok (.getfield 32, 3) := by decide +kernel
theorem dX11_begins_98 : decode cX11_begins 98 = .ok (.iload_n 1, 1) := by decide +kernel
theorem dX11_begins_99 : decode cX11_begins 99 = .ok (.iaload, 1) := by decide +kernel
theorem dX11_begins_100 : decode cX11_begins 100 = .ok (.lload_n 2, 1) := by decide +kernel
theorem dX11_begins_101 : decode cX11_begins 101 = .ok (.invokevirtual 271, 3) := by decide +kernel
theorem dX11_begins_104 : decode cX11_begins 104 = .ok (.return_, 1) := by decide +kernel
theorem dX11_reckons_0 : decode cX11_reckons 0 = .ok (.iconst 0, 1) := by decide +kernel
theorem dX11_reckons_1 : decode cX11_reckons 1 = .ok (.istore_n 1, 1) := by decide +kernel
theorem dX11_reckons_2 : decode cX11_reckons 2 = .ok (.iload_n 1, 1) := by decide +kernel
theorem dX11_reckons_3 : decode cX11_reckons 3 = .ok (.aload_n 0, 1) := by decide +kernel
theorem dX11_reckons_4 : decode cX11_reckons 4 = .ok (.getfield 251, 3) := by decide +kernel
theorem dX11_reckons_7 : decode cX11_reckons 7 = .ok (.if_icmp .ge 16, 3) := by decide +kernel
theorem dX11_reckons_10 : decode cX11_reckons 10 = .ok (.aload_n 0, 1) := by decide +kernel
theorem dX11_reckons_11 : decode cX11_reckons 11 = .ok (.getfield 89, 3) := by decide +kernel
theorem dX11_reckons_14 : decode cX11_reckons 14 = .ok (.iload_n 1, 1) := by decide +kernel
theorem dX11_reckons_15 : decode cX11_reckons 15 = .ok (.lconst 0, 1) := by decide +kernel
theorem dX11_reckons_16 : decode cX11_reckons 16 = .ok (.lastore, 1) := by decide +kernel
theorem dX11_reckons_17 : decode cX11_reckons 17 = .ok (.iinc 1 1, 3) := by decide +kernel
theorem dX11_reckons_20 : decode cX11_reckons 20 = .ok (.goto (-18), 3) := by decide +kernel
theorem dX11_reckons_23 : decode cX11_reckons 23 = .ok (.iconst 0, 1) := by decide +kernel
theorem dX11_reckons_24 : decode cX11_reckons 24 = .ok (.istore_n 1, 1) := by decide +kernel
theorem dX11_reckons_25 : decode cX11_reckons 25 = .ok (.iload_n 1, 1) := by decide +kernel
theorem dX11_reckons_26 : decode cX11_reckons 26 = .ok (.bipush 42, 2) := by decide +kernel
theorem dX11_reckons_28 : decode cX11_reckons 28 = .ok (.if_icmp .ge 16, 3) := by decide +kernel
theorem dX11_reckons_31 : decode cX11_reckons 31 = .ok (.aload_n 0, 1) := by decide +kernel
theorem dX11_reckons_32 : decode cX11_reckons 32 = .ok (.getfield 93, 3) := by decide +kernel
theorem dX11_reckons_35 : decode cX11_reckons 35 = .ok (.iload_n 1, 1) := by decide +kernel
theorem dX11_reckons_36 : decode cX11_reckons 36 = .ok (.iconst 0, 1) := by decide +kernel
theorem dX11_reckons_37 : decode cX11_reckons 37 = .ok (.iastore, 1) := by decide +kernel
theorem dX11_reckons_38 : decode cX11_reckons 38 = .ok (.iinc 1 1, 3) := by decide +kernel
theorem dX11_reckons_41 : decode cX11_reckons 41 = .ok (.goto (-16), 3) := by decide +kernel
theorem dX11_reckons_44 : decode cX11_reckons 44 = .ok (.iconst 0, 1) := by decide +kernel
theorem dX11_reckons_45 : decode cX11_reckons 45 = .ok (.istore_n 1, 1) := by decide +kernel
theorem dX11_reckons_46 : decode cX11_reckons 46 = .ok (.iload_n 1, 1) := by decide +kernel
theorem dX11_reckons_47 : decode cX11_reckons 47 = .ok (.bipush 25, 2) := by decide +kernel
theorem dX11_reckons_49 : decode cX11_reckons 49 = .ok (.if_icmp .ge 16, 3) := by decide +kernel
theorem dX11_reckons_52 : decode cX11_reckons 52 = .ok (.aload_n 0, 1) := by decide +kernel
theorem dX11_reckons_53 : decode cX11_reckons 53 = .ok (.getfield 100, 3) := by decide +kernel
theorem dX11_reckons_56 : decode cX11_reckons 56 = .ok (.iload_n 1, 1) := by decide +kernel
theorem dX11_reckons_57 : decode cX11_reckons 57 = .ok (.iconst 0, 1) := by decide +kernel
theorem dX11_reckons_58 : decode cX11_reckons 58 = .ok (.iastore, 1) := by decide +kernel
theorem dX11_reckons_59 : decode cX11_reckons 59 = .ok (.iinc 1 1, 3) := by decide +kernel
theorem dX11_reckons_62 : decode cX11_reckons 62 = .ok (.goto (-16), 3) := by decide +kernel
theorem dX11_reckons_65 : decode cX11_reckons 65 = .ok (.aload_n 0, 1) := by decide +kernel
theorem dX11_reckons_66 : decode cX11_reckons 66 = .ok (.aload_n 0, 1) := by decide +kernel
theorem dX11_reckons_67 : decode cX11_reckons 67 = .ok (.getfield 83, 3) := by decide +kernel
theorem dX11_reckons_70 : decode cX11_reckons 70 = .ok (.iconst (-1), 1) := by decide +kernel
theorem dX11_reckons_71 : decode cX11_reckons 71 = .ok (.if_icmp .eq 7, 3) := by decide +kernel
theorem dX11_reckons_74 : decode cX11_reckons 74 = .ok (.iconst 1, 1) := by decide +kernel
theorem dX11_reckons_75 : decode cX11_reckons 75 = .ok (.goto 4, 3) := by decide +kernel
theorem dX11_reckons_78 : decode cX11_reckons 78 = .ok (.iconst 0, 1) := by decide +kernel
theorem dX11_reckons_79 : decode cX11_reckons 79 = .ok (.putfield 261, 3) := by decide +kernel
theorem dX11_reckons_82 : decode cX11_reckons 82 = .ok (.aload_n 0, 1) := by decide +kernel
theorem dX11_reckons_83 : decode cX11_reckons 83 = .ok (.getfield 261, 3) := by decide +kernel
theorem dX11_reckons_86 : decode cX11_reckons 86 = .ok (.ifCond .eq 111, 3) := by decide +kernel
theorem dX11_reckons_89 : decode cX11_reckons 89 = .ok (.aload_n 0, 1) := by decide +kernel
theorem dX11_reckons_90 : decode cX11_reckons 90 = .ok (.iconst 0, 1) := by decide +kernel
theorem dX11_reckons_91 : decode cX11_reckons 91 = .ok (.putfield 261, 3) := by decide +kernel
theorem dX11_reckons_94 : decode cX11_reckons 94 = .ok (.iconst 0, 1) := by decide +kernel
theorem dX11_reckons_95 : decode cX11_reckons 95 = .ok (.istore_n 1, 1) := by decide +kernel
theorem dX11_reckons_96 : decode cX11_reckons 96 = .ok (.iload_n 1, 1) := by decide +kernel
theorem dX11_reckons_97 : decode cX11_reckons 97 = .ok (.aload_n 0, 1) := by decide +kernel
theorem dX11_reckons_98 : decode cX11_reckons 98 = .ok (.getfield 35, 3) := by decide +kernel
theorem dX11_reckons_101 : decode cX11_reckons 101 = .ok (.aload_n 0, 1) := by decide +kernel
theorem dX11_reckons_102 : decode cX11_reckons 102 = .ok (.getfield 83, 3) := by decide +kernel
theorem dX11_reckons_105 : decode cX11_reckons 105 = .ok (.iaload, 1) := by decide +kernel
theorem dX11_reckons_106 : decode cX11_reckons 106 = .ok (.if_icmp .ge 42, 3) := by decide +kernel
theorem dX11_reckons_109 : decode cX11_reckons 109 = .ok (.aload_n 0, 1) := by decide +kernel
theorem dX11_reckons_110 : decode cX11_reckons 110 = .ok (.iconst 4, 1) := by decide +kernel
theorem dX11_reckons_111 : decode cX11_reckons 111 = .ok (.aload_n 0, 1) := by decide +kernel
theorem dX11_reckons_112 : decode cX11_reckons 112 = .ok (.getfield 83, 3) := by decide +kernel
theorem dX11_reckons_115 : decode cX11_reckons 115 = .ok (.imul, 1) := by decide +kernel
theorem dX11_reckons_116 : decode cX11_reckons 116 = .ok (.iload_n 1, 1) := by decide +kernel
theorem dX11_reckons_117 : decode cX11_reckons 117 = .ok (.iadd, 1) := by decide +kernel
theorem dX11_reckons_118 : decode cX11_reckons 118 = .ok (.aload_n 0, 1) := by decide +kernel
theorem dX11_reckons_119 : decode cX11_reckons 119 = .ok (.getfield 86, 3) := by decide +kernel
theorem dX11_reckons_122 : decode cX11_reckons 122 = .ok (.iload_n 1, 1) := by decide +kernel
theorem dX11_reckons_123 : decode cX11_reckons 123 = .ok (.iaload, 1) := by decide +kernel
theorem dX11_reckons_124 : decode cX11_reckons 124 = .ok (.invokevirtual 275, 3) := by decide +kernel
theorem dX11_reckons_127 : decode cX11_reckons 127 = .ok (.aload_n 0, 1) := by decide +kernel
theorem dX11_reckons_128 : decode cX11_reckons 128 = .ok (.getfield 86, 3) := by decide +kernel
theorem dX11_reckons_131 : decode cX11_reckons 131 = .ok (.iload_n 1, 1) := by decide +kernel
theorem dX11_reckons_132 : decode cX11_reckons 132 = .ok (.iaload, 1) := by decide +kernel
theorem dX11_reckons_133 : decode cX11_reckons 133 = .ok (.iconst 2, 1) := by decide +kernel
theorem dX11_reckons_134 : decode cX11_reckons 134 = .ok (.iand, 1) := by decide +kernel
theorem dX11_reckons_135 : decode cX11_reckons 135 = .ok (.ifCond .eq 7, 3) := by decide +kernel
theorem dX11_reckons_138 : decode cX11_reckons 138 = .ok (.aload_n 0, 1) := by decide +kernel
theorem dX11_reckons_139 : decode cX11_reckons 139 = .ok (.invokevirtual 278, 3) := by decide +kernel
theorem dX11_reckons_142 : decode cX11_reckons 142 = .ok (.iinc 1 1, 3) := by decide +kernel
theorem dX11_reckons_145 : decode cX11_reckons 145 = .ok (.goto (-49), 3) := by decide +kernel
theorem dX11_reckons_148 : decode cX11_reckons 148 = .ok (.aload_n 0, 1) := by decide +kernel
theorem dX11_reckons_149 : decode cX11_reckons 149 = .ok (.aload_n 0, 1) := by decide +kernel
theorem dX11_reckons_150 : decode cX11_reckons 150 = .ok (.getfield 83, 3) := by decide +kernel
theorem dX11_reckons_153 : decode cX11_reckons 153 = .ok (.invokevirtual 281, 3) := by decide +kernel
theorem dX11_reckons_156 : decode cX11_reckons 156 = .ok (.iconst 0, 1) := by decide +kernel
theorem dX11_reckons_157 : decode cX11_reckons 157 = .ok (.istore_n 1, 1) := by decide +kernel
theorem dX11_reckons_158 : decode cX11_reckons 158 = .ok (.iload_n 1, 1) := by decide +kernel
theorem dX11_reckons_159 : decode cX11_reckons 159 = .ok (.aload_n 0, 1) := by decide +kernel
theorem dX11_reckons_160 : decode cX11_reckons 160 = .ok (.getfield 251, 3) := by decide +kernel
theorem dX11_reckons_163 : decode cX11_reckons 163 = .ok (.if_icmp .ge 31, 3) := by decide +kernel
theorem dX11_reckons_166 : decode cX11_reckons 166 = .ok (.aload_n 0, 1) := by decide +kernel
theorem dX11_reckons_167 : decode cX11_reckons 167 = .ok (.getfield 89, 3) := by decide +kernel
theorem dX11_reckons_170 : decode cX11_reckons 170 = .ok (.iload_n 1, 1) := by decide +kernel
theorem dX11_reckons_171 : decode cX11_reckons 171 = .ok (.laload, 1) := by decide +kernel
theorem dX11_reckons_172 : decode cX11_reckons 172 = .ok (.lconst 0, 1) := by decide +kernel
theorem dX11_reckons_173 : decode cX11_reckons 173 = .ok (.lcmp, 1) := by decide +kernel
theorem dX11_reckons_174 : decode cX11_reckons 174 = .ok (.ifCond .eq 14, 3) := by decide +kernel
theorem dX11_reckons_177 : decode cX11_reckons 177 = .ok (.aload_n 0, 1) := by decide +kernel
theorem dX11_reckons_178 : decode cX11_reckons 178 = .ok (.iload_n 1, 1) := by decide +kernel
theorem dX11_reckons_179 : decode cX11_reckons 179 = .ok (.aload_n 0, 1) := by decide +kernel
theorem dX11_reckons_180 : decode cX11_reckons 180 = .ok (.getfield 89, 3) := by decide +kernel
theorem dX11_reckons_183 : decode cX11_reckons 183 = .ok (.iload_n 1, 1) := by decide +kernel
theorem dX11_reckons_184 : decode cX11_reckons 184 = .ok (.laload, 1) := by decide +kernel
theorem dX11_reckons_185 : decode cX11_reckons 185 = .ok (.invokevirtual 284, 3) := by decide +kernel
theorem dX11_reckons_188 : decode cX11_reckons 188 = .ok (.iinc 1 1, 3) := by decide +kernel
theorem dX11_reckons_191 : decode cX11_reckons 191 = .ok (.goto (-33), 3) := by decide +kernel
theorem dX11_reckons_194 : decode cX11_reckons 194 = .ok (.goto (-112), 3) := by decide +kernel
theorem dX11_reckons_197 : decode cX11_reckons 197 = .ok (.return_, 1) := by decide +kernel
theorem dX11_putsThings_0 : decode cX11_putsThings 0 = .ok (.aload_n 0, 1) := by decide +kernel
theorem dX11_putsThings_1 : decode cX11_putsThings 1 = .ok (.bipush 40, 2) := by decide +kernel
theorem dX11_putsThings_3 : decode cX11_putsThings 3 = .ok (.iconst 2, 1) := by decide +kernel
theorem dX11_putsThings_4 : decode cX11_putsThings 4 = .ok (.invokevirtual 275, 3) := by decide +kernel
theorem dX11_putsThings_7 : decode cX11_putsThings 7 = .ok (.aload_n 0, 1) := by decide +kernel
theorem dX11_putsThings_8 : decode cX11_putsThings 8 = .ok (.bipush 41, 2) := by decide +kernel
theorem dX11_putsThings_10 : decode cX11_putsThings 10 = .ok (.iconst 2, 1) := by decide +kernel
theorem dX11_putsThings_11 : decode cX11_putsThings 11 = .ok (.invokevirtual 275, 3) := by decide +kernel
theorem dX11_putsThings_14 : decode cX11_putsThings 14 = .ok (.return_, 1) := by decide +kernel
theorem dX11_goes_0 : decode cX11_goes 0 = .ok (.aload_n 0, 1) := by decide +kernel
theorem dX11_goes_1 : decode cX11_goes 1 = .ok (.getfield 17, 3) := by decide +kernel
theorem dX11_goes_4 : decode cX11_goes 4 = .ok (.iload_n 1, 1) := by decide +kernel
theorem dX11_goes_5 : decode cX11_goes 5 = .ok (.iaload, 1) := by decide +kernel
theorem dX11_goes_6 : decode cX11_goes 6 = .ok (.tableswitch 394 0 13 #[70, 81, 98, 119, 168, 194, 266, 275, 301, 359, 394, 394, 394, 380], 70) := by decide +kernel
theorem dX11_goes_76 : decode cX11_goes 76 = .ok (.aload_n 0, 1) := by decide +kernel
theorem dX11_goes_77 : decode cX11_goes 77 = .ok (.iload_n 1, 1) := by decide +kernel
theorem dX11_goes_78 : decode cX11_goes 78 = .ok (.iconst 1, 1) := by decide +kernel
theorem dX11_goes_79 : decode cX11_goes 79 = .ok (.iadd, 1) := by decide +kernel
theorem dX11_goes_80 : decode cX11_goes 80 = .ok (.lload_n 2, 1) := by decide +kernel
theorem dX11_goes_81 : decode cX11_goes 81 = .ok (.invokevirtual 271, 3) := by decide +kernel
theorem dX11_goes_84 : decode cX11_goes 84 = .ok (.goto 322, 3) := by decide +kernel
theorem dX11_goes_87 : decode cX11_goes 87 = .ok (.aload_n 0, 1) := by decide +kernel
theorem dX11_goes_88 : decode cX11_goes 88 = .ok (.iload_n 1, 1) := by decide +kernel
theorem dX11_goes_89 : decode cX11_goes 89 = .ok (.iconst 1, 1) := by decide +kernel
theorem dX11_goes_90 : decode cX11_goes 90 = .ok (.iadd, 1) := by decide +kernel
theorem dX11_goes_91 : decode cX11_goes 91 = .ok (.lload_n 2, 1) := by decide +kernel
theorem dX11_goes_92 : decode cX11_goes 92 = .ok (.bipush 26, 2) := by decide +kernel
theorem dX11_goes_94 : decode cX11_goes 94 = .ok (.iconst 1, 1) := by decide +kernel
theorem dX11_goes_95 : decode cX11_goes 95 = .ok (.invokestatic 267, 3) := by decide +kernel
theorem dX11_goes_98 : decode cX11_goes 98 = .ok (.invokevirtual 271, 3) := by decide +kernel
theorem dX11_goes_101 : decode cX11_goes 101 = .ok (.goto 305, 3) := by decide +kernel
theorem dX11_goes_104 : decode cX11_goes 104 = .ok (.aload_n 0, 1) := by decide +kernel
theorem dX11_goes_105 : decode cX11_goes 105 = .ok (.invokevirtual 278, 3) := by decide +kernel
theorem dX11_goes_108 : decode cX11_goes 108 = .ok (.aload_n 0, 1) := by decide +kernel
theorem dX11_goes_109 : decode cX11_goes 109 = .ok (.iload_n 1, 1) := by decide +kernel
theorem dX11_goes_110 : decode cX11_goes 110 = .ok (.iconst 1, 1) := by decide +kernel
theorem dX11_goes_111 : decode cX11_goes 111 = .ok (.iadd, 1) := by decide +kernel
theorem dX11_goes_112 : decode cX11_goes 112 = .ok (.lload_n 2, 1) := by decide +kernel
theorem dX11_goes_113 : decode cX11_goes 113 = .ok (.bipush 26, 2) := by decide +kernel
theorem dX11_goes_115 : decode cX11_goes 115 = .ok (.iconst 3, 1) := by decide +kernel
theorem dX11_goes_116 : decode cX11_goes 116 = .ok (.invokestatic 267, 3) := by decide +kernel
theorem dX11_goes_119 : decode cX11_goes 119 = .ok (.invokevirtual 271, 3) := by decide +kernel
theorem dX11_goes_122 : decode cX11_goes 122 = .ok (.goto 284, 3) := by decide +kernel
theorem dX11_goes_125 : decode cX11_goes 125 = .ok (.aload_n 0, 1) := by decide +kernel
theorem dX11_goes_126 : decode cX11_goes 126 = .ok (.bipush 40, 2) := by decide +kernel
theorem dX11_goes_128 : decode cX11_goes 128 = .ok (.lload_n 2, 1) := by decide +kernel
theorem dX11_goes_129 : decode cX11_goes 129 = .ok (.aload_n 0, 1) := by decide +kernel
theorem dX11_goes_130 : decode cX11_goes 130 = .ok (.getfield 20, 3) := by decide +kernel
theorem dX11_goes_133 : decode cX11_goes 133 = .ok (.iload_n 1, 1) := by decide +kernel
theorem dX11_goes_134 : decode cX11_goes 134 = .ok (.iaload, 1) := by decide +kernel
theorem dX11_goes_135 : decode cX11_goes 135 = .ok (.invokestatic 287, 3) := by decide +kernel
theorem dX11_goes_138 : decode cX11_goes 138 = .ok (.invokevirtual 275, 3) := by decide +kernel
theorem dX11_goes_141 : decode cX11_goes 141 = .ok (.aload_n 0, 1) := by decide +kernel
theorem dX11_goes_142 : decode cX11_goes 142 = .ok (.bipush 41, 2) := by decide +kernel
theorem dX11_goes_144 : decode cX11_goes 144 = .ok (.lload_n 2, 1) := by decide +kernel
theorem dX11_goes_145 : decode cX11_goes 145 = .ok (.aload_n 0, 1) := by decide +kernel
theorem dX11_goes_146 : decode cX11_goes 146 = .ok (.getfield 23, 3) := by decide +kernel
theorem dX11_goes_149 : decode cX11_goes 149 = .ok (.iload_n 1, 1) := by decide +kernel
theorem dX11_goes_150 : decode cX11_goes 150 = .ok (.iaload, 1) := by decide +kernel
theorem dX11_goes_151 : decode cX11_goes 151 = .ok (.invokestatic 287, 3) := by decide +kernel
theorem dX11_goes_154 : decode cX11_goes 154 = .ok (.invokevirtual 275, 3) := by decide +kernel
theorem dX11_goes_157 : decode cX11_goes 157 = .ok (.aload_n 0, 1) := by decide +kernel
theorem dX11_goes_158 : decode cX11_goes 158 = .ok (.iload_n 1, 1) := by decide +kernel
theorem dX11_goes_159 : decode cX11_goes 159 = .ok (.iconst 1, 1) := by decide +kernel
theorem dX11_goes_160 : decode cX11_goes 160 = .ok (.iadd, 1) := by decide +kernel
theorem dX11_goes_161 : decode cX11_goes 161 = .ok (.lload_n 2, 1) := by decide +kernel
theorem dX11_goes_162 : decode cX11_goes 162 = .ok (.bipush 26, 2) := by decide +kernel
theorem dX11_goes_164 : decode cX11_goes 164 = .ok (.iconst 2, 1) := by decide +kernel
theorem dX11_goes_165 : decode cX11_goes 165 = .ok (.invokestatic 267, 3) := by decide +kernel
theorem dX11_goes_168 : decode cX11_goes 168 = .ok (.invokevirtual 271, 3) := by decide +kernel
theorem dX11_goes_171 : decode cX11_goes 171 = .ok (.goto 235, 3) := by decide +kernel
theorem dX11_goes_174 : decode cX11_goes 174 = .ok (.aload_n 0, 1) := by decide +kernel
theorem dX11_goes_175 : decode cX11_goes 175 = .ok (.iload_n 1, 1) := by decide +kernel
theorem dX11_goes_176 : decode cX11_goes 176 = .ok (.iconst 1, 1) := by decide +kernel
theorem dX11_goes_177 : decode cX11_goes 177 = .ok (.iadd, 1) := by decide +kernel
theorem dX11_goes_178 : decode cX11_goes 178 = .ok (.lload_n 2, 1) := by decide +kernel
theorem dX11_goes_179 : decode cX11_goes 179 = .ok (.bipush 26, 2) := by decide +kernel
theorem dX11_goes_181 : decode cX11_goes 181 = .ok (.lload_n 2, 1) := by decide +kernel
theorem dX11_goes_182 : decode cX11_goes 182 = .ok (.aload_n 0, 1) := by decide +kernel
theorem dX11_goes_183 : decode cX11_goes 183 = .ok (.getfield 20, 3) := by decide +kernel
theorem dX11_goes_186 : decode cX11_goes 186 = .ok (.iload_n 1, 1) := by decide +kernel
theorem dX11_goes_187 : decode cX11_goes 187 = .ok (.iaload, 1) := by decide +kernel
theorem dX11_goes_188 : decode cX11_goes 188 = .ok (.invokestatic 287, 3) := by decide +kernel
theorem dX11_goes_191 : decode cX11_goes 191 = .ok (.invokestatic 267, 3) := by decide +kernel
theorem dX11_goes_194 : decode cX11_goes 194 = .ok (.invokevirtual 271, 3) := by decide +kernel
theorem dX11_goes_197 : decode cX11_goes 197 = .ok (.goto 209, 3) := by decide +kernel
theorem dX11_goes_200 : decode cX11_goes 200 = .ok (.lload_n 2, 1) := by decide +kernel
theorem dX11_goes_201 : decode cX11_goes 201 = .ok (.aload_n 0, 1) := by decide +kernel
theorem dX11_goes_202 : decode cX11_goes 202 = .ok (.getfield 20, 3) := by decide +kernel
theorem dX11_goes_205 : decode cX11_goes 205 = .ok (.iload_n 1, 1) := by decide +kernel
theorem dX11_goes_206 : decode cX11_goes 206 = .ok (.iaload, 1) := by decide +kernel
theorem dX11_goes_207 : decode cX11_goes 207 = .ok (.invokestatic 287, 3) := by decide +kernel
theorem dX11_goes_210 : decode cX11_goes 210 = .ok (.iconst 2, 1) := by decide +kernel
theorem dX11_goes_211 : decode cX11_goes 211 = .ok (.iand, 1) := by decide +kernel
theorem dX11_goes_212 : decode cX11_goes 212 = .ok (.ifCond .eq 194, 3) := by decide +kernel
theorem dX11_goes_215 : decode cX11_goes 215 = .ok (.aload_n 0, 1) := by decide +kernel
theorem dX11_goes_216 : decode cX11_goes 216 = .ok (.getfield 93, 3) := by decide +kernel
theorem dX11_goes_219 : decode cX11_goes 219 = .ok (.bipush 40, 2) := by decide +kernel
theorem dX11_goes_221 : decode cX11_goes 221 = .ok (.aload_n 0, 1) := by decide +kernel
theorem dX11_goes_222 : decode cX11_goes 222 = .ok (.getfield 23, 3) := by decide +kernel
theorem dX11_goes_225 : decode cX11_goes 225 = .ok (.iload_n 1, 1) := by decide +kernel
theorem dX11_goes_226 : decode cX11_goes 226 = .ok (.iaload, 1) := by decide +kernel
theorem dX11_goes_227 : decode cX11_goes 227 = .ok (.iadd, 1) := by decide +kernel
theorem dX11_goes_228 : decode cX11_goes 228 = .ok (.iaload, 1) := by decide +kernel
theorem dX11_goes_229 : decode cX11_goes 229 = .ok (.ifCond .eq 177, 3) := by decide +kernel
theorem dX11_goes_232 : decode cX11_goes 232 = .ok (.aload_n 0, 1) := by decide +kernel
theorem dX11_goes_233 : decode cX11_goes 233 = .ok (.iload_n 1, 1) := by decide +kernel
theorem dX11_goes_234 : decode cX11_goes 234 = .ok (.iconst 1, 1) := by decide +kernel
theorem dX11_goes_235 : decode cX11_goes 235 = .ok (.iadd, 1) := by decide +kernel
theorem dX11_goes_236 : decode cX11_goes 236 = .ok (.lload_n 2, 1) := by decide +kernel
theorem dX11_goes_237 : decode cX11_goes 237 = .ok (.aload_n 0, 1) := by decide +kernel
theorem dX11_goes_238 : decode cX11_goes 238 = .ok (.getfield 20, 3) := by decide +kernel
theorem dX11_goes_241 : decode cX11_goes 241 = .ok (.iload_n 1, 1) := by decide +kernel
theorem dX11_goes_242 : decode cX11_goes 242 = .ok (.iaload, 1) := by decide +kernel
theorem dX11_goes_243 : decode cX11_goes 243 = .ok (.iconst 2, 1) := by decide +kernel
theorem dX11_goes_244 : decode cX11_goes 244 = .ok (.invokestatic 267, 3) := by decide +kernel
theorem dX11_goes_247 : decode cX11_goes 247 = .ok (.bipush 26, 2) := by decide +kernel
theorem dX11_goes_249 : decode cX11_goes 249 = .ok (.aload_n 0, 1) := by decide +kernel
theorem dX11_goes_250 : decode cX11_goes 250 = .ok (.getfield 93, 3) := by decide +kernel
theorem dX11_goes_253 : decode cX11_goes 253 = .ok (.bipush 40, 2) := by decide +kernel
theorem dX11_goes_255 : decode cX11_goes 255 = .ok (.aload_n 0, 1) := by decide +kernel
theorem dX11_goes_256 : decode cX11_goes 256 = .ok (.getfield 23, 3) := by decide +kernel
theorem dX11_goes_259 : decode cX11_goes 259 = .ok (.iload_n 1, 1) := by decide +kernel
theorem dX11_goes_260 : decode cX11_goes 260 = .ok (.iaload, 1) := by decide +kernel
theorem dX11_goes_261 : decode cX11_goes 261 = .ok (.iadd, 1) := by decide +kernel
theorem dX11_goes_262 : decode cX11_goes 262 = .ok (.iaload, 1) := by decide +kernel
theorem dX11_goes_263 : decode cX11_goes 263 = .ok (.invokestatic 267, 3) := by decide +kernel
theorem dX11_goes_266 : decode cX11_goes 266 = .ok (.invokevirtual 271, 3) := by decide +kernel
theorem dX11_goes_269 : decode cX11_goes 269 = .ok (.goto 137, 3) := by decide +kernel
theorem dX11_goes_272 : decode cX11_goes 272 = .ok (.aload_n 0, 1) := by decide +kernel
theorem dX11_goes_273 : decode cX11_goes 273 = .ok (.iload_n 1, 1) := by decide +kernel
theorem dX11_goes_274 : decode cX11_goes 274 = .ok (.lload_n 2, 1) := by decide +kernel
theorem dX11_goes_275 : decode cX11_goes 275 = .ok (.invokevirtual 291, 3) := by decide +kernel
theorem dX11_goes_278 : decode cX11_goes 278 = .ok (.goto 128, 3) := by decide +kernel
theorem dX11_goes_281 : decode cX11_goes 281 = .ok (.aload_n 0, 1) := by decide +kernel
theorem dX11_goes_282 : decode cX11_goes 282 = .ok (.iload_n 1, 1) := by decide +kernel
theorem dX11_goes_283 : decode cX11_goes 283 = .ok (.iconst 1, 1) := by decide +kernel
theorem dX11_goes_284 : decode cX11_goes 284 = .ok (.iadd, 1) := by decide +kernel
theorem dX11_goes_285 : decode cX11_goes 285 = .ok (.lload_n 2, 1) := by decide +kernel
theorem dX11_goes_286 : decode cX11_goes 286 = .ok (.aload_n 0, 1) := by decide +kernel
theorem dX11_goes_287 : decode cX11_goes 287 = .ok (.getfield 20, 3) := by decide +kernel
theorem dX11_goes_290 : decode cX11_goes 290 = .ok (.iload_n 1, 1) := by decide +kernel
theorem dX11_goes_291 : decode cX11_goes 291 = .ok (.iaload, 1) := by decide +kernel
theorem dX11_goes_292 : decode cX11_goes 292 = .ok (.lload_n 2, 1) := by decide +kernel
theorem dX11_goes_293 : decode cX11_goes 293 = .ok (.bipush 26, 2) := by decide +kernel
theorem dX11_goes_295 : decode cX11_goes 295 = .ok (.invokestatic 287, 3) := by decide +kernel
theorem dX11_goes_298 : decode cX11_goes 298 = .ok (.invokestatic 267, 3) := by decide +kernel
theorem dX11_goes_301 : decode cX11_goes 301 = .ok (.invokevirtual 271, 3) := by decide +kernel
theorem dX11_goes_304 : decode cX11_goes 304 = .ok (.goto 102, 3) := by decide +kernel
theorem dX11_goes_307 : decode cX11_goes 307 = .ok (.lload_n 2, 1) := by decide +kernel
theorem dX11_goes_308 : decode cX11_goes 308 = .ok (.aload_n 0, 1) := by decide +kernel
theorem dX11_goes_309 : decode cX11_goes 309 = .ok (.getfield 20, 3) := by decide +kernel
theorem dX11_goes_312 : decode cX11_goes 312 = .ok (.iload_n 1, 1) := by decide +kernel
theorem dX11_goes_313 : decode cX11_goes 313 = .ok (.iaload, 1) := by decide +kernel
theorem dX11_goes_314 : decode cX11_goes 314 = .ok (.invokestatic 287, 3) := by decide +kernel
theorem dX11_goes_317 : decode cX11_goes 317 = .ok (.iconst 2, 1) := by decide +kernel
theorem dX11_goes_318 : decode cX11_goes 318 = .ok (.iand, 1) := by decide +kernel
theorem dX11_goes_319 : decode cX11_goes 319 = .ok (.ifCond .ne 6, 3) := by decide +kernel
theorem dX11_goes_322 : decode cX11_goes 322 = .ok (.goto 84, 3) := by decide +kernel
theorem dX11_goes_325 : decode cX11_goes 325 = .ok (.aload_n 0, 1) := by decide +kernel
theorem dX11_goes_326 : decode cX11_goes 326 = .ok (.bipush 40, 2) := by decide +kernel
theorem dX11_goes_328 : decode cX11_goes 328 = .ok (.aload_n 0, 1) := by decide +kernel
theorem dX11_goes_329 : decode cX11_goes 329 = .ok (.getfield 23, 3) := by decide +kernel
theorem dX11_goes_332 : decode cX11_goes 332 = .ok (.iload_n 1, 1) := by decide +kernel
theorem dX11_goes_333 : decode cX11_goes 333 = .ok (.iaload, 1) := by decide +kernel
theorem dX11_goes_334 : decode cX11_goes 334 = .ok (.iadd, 1) := by decide +kernel
theorem dX11_goes_335 : decode cX11_goes 335 = .ok (.lload_n 2, 1) := by decide +kernel
theorem dX11_goes_336 : decode cX11_goes 336 = .ok (.bipush 26, 2) := by decide +kernel
theorem dX11_goes_338 : decode cX11_goes 338 = .ok (.invokestatic 287, 3) := by decide +kernel
theorem dX11_goes_341 : decode cX11_goes 341 = .ok (.invokevirtual 275, 3) := by decide +kernel
theorem dX11_goes_344 : decode cX11_goes 344 = .ok (.aload_n 0, 1) := by decide +kernel
theorem dX11_goes_345 : decode cX11_goes 345 = .ok (.iload_n 1, 1) := by decide +kernel
theorem dX11_goes_346 : decode cX11_goes 346 = .ok (.iconst 1, 1) := by decide +kernel
theorem dX11_goes_347 : decode cX11_goes 347 = .ok (.iadd, 1) := by decide +kernel
theorem dX11_goes_348 : decode cX11_goes 348 = .ok (.lload_n 2, 1) := by decide +kernel
theorem dX11_goes_349 : decode cX11_goes 349 = .ok (.aload_n 0, 1) := by decide +kernel
theorem dX11_goes_350 : decode cX11_goes 350 = .ok (.getfield 20, 3) := by decide +kernel
theorem dX11_goes_353 : decode cX11_goes 353 = .ok (.iload_n 1, 1) := by decide +kernel
theorem dX11_goes_354 : decode cX11_goes 354 = .ok (.iaload, 1) := by decide +kernel
theorem dX11_goes_355 : decode cX11_goes 355 = .ok (.iconst 2, 1) := by decide +kernel
theorem dX11_goes_356 : decode cX11_goes 356 = .ok (.invokestatic 267, 3) := by decide +kernel
theorem dX11_goes_359 : decode cX11_goes 359 = .ok (.invokevirtual 271, 3) := by decide +kernel
theorem dX11_goes_362 : decode cX11_goes 362 = .ok (.goto 44, 3) := by decide +kernel
theorem dX11_goes_365 : decode cX11_goes 365 = .ok (.aload_n 0, 1) := by decide +kernel
theorem dX11_goes_366 : decode cX11_goes 366 = .ok (.bipush 32, 2) := by decide +kernel
theorem dX11_goes_368 : decode cX11_goes 368 = .ok (.aload_n 0, 1) := by decide +kernel
theorem dX11_goes_369 : decode cX11_goes 369 = .ok (.iload_n 1, 1) := by decide +kernel
theorem dX11_goes_370 : decode cX11_goes 370 = .ok (.invokevirtual 293, 3) := by decide +kernel
theorem dX11_goes_373 : decode cX11_goes 373 = .ok (.iadd, 1) := by decide +kernel
theorem dX11_goes_374 : decode cX11_goes 374 = .ok (.lload_n 2, 1) := by decide +kernel
theorem dX11_goes_375 : decode cX11_goes 375 = .ok (.bipush 26, 2) := by decide +kernel
theorem dX11_goes_377 : decode cX11_goes 377 = .ok (.invokestatic 287, 3) := by decide +kernel
theorem dX11_goes_380 : decode cX11_goes 380 = .ok (.invokevirtual 275, 3) := by decide +kernel
theorem dX11_goes_383 : decode cX11_goes 383 = .ok (.goto 23, 3) := by decide +kernel
theorem dX11_goes_386 : decode cX11_goes 386 = .ok (.aload_n 0, 1) := by decide +kernel
theorem dX11_goes_387 : decode cX11_goes 387 = .ok (.aload_n 0, 1) := by decide +kernel
theorem dX11_goes_388 : decode cX11_goes 388 = .ok (.getfield 20, 3) := by decide +kernel
theorem dX11_goes_391 : decode cX11_goes 391 = .ok (.iload_n 1, 1) := by decide +kernel
theorem dX11_goes_392 : decode cX11_goes 392 = .ok (.iaload, 1) := by decide +kernel
theorem dX11_goes_393 : decode cX11_goes 393 = .ok (.lload_n 2, 1) := by decide +kernel
theorem dX11_goes_394 : decode cX11_goes 394 = .ok (.invokevirtual 271, 3) := by decide +kernel
theorem dX11_goes_397 : decode cX11_goes 397 = .ok (.goto 9, 3) := by decide +kernel
theorem dX11_goes_400 : decode cX11_goes 400 = .ok (.aload_n 0, 1) := by decide +kernel
theorem dX11_goes_401 : decode cX11_goes 401 = .ok (.iload_n 1, 1) := by decide +kernel
theorem dX11_goes_402 : decode cX11_goes 402 = .ok (.lload_n 2, 1) := by decide +kernel
theorem dX11_goes_403 : decode cX11_goes 403 = .ok (.invokevirtual 296, 3) := by decide +kernel
theorem dX11_goes_406 : decode cX11_goes 406 = .ok (.return_, 1) := by decide +kernel
theorem dX11_routineAt_0 : decode cX11_routineAt 0 = .ok (.iconst (-1), 1) := by decide +kernel
theorem dX11_routineAt_1 : decode cX11_routineAt 1 = .ok (.istore_n 2, 1) := by decide +kernel
theorem dX11_routineAt_2 : decode cX11_routineAt 2 = .ok (.iconst 0, 1) := by decide +kernel
theorem dX11_routineAt_3 : decode cX11_routineAt 3 = .ok (.istore_n 3, 1) := by decide +kernel
theorem dX11_routineAt_4 : decode cX11_routineAt 4 = .ok (.iload_n 3, 1) := by decide +kernel
theorem dX11_routineAt_5 : decode cX11_routineAt 5 = .ok (.bipush 8, 2) := by decide +kernel
theorem dX11_routineAt_7 : decode cX11_routineAt 7 = .ok (.if_icmp .ge 51, 3) := by decide +kernel
theorem dX11_routineAt_10 : decode cX11_routineAt 10 = .ok (.aload_n 0, 1) := by decide +kernel
theorem dX11_routineAt_11 : decode cX11_routineAt 11 = .ok (.getfield 32, 3) := by decide +kernel
theorem dX11_routineAt_14 : decode cX11_routineAt 14 = .ok (.iload_n 3, 1) := by decide +kernel
theorem dX11_routineAt_15 : decode cX11_routineAt 15 = .ok (.iaload, 1) := by decide +kernel
theorem dX11_routineAt_16 : decode cX11_routineAt 16 = .ok (.iconst (-1), 1) := by decide +kernel
theorem dX11_routineAt_17 : decode cX11_routineAt 17 = .ok (.if_icmp .eq 35, 3) := by decide +kernel
theorem dX11_routineAt_20 : decode cX11_routineAt 20 = .ok (.aload_n 0, 1) := by decide +kernel
theorem dX11_routineAt_21 : decode cX11_routineAt 21 = .ok (.getfield 32, 3) := by decide +kernel
theorem dX11_routineAt_24 : decode cX11_routineAt 24 = .ok (.iload_n 3, 1) := by decide +kernel
theorem dX11_routineAt_25 : decode cX11_routineAt 25 = .ok (.iaload, 1) := by decide +kernel
theorem dX11_routineAt_26 : decode cX11_routineAt 26 = .ok (.iload_n 1, 1) := by decide +kernel
theorem dX11_routineAt_27 : decode cX11_routineAt 27 = .ok (.if_icmp .gt 25, 3) := by decide +kernel
theorem dX11_routineAt_30 : decode cX11_routineAt 30 = .ok (.iload_n 2, 1) := by decide +kernel
theorem dX11_routineAt_31 : decode cX11_routineAt 31 = .ok (.iconst (-1), 1) := by decide +kernel
theorem dX11_routineAt_32 : decode cX11_routineAt 32 = .ok (.if_icmp .eq 18, 3) := by decide +kernel
theorem dX11_routineAt_35 : decode cX11_routineAt 35 = .ok (.aload_n 0, 1) := by decide +kernel
theorem dX11_routineAt_36 : decode cX11_routineAt 36 = .ok (.getfield 32, 3) := by decide +kernel
theorem dX11_routineAt_39 : decode cX11_routineAt 39 = .ok (.iload_n 3, 1) := by decide +kernel
theorem dX11_routineAt_40 : decode cX11_routineAt 40 = .ok (.iaload, 1) := by decide +kernel
theorem dX11_routineAt_41 : decode cX11_routineAt 41 = .ok (.aload_n 0, 1) := by decide +kernel
theorem dX11_routineAt_42 : decode cX11_routineAt 42 = .ok (.getfield 32, 3) := by decide +kernel
theorem dX11_routineAt_45 : decode cX11_routineAt 45 = .ok (.iload_n 2, 1) := by decide +kernel
theorem dX11_routineAt_46 : decode cX11_routineAt 46 = .ok (.iaload, 1) := by decide +kernel
theorem dX11_routineAt_47 : decode cX11_routineAt 47 = .ok (.if_icmp .le 5, 3) := by decide +kernel
theorem dX11_routineAt_50 : decode cX11_routineAt 50 = .ok (.iload_n 3, 1) := by decide +kernel
theorem dX11_routineAt_51 : decode cX11_routineAt 51 = .ok (.istore_n 2, 1) := by decide +kernel
theorem dX11_routineAt_52 : decode cX11_routineAt 52 = .ok (.iinc 3 1, 3) := by decide +kernel
theorem dX11_routineAt_55 : decode cX11_routineAt 55 = .ok (.goto (-51), 3) := by decide +kernel
theorem dX11_routineAt_58 : decode cX11_routineAt 58 = .ok (.iload_n 2, 1) := by decide +kernel
theorem dX11_routineAt_59 : decode cX11_routineAt 59 = .ok (.ireturn, 1) := by decide +kernel
theorem dX11_calls_0 : decode cX11_calls 0 = .ok (.aload_n 0, 1) := by decide +kernel
theorem dX11_calls_1 : decode cX11_calls 1 = .ok (.getfield 20, 3) := by decide +kernel
theorem dX11_calls_4 : decode cX11_calls 4 = .ok (.iload_n 1, 1) := by decide +kernel
theorem dX11_calls_5 : decode cX11_calls 5 = .ok (.iaload, 1) := by decide +kernel
theorem dX11_calls_6 : decode cX11_calls 6 = .ok (.istore 4, 2) := by decide +kernel
theorem dX11_calls_8 : decode cX11_calls 8 = .ok (.iconst 0, 1) := by decide +kernel
theorem dX11_calls_9 : decode cX11_calls 9 = .ok (.istore 5, 2) := by decide +kernel
theorem dX11_calls_11 : decode cX11_calls 11 = .ok (.iload 5, 2) := by decide +kernel
theorem dX11_calls_13 : decode cX11_calls 13 = .ok (.aload_n 0, 1) := by decide +kernel
theorem dX11_calls_14 : decode cX11_calls 14 = .ok (.getfield 23, 3) := by decide +kernel
theorem dX11_calls_17 : decode cX11_calls 17 = .ok (.iload_n 1, 1) := by decide +kernel
theorem dX11_calls_18 : decode cX11_calls 18 = .ok (.iaload, 1) := by decide +kernel
theorem dX11_calls_19 : decode cX11_calls 19 = .ok (.if_icmp .ge 38, 3) := by decide +kernel
theorem dX11_calls_22 : decode cX11_calls 22 = .ok (.aload_n 0, 1) := by decide +kernel
theorem dX11_calls_23 : decode cX11_calls 23 = .ok (.iconst 4, 1) := by decide +kernel
theorem dX11_calls_24 : decode cX11_calls 24 = .ok (.iload 4, 2) := by decide +kernel
theorem dX11_calls_26 : decode cX11_calls 26 = .ok (.imul, 1) := by decide +kernel
theorem dX11_calls_27 : decode cX11_calls 27 = .ok (.iload 5, 2) := by decide +kernel
theorem dX11_calls_29 : decode cX11_calls 29 = .ok (.iadd, 1) := by decide +kernel
theorem dX11_calls_30 : decode cX11_calls 30 = .ok (.lload_n 2, 1) := by decide +kernel
theorem dX11_calls_31 : decode cX11_calls 31 = .ok (.aload_n 0, 1) := by decide +kernel
theorem dX11_calls_32 : decode cX11_calls 32 = .ok (.getfield 29, 3) := by decide +kernel
theorem dX11_calls_35 : decode cX11_calls 35 = .ok (.iload_n 1, 1) := by decide +kernel
theorem dX11_calls_36 : decode cX11_calls 36 = .ok (.iaload, 1) := by decide +kernel
theorem dX11_calls_37 : decode cX11_calls 37 = .ok (.iconst 5, 1) := by decide +kernel
theorem dX11_calls_38 : decode cX11_calls 38 = .ok (.iload 5, 2) := by decide +kernel
theorem dX11_calls_40 : decode cX11_calls 40 = .ok (.imul, 1) := by decide +kernel
theorem dX11_calls_41 : decode cX11_calls 41 = .ok (.ishr, 1) := by decide +kernel
theorem dX11_calls_42 : decode cX11_calls 42 = .ok (.bipush 31, 2) := by decide +kernel
theorem dX11_calls_44 : decode cX11_calls 44 = .ok (.iand, 1) := by decide +kernel
theorem dX11_calls_45 : decode cX11_calls 45 = .ok (.invokestatic 287, 3) := by decide +kernel
theorem dX11_calls_48 : decode cX11_calls 48 = .ok (.invokevirtual 275, 3) := by decide +kernel
theorem dX11_calls_51 : decode cX11_calls 51 = .ok (.iinc 5 1, 3) := by decide +kernel
theorem dX11_calls_54 : decode cX11_calls 54 = .ok (.goto (-43), 3) := by decide +kernel
theorem dX11_calls_57 : decode cX11_calls 57 = .ok (.aload_n 0, 1) := by decide +kernel
theorem dX11_calls_58 : decode cX11_calls 58 = .ok (.iload 4, 2) := by decide +kernel
theorem dX11_calls_60 : decode cX11_calls 60 = .ok (.invokevirtual 281, 3) := by decide +kernel
theorem dX11_calls_63 : decode cX11_calls 63 = .ok (.aload_n 0, 1) := by decide +kernel
theorem dX11_calls_64 : decode cX11_calls 64 = .ok (.getfield 93, 3) := by decide +kernel
theorem dX11_calls_67 : decode cX11_calls 67 = .ok (.bipush 32, 2) := by decide +kernel
theorem dX11_calls_69 : decode cX11_calls 69 = .ok (.iload 4, 2) := by decide +kernel
theorem dX11_calls_71 : decode cX11_calls 71 = .ok (.iadd, 1) := by decide +kernel
theorem dX11_calls_72 : decode cX11_calls 72 = .ok (.iaload, 1) := by decide +kernel
theorem dX11_calls_73 : decode cX11_calls 73 = .ok (.ifCond .eq 26, 3) := by decide +kernel
theorem dX11_calls_76 : decode cX11_calls 76 = .ok (.aload_n 0, 1) := by decide +kernel
theorem dX11_calls_77 : decode cX11_calls 77 = .ok (.iload_n 1, 1) := by decide +kernel
theorem dX11_calls_78 : decode cX11_calls 78 = .ok (.iconst 1, 1) := by decide +kernel
theorem dX11_calls_79 : decode cX11_calls 79 = .ok (.iadd, 1) := by decide +kernel
theorem dX11_calls_80 : decode cX11_calls 80 = .ok (.lload_n 2, 1) := by decide +kernel
theorem dX11_calls_81 : decode cX11_calls 81 = .ok (.bipush 26, 2) := by decide +kernel
theorem dX11_calls_83 : decode cX11_calls 83 = .ok (.aload_n 0, 1) := by decide +kernel
theorem dX11_calls_84 : decode cX11_calls 84 = .ok (.getfield 93, 3) := by decide +kernel
theorem dX11_calls_87 : decode cX11_calls 87 = .ok (.bipush 32, 2) := by decide +kernel
theorem dX11_calls_89 : decode cX11_calls 89 = .ok (.iload 4, 2) := by decide +kernel
theorem dX11_calls_91 : decode cX11_calls 91 = .ok (.iadd, 1) := by decide +kernel
theorem dX11_calls_92 : decode cX11_calls 92 = .ok (.iaload, 1) := by decide +kernel
theorem dX11_calls_93 : decode cX11_calls 93 = .ok (.invokestatic 267, 3) := by decide +kernel
theorem dX11_calls_96 : decode cX11_calls 96 = .ok (.invokevirtual 271, 3) := by decide +kernel
theorem dX11_calls_99 : decode cX11_calls 99 = .ok (.return_, 1) := by decide +kernel
theorem dX11_tests_0 : decode cX11_tests 0 = .ok (.aload_n 0, 1) := by decide +kernel
theorem dX11_tests_1 : decode cX11_tests 1 = .ok (.getfield 17, 3) := by decide +kernel
theorem dX11_tests_4 : decode cX11_tests 4 = .ok (.iload_n 1, 1) := by decide +kernel
theorem dX11_tests_5 : decode cX11_tests 5 = .ok (.iaload, 1) := by decide +kernel
theorem dX11_tests_6 : decode cX11_tests 6 = .ok (.bipush 10, 2) := by decide +kernel
theorem dX11_tests_8 : decode cX11_tests 8 = .ok (.if_icmp .ne 7, 3) := by decide +kernel
theorem dX11_tests_11 : decode cX11_tests 11 = .ok (.iconst 1, 1) := by decide +kernel
theorem dX11_tests_12 : decode cX11_tests 12 = .ok (.goto 19, 3) := by decide +kernel
theorem dX11_tests_15 : decode cX11_tests 15 = .ok (.aload_n 0, 1) := by decide +kernel
theorem dX11_tests_16 : decode cX11_tests 16 = .ok (.getfield 17, 3) := by decide +kernel
theorem dX11_tests_19 : decode cX11_tests 19 = .ok (.iload_n 1, 1) := by decide +kernel
theorem dX11_tests_20 : decode cX11_tests 20 = .ok (.iaload, 1) := by decide +kernel
theorem dX11_tests_21 : decode cX11_tests 21 = .ok (.bipush 11, 2) := by decide +kernel
theorem dX11_tests_23 : decode cX11_tests 23 = .ok (.if_icmp .ne 7, 3) := by decide +kernel
theorem dX11_tests_26 : decode cX11_tests 26 = .ok (.iconst 2, 1) := by decide +kernel
theorem dX11_tests_27 : decode cX11_tests 27 = .ok (.goto 4, 3) := by decide +kernel
theorem dX11_tests_30 : decode cX11_tests 30 = .ok (.iconst 3, 1) := by decide +kernel
theorem dX11_tests_31 : decode cX11_tests 31 = .ok (.istore 4, 2) := by decide +kernel
theorem dX11_tests_33 : decode cX11_tests 33 = .ok (.aload_n 0, 1) := by decide +kernel
theorem dX11_tests_34 : decode cX11_tests 34 = .ok (.getfield 17, 3) := by decide +kernel
theorem dX11_tests_37 : decode cX11_tests 37 = .ok (.iload_n 1, 1) := by decide +kernel
theorem dX11_tests_38 : decode cX11_tests 38 = .ok (.iaload, 1) := by decide +kernel
theorem dX11_tests_39 : decode cX11_tests 39 = .ok (.bipush 12, 2) := by decide +kernel
theorem dX11_tests_41 : decode cX11_tests 41 = .ok (.if_icmp .ne 7, 3) := by decide +kernel
theorem dX11_tests_44 : decode cX11_tests 44 = .ok (.iconst 3, 1) := by decide +kernel
theorem dX11_tests_45 : decode cX11_tests 45 = .ok (.goto 7, 3) := by decide +kernel
theorem dX11_tests_48 : decode cX11_tests 48 = .ok (.iconst 3, 1) := by decide +kernel
theorem dX11_tests_49 : decode cX11_tests 49 = .ok (.iload 4, 2) := by decide +kernel
theorem dX11_tests_51 : decode cX11_tests 51 = .ok (.isub, 1) := by decide +kernel
theorem dX11_tests_52 : decode cX11_tests 52 = .ok (.istore 5, 2) := by decide +kernel
theorem dX11_tests_54 : decode cX11_tests 54 = .ok (.aload_n 0, 1) := by decide +kernel
theorem dX11_tests_55 : decode cX11_tests 55 = .ok (.getfield 17, 3) := by decide +kernel
theorem dX11_tests_58 : decode cX11_tests 58 = .ok (.iload_n 1, 1) := by decide +kernel
theorem dX11_tests_59 : decode cX11_tests 59 = .ok (.iaload, 1) := by decide +kernel
theorem dX11_tests_60 : decode cX11_tests 60 = .ok (.bipush 12, 2) := by decide +kernel
theorem dX11_tests_62 : decode cX11_tests 62 = .ok (.if_icmp .ne 7, 3) := by decide +kernel
theorem dX11_tests_65 : decode cX11_tests 65 = .ok (.iconst 3, 1) := by decide +kernel
theorem dX11_tests_66 : decode cX11_tests 66 = .ok (.goto 13, 3) := by decide +kernel
theorem dX11_tests_69 : decode cX11_tests 69 = .ok (.lload_n 2, 1) := by decide +kernel
theorem dX11_tests_70 : decode cX11_tests 70 = .ok (.aload_n 0, 1) := by decide +kernel
theorem dX11_tests_71 : decode cX11_tests 71 = .ok (.getfield 20, 3) := by decide +kernel
theorem dX11_tests_74 : decode cX11_tests 74 = .ok (.iload_n 1, 1) := by decide +kernel
theorem dX11_tests_75 : decode cX11_tests 75 = .ok (.iaload, 1) := by decide +kernel
theorem dX11_tests_76 : decode cX11_tests 76 = .ok (.invokestatic 287, 3) := by decide +kernel
theorem dX11_tests_79 : decode cX11_tests 79 = .ok (.istore 6, 2) := by decide +kernel
theorem dX11_tests_81 : decode cX11_tests 81 = .ok (.iload 6, 2) := by decide +kernel
theorem dX11_tests_83 : decode cX11_tests 83 = .ok (.iload 4, 2) := by decide +kernel
theorem dX11_tests_85 : decode cX11_tests 85 = .ok (.iand, 1) := by decide +kernel
theorem dX11_tests_86 : decode cX11_tests 86 = .ok (.ifCond .eq 55, 3) := by decide +kernel
theorem dX11_tests_89 : decode cX11_tests 89 = .ok (.aload_n 0, 1) := by decide +kernel
theorem dX11_tests_90 : decode cX11_tests 90 = .ok (.getfield 100, 3) := by decide +kernel
theorem dX11_tests_93 : decode cX11_tests 93 = .ok (.aload_n 0, 1) := by decide +kernel
theorem dX11_tests_94 : decode cX11_tests 94 = .ok (.getfield 23, 3) := by decide +kernel
theorem dX11_tests_97 : decode cX11_tests 97 = .ok (.iload_n 1, 1) := by decide +kernel
theorem dX11_tests_98 : decode cX11_tests 98 = .ok (.iaload, 1) := by decide +kernel
theorem dX11_tests_99 : decode cX11_tests 99 = .ok (.dup2, 1) := by decide +kernel
theorem dX11_tests_100 : decode cX11_tests 100 = .ok (.iaload, 1) := by decide +kernel
theorem dX11_tests_101 : decode cX11_tests 101 = .ok (.iconst 1, 1) := by decide +kernel
theorem dX11_tests_102 : decode cX11_tests 102 = .ok (.ior, 1) := by decide +kernel
theorem dX11_tests_103 : decode cX11_tests 103 = .ok (.iastore, 1) := by decide +kernel
theorem dX11_tests_104 : decode cX11_tests 104 = .ok (.aload_n 0, 1) := by decide +kernel
theorem dX11_tests_105 : decode cX11_tests 105 = .ok (.iload_n 1, 1) := by decide +kernel
theorem dX11_tests_106 : decode cX11_tests 106 = .ok (.iconst 1, 1) := by decide +kernel
theorem dX11_tests_107 : decode cX11_tests 107 = .ok (.iadd, 1) := by decide +kernel
theorem dX11_tests_108 : decode cX11_tests 108 = .ok (.aload_n 0, 1) := by decide +kernel
theorem dX11_tests_109 : decode cX11_tests 109 = .ok (.getfield 17, 3) := by decide +kernel
theorem dX11_tests_112 : decode cX11_tests 112 = .ok (.iload_n 1, 1) := by decide +kernel
theorem dX11_tests_113 : decode cX11_tests 113 = .ok (.iaload, 1) := by decide +kernel
theorem dX11_tests_114 : decode cX11_tests 114 = .ok (.bipush 12, 2) := by decide +kernel
theorem dX11_tests_116 : decode cX11_tests 116 = .ok (.if_icmp .ne 7, 3) := by decide +kernel
theorem dX11_tests_119 : decode cX11_tests 119 = .ok (.lload_n 2, 1) := by decide +kernel
theorem dX11_tests_120 : decode cX11_tests 120 = .ok (.goto 18, 3) := by decide +kernel
theorem dX11_tests_123 : decode cX11_tests 123 = .ok (.lload_n 2, 1) := by decide +kernel
theorem dX11_tests_124 : decode cX11_tests 124 = .ok (.aload_n 0, 1) := by decide +kernel
theorem dX11_tests_125 : decode cX11_tests 125 = .ok (.getfield 20, 3) := by decide +kernel
theorem dX11_tests_128 : decode cX11_tests 128 = .ok (.iload_n 1, 1) := by decide +kernel
theorem dX11_tests_129 : decode cX11_tests 129 = .ok (.iaload, 1) := by decide +kernel
theorem dX11_tests_130 : decode cX11_tests 130 = .ok (.iload 6, 2) := by decide +kernel
theorem dX11_tests_132 : decode cX11_tests 132 = .ok (.iload 4, 2) := by decide +kernel
theorem dX11_tests_134 : decode cX11_tests 134 = .ok (.iand, 1) := by decide +kernel
theorem dX11_tests_135 : decode cX11_tests 135 = .ok (.invokestatic 267, 3) := by decide +kernel
theorem dX11_tests_138 : decode cX11_tests 138 = .ok (.invokevirtual 271, 3) := by decide +kernel
theorem dX11_tests_141 : decode cX11_tests 141 = .ok (.iload 6, 2) := by decide +kernel
theorem dX11_tests_143 : decode cX11_tests 143 = .ok (.iload 5, 2) := by decide +kernel
theorem dX11_tests_145 : decode cX11_tests 145 = .ok (.iand, 1) := by decide +kernel
theorem dX11_tests_146 : decode cX11_tests 146 = .ok (.ifCond .eq 58, 3) := by decide +kernel
theorem dX11_tests_149 : decode cX11_tests 149 = .ok (.aload_n 0, 1) := by decide +kernel
theorem dX11_tests_150 : decode cX11_tests 150 = .ok (.getfield 100, 3) := by decide +kernel
theorem dX11_tests_153 : decode cX11_tests 153 = .ok (.aload_n 0, 1) := by decide +kernel
theorem dX11_tests_154 : decode cX11_tests 154 = .ok (.getfield 23, 3) := by decide +kernel
theorem dX11_tests_157 : decode cX11_tests 157 = .ok (.iload_n 1, 1) := by decide +kernel
theorem dX11_tests_158 : decode cX11_tests 158 = .ok (.iaload, 1) := by decide +kernel
theorem dX11_tests_159 : decode cX11_tests 159 = .ok (.dup2, 1) := by decide +kernel
theorem dX11_tests_160 : decode cX11_tests 160 = .ok (.iaload, 1) := by decide +kernel
theorem dX11_tests_161 : decode cX11_tests 161 = .ok (.iconst 2, 1) := by decide +kernel
theorem dX11_tests_162 : decode cX11_tests 162 = .ok (.ior, 1) := by decide +kernel
theorem dX11_tests_163 : decode cX11_tests 163 = .ok (.iastore, 1) := by decide +kernel
theorem dX11_tests_164 : decode cX11_tests 164 = .ok (.aload_n 0, 1) := by decide +kernel
theorem dX11_tests_165 : decode cX11_tests 165 = .ok (.aload_n 0, 1) := by decide +kernel
theorem dX11_tests_166 : decode cX11_tests 166 = .ok (.getfield 26, 3) := by decide +kernel
theorem dX11_tests_169 : decode cX11_tests 169 = .ok (.iload_n 1, 1) := by decide +kernel
theorem dX11_tests_170 : decode cX11_tests 170 = .ok (.iaload, 1) := by decide +kernel
theorem dX11_tests_171 : decode cX11_tests 171 = .ok (.aload_n 0, 1) := by decide +kernel
theorem dX11_tests_172 : decode cX11_tests 172 = .ok (.getfield 17, 3) := by decide +kernel
theorem dX11_tests_175 : decode cX11_tests 175 = .ok (.iload_n 1, 1) := by decide +kernel
theorem dX11_tests_176 : decode cX11_tests 176 = .ok (.iaload, 1) := by decide +kernel
theorem dX11_tests_177 : decode cX11_tests 177 = .ok (.bipush 12, 2) := by decide +kernel
theorem dX11_tests_179 : decode cX11_tests 179 = .ok (.if_icmp .ne 7, 3) := by decide +kernel
theorem dX11_tests_182 : decode cX11_tests 182 = .ok (.lload_n 2, 1) := by decide +kernel
theorem dX11_tests_183 : decode cX11_tests 183 = .ok (.goto 18, 3) := by decide +kernel
theorem dX11_tests_186 : decode cX11_tests 186 = .ok (.lload_n 2, 1) := by decide +kernel
theorem dX11_tests_187 : decode cX11_tests 187 = .ok (.aload_n 0, 1) := by decide +kernel
theorem dX11_tests_188 : decode cX11_tests 188 = .ok (.getfield 20, 3) := by decide +kernel
theorem dX11_tests_191 : decode cX11_tests 191 = .ok (.iload_n 1, 1) := by decide +kernel
theorem dX11_tests_192 : decode cX11_tests 192 = .ok (.iaload, 1) := by decide +kernel
theorem dX11_tests_193 : decode cX11_tests 193 = .ok (.iload 6, 2) := by decide +kernel
theorem dX11_tests_195 : decode cX11_tests 195 = .ok (.iload 5, 2) := by decide +kernel
theorem dX11_tests_197 : decode cX11_tests 197 = .ok (.iand, 1) := by decide +kernel
theorem dX11_tests_198 : decode cX11_tests 198 = .ok (.invokestatic 267, 3) := by decide +kernel
theorem dX11_tests_201 : decode cX11_tests 201 = .ok (.invokevirtual 271, 3) := by decide +kernel
theorem dX11_tests_204 : decode cX11_tests 204 = .ok (.return_, 1) := by decide +kernel
theorem dX11_frees_0 : decode cX11_frees 0 = .ok (.iconst 0, 1) := by decide +kernel
theorem dX11_frees_1 : decode cX11_frees 1 = .ok (.istore_n 1, 1) := by decide +kernel
theorem dX11_frees_2 : decode cX11_frees 2 = .ok (.iload_n 1, 1) := by decide +kernel
theorem dX11_frees_3 : decode cX11_frees 3 = .ok (.bipush 42, 2) := by decide +kernel
theorem dX11_frees_5 : decode cX11_frees 5 = .ok (.if_icmp .ge 16, 3) := by decide +kernel
theorem dX11_frees_8 : decode cX11_frees 8 = .ok (.aload_n 0, 1) := by decide +kernel
theorem dX11_frees_9 : decode cX11_frees 9 = .ok (.getfield 96, 3) := by decide +kernel
theorem dX11_frees_12 : decode cX11_frees 12 = .ok (.iload_n 1, 1) := by decide +kernel
theorem dX11_frees_13 : decode cX11_frees 13 = .ok (.iconst 0, 1) := by decide +kernel
theorem dX11_frees_14 : decode cX11_frees 14 = .ok (.bastore, 1) := by decide +kernel
theorem dX11_frees_15 : decode cX11_frees 15 = .ok (.iinc 1 1, 3) := by decide +kernel
theorem dX11_frees_18 : decode cX11_frees 18 = .ok (.goto (-16), 3) := by decide +kernel
theorem dX11_frees_21 : decode cX11_frees 21 = .ok (.return_, 1) := by decide +kernel
theorem dX11_mark_0 : decode cX11_mark 0 = .ok (.aload_n 0, 1) := by decide +kernel
theorem dX11_mark_1 : decode cX11_mark 1 = .ok (.iconst 0, 1) := by decide +kernel
theorem dX11_mark_2 : decode cX11_mark 2 = .ok (.putfield 121, 3) := by decide +kernel
theorem dX11_mark_5 : decode cX11_mark 5 = .ok (.iload_n 2, 1) := by decide +kernel
theorem dX11_mark_6 : decode cX11_mark 6 = .ok (.ifCond .lt 23, 3) := by decide +kernel
theorem dX11_mark_9 : decode cX11_mark 9 = .ok (.iload_n 2, 1) := by decide +kernel
theorem dX11_mark_10 : decode cX11_mark 10 = .ok (.bipush 8, 2) := by decide +kernel
theorem dX11_mark_12 : decode cX11_mark 12 = .ok (.if_icmp .ge 17, 3) := by decide +kernel
theorem dX11_mark_15 : decode cX11_mark 15 = .ok (.aload_n 0, 1) := by decide +kernel
theorem dX11_mark_16 : decode cX11_mark 16 = .ok (.getfield 32, 3) := by decide +kernel
theorem dX11_mark_19 : decode cX11_mark 19 = .ok (.iload_n 2, 1) := by decide +kernel
theorem dX11_mark_20 : decode cX11_mark 20 = .ok (.iaload, 1) := by decide +kernel
theorem dX11_mark_21 : decode cX11_mark 21 = .ok (.iconst (-1), 1) := by decide +kernel
theorem dX11_mark_22 : decode cX11_mark 22 = .ok (.if_icmp .eq 7, 3) := by decide +kernel
theorem dX11_mark_25 : decode cX11_mark 25 = .ok (.iconst 1, 1) := by decide +kernel
theorem dX11_mark_26 : decode cX11_mark 26 = .ok (.goto 4, 3) := by decide +kernel
theorem dX11_mark_29 : decode cX11_mark 29 = .ok (.iconst 0, 1) := by decide +kernel
theorem dX11_mark_30 : decode cX11_mark 30 = .ok (.istore 4, 2) := by decide +kernel
theorem dX11_mark_32 : decode cX11_mark 32 = .ok (.iload_n 1, 1) := by decide +kernel
theorem dX11_mark_33 : decode cX11_mark 33 = .ok (.ifCond .lt 50, 3) := by decide +kernel
theorem dX11_mark_36 : decode cX11_mark 36 = .ok (.iload_n 1, 1) := by decide +kernel
theorem dX11_mark_37 : decode cX11_mark 37 = .ok (.iconst 2, 1) := by decide +kernel
theorem dX11_mark_38 : decode cX11_mark 38 = .ok (.if_icmp .gt 45, 3) := by decide +kernel
theorem dX11_mark_41 : decode cX11_mark 41 = .ok (.iload_n 1, 1) := by decide +kernel
theorem dX11_mark_42 : decode cX11_mark 42 = .ok (.iconst 2, 1) := by decide +kernel
theorem dX11_mark_43 : decode cX11_mark 43 = .ok (.if_icmp .ge 8, 3) := by decide +kernel
theorem dX11_mark_46 : decode cX11_mark 46 = .ok (.iload 4, 2) := by decide +kernel
theorem dX11_mark_48 : decode cX11_mark 48 = .ok (.ifCond .eq 35, 3) := by decide +kernel
theorem dX11_mark_51 : decode cX11_mark 51 = .ok (.iload_n 1, 1) := by decide +kernel
theorem dX11_mark_52 : decode cX11_mark 52 = .ok (.ifCond .ne 17, 3) := by decide +kernel
theorem dX11_mark_55 : decode cX11_mark 55 = .ok (.iload_n 3, 1) := by decide +kernel
theorem dX11_mark_56 : decode cX11_mark 56 = .ok (.ifCond .lt 27, 3) := by decide +kernel
theorem dX11_mark_59 : decode cX11_mark 59 = .ok (.iload_n 3, 1) := by decide +kernel
theorem dX11_mark_60 : decode cX11_mark 60 = .ok (.aload_n 0, 1) := by decide +kernel
theorem dX11_mark_61 : decode cX11_mark 61 = .ok (.getfield 35, 3) := by decide +kernel
theorem dX11_mark_64 : decode cX11_mark 64 = .ok (.iload_n 2, 1) := by decide +kernel
theorem dX11_mark_65 : decode cX11_mark 65 = .ok (.iaload, 1) := by decide +kernel
theorem dX11_mark_66 : decode cX11_mark 66 = .ok (.if_icmp .ge 17, 3) := by decide +kernel
theorem dX11_mark_69 : decode cX11_mark 69 = .ok (.iload_n 1, 1) := by decide +kernel
theorem dX11_mark_70 : decode cX11_mark 70 = .ok (.iconst 2, 1) := by decide +kernel
theorem dX11_mark_71 : decode cX11_mark 71 = .ok (.if_icmp .ne 14, 3) := by decide +kernel
theorem dX11_mark_74 : decode cX11_mark 74 = .ok (.iload_n 3, 1) := by decide +kernel
theorem dX11_mark_75 : decode cX11_mark 75 = .ok (.ifCond .lt 8, 3) := by decide +kernel
theorem dX11_mark_78 : decode cX11_mark 78 = .ok (.iload_n 3, 1) := by decide +kernel
theorem dX11_mark_79 : decode cX11_mark 79 = .ok (.iconst 1, 1) := by decide +kernel
theorem dX11_mark_80 : decode cX11_mark 80 = .ok (.if_icmp .le 5, 3) := by decide +kernel
theorem dX11_mark_83 : decode cX11_mark 83 = .ok (.iconst (-1), 1) := by decide +kernel
theorem dX11_mark_84 : decode cX11_mark 84 = .ok (.ireturn, 1) := by decide +kernel
theorem dX11_mark_85 : decode cX11_mark 85 = .ok (.aload_n 0, 1) := by decide +kernel
theorem dX11_mark_86 : decode cX11_mark 86 = .ok (.invokevirtual 299, 3) := by decide +kernel
theorem dX11_mark_89 : decode cX11_mark 89 = .ok (.aload_n 0, 1) := by decide +kernel
theorem dX11_mark_90 : decode cX11_mark 90 = .ok (.invokevirtual 302, 3) := by decide +kernel
theorem dX11_mark_93 : decode cX11_mark 93 = .ok (.aload_n 0, 1) := by decide +kernel
theorem dX11_mark_94 : decode cX11_mark 94 = .ok (.getfield 93, 3) := by decide +kernel
theorem dX11_mark_97 : decode cX11_mark 97 = .ok (.iload_n 1, 1) := by decide +kernel
theorem dX11_mark_98 : decode cX11_mark 98 = .ok (.ifCond .ne 11, 3) := by decide +kernel
theorem dX11_mark_101 : decode cX11_mark 101 = .ok (.iconst 4, 1) := by decide +kernel
theorem dX11_mark_102 : decode cX11_mark 102 = .ok (.iload_n 2, 1) := by decide +kernel
theorem dX11_mark_103 : decode cX11_mark 103 = .ok (.imul, 1) := by decide +kernel
theorem dX11_mark_104 : decode cX11_mark 104 = .ok (.iload_n 3, 1) := by decide +kernel
theorem dX11_mark_105 : decode cX11_mark 105 = .ok (.iadd, 1) := by decide +kernel
theorem dX11_mark_106 : decode cX11_mark 106 = .ok (.goto 19, 3) := by decide +kernel
theorem dX11_mark_109 : decode cX11_mark 109 = .ok (.iload_n 1, 1) := by decide +kernel
theorem dX11_mark_110 : decode cX11_mark 110 = .ok (.iconst 1, 1) := by decide +kernel
theorem dX11_mark_111 : decode cX11_mark 111 = .ok (.if_icmp .ne 10, 3) := by decide +kernel
theorem dX11_mark_114 : decode cX11_mark 114 = .ok (.bipush 32, 2) := by decide +kernel
theorem dX11_mark_116 : decode cX11_mark 116 = .ok (.iload_n 2, 1) := by decide +kernel
theorem dX11_mark_117 : decode cX11_mark 117 = .ok (.iadd, 1) := by decide +kernel
theorem dX11_mark_118 : decode cX11_mark 118 = .ok (.goto 7, 3) := by decide +kernel
theorem dX11_mark_121 : decode cX11_mark 121 = .ok (.bipush 40, 2) := by decide +kernel
theorem dX11_mark_123 : decode cX11_mark 123 = .ok (.iload_n 3, 1) := by decide +kernel
theorem dX11_mark_124 : decode cX11_mark 124 = .ok (.iadd, 1) := by decide +kernel
theorem dX11_mark_125 : decode cX11_mark 125 = .ok (.iaload, 1) := by decide +kernel
theorem dX11_mark_126 : decode cX11_mark 126 = .ok (.ireturn, 1) := by decide +kernel
theorem dX11_useFact_0 : decode cX11_useFact 0 = .ok (.iconst 0, 1) := by decide +kernel
theorem dX11_useFact_1 : decode cX11_useFact 1 = .ok (.istore_n 2, 1) := by decide +kernel
theorem dX11_useFact_2 : decode cX11_useFact 2 = .ok (.iload_n 2, 1) := by decide +kernel
theorem dX11_useFact_3 : decode cX11_useFact 3 = .ok (.aload_n 0, 1) := by decide +kernel
theorem dX11_useFact_4 : decode cX11_useFact 4 = .ok (.getfield 251, 3) := by decide +kernel
theorem dX11_useFact_7 : decode cX11_useFact 7 = .ok (.if_icmp .ge 71, 3) := by decide +kernel
theorem dX11_useFact_10 : decode cX11_useFact 10 = .ok (.aload_n 0, 1) := by decide +kernel
theorem dX11_useFact_11 : decode cX11_useFact 11 = .ok (.getfield 17, 3) := by decide +kernel
theorem dX11_useFact_14 : decode cX11_useFact 14 = .ok (.iload_n 2, 1) := by decide +kernel
theorem dX11_useFact_15 : decode cX11_useFact 15 = .ok (.iaload, 1) := by decide +kernel
theorem dX11_useFact_16 : decode cX11_useFact 16 = .ok (.iconst 5, 1) := by decide +kernel
theorem dX11_useFact_17 : decode cX11_useFact 17 = .ok (.if_icmp .eq 14, 3) := by decide +kernel
theorem dX11_useFact_20 : decode cX11_useFact 20 = .ok (.aload_n 0, 1) := by decide +kernel
theorem dX11_useFact_21 : decode cX11_useFact 21 = .ok (.getfield 17, 3) := by decide +kernel
theorem dX11_useFact_24 : decode cX11_useFact 24 = .ok (.iload_n 2, 1) := by decide +kernel
theorem dX11_useFact_25 : decode cX11_useFact 25 = .ok (.iaload, 1) := by decide +kernel
theorem dX11_useFact_26 : decode cX11_useFact 26 = .ok (.bipush 8, 2) := by decide +kernel
theorem dX11_useFact_28 : decode cX11_useFact 28 = .ok (.if_icmp .ne 44, 3) := by decide +kernel
theorem dX11_useFact_31 : decode cX11_useFact 31 = .ok (.aload_n 0, 1) := by decide +kernel
theorem dX11_useFact_32 : decode cX11_useFact 32 = .ok (.getfield 26, 3) := by decide +kernel
theorem dX11_useFact_35 : decode cX11_useFact 35 = .ok (.iload_n 2, 1) := by decide +kernel
theorem dX11_useFact_36 : decode cX11_useFact 36 = .ok (.iaload, 1) := by decide +kernel
theorem dX11_useFact_37 : decode cX11_useFact 37 = .ok (.iload_n 1, 1) := by decide +kernel
theorem dX11_useFact_38 : decode cX11_useFact 38 = .ok (.if_icmp .ne 34, 3) := by decide +kernel
theorem dX11_useFact_41 : decode cX11_useFact 41 = .ok (.aload_n 0, 1) := by decide +kernel
theorem dX11_useFact_42 : decode cX11_useFact 42 = .ok (.getfield 89, 3) := by decide +kernel
theorem dX11_useFact_45 : decode cX11_useFact 45 = .ok (.iload_n 2, 1) := by decide +kernel
theorem dX11_useFact_46 : decode cX11_useFact 46 = .ok (.laload, 1) := by decide +kernel
theorem dX11_useFact_47 : decode cX11_useFact 47 = .ok (.lconst 0, 1) := by decide +kernel
theorem dX11_useFact_48 : decode cX11_useFact 48 = .ok (.lcmp, 1) := by decide +kernel
theorem dX11_useFact_49 : decode cX11_useFact 49 = .ok (.ifCond .ne 7, 3) := by decide +kernel
theorem dX11_useFact_52 : decode cX11_useFact 52 = .ok (.iconst 0, 1) := by decide +kernel
theorem dX11_useFact_53 : decode cX11_useFact 53 = .ok (.goto 18, 3) := by decide +kernel
theorem dX11_useFact_56 : decode cX11_useFact 56 = .ok (.aload_n 0, 1) := by decide +kernel
theorem dX11_useFact_57 : decode cX11_useFact 57 = .ok (.getfield 89, 3) := by decide +kernel
theorem dX11_useFact_60 : decode cX11_useFact 60 = .ok (.iload_n 2, 1) := by decide +kernel
theorem dX11_useFact_61 : decode cX11_useFact 61 = .ok (.laload, 1) := by decide +kernel
theorem dX11_useFact_62 : decode cX11_useFact 62 = .ok (.aload_n 0, 1) := by decide +kernel
theorem dX11_useFact_63 : decode cX11_useFact 63 = .ok (.getfield 20, 3) := by decide +kernel
theorem dX11_useFact_66 : decode cX11_useFact 66 = .ok (.iload_n 2, 1) := by decide +kernel
theorem dX11_useFact_67 : decode cX11_useFact 67 = .ok (.iaload, 1) := by decide +kernel
theorem dX11_useFact_68 : decode cX11_useFact 68 = .ok (.invokestatic 287, 3) := by decide +kernel
theorem dX11_useFact_71 : decode cX11_useFact 71 = .ok (.ireturn, 1) := by decide +kernel
theorem dX11_useFact_72 : decode cX11_useFact 72 = .ok (.iinc 2 1, 3) := by decide +kernel
theorem dX11_useFact_75 : decode cX11_useFact 75 = .ok (.goto (-73), 3) := by decide +kernel
theorem dX11_useFact_78 : decode cX11_useFact 78 = .ok (.iconst 0, 1) := by decide +kernel
theorem dX11_useFact_79 : decode cX11_useFact 79 = .ok (.ireturn, 1) := by decide +kernel
theorem dX11_stateOf_0 : decode cX11_stateOf 0 = .ok (.iload_n 0, 1) := by decide +kernel
theorem dX11_stateOf_1 : decode cX11_stateOf 1 = .ok (.ifCond .ne 7, 3) := by decide +kernel
theorem dX11_stateOf_4 : decode cX11_stateOf 4 = .ok (.iconst 0, 1) := by decide +kernel
theorem dX11_stateOf_5 : decode cX11_stateOf 5 = .ok (.goto 22, 3) := by decide +kernel
theorem dX11_stateOf_8 : decode cX11_stateOf 8 = .ok (.iload_n 0, 1) := by decide +kernel
theorem dX11_stateOf_9 : decode cX11_stateOf 9 = .ok (.iconst 2, 1) := by decide +kernel
theorem dX11_stateOf_10 : decode cX11_stateOf 10 = .ok (.if_icmp .ne 7, 3) := by decide +kernel
theorem dX11_stateOf_13 : decode cX11_stateOf 13 = .ok (.iconst 1, 1) := by decide +kernel
theorem dX11_stateOf_14 : decode cX11_stateOf 14 = .ok (.goto 13, 3) := by decide +kernel
theorem dX11_stateOf_17 : decode cX11_stateOf 17 = .ok (.iload_n 0, 1) := by decide +kernel
theorem dX11_stateOf_18 : decode cX11_stateOf 18 = .ok (.iconst 3, 1) := by decide +kernel
theorem dX11_stateOf_19 : decode cX11_stateOf 19 = .ok (.if_icmp .ne 7, 3) := by decide +kernel
theorem dX11_stateOf_22 : decode cX11_stateOf 22 = .ok (.iconst 2, 1) := by decide +kernel
theorem dX11_stateOf_23 : decode cX11_stateOf 23 = .ok (.goto 4, 3) := by decide +kernel
theorem dX11_stateOf_26 : decode cX11_stateOf 26 = .ok (.iconst 3, 1) := by decide +kernel
theorem dX11_stateOf_27 : decode cX11_stateOf 27 = .ok (.ireturn, 1) := by decide +kernel
theorem dX11_use_0 : decode cX11_use 0 = .ok (.aload_n 0, 1) := by decide +kernel
theorem dX11_use_1 : decode cX11_use 1 = .ok (.iconst 0, 1) := by decide +kernel
theorem dX11_use_2 : decode cX11_use 2 = .ok (.putfield 121, 3) := by decide +kernel
theorem dX11_use_5 : decode cX11_use 5 = .ok (.iload_n 1, 1) := by decide +kernel
theorem dX11_use_6 : decode cX11_use 6 = .ok (.ifCond .lt 13, 3) := by decide +kernel
theorem dX11_use_9 : decode cX11_use 9 = .ok (.iload_n 1, 1) := by decide +kernel
theorem dX11_use_10 : decode cX11_use 10 = .ok (.aload_n 0, 1) := by decide +kernel
theorem dX11_use_11 : decode cX11_use 11 = .ok (.getfield 53, 3) := by decide +kernel
