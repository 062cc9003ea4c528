theorem dX11_feed_0 : decode cX11_feed 0 = .ok (.aload_n 0, 1) := by decide +kernel
theorem dX11_feed_1 : decode cX11_feed 1 = .ok (.iconst 0, 1) := by decide +kernel
theorem dX11_feed_2 : decode cX11_feed 2 = .ok (.putfield 121, 3) := by decide +kernel
theorem dX11_feed_5 : decode cX11_feed 5 = .ok (.aload_n 0, 1) := by decide +kernel
theorem dX11_feed_6 : decode cX11_feed 6 = .ok (.getfield 124, 3) := by decide +kernel
theorem dX11_feed_9 : decode cX11_feed 9 = .ok (.sipush 1180, 3) := by decide +kernel
theorem dX11_feed_12 : decode cX11_feed 12 = .ok (.if_icmp .le 5, 3) := by decide +kernel
theorem dX11_feed_15 : decode cX11_feed 15 = .ok (.iconst (-1), 1) := by decide +kernel
theorem dX11_feed_16 : decode cX11_feed 16 = .ok (.ireturn, 1) := by decide +kernel
theorem dX11_feed_17 : decode cX11_feed 17 = .ok (.iconst 0, 1) := by decide +kernel
theorem dX11_feed_18 : decode cX11_feed 18 = .ok (.istore 6, 2) := by decide +kernel
theorem dX11_feed_20 : decode cX11_feed 20 = .ok (.iload 6, 2) := by decide +kernel
theorem dX11_feed_22 : decode cX11_feed 22 = .ok (.bipush 20, 2) := by decide +kernel
theorem dX11_feed_24 : decode cX11_feed 24 = .ok (.if_icmp .ge 86, 3) := by decide +kernel
theorem dX11_feed_27 : decode cX11_feed 27 = .ok (.iload 6, 2) := by decide +kernel
theorem dX11_feed_29 : decode cX11_feed 29 = .ok (.iconst 4, 1) := by decide +kernel
theorem dX11_feed_30 : decode cX11_feed 30 = .ok (.if_icmp .ge 7, 3) := by decide +kernel
theorem dX11_feed_33 : decode cX11_feed 33 = .ok (.iload_n 1, 1) := by decide +kernel
theorem dX11_feed_34 : decode cX11_feed 34 = .ok (.goto 39, 3) := by decide +kernel
theorem dX11_feed_37 : decode cX11_feed 37 = .ok (.iload 6, 2) := by decide +kernel
theorem dX11_feed_39 : decode cX11_feed 39 = .ok (.bipush 8, 2) := by decide +kernel
theorem dX11_feed_41 : decode cX11_feed 41 = .ok (.if_icmp .ge 7, 3) := by decide +kernel
theorem dX11_feed_44 : decode cX11_feed 44 = .ok (.iload_n 2, 1) := by decide +kernel
theorem dX11_feed_45 : decode cX11_feed 45 = .ok (.goto 28, 3) := by decide +kernel
theorem dX11_feed_48 : decode cX11_feed 48 = .ok (.iload 6, 2) := by decide +kernel
theorem dX11_feed_50 : decode cX11_feed 50 = .ok (.bipush 12, 2) := by decide +kernel
theorem dX11_feed_52 : decode cX11_feed 52 = .ok (.if_icmp .ge 7, 3) := by decide +kernel
theorem dX11_feed_55 : decode cX11_feed 55 = .ok (.iload_n 3, 1) := by decide +kernel
theorem dX11_feed_56 : decode cX11_feed 56 = .ok (.goto 17, 3) := by decide +kernel
theorem dX11_feed_59 : decode cX11_feed 59 = .ok (.iload 6, 2) := by decide +kernel
theorem dX11_feed_61 : decode cX11_feed 61 = .ok (.bipush 16, 2) := by decide +kernel
theorem dX11_feed_63 : decode cX11_feed 63 = .ok (.if_icmp .ge 8, 3) := by decide +kernel
theorem dX11_feed_66 : decode cX11_feed 66 = .ok (.iload 4, 2) := by decide +kernel
theorem dX11_feed_68 : decode cX11_feed 68 = .ok (.goto 5, 3) := by decide +kernel
theorem dX11_feed_71 : decode cX11_feed 71 = .ok (.iload 5, 2) := by decide +kernel
theorem dX11_feed_73 : decode cX11_feed 73 = .ok (.istore 7, 2) := by decide +kernel
theorem dX11_feed_75 : decode cX11_feed 75 = .ok (.aload_n 0, 1) := by decide +kernel
theorem dX11_feed_76 : decode cX11_feed 76 = .ok (.getfield 7, 3) := by decide +kernel
theorem dX11_feed_79 : decode cX11_feed 79 = .ok (.aload_n 0, 1) := by decide +kernel
theorem dX11_feed_80 : decode cX11_feed 80 = .ok (.getfield 124, 3) := by decide +kernel
theorem dX11_feed_83 : decode cX11_feed 83 = .ok (.iload 6, 2) := by decide +kernel
theorem dX11_feed_85 : decode cX11_feed 85 = .ok (.iadd, 1) := by decide +kernel
theorem dX11_feed_86 : decode cX11_feed 86 = .ok (.iload 7, 2) := by decide +kernel
theorem dX11_feed_88 : decode cX11_feed 88 = .ok (.bipush 24, 2) := by decide +kernel
theorem dX11_feed_90 : decode cX11_feed 90 = .ok (.bipush 8, 2) := by decide +kernel
theorem dX11_feed_92 : decode cX11_feed 92 = .ok (.iload 6, 2) := by decide +kernel
theorem dX11_feed_94 : decode cX11_feed 94 = .ok (.iconst 4, 1) := by decide +kernel
theorem dX11_feed_95 : decode cX11_feed 95 = .ok (.irem, 1) := by decide +kernel
theorem dX11_feed_96 : decode cX11_feed 96 = .ok (.imul, 1) := by decide +kernel
theorem dX11_feed_97 : decode cX11_feed 97 = .ok (.isub, 1) := by decide +kernel
theorem dX11_feed_98 : decode cX11_feed 98 = .ok (.ishr, 1) := by decide +kernel
theorem dX11_feed_99 : decode cX11_feed 99 = .ok (.sipush 255, 3) := by decide +kernel
theorem dX11_feed_102 : decode cX11_feed 102 = .ok (.iand, 1) := by decide +kernel
theorem dX11_feed_103 : decode cX11_feed 103 = .ok (.iastore, 1) := by decide +kernel
theorem dX11_feed_104 : decode cX11_feed 104 = .ok (.iinc 6 1, 3) := by decide +kernel
theorem dX11_feed_107 : decode cX11_feed 107 = .ok (.goto (-87), 3) := by decide +kernel
theorem dX11_feed_110 : decode cX11_feed 110 = .ok (.aload_n 0, 1) := by decide +kernel
theorem dX11_feed_111 : decode cX11_feed 111 = .ok (.dup, 1) := by decide +kernel
theorem dX11_feed_112 : decode cX11_feed 112 = .ok (.getfield 124, 3) := by decide +kernel
theorem dX11_feed_115 : decode cX11_feed 115 = .ok (.bipush 20, 2) := by decide +kernel
theorem dX11_feed_117 : decode cX11_feed 117 = .ok (.iadd, 1) := by decide +kernel
theorem dX11_feed_118 : decode cX11_feed 118 = .ok (.putfield 124, 3) := by decide +kernel
theorem dX11_feed_121 : decode cX11_feed 121 = .ok (.aload_n 0, 1) := by decide +kernel
theorem dX11_feed_122 : decode cX11_feed 122 = .ok (.getfield 124, 3) := by decide +kernel
theorem dX11_feed_125 : decode cX11_feed 125 = .ok (.ireturn, 1) := by decide +kernel
theorem dX11_here_0 : decode cX11_here 0 = .ok (.aload_n 0, 1) := by decide +kernel
theorem dX11_here_1 : decode cX11_here 1 = .ok (.getfield 127, 3) := by decide +kernel
theorem dX11_here_4 : decode cX11_here 4 = .ok (.aload_n 0, 1) := by decide +kernel
theorem dX11_here_5 : decode cX11_here 5 = .ok (.getfield 130, 3) := by decide +kernel
theorem dX11_here_8 : decode cX11_here 8 = .ok (.if_icmp .ge 15, 3) := by decide +kernel
theorem dX11_here_11 : decode cX11_here 11 = .ok (.aload_n 0, 1) := by decide +kernel
theorem dX11_here_12 : decode cX11_here 12 = .ok (.getfield 7, 3) := by decide +kernel
theorem dX11_here_15 : decode cX11_here 15 = .ok (.aload_n 0, 1) := by decide +kernel
theorem dX11_here_16 : decode cX11_here 16 = .ok (.getfield 127, 3) := by decide +kernel
theorem dX11_here_19 : decode cX11_here 19 = .ok (.iaload, 1) := by decide +kernel
theorem dX11_here_20 : decode cX11_here 20 = .ok (.goto 4, 3) := by decide +kernel
theorem dX11_here_23 : decode cX11_here 23 = .ok (.iconst (-1), 1) := by decide +kernel
theorem dX11_here_24 : decode cX11_here 24 = .ok (.ireturn, 1) := by decide +kernel
theorem dX11_isSmall_0 : decode cX11_isSmall 0 = .ok (.iload_n 0, 1) := by decide +kernel
theorem dX11_isSmall_1 : decode cX11_isSmall 1 = .ok (.bipush 97, 2) := by decide +kernel
theorem dX11_isSmall_3 : decode cX11_isSmall 3 = .ok (.if_icmp .lt 13, 3) := by decide +kernel
theorem dX11_isSmall_6 : decode cX11_isSmall 6 = .ok (.iload_n 0, 1) := by decide +kernel
theorem dX11_isSmall_7 : decode cX11_isSmall 7 = .ok (.bipush 122, 2) := by decide +kernel
theorem dX11_isSmall_9 : decode cX11_isSmall 9 = .ok (.if_icmp .gt 7, 3) := by decide +kernel
theorem dX11_isSmall_12 : decode cX11_isSmall 12 = .ok (.iconst 1, 1) := by decide +kernel
theorem dX11_isSmall_13 : decode cX11_isSmall 13 = .ok (.goto 4, 3) := by decide +kernel
theorem dX11_isSmall_16 : decode cX11_isSmall 16 = .ok (.iconst 0, 1) := by decide +kernel
theorem dX11_isSmall_17 : decode cX11_isSmall 17 = .ok (.ireturn, 1) := by decide +kernel
theorem dX11_next_0 : decode cX11_next 0 = .ok (.aload_n 0, 1) := by decide +kernel
theorem dX11_next_1 : decode cX11_next 1 = .ok (.invokevirtual 133, 3) := by decide +kernel
theorem dX11_next_4 : decode cX11_next 4 = .ok (.bipush 10, 2) := by decide +kernel
theorem dX11_next_6 : decode cX11_next 6 = .ok (.if_icmp .eq 12, 3) := by decide +kernel
theorem dX11_next_9 : decode cX11_next 9 = .ok (.aload_n 0, 1) := by decide +kernel
theorem dX11_next_10 : decode cX11_next 10 = .ok (.invokevirtual 133, 3) := by decide +kernel
theorem dX11_next_13 : decode cX11_next 13 = .ok (.bipush 32, 2) := by decide +kernel
theorem dX11_next_15 : decode cX11_next 15 = .ok (.if_icmp .ne 16, 3) := by decide +kernel
theorem dX11_next_18 : decode cX11_next 18 = .ok (.aload_n 0, 1) := by decide +kernel
theorem dX11_next_19 : decode cX11_next 19 = .ok (.dup, 1) := by decide +kernel
theorem dX11_next_20 : decode cX11_next 20 = .ok (.getfield 127, 3) := by decide +kernel
theorem dX11_next_23 : decode cX11_next 23 = .ok (.iconst 1, 1) := by decide +kernel
theorem dX11_next_24 : decode cX11_next 24 = .ok (.iadd, 1) := by decide +kernel
theorem dX11_next_25 : decode cX11_next 25 = .ok (.putfield 127, 3) := by decide +kernel
theorem dX11_next_28 : decode cX11_next 28 = .ok (.goto (-28), 3) := by decide +kernel
theorem dX11_next_31 : decode cX11_next 31 = .ok (.aload_n 0, 1) := by decide +kernel
theorem dX11_next_32 : decode cX11_next 32 = .ok (.aload_n 0, 1) := by decide +kernel
theorem dX11_next_33 : decode cX11_next 33 = .ok (.getfield 127, 3) := by decide +kernel
theorem dX11_next_36 : decode cX11_next 36 = .ok (.putfield 137, 3) := by decide +kernel
theorem dX11_next_39 : decode cX11_next 39 = .ok (.aload_n 0, 1) := by decide +kernel
theorem dX11_next_40 : decode cX11_next 40 = .ok (.invokevirtual 133, 3) := by decide +kernel
theorem dX11_next_43 : decode cX11_next 43 = .ok (.istore_n 1, 1) := by decide +kernel
theorem dX11_next_44 : decode cX11_next 44 = .ok (.iload_n 1, 1) := by decide +kernel
theorem dX11_next_45 : decode cX11_next 45 = .ok (.iconst (-1), 1) := by decide +kernel
theorem dX11_next_46 : decode cX11_next 46 = .ok (.if_icmp .ne 11, 3) := by decide +kernel
theorem dX11_next_49 : decode cX11_next 49 = .ok (.aload_n 0, 1) := by decide +kernel
theorem dX11_next_50 : decode cX11_next 50 = .ok (.iconst 4, 1) := by decide +kernel
theorem dX11_next_51 : decode cX11_next 51 = .ok (.putfield 140, 3) := by decide +kernel
theorem dX11_next_54 : decode cX11_next 54 = .ok (.goto 215, 3) := by decide +kernel
theorem dX11_next_57 : decode cX11_next 57 = .ok (.iload_n 1, 1) := by decide +kernel
theorem dX11_next_58 : decode cX11_next 58 = .ok (.invokestatic 143, 3) := by decide +kernel
theorem dX11_next_61 : decode cX11_next 61 = .ok (.ifCond .eq 91, 3) := by decide +kernel
theorem dX11_next_64 : decode cX11_next 64 = .ok (.aload_n 0, 1) := by decide +kernel
theorem dX11_next_65 : decode cX11_next 65 = .ok (.invokevirtual 133, 3) := by decide +kernel
theorem dX11_next_68 : decode cX11_next 68 = .ok (.invokestatic 143, 3) := by decide +kernel
theorem dX11_next_71 : decode cX11_next 71 = .ok (.ifCond .eq 16, 3) := by decide +kernel
theorem dX11_next_74 : decode cX11_next 74 = .ok (.aload_n 0, 1) := by decide +kernel
theorem dX11_next_75 : decode cX11_next 75 = .ok (.dup, 1) := by decide +kernel
theorem dX11_next_76 : decode cX11_next 76 = .ok (.getfield 127, 3) := by decide +kernel
theorem dX11_next_79 : decode cX11_next 79 = .ok (.iconst 1, 1) := by decide +kernel
theorem dX11_next_80 : decode cX11_next 80 = .ok (.iadd, 1) := by decide +kernel
theorem dX11_next_81 : decode cX11_next 81 = .ok (.putfield 127, 3) := by decide +kernel
theorem dX11_next_84 : decode cX11_next 84 = .ok (.goto (-20), 3) := by decide +kernel
theorem dX11_next_87 : decode cX11_next 87 = .ok (.aload_n 0, 1) := by decide +kernel
theorem dX11_next_88 : decode cX11_next 88 = .ok (.aload_n 0, 1) := by decide +kernel
theorem dX11_next_89 : decode cX11_next 89 = .ok (.getfield 127, 3) := by decide +kernel
theorem dX11_next_92 : decode cX11_next 92 = .ok (.aload_n 0, 1) := by decide +kernel
theorem dX11_next_93 : decode cX11_next 93 = .ok (.getfield 137, 3) := by decide +kernel
theorem dX11_next_96 : decode cX11_next 96 = .ok (.iconst 1, 1) := by decide +kernel
theorem dX11_next_97 : decode cX11_next 97 = .ok (.iadd, 1) := by decide +kernel
theorem dX11_next_98 : decode cX11_next 98 = .ok (.if_icmp .ne 10, 3) := by decide +kernel
theorem dX11_next_101 : decode cX11_next 101 = .ok (.iload_n 1, 1) := by decide +kernel
theorem dX11_next_102 : decode cX11_next 102 = .ok (.bipush 97, 2) := by decide +kernel
theorem dX11_next_104 : decode cX11_next 104 = .ok (.isub, 1) := by decide +kernel
theorem dX11_next_105 : decode cX11_next 105 = .ok (.goto 7, 3) := by decide +kernel
theorem dX11_next_108 : decode cX11_next 108 = .ok (.aload_n 0, 1) := by decide +kernel
theorem dX11_next_109 : decode cX11_next 109 = .ok (.invokevirtual 147, 3) := by decide +kernel
theorem dX11_next_112 : decode cX11_next 112 = .ok (.putfield 150, 3) := by decide +kernel
theorem dX11_next_115 : decode cX11_next 115 = .ok (.aload_n 0, 1) := by decide +kernel
theorem dX11_next_116 : decode cX11_next 116 = .ok (.aload_n 0, 1) := by decide +kernel
theorem dX11_next_117 : decode cX11_next 117 = .ok (.getfield 127, 3) := by decide +kernel
theorem dX11_next_120 : decode cX11_next 120 = .ok (.aload_n 0, 1) := by decide +kernel
theorem dX11_next_121 : decode cX11_next 121 = .ok (.getfield 137, 3) := by decide +kernel
theorem dX11_next_124 : decode cX11_next 124 = .ok (.iconst 1, 1) := by decide +kernel
theorem dX11_next_125 : decode cX11_next 125 = .ok (.iadd, 1) := by decide +kernel
theorem dX11_next_126 : decode cX11_next 126 = .ok (.if_icmp .ne 7, 3) := by decide +kernel
theorem dX11_next_129 : decode cX11_next 129 = .ok (.iconst 0, 1) := by decide +kernel
theorem dX11_next_130 : decode cX11_next 130 = .ok (.goto 16, 3) := by decide +kernel
theorem dX11_next_133 : decode cX11_next 133 = .ok (.aload_n 0, 1) := by decide +kernel
theorem dX11_next_134 : decode cX11_next 134 = .ok (.getfield 150, 3) := by decide +kernel
theorem dX11_next_137 : decode cX11_next 137 = .ok (.iconst (-1), 1) := by decide +kernel
theorem dX11_next_138 : decode cX11_next 138 = .ok (.if_icmp .ne 7, 3) := by decide +kernel
theorem dX11_next_141 : decode cX11_next 141 = .ok (.iconst 5, 1) := by decide +kernel
theorem dX11_next_142 : decode cX11_next 142 = .ok (.goto 4, 3) := by decide +kernel
theorem dX11_next_145 : decode cX11_next 145 = .ok (.iconst 2, 1) := by decide +kernel
theorem dX11_next_146 : decode cX11_next 146 = .ok (.putfield 140, 3) := by decide +kernel
theorem dX11_next_149 : decode cX11_next 149 = .ok (.goto 120, 3) := by decide +kernel
theorem dX11_next_152 : decode cX11_next 152 = .ok (.aload_n 0, 1) := by decide +kernel
theorem dX11_next_153 : decode cX11_next 153 = .ok (.dup, 1) := by decide +kernel
theorem dX11_next_154 : decode cX11_next 154 = .ok (.getfield 127, 3) := by decide +kernel
theorem dX11_next_157 : decode cX11_next 157 = .ok (.iconst 1, 1) := by decide +kernel
theorem dX11_next_158 : decode cX11_next 158 = .ok (.iadd, 1) := by decide +kernel
theorem dX11_next_159 : decode cX11_next 159 = .ok (.putfield 127, 3) := by decide +kernel
theorem dX11_next_162 : decode cX11_next 162 = .ok (.aload_n 0, 1) := by decide +kernel
theorem dX11_next_163 : decode cX11_next 163 = .ok (.iload_n 1, 1) := by decide +kernel
theorem dX11_next_164 : decode cX11_next 164 = .ok (.bipush 65, 2) := by decide +kernel
theorem dX11_next_166 : decode cX11_next 166 = .ok (.if_icmp .lt 16, 3) := by decide +kernel
theorem dX11_next_169 : decode cX11_next 169 = .ok (.iload_n 1, 1) := by decide +kernel
theorem dX11_next_170 : decode cX11_next 170 = .ok (.bipush 72, 2) := by decide +kernel
theorem dX11_next_172 : decode cX11_next 172 = .ok (.if_icmp .gt 10, 3) := by decide +kernel
theorem dX11_next_175 : decode cX11_next 175 = .ok (.iload_n 1, 1) := by decide +kernel
theorem dX11_next_176 : decode cX11_next 176 = .ok (.bipush 65, 2) := by decide +kernel
theorem dX11_next_178 : decode cX11_next 178 = .ok (.isub, 1) := by decide +kernel
theorem dX11_next_179 : decode cX11_next 179 = .ok (.goto 4, 3) := by decide +kernel
theorem dX11_next_182 : decode cX11_next 182 = .ok (.iload_n 1, 1) := by decide +kernel
theorem dX11_next_183 : decode cX11_next 183 = .ok (.putfield 150, 3) := by decide +kernel
theorem dX11_next_186 : decode cX11_next 186 = .ok (.iload_n 1, 1) := by decide +kernel
theorem dX11_next_187 : decode cX11_next 187 = .ok (.bipush 123, 2) := by decide +kernel
theorem dX11_next_189 : decode cX11_next 189 = .ok (.if_icmp .eq 45, 3) := by decide +kernel
theorem dX11_next_192 : decode cX11_next 192 = .ok (.iload_n 1, 1) := by decide +kernel
theorem dX11_next_193 : decode cX11_next 193 = .ok (.bipush 125, 2) := by decide +kernel
theorem dX11_next_195 : decode cX11_next 195 = .ok (.if_icmp .eq 39, 3) := by decide +kernel
theorem dX11_next_198 : decode cX11_next 198 = .ok (.iload_n 1, 1) := by decide +kernel
theorem dX11_next_199 : decode cX11_next 199 = .ok (.bipush 40, 2) := by decide +kernel
theorem dX11_next_201 : decode cX11_next 201 = .ok (.if_icmp .eq 33, 3) := by decide +kernel
theorem dX11_next_204 : decode cX11_next 204 = .ok (.iload_n 1, 1) := by decide +kernel
theorem dX11_next_205 : decode cX11_next 205 = .ok (.bipush 41, 2) := by decide +kernel
theorem dX11_next_207 : decode cX11_next 207 = .ok (.if_icmp .eq 27, 3) := by decide +kernel
theorem dX11_next_210 : decode cX11_next 210 = .ok (.iload_n 1, 1) := by decide +kernel
theorem dX11_next_211 : decode cX11_next 211 = .ok (.bipush 44, 2) := by decide +kernel
theorem dX11_next_213 : decode cX11_next 213 = .ok (.if_icmp .eq 21, 3) := by decide +kernel
theorem dX11_next_216 : decode cX11_next 216 = .ok (.iload_n 1, 1) := by decide +kernel
theorem dX11_next_217 : decode cX11_next 217 = .ok (.bipush 59, 2) := by decide +kernel
theorem dX11_next_219 : decode cX11_next 219 = .ok (.if_icmp .eq 15, 3) := by decide +kernel
theorem dX11_next_222 : decode cX11_next 222 = .ok (.iload_n 1, 1) := by decide +kernel
theorem dX11_next_223 : decode cX11_next 223 = .ok (.bipush 61, 2) := by decide +kernel
theorem dX11_next_225 : decode cX11_next 225 = .ok (.if_icmp .eq 9, 3) := by decide +kernel
theorem dX11_next_228 : decode cX11_next 228 = .ok (.iload_n 1, 1) := by decide +kernel
theorem dX11_next_229 : decode cX11_next 229 = .ok (.bipush 46, 2) := by decide +kernel
theorem dX11_next_231 : decode cX11_next 231 = .ok (.if_icmp .ne 7, 3) := by decide +kernel
theorem dX11_next_234 : decode cX11_next 234 = .ok (.iconst 1, 1) := by decide +kernel
theorem dX11_next_235 : decode cX11_next 235 = .ok (.goto 4, 3) := by decide +kernel
theorem dX11_next_238 : decode cX11_next 238 = .ok (.iconst 0, 1) := by decide +kernel
theorem dX11_next_239 : decode cX11_next 239 = .ok (.istore_n 2, 1) := by decide +kernel
theorem dX11_next_240 : decode cX11_next 240 = .ok (.aload_n 0, 1) := by decide +kernel
theorem dX11_next_241 : decode cX11_next 241 = .ok (.iload_n 1, 1) := by decide +kernel
theorem dX11_next_242 : decode cX11_next 242 = .ok (.bipush 65, 2) := by decide +kernel
theorem dX11_next_244 : decode cX11_next 244 = .ok (.if_icmp .lt 13, 3) := by decide +kernel
theorem dX11_next_247 : decode cX11_next 247 = .ok (.iload_n 1, 1) := by decide +kernel
theorem dX11_next_248 : decode cX11_next 248 = .ok (.bipush 72, 2) := by decide +kernel
theorem dX11_next_250 : decode cX11_next 250 = .ok (.if_icmp .gt 7, 3) := by decide +kernel
theorem dX11_next_253 : decode cX11_next 253 = .ok (.iconst 1, 1) := by decide +kernel
theorem dX11_next_254 : decode cX11_next 254 = .ok (.goto 12, 3) := by decide +kernel
theorem dX11_next_257 : decode cX11_next 257 = .ok (.iload_n 2, 1) := by decide +kernel
theorem dX11_next_258 : decode cX11_next 258 = .ok (.ifCond .eq 7, 3) := by decide +kernel
theorem dX11_next_261 : decode cX11_next 261 = .ok (.iconst 3, 1) := by decide +kernel
theorem dX11_next_262 : decode cX11_next 262 = .ok (.goto 4, 3) := by decide +kernel
theorem dX11_next_265 : decode cX11_next 265 = .ok (.iconst 5, 1) := by decide +kernel
theorem dX11_next_266 : decode cX11_next 266 = .ok (.putfield 140, 3) := by decide +kernel
theorem dX11_next_269 : decode cX11_next 269 = .ok (.return_, 1) := by decide +kernel
theorem dX11_wordOf_0 : decode cX11_wordOf 0 = .ok (.iconst 0, 1) := by decide +kernel
theorem dX11_wordOf_1 : decode cX11_wordOf 1 = .ok (.istore_n 1, 1) := by decide +kernel
theorem dX11_wordOf_2 : decode cX11_wordOf 2 = .ok (.iconst 0, 1) := by decide +kernel
theorem dX11_wordOf_3 : decode cX11_wordOf 3 = .ok (.istore_n 2, 1) := by decide +kernel
theorem dX11_wordOf_4 : decode cX11_wordOf 4 = .ok (.iload_n 2, 1) := by decide +kernel
theorem dX11_wordOf_5 : decode cX11_wordOf 5 = .ok (.ldc 153, 2) := by decide +kernel
theorem dX11_wordOf_7 : decode cX11_wordOf 7 = .ok (.invokevirtual 155, 3) := by decide +kernel
theorem dX11_wordOf_10 : decode cX11_wordOf 10 = .ok (.if_icmp .ge 113, 3) := by decide +kernel
theorem dX11_wordOf_13 : decode cX11_wordOf 13 = .ok (.iconst 0, 1) := by decide +kernel
theorem dX11_wordOf_14 : decode cX11_wordOf 14 = .ok (.istore_n 3, 1) := by decide +kernel
theorem dX11_wordOf_15 : decode cX11_wordOf 15 = .ok (.ldc 153, 2) := by decide +kernel
theorem dX11_wordOf_17 : decode cX11_wordOf 17 = .ok (.iload_n 2, 1) := by decide +kernel
theorem dX11_wordOf_18 : decode cX11_wordOf 18 = .ok (.iload_n 3, 1) := by decide +kernel
theorem dX11_wordOf_19 : decode cX11_wordOf 19 = .ok (.iadd, 1) := by decide +kernel
theorem dX11_wordOf_20 : decode cX11_wordOf 20 = .ok (.invokevirtual 160, 3) := by decide +kernel
theorem dX11_wordOf_23 : decode cX11_wordOf 23 = .ok (.bipush 32, 2) := by decide +kernel
theorem dX11_wordOf_25 : decode cX11_wordOf 25 = .ok (.if_icmp .eq 44, 3) := by decide +kernel
theorem dX11_wordOf_28 : decode cX11_wordOf 28 = .ok (.aload_n 0, 1) := by decide +kernel
theorem dX11_wordOf_29 : decode cX11_wordOf 29 = .ok (.getfield 137, 3) := by decide +kernel
theorem dX11_wordOf_32 : decode cX11_wordOf 32 = .ok (.iload_n 3, 1) := by decide +kernel
theorem dX11_wordOf_33 : decode cX11_wordOf 33 = .ok (.iadd, 1) := by decide +kernel
theorem dX11_wordOf_34 : decode cX11_wordOf 34 = .ok (.aload_n 0, 1) := by decide +kernel
theorem dX11_wordOf_35 : decode cX11_wordOf 35 = .ok (.getfield 127, 3) := by decide +kernel
theorem dX11_wordOf_38 : decode cX11_wordOf 38 = .ok (.if_icmp .ge 31, 3) := by decide +kernel
theorem dX11_wordOf_41 : decode cX11_wordOf 41 = .ok (.aload_n 0, 1) := by decide +kernel
theorem dX11_wordOf_42 : decode cX11_wordOf 42 = .ok (.getfield 7, 3) := by decide +kernel
theorem dX11_wordOf_45 : decode cX11_wordOf 45 = .ok (.aload_n 0, 1) := by decide +kernel
theorem dX11_wordOf_46 : decode cX11_wordOf 46 = .ok (.getfield 137, 3) := by decide +kernel
theorem dX11_wordOf_49 : decode cX11_wordOf 49 = .ok (.iload_n 3, 1) := by decide +kernel
theorem dX11_wordOf_50 : decode cX11_wordOf 50 = .ok (.iadd, 1) := by decide +kernel
theorem dX11_wordOf_51 : decode cX11_wordOf 51 = .ok (.iaload, 1) := by decide +kernel
theorem dX11_wordOf_52 : decode cX11_wordOf 52 = .ok (.ldc 153, 2) := by decide +kernel
theorem dX11_wordOf_54 : decode cX11_wordOf 54 = .ok (.iload_n 2, 1) := by decide +kernel
theorem dX11_wordOf_55 : decode cX11_wordOf 55 = .ok (.iload_n 3, 1) := by decide +kernel
theorem dX11_wordOf_56 : decode cX11_wordOf 56 = .ok (.iadd, 1) := by decide +kernel
theorem dX11_wordOf_57 : decode cX11_wordOf 57 = .ok (.invokevirtual 160, 3) := by decide +kernel
theorem dX11_wordOf_60 : decode cX11_wordOf 60 = .ok (.if_icmp .ne 9, 3) := by decide +kernel
theorem dX11_wordOf_63 : decode cX11_wordOf 63 = .ok (.iinc 3 1, 3) := by decide +kernel
theorem dX11_wordOf_66 : decode cX11_wordOf 66 = .ok (.goto (-51), 3) := by decide +kernel
theorem dX11_wordOf_69 : decode cX11_wordOf 69 = .ok (.ldc 153, 2) := by decide +kernel
theorem dX11_wordOf_71 : decode cX11_wordOf 71 = .ok (.iload_n 2, 1) := by decide +kernel
theorem dX11_wordOf_72 : decode cX11_wordOf 72 = .ok (.iload_n 3, 1) := by decide +kernel
theorem dX11_wordOf_73 : decode cX11_wordOf 73 = .ok (.iadd, 1) := by decide +kernel
theorem dX11_wordOf_74 : decode cX11_wordOf 74 = .ok (.invokevirtual 160, 3) := by decide +kernel
theorem dX11_wordOf_77 : decode cX11_wordOf 77 = .ok (.bipush 32, 2) := by decide +kernel
theorem dX11_wordOf_79 : decode cX11_wordOf 79 = .ok (.if_icmp .ne 18, 3) := by decide +kernel
theorem dX11_wordOf_82 : decode cX11_wordOf 82 = .ok (.aload_n 0, 1) := by decide +kernel
theorem dX11_wordOf_83 : decode cX11_wordOf 83 = .ok (.getfield 137, 3) := by decide +kernel
theorem dX11_wordOf_86 : decode cX11_wordOf 86 = .ok (.iload_n 3, 1) := by decide +kernel
theorem dX11_wordOf_87 : decode cX11_wordOf 87 = .ok (.iadd, 1) := by decide +kernel
theorem dX11_wordOf_88 : decode cX11_wordOf 88 = .ok (.aload_n 0, 1) := by decide +kernel
theorem dX11_wordOf_89 : decode cX11_wordOf 89 = .ok (.getfield 127, 3) := by decide +kernel
theorem dX11_wordOf_92 : decode cX11_wordOf 92 = .ok (.if_icmp .ne 5, 3) := by decide +kernel
theorem dX11_wordOf_95 : decode cX11_wordOf 95 = .ok (.iload_n 1, 1) := by decide +kernel
theorem dX11_wordOf_96 : decode cX11_wordOf 96 = .ok (.ireturn, 1) := by decide +kernel
theorem dX11_wordOf_97 : decode cX11_wordOf 97 = .ok (.ldc 153, 2) := by decide +kernel
theorem dX11_wordOf_99 : decode cX11_wordOf 99 = .ok (.iload_n 2, 1) := by decide +kernel
theorem dX11_wordOf_100 : decode cX11_wordOf 100 = .ok (.invokevirtual 160, 3) := by decide +kernel
theorem dX11_wordOf_103 : decode cX11_wordOf 103 = .ok (.bipush 32, 2) := by decide +kernel
theorem dX11_wordOf_105 : decode cX11_wordOf 105 = .ok (.if_icmp .eq 9, 3) := by decide +kernel
theorem dX11_wordOf_108 : decode cX11_wordOf 108 = .ok (.iinc 2 1, 3) := by decide +kernel
theorem dX11_wordOf_111 : decode cX11_wordOf 111 = .ok (.goto (-14), 3) := by decide +kernel
theorem dX11_wordOf_114 : decode cX11_wordOf 114 = .ok (.iinc 2 1, 3) := by decide +kernel
theorem dX11_wordOf_117 : decode cX11_wordOf 117 = .ok (.iinc 1 1, 3) := by decide +kernel
theorem dX11_wordOf_120 : decode cX11_wordOf 120 = .ok (.goto (-116), 3) := by decide +kernel
theorem dX11_wordOf_123 : decode cX11_wordOf 123 = .ok (.iconst (-1), 1) := by decide +kernel
theorem dX11_wordOf_124 : decode cX11_wordOf 124 = .ok (.ireturn, 1) := by decide +kernel
theorem dX11_wrong_0 : decode cX11_wrong 0 = .ok (.aload_n 0, 1) := by decide +kernel
theorem dX11_wrong_1 : decode cX11_wrong 1 = .ok (.getfield 164, 3) := by decide +kernel
theorem dX11_wrong_4 : decode cX11_wrong 4 = .ok (.ifCond .eq 4, 3) := by decide +kernel
theorem dX11_wrong_7 : decode cX11_wrong 7 = .ok (.return_, 1) := by decide +kernel
theorem dX11_wrong_8 : decode cX11_wrong 8 = .ok (.aload_n 0, 1) := by decide +kernel
theorem dX11_wrong_9 : decode cX11_wrong 9 = .ok (.iload_n 1, 1) := by decide +kernel
theorem dX11_wrong_10 : decode cX11_wrong 10 = .ok (.putfield 164, 3) := by decide +kernel
theorem dX11_wrong_13 : decode cX11_wrong 13 = .ok (.aload_n 0, 1) := by decide +kernel
theorem dX11_wrong_14 : decode cX11_wrong 14 = .ok (.iload_n 2, 1) := by decide +kernel
theorem dX11_wrong_15 : decode cX11_wrong 15 = .ok (.putfield 167, 3) := by decide +kernel
theorem dX11_wrong_18 : decode cX11_wrong 18 = .ok (.return_, 1) := by decide +kernel
theorem dX11_isSign_0 : decode cX11_isSign 0 = .ok (.aload_n 0, 1) := by decide +kernel
theorem dX11_isSign_1 : decode cX11_isSign 1 = .ok (.getfield 164, 3) := by decide +kernel
theorem dX11_isSign_4 : decode cX11_isSign 4 = .ok (.ifCond .ne 23, 3) := by decide +kernel
theorem dX11_isSign_7 : decode cX11_isSign 7 = .ok (.aload_n 0, 1) := by decide +kernel
theorem dX11_isSign_8 : decode cX11_isSign 8 = .ok (.getfield 140, 3) := by decide +kernel
theorem dX11_isSign_11 : decode cX11_isSign 11 = .ok (.iconst 3, 1) := by decide +kernel
theorem dX11_isSign_12 : decode cX11_isSign 12 = .ok (.if_icmp .ne 15, 3) := by decide +kernel
theorem dX11_isSign_15 : decode cX11_isSign 15 = .ok (.aload_n 0, 1) := by decide +kernel
theorem dX11_isSign_16 : decode cX11_isSign 16 = .ok (.getfield 150, 3) := by decide +kernel
theorem dX11_isSign_19 : decode cX11_isSign 19 = .ok (.iload_n 1, 1) := by decide +kernel
theorem dX11_isSign_20 : decode cX11_isSign 20 = .ok (.if_icmp .ne 7, 3) := by decide +kernel
theorem dX11_isSign_23 : decode cX11_isSign 23 = .ok (.iconst 1, 1) := by decide +kernel
theorem dX11_isSign_24 : decode cX11_isSign 24 = .ok (.goto 4, 3) := by decide +kernel
theorem dX11_isSign_27 : decode cX11_isSign 27 = .ok (.iconst 0, 1) := by decide +kernel
theorem dX11_isSign_28 : decode cX11_isSign 28 = .ok (.ireturn, 1) := by decide +kernel
theorem dX11_isWord_0 : decode cX11_isWord 0 = .ok (.aload_n 0, 1) := by decide +kernel
theorem dX11_isWord_1 : decode cX11_isWord 1 = .ok (.getfield 164, 3) := by decide +kernel
theorem dX11_isWord_4 : decode cX11_isWord 4 = .ok (.ifCond .ne 23, 3) := by decide +kernel
theorem dX11_isWord_7 : decode cX11_isWord 7 = .ok (.aload_n 0, 1) := by decide +kernel
theorem dX11_isWord_8 : decode cX11_isWord 8 = .ok (.getfield 140, 3) := by decide +kernel
theorem dX11_isWord_11 : decode cX11_isWord 11 = .ok (.iconst 2, 1) := by decide +kernel
theorem dX11_isWord_12 : decode cX11_isWord 12 = .ok (.if_icmp .ne 15, 3) := by decide +kernel
theorem dX11_isWord_15 : decode cX11_isWord 15 = .ok (.aload_n 0, 1) := by decide +kernel
theorem dX11_isWord_16 : decode cX11_isWord 16 = .ok (.getfield 150, 3) := by decide +kernel
theorem dX11_isWord_19 : decode cX11_isWord 19 = .ok (.iload_n 1, 1) := by decide +kernel
theorem dX11_isWord_20 : decode cX11_isWord 20 = .ok (.if_icmp .ne 7, 3) := by decide +kernel
theorem dX11_isWord_23 : decode cX11_isWord 23 = .ok (.iconst 1, 1) := by decide +kernel
theorem dX11_isWord_24 : decode cX11_isWord 24 = .ok (.goto 4, 3) := by decide +kernel
theorem dX11_isWord_27 : decode cX11_isWord 27 = .ok (.iconst 0, 1) := by decide +kernel
theorem dX11_isWord_28 : decode cX11_isWord 28 = .ok (.ireturn, 1) := by decide +kernel
theorem dX11_takesSign_0 : decode cX11_takesSign 0 = .ok (.aload_n 0, 1) := by decide +kernel
theorem dX11_takesSign_1 : decode cX11_takesSign 1 = .ok (.iload_n 1, 1) := by decide +kernel
theorem dX11_takesSign_2 : decode cX11_takesSign 2 = .ok (.invokevirtual 170, 3) := by decide +kernel
theorem dX11_takesSign_5 : decode cX11_takesSign 5 = .ok (.ifCond .ne 5, 3) := by decide +kernel
theorem dX11_takesSign_8 : decode cX11_takesSign 8 = .ok (.iconst 0, 1) := by decide +kernel
theorem dX11_takesSign_9 : decode cX11_takesSign 9 = .ok (.ireturn, 1) := by decide +kernel
theorem dX11_takesSign_10 : decode cX11_takesSign 10 = .ok (.aload_n 0, 1) := by decide +kernel
theorem dX11_takesSign_11 : decode cX11_takesSign 11 = .ok (.invokevirtual 173, 3) := by decide +kernel
theorem dX11_takesSign_14 : decode cX11_takesSign 14 = .ok (.iconst 1, 1) := by decide +kernel
theorem dX11_takesSign_15 : decode cX11_takesSign 15 = .ok (.ireturn, 1) := by decide +kernel
theorem dX11_wants_0 : decode cX11_wants 0 = .ok (.aload_n 0, 1) := by decide +kernel
theorem dX11_wants_1 : decode cX11_wants 1 = .ok (.iload_n 1, 1) := by decide +kernel
theorem dX11_wants_2 : decode cX11_wants 2 = .ok (.invokevirtual 176, 3) := by decide +kernel
theorem dX11_wants_5 : decode cX11_wants 5 = .ok (.ifCond .ne 12, 3) := by decide +kernel
theorem dX11_wants_8 : decode cX11_wants 8 = .ok (.aload_n 0, 1) := by decide +kernel
theorem dX11_wants_9 : decode cX11_wants 9 = .ok (.iconst 1, 1) := by decide +kernel
theorem dX11_wants_10 : decode cX11_wants 10 = .ok (.aload_n 0, 1) := by decide +kernel
theorem dX11_wants_11 : decode cX11_wants 11 = .ok (.getfield 137, 3) := by decide +kernel
theorem dX11_wants_14 : decode cX11_wants 14 = .ok (.invokevirtual 179, 3) := by decide +kernel
theorem dX11_wants_17 : decode cX11_wants 17 = .ok (.return_, 1) := by decide +kernel
theorem dX11_taken_0 : decode cX11_taken 0 = .ok (.aload_n 0, 1) := by decide +kernel
theorem dX11_taken_1 : decode cX11_taken 1 = .ok (.getfield 164, 3) := by decide +kernel
theorem dX11_taken_4 : decode cX11_taken 4 = .ok (.ifCond .eq 5, 3) := by decide +kernel
theorem dX11_taken_7 : decode cX11_taken 7 = .ok (.iconst 0, 1) := by decide +kernel
theorem dX11_taken_8 : decode cX11_taken 8 = .ok (.ireturn, 1) := by decide +kernel
theorem dX11_taken_9 : decode cX11_taken 9 = .ok (.aload_n 0, 1) := by decide +kernel
theorem dX11_taken_10 : decode cX11_taken 10 = .ok (.getfield 140, 3) := by decide +kernel
theorem dX11_taken_13 : decode cX11_taken 13 = .ok (.iload_n 1, 1) := by decide +kernel
theorem dX11_taken_14 : decode cX11_taken 14 = .ok (.if_icmp .eq 14, 3) := by decide +kernel
theorem dX11_taken_17 : decode cX11_taken 17 = .ok (.aload_n 0, 1) := by decide +kernel
theorem dX11_taken_18 : decode cX11_taken 18 = .ok (.iconst 1, 1) := by decide +kernel
theorem dX11_taken_19 : decode cX11_taken 19 = .ok (.aload_n 0, 1) := by decide +kernel
theorem dX11_taken_20 : decode cX11_taken 20 = .ok (.getfield 137, 3) := by decide +kernel
theorem dX11_taken_23 : decode cX11_taken 23 = .ok (.invokevirtual 179, 3) := by decide +kernel
theorem dX11_taken_26 : decode cX11_taken 26 = .ok (.iconst 0, 1) := by decide +kernel
theorem dX11_taken_27 : decode cX11_taken 27 = .ok (.ireturn, 1) := by decide +kernel
theorem dX11_taken_28 : decode cX11_taken 28 = .ok (.aload_n 0, 1) := by decide +kernel
theorem dX11_taken_29 : decode cX11_taken 29 = .ok (.getfield 150, 3) := by decide +kernel
theorem dX11_taken_32 : decode cX11_taken 32 = .ok (.istore_n 2, 1) := by decide +kernel
theorem dX11_taken_33 : decode cX11_taken 33 = .ok (.aload_n 0, 1) := by decide +kernel
theorem dX11_taken_34 : decode cX11_taken 34 = .ok (.invokevirtual 173, 3) := by decide +kernel
theorem dX11_taken_37 : decode cX11_taken 37 = .ok (.iload_n 2, 1) := by decide +kernel
theorem dX11_taken_38 : decode cX11_taken 38 = .ok (.ireturn, 1) := by decide +kernel
theorem dX11_emit_0 : decode cX11_emit 0 = .ok (.sipush 1300, 3) := by decide +kernel
theorem dX11_emit_3 : decode cX11_emit 3 = .ok (.aload_n 0, 1) := by decide +kernel
theorem dX11_emit_4 : decode cX11_emit 4 = .ok (.getfield 183, 3) := by decide +kernel
theorem dX11_emit_7 : decode cX11_emit 7 = .ok (.iadd, 1) := by decide +kernel
theorem dX11_emit_8 : decode cX11_emit 8 = .ok (.istore 5, 2) := by decide +kernel
theorem dX11_emit_10 : decode cX11_emit 10 = .ok (.aload_n 0, 1) := by decide +kernel
theorem dX11_emit_11 : decode cX11_emit 11 = .ok (.getfield 17, 3) := by decide +kernel
theorem dX11_emit_14 : decode cX11_emit 14 = .ok (.iload 5, 2) := by decide +kernel
theorem dX11_emit_16 : decode cX11_emit 16 = .ok (.iload_n 1, 1) := by decide +kernel
theorem dX11_emit_17 : decode cX11_emit 17 = .ok (.iastore, 1) := by decide +kernel
theorem dX11_emit_18 : decode cX11_emit 18 = .ok (.aload_n 0, 1) := by decide +kernel
theorem dX11_emit_19 : decode cX11_emit 19 = .ok (.getfield 20, 3) := by decide +kernel
theorem dX11_emit_22 : decode cX11_emit 22 = .ok (.iload 5, 2) := by decide +kernel
theorem dX11_emit_24 : decode cX11_emit 24 = .ok (.iload_n 2, 1) := by decide +kernel
theorem dX11_emit_25 : decode cX11_emit 25 = .ok (.iastore, 1) := by decide +kernel
theorem dX11_emit_26 : decode cX11_emit 26 = .ok (.aload_n 0, 1) := by decide +kernel
theorem dX11_emit_27 : decode cX11_emit 27 = .ok (.getfield 23, 3) := by decide +kernel
theorem dX11_emit_30 : decode cX11_emit 30 = .ok (.iload 5, 2) := by decide +kernel
theorem dX11_emit_32 : decode cX11_emit 32 = .ok (.iload_n 3, 1) := by decide +kernel
theorem dX11_emit_33 : decode cX11_emit 33 = .ok (.iastore, 1) := by decide +kernel
theorem dX11_emit_34 : decode cX11_emit 34 = .ok (.aload_n 0, 1) := by decide +kernel
theorem dX11_emit_35 : decode cX11_emit 35 = .ok (.getfield 26, 3) := by decide +kernel
theorem dX11_emit_38 : decode cX11_emit 38 = .ok (.iload 5, 2) := by decide +kernel
theorem dX11_emit_40 : decode cX11_emit 40 = .ok (.iload 4, 2) := by decide +kernel
theorem dX11_emit_42 : decode cX11_emit 42 = .ok (.iastore, 1) := by decide +kernel
theorem dX11_emit_43 : decode cX11_emit 43 = .ok (.aload_n 0, 1) := by decide +kernel
theorem dX11_emit_44 : decode cX11_emit 44 = .ok (.dup, 1) := by decide +kernel
theorem dX11_emit_45 : decode cX11_emit 45 = .ok (.getfield 183, 3) := by decide +kernel
theorem dX11_emit_48 : decode cX11_emit 48 = .ok (.iconst 1, 1) := by decide +kernel
theorem dX11_emit_49 : decode cX11_emit 49 = .ok (.iadd, 1) := by decide +kernel
theorem dX11_emit_50 : decode cX11_emit 50 = .ok (.putfield 183, 3) := by decide +kernel
theorem dX11_emit_53 : decode cX11_emit 53 = .ok (.aload_n 0, 1) := by decide +kernel
theorem dX11_emit_54 : decode cX11_emit 54 = .ok (.getfield 183, 3) := by decide +kernel
theorem dX11_emit_57 : decode cX11_emit 57 = .ok (.iconst 1, 1) := by decide +kernel
theorem dX11_emit_58 : decode cX11_emit 58 = .ok (.isub, 1) := by decide +kernel
theorem dX11_emit_59 : decode cX11_emit 59 = .ok (.ireturn, 1) := by decide +kernel
theorem dX11_parses_0 : decode cX11_parses 0 = .ok (.aload_n 0, 1) := by decide +kernel
theorem dX11_parses_1 : decode cX11_parses 1 = .ok (.iconst 0, 1) := by decide +kernel
theorem dX11_parses_2 : decode cX11_parses 2 = .ok (.putfield 127, 3) := by decide +kernel
theorem dX11_parses_5 : decode cX11_parses 5 = .ok (.aload_n 0, 1) := by decide +kernel
theorem dX11_parses_6 : decode cX11_parses 6 = .ok (.iconst 0, 1) := by decide +kernel
theorem dX11_parses_7 : decode cX11_parses 7 = .ok (.putfield 164, 3) := by decide +kernel
theorem dX11_parses_10 : decode cX11_parses 10 = .ok (.aload_n 0, 1) := by decide +kernel
theorem dX11_parses_11 : decode cX11_parses 11 = .ok (.iconst (-1), 1) := by decide +kernel
theorem dX11_parses_12 : decode cX11_parses 12 = .ok (.putfield 167, 3) := by decide +kernel
theorem dX11_parses_15 : decode cX11_parses 15 = .ok (.aload_n 0, 1) := by decide +kernel
theorem dX11_parses_16 : decode cX11_parses 16 = .ok (.iconst 0, 1) := by decide +kernel
theorem dX11_parses_17 : decode cX11_parses 17 = .ok (.putfield 183, 3) := by decide +kernel
theorem dX11_parses_20 : decode cX11_parses 20 = .ok (.aload_n 0, 1) := by decide +kernel
theorem dX11_parses_21 : decode cX11_parses 21 = .ok (.iconst 0, 1) := by decide +kernel
theorem dX11_parses_22 : decode cX11_parses 22 = .ok (.putfield 186, 3) := by decide +kernel
theorem dX11_parses_25 : decode cX11_parses 25 = .ok (.aload_n 0, 1) := by decide +kernel
theorem dX11_parses_26 : decode cX11_parses 26 = .ok (.iconst 0, 1) := by decide +kernel
theorem dX11_parses_27 : decode cX11_parses 27 = .ok (.putfield 189, 3) := by decide +kernel
theorem dX11_parses_30 : decode cX11_parses 30 = .ok (.aload_n 0, 1) := by decide +kernel
theorem dX11_parses_31 : decode cX11_parses 31 = .ok (.getfield 53, 3) := by decide +kernel
theorem dX11_parses_34 : decode cX11_parses 34 = .ok (.iconst 1, 1) := by decide +kernel
theorem dX11_parses_35 : decode cX11_parses 35 = .ok (.iconst 0, 1) := by decide +kernel
theorem dX11_parses_36 : decode cX11_parses 36 = .ok (.iastore, 1) := by decide +kernel
theorem dX11_parses_37 : decode cX11_parses 37 = .ok (.aload_n 0, 1) := by decide +kernel
theorem dX11_parses_38 : decode cX11_parses 38 = .ok (.getfield 62, 3) := by decide +kernel
theorem dX11_parses_41 : decode cX11_parses 41 = .ok (.iconst 1, 1) := by decide +kernel
theorem dX11_parses_42 : decode cX11_parses 42 = .ok (.iconst 0, 1) := by decide +kernel
theorem dX11_parses_43 : decode cX11_parses 43 = .ok (.iastore, 1) := by decide +kernel
theorem dX11_parses_44 : decode cX11_parses 44 = .ok (.aload_n 0, 1) := by decide +kernel
theorem dX11_parses_45 : decode cX11_parses 45 = .ok (.getfield 41, 3) := by decide +kernel
theorem dX11_parses_48 : decode cX11_parses 48 = .ok (.iconst 1, 1) := by decide +kernel
theorem dX11_parses_49 : decode cX11_parses 49 = .ok (.iconst (-1), 1) := by decide +kernel
theorem dX11_parses_50 : decode cX11_parses 50 = .ok (.iastore, 1) := by decide +kernel
theorem dX11_parses_51 : decode cX11_parses 51 = .ok (.bipush 8, 2) := by decide +kernel
theorem dX11_parses_53 : decode cX11_parses 53 = .ok (.istore_n 1, 1) := by decide +kernel
theorem dX11_parses_54 : decode cX11_parses 54 = .ok (.iload_n 1, 1) := by decide +kernel
theorem dX11_parses_55 : decode cX11_parses 55 = .ok (.bipush 16, 2) := by decide +kernel
theorem dX11_parses_57 : decode cX11_parses 57 = .ok (.if_icmp .ge 16, 3) := by decide +kernel
theorem dX11_parses_60 : decode cX11_parses 60 = .ok (.aload_n 0, 1) := by decide +kernel
theorem dX11_parses_61 : decode cX11_parses 61 = .ok (.getfield 32, 3) := by decide +kernel
theorem dX11_parses_64 : decode cX11_parses 64 = .ok (.iload_n 1, 1) := by decide +kernel
theorem dX11_parses_65 : decode cX11_parses 65 = .ok (.iconst (-1), 1) := by decide +kernel
theorem dX11_parses_66 : decode cX11_parses 66 = .ok (.iastore, 1) := by decide +kernel
theorem dX11_parses_67 : decode cX11_parses 67 = .ok (.iinc 1 1, 3) := by decide +kernel
theorem dX11_parses_70 : decode cX11_parses 70 = .ok (.goto (-16), 3) := by decide +kernel
theorem dX11_parses_73 : decode cX11_parses 73 = .ok (.aload_n 0, 1) := by decide +kernel
theorem dX11_parses_74 : decode cX11_parses 74 = .ok (.invokevirtual 173, 3) := by decide +kernel
theorem dX11_parses_77 : decode cX11_parses 77 = .ok (.aload_n 0, 1) := by decide +kernel
theorem dX11_parses_78 : decode cX11_parses 78 = .ok (.getfield 164, 3) := by decide +kernel
theorem dX11_parses_81 : decode cX11_parses 81 = .ok (.ifCond .ne 55, 3) := by decide +kernel
theorem dX11_parses_84 : decode cX11_parses 84 = .ok (.aload_n 0, 1) := by decide +kernel
theorem dX11_parses_85 : decode cX11_parses 85 = .ok (.getfield 140, 3) := by decide +kernel
theorem dX11_parses_88 : decode cX11_parses 88 = .ok (.iconst 4, 1) := by decide +kernel
theorem dX11_parses_89 : decode cX11_parses 89 = .ok (.if_icmp .ne 10, 3) := by decide +kernel
theorem dX11_parses_92 : decode cX11_parses 92 = .ok (.aload_n 0, 1) := by decide +kernel
theorem dX11_parses_93 : decode cX11_parses 93 = .ok (.getfield 189, 3) := by decide +kernel
theorem dX11_parses_96 : decode cX11_parses 96 = .ok (.ifCond .le 40, 3) := by decide +kernel
theorem dX11_parses_99 : decode cX11_parses 99 = .ok (.aload_n 0, 1) := by decide +kernel
theorem dX11_parses_100 : decode cX11_parses 100 = .ok (.getfield 189, 3) := by decide +kernel
theorem dX11_parses_103 : decode cX11_parses 103 = .ok (.ifCond .ne 10, 3) := by decide +kernel
theorem dX11_parses_106 : decode cX11_parses 106 = .ok (.aload_n 0, 1) := by decide +kernel
theorem dX11_parses_107 : decode cX11_parses 107 = .ok (.invokevirtual 192, 3) := by decide +kernel
theorem dX11_parses_110 : decode cX11_parses 110 = .ok (.goto (-33), 3) := by decide +kernel
theorem dX11_parses_113 : decode cX11_parses 113 = .ok (.aload_n 0, 1) := by decide +kernel
theorem dX11_parses_114 : decode cX11_parses 114 = .ok (.bipush 125, 2) := by decide +kernel
theorem dX11_parses_116 : decode cX11_parses 116 = .ok (.invokevirtual 170, 3) := by decide +kernel
theorem dX11_parses_119 : decode cX11_parses 119 = .ok (.ifCond .eq 10, 3) := by decide +kernel
theorem dX11_parses_122 : decode cX11_parses 122 = .ok (.aload_n 0, 1) := by decide +kernel
theorem dX11_parses_123 : decode cX11_parses 123 = .ok (.invokevirtual 195, 3) := by decide +kernel
theorem dX11_parses_126 : decode cX11_parses 126 = .ok (.goto (-49), 3) := by decide +kernel
theorem dX11_parses_129 : decode cX11_parses 129 = .ok (.aload_n 0, 1) := by decide +kernel
theorem dX11_parses_130 : decode cX11_parses 130 = .ok (.invokevirtual 198, 3) := by decide +kernel
theorem dX11_parses_133 : decode cX11_parses 133 = .ok (.goto (-56), 3) := by decide +kernel
theorem dX11_parses_136 : decode cX11_parses 136 = .ok (.iconst 0, 1) := by decide +kernel
theorem dX11_parses_137 : decode cX11_parses 137 = .ok (.istore_n 1, 1) := by decide +kernel
theorem dX11_parses_138 : decode cX11_parses 138 = .ok (.iload_n 1, 1) := by decide +kernel
theorem dX11_parses_139 : decode cX11_parses 139 = .ok (.aload_n 0, 1) := by decide +kernel
theorem dX11_parses_140 : decode cX11_parses 140 = .ok (.getfield 186, 3) := by decide +kernel
theorem dX11_parses_143 : decode cX11_parses 143 = .ok (.if_icmp .ge 62, 3) := by decide +kernel
theorem dX11_parses_146 : decode cX11_parses 146 = .ok (.aload_n 0, 1) := by decide +kernel
theorem dX11_parses_147 : decode cX11_parses 147 = .ok (.getfield 164, 3) := by decide +kernel
theorem dX11_parses_150 : decode cX11_parses 150 = .ok (.ifCond .ne 55, 3) := by decide +kernel
theorem dX11_parses_153 : decode cX11_parses 153 = .ok (.bipush 8, 2) := by decide +kernel
theorem dX11_parses_155 : decode cX11_parses 155 = .ok (.aload_n 0, 1) := by decide +kernel
theorem dX11_parses_156 : decode cX11_parses 156 = .ok (.getfield 68, 3) := by decide +kernel
theorem dX11_parses_159 : decode cX11_parses 159 = .ok (.iload_n 1, 1) := by decide +kernel
theorem dX11_parses_160 : decode cX11_parses 160 = .ok (.iaload, 1) := by decide +kernel
theorem dX11_parses_161 : decode cX11_parses 161 = .ok (.iadd, 1) := by decide +kernel
theorem dX11_parses_162 : decode cX11_parses 162 = .ok (.istore_n 2, 1) := by decide +kernel
theorem dX11_parses_163 : decode cX11_parses 163 = .ok (.aload_n 0, 1) := by decide +kernel
theorem dX11_parses_164 : decode cX11_parses 164 = .ok (.getfield 32, 3) := by decide +kernel
theorem dX11_parses_167 : decode cX11_parses 167 = .ok (.iload_n 2, 1) := by decide +kernel
theorem dX11_parses_168 : decode cX11_parses 168 = .ok (.iaload, 1) := by decide +kernel
theorem dX11_parses_169 : decode cX11_parses 169 = .ok (.iconst (-1), 1) := by decide +kernel
theorem dX11_parses_170 : decode cX11_parses 170 = .ok (.if_icmp .eq 18, 3) := by decide +kernel
theorem dX11_parses_173 : decode cX11_parses 173 = .ok (.aload_n 0, 1) := by decide +kernel
theorem dX11_parses_174 : decode cX11_parses 174 = .ok (.getfield 35, 3) := by decide +kernel
theorem dX11_parses_177 : decode cX11_parses 177 = .ok (.iload_n 2, 1) := by decide +kernel
theorem dX11_parses_178 : decode cX11_parses 178 = .ok (.iaload, 1) := by decide +kernel
theorem dX11_parses_179 : decode cX11_parses 179 = .ok (.aload_n 0, 1) := by decide +kernel
theorem dX11_parses_180 : decode cX11_parses 180 = .ok (.getfield 71, 3) := by decide +kernel
theorem dX11_parses_183 : decode cX11_parses 183 = .ok (.iload_n 1, 1) := by decide +kernel
theorem dX11_parses_184 : decode cX11_parses 184 = .ok (.iaload, 1) := by decide +kernel
theorem dX11_parses_185 : decode cX11_parses 185 = .ok (.if_icmp .eq 14, 3) := by decide +kernel
theorem dX11_parses_188 : decode cX11_parses 188 = .ok (.aload_n 0, 1) := by decide +kernel
theorem dX11_parses_189 : decode cX11_parses 189 = .ok (.iconst 4, 1) := by decide +kernel
theorem dX11_parses_190 : decode cX11_parses 190 = .ok (.aload_n 0, 1) := by decide +kernel
theorem dX11_parses_191 : decode cX11_parses 191 = .ok (.getfield 65, 3) := by decide +kernel
theorem dX11_parses_194 : decode cX11_parses 194 = .ok (.iload_n 1, 1) := by decide +kernel
theorem dX11_parses_195 : decode cX11_parses 195 = .ok (.iaload, 1) := by decide +kernel
theorem dX11_parses_196 : decode cX11_parses 196 = .ok (.invokevirtual 179, 3) := by decide +kernel
theorem dX11_parses_199 : decode cX11_parses 199 = .ok (.iinc 1 1, 3) := by decide +kernel
theorem dX11_parses_202 : decode cX11_parses 202 = .ok (.goto (-64), 3) := by decide +kernel
theorem dX11_parses_205 : decode cX11_parses 205 = .ok (.return_, 1) := by decide +kernel
theorem dX11_opens_0 : decode cX11_opens 0 = .ok (.aload_n 0, 1) := by decide +kernel
theorem dX11_opens_1 : decode cX11_opens 1 = .ok (.bipush 123, 2) := by decide +kernel
theorem dX11_opens_3 : decode cX11_opens 3 = .ok (.invokevirtual 170, 3) := by decide +kernel
theorem dX11_opens_6 : decode cX11_opens 6 = .ok (.ifCond .eq 21, 3) := by decide +kernel
theorem dX11_opens_9 : decode cX11_opens 9 = .ok (.aload_n 0, 1) := by decide +kernel
theorem dX11_opens_10 : decode cX11_opens 10 = .ok (.getfield 189, 3) := by decide +kernel
theorem dX11_opens_13 : decode cX11_opens 13 = .ok (.bipush 6, 2) := by decide +kernel
theorem dX11_opens_15 : decode cX11_opens 15 = .ok (.if_icmp .ne 12, 3) := by decide +kernel
theorem dX11_opens_18 : decode cX11_opens 18 = .ok (.aload_n 0, 1) := by decide +kernel
theorem dX11_opens_19 : decode cX11_opens 19 = .ok (.iconst 2, 1) := by decide +kernel
theorem dX11_opens_20 : decode cX11_opens 20 = .ok (.aload_n 0, 1) := by decide +kernel
theorem dX11_opens_21 : decode cX11_opens 21 = .ok (.getfield 137, 3) := by decide +kernel
theorem dX11_opens_24 : decode cX11_opens 24 = .ok (.invokevirtual 179, 3) := by decide +kernel
theorem dX11_opens_27 : decode cX11_opens 27 = .ok (.aload_n 0, 1) := by decide +kernel
theorem dX11_opens_28 : decode cX11_opens 28 = .ok (.bipush 123, 2) := by decide +kernel
theorem dX11_opens_30 : decode cX11_opens 30 = .ok (.invokevirtual 201, 3) := by decide +kernel
theorem dX11_opens_33 : decode cX11_opens 33 = .ok (.aload_n 0, 1) := by decide +kernel
theorem dX11_opens_34 : decode cX11_opens 34 = .ok (.getfield 164, 3) := by decide +kernel
theorem dX11_opens_37 : decode cX11_opens 37 = .ok (.ifCond .eq 4, 3) := by decide +kernel
theorem dX11_opens_40 : decode cX11_opens 40 = .ok (.return_, 1) := by decide +kernel
theorem dX11_opens_41 : decode cX11_opens 41 = .ok (.aload_n 0, 1) := by decide +kernel
theorem dX11_opens_42 : decode cX11_opens 42 = .ok (.getfield 74, 3) := by decide +kernel
theorem dX11_opens_45 : decode cX11_opens 45 = .ok (.aload_n 0, 1) := by decide +kernel
theorem dX11_opens_46 : decode cX11_opens 46 = .ok (.getfield 189, 3) := by decide +kernel
theorem dX11_opens_49 : decode cX11_opens 49 = .ok (.iload_n 1, 1) := by decide +kernel
theorem dX11_opens_50 : decode cX11_opens 50 = .ok (.iastore, 1) := by decide +kernel
theorem dX11_opens_51 : decode cX11_opens 51 = .ok (.aload_n 0, 1) := by decide +kernel
theorem dX11_opens_52 : decode cX11_opens 52 = .ok (.getfield 77, 3) := by decide +kernel
theorem dX11_opens_55 : decode cX11_opens 55 = .ok (.aload_n 0, 1) := by decide +kernel
theorem dX11_opens_56 : decode cX11_opens 56 = .ok (.getfield 189, 3) := by decide +kernel
theorem dX11_opens_59 : decode cX11_opens 59 = .ok (.iload_n 2, 1) := by decide +kernel
theorem dX11_opens_60 : decode cX11_opens 60 = .ok (.iastore, 1) := by decide +kernel
theorem dX11_opens_61 : decode cX11_opens 61 = .ok (.aload_n 0, 1) := by decide +kernel
theorem dX11_opens_62 : decode cX11_opens 62 = .ok (.getfield 80, 3) := by decide +kernel
theorem dX11_opens_65 : decode cX11_opens 65 = .ok (.aload_n 0, 1) := by decide +kernel
theorem dX11_opens_66 : decode cX11_opens 66 = .ok (.getfield 189, 3) := by decide +kernel
theorem dX11_opens_69 : decode cX11_opens 69 = .ok (.iload_n 3, 1) := by decide +kernel
theorem dX11_opens_70 : decode cX11_opens 70 = .ok (.iastore, 1) := by decide +kernel
theorem dX11_opens_71 : decode cX11_opens 71 = .ok (.aload_n 0, 1) := by decide +kernel
theorem dX11_opens_72 : decode cX11_opens 72 = .ok (.dup, 1) := by decide +kernel
theorem dX11_opens_73 : decode cX11_opens 73 = .ok (.getfield 189, 3) := by decide +kernel
theorem dX11_opens_76 : decode cX11_opens 76 = .ok (.iconst 1, 1) := by decide +kernel
theorem dX11_opens_77 : decode cX11_opens 77 = .ok (.iadd, 1) := by decide +kernel
theorem dX11_opens_78 : decode cX11_opens 78 = .ok (.putfield 189, 3) := by decide +kernel
theorem dX11_opens_81 : decode cX11_opens 81 = .ok (.return_, 1) := by decide +kernel
theorem dX11_head_0 : decode cX11_head 0 = .ok (.aload_n 0, 1) := by decide +kernel
theorem dX11_head_1 : decode cX11_head 1 = .ok (.getfield 137, 3) := by decide +kernel
theorem dX11_head_4 : decode cX11_head 4 = .ok (.istore_n 1, 1) := by decide +kernel
theorem dX11_head_5 : decode cX11_head 5 = .ok (.aload_n 0, 1) := by decide +kernel
theorem dX11_head_6 : decode cX11_head 6 = .ok (.aload_n 0, 1) := by decide +kernel
theorem dX11_head_7 : decode cX11_head 7 = .ok (.iconst 1, 1) := by decide +kernel
theorem dX11_head_8 : decode cX11_head 8 = .ok (.invokevirtual 205, 3) := by decide +kernel
theorem dX11_head_11 : decode cX11_head 11 = .ok (.putfield 209, 3) := by decide +kernel
theorem dX11_head_14 : decode cX11_head 14 = .ok (.aload_n 0, 1) := by decide +kernel
theorem dX11_head_15 : decode cX11_head 15 = .ok (.getfield 164, 3) := by decide +kernel
theorem dX11_head_18 : decode cX11_head 18 = .ok (.ifCond .eq 4, 3) := by decide +kernel
theorem dX11_head_21 : decode cX11_head 21 = .ok (.return_, 1) := by decide +kernel
theorem dX11_head_22 : decode cX11_head 22 = .ok (.bipush 8, 2) := by decide +kernel
theorem dX11_head_24 : decode cX11_head 24 = .ok (.aload_n 0, 1) := by decide +kernel
theorem dX11_head_25 : decode cX11_head 25 = .ok (.getfield 209, 3) := by decide +kernel
theorem dX11_head_28 : decode cX11_head 28 = .ok (.iadd, 1) := by decide +kernel
theorem dX11_head_29 : decode cX11_head 29 = .ok (.istore_n 2, 1) := by decide +kernel
theorem dX11_head_30 : decode cX11_head 30 = .ok (.aload_n 0, 1) := by decide +kernel
theorem dX11_head_31 : decode cX11_head 31 = .ok (.getfield 32, 3) := by decide +kernel
theorem dX11_head_34 : decode cX11_head 34 = .ok (.iload_n 2, 1) := by decide +kernel
theorem dX11_head_35 : decode cX11_head 35 = .ok (.iaload, 1) := by decide +kernel
theorem dX11_head_36 : decode cX11_head 36 = .ok (.iconst (-1), 1) := by decide +kernel
theorem dX11_head_37 : decode cX11_head 37 = .ok (.if_icmp .eq 9, 3) := by decide +kernel
theorem dX11_head_40 : decode cX11_head 40 = .ok (.aload_n 0, 1) := by decide +kernel
theorem dX11_head_41 : decode cX11_head 41 = .ok (.iconst 3, 1) := by decide +kernel
theorem dX11_head_42 : decode cX11_head 42 = .ok (.iload_n 1, 1) := by decide +kernel
theorem dX11_head_43 : decode cX11_head 43 = .ok (.invokevirtual 179, 3) := by decide +kernel
theorem dX11_head_46 : decode cX11_head 46 = .ok (.aload_n 0, 1) := by decide +kernel
theorem dX11_head_47 : decode cX11_head 47 = .ok (.bipush 40, 2) := by decide +kernel
theorem dX11_head_49 : decode cX11_head 49 = .ok (.invokevirtual 201, 3) := by decide +kernel
theorem dX11_head_52 : decode cX11_head 52 = .ok (.aload_n 0, 1) := by decide +kernel
theorem dX11_head_53 : decode cX11_head 53 = .ok (.getfield 35, 3) := by decide +kernel
theorem dX11_head_56 : decode cX11_head 56 = .ok (.iload_n 2, 1) := by decide +kernel
theorem dX11_head_57 : decode cX11_head 57 = .ok (.iconst 0, 1) := by decide +kernel
theorem dX11_head_58 : decode cX11_head 58 = .ok (.iastore, 1) := by decide +kernel
theorem dX11_head_59 : decode cX11_head 59 = .ok (.aload_n 0, 1) := by decide +kernel
theorem dX11_head_60 : decode cX11_head 60 = .ok (.getfield 164, 3) := by decide +kernel
theorem dX11_head_63 : decode cX11_head 63 = .ok (.ifCond .ne 16, 3) := by decide +kernel
theorem dX11_head_66 : decode cX11_head 66 = .ok (.aload_n 0, 1) := by decide +kernel
theorem dX11_head_67 : decode cX11_head 67 = .ok (.bipush 41, 2) := by decide +kernel
theorem dX11_head_69 : decode cX11_head 69 = .ok (.invokevirtual 170, 3) := by decide +kernel
theorem dX11_head_72 : decode cX11_head 72 = .ok (.ifCond .ne 7, 3) := by decide +kernel
theorem dX11_head_75 : decode cX11_head 75 = .ok (.iconst 1, 1) := by decide +kernel
theorem dX11_head_76 : decode cX11_head 76 = .ok (.goto 4, 3) := by decide +kernel
theorem dX11_head_79 : decode cX11_head 79 = .ok (.iconst 0, 1) := by decide +kernel
theorem dX11_head_80 : decode cX11_head 80 = .ok (.istore_n 3, 1) := by decide +kernel
theorem dX11_head_81 : decode cX11_head 81 = .ok (.iload_n 3, 1) := by decide +kernel
theorem dX11_head_82 : decode cX11_head 82 = .ok (.ifCond .eq 142, 3) := by decide +kernel
theorem dX11_head_85 : decode cX11_head 85 = .ok (.aload_n 0, 1) := by decide +kernel
theorem dX11_head_86 : decode cX11_head 86 = .ok (.getfield 164, 3) := by decide +kernel
theorem dX11_head_89 : decode cX11_head 89 = .ok (.ifCond .ne 135, 3) := by decide +kernel
theorem dX11_head_92 : decode cX11_head 92 = .ok (.aload_n 0, 1) := by decide +kernel
theorem dX11_head_93 : decode cX11_head 93 = .ok (.getfield 137, 3) := by decide +kernel
theorem dX11_head_96 : decode cX11_head 96 = .ok (.istore 4, 2) := by decide +kernel
theorem dX11_head_98 : decode cX11_head 98 = .ok (.aload_n 0, 1) := by decide +kernel
theorem dX11_head_99 : decode cX11_head 99 = .ok (.getfield 140, 3) := by decide +kernel
theorem dX11_head_102 : decode cX11_head 102 = .ok (.ifCond .ne 20, 3) := by decide +kernel
theorem dX11_head_105 : decode cX11_head 105 = .ok (.aload_n 0, 1) := by decide +kernel
theorem dX11_head_106 : decode cX11_head 106 = .ok (.getfield 35, 3) := by decide +kernel
theorem dX11_head_109 : decode cX11_head 109 = .ok (.iload_n 2, 1) := by decide +kernel
theorem dX11_head_110 : decode cX11_head 110 = .ok (.iaload, 1) := by decide +kernel
theorem dX11_head_111 : decode cX11_head 111 = .ok (.iconst 4, 1) := by decide +kernel
theorem dX11_head_112 : decode cX11_head 112 = .ok (.if_icmp .ne 10, 3) := by decide +kernel
theorem dX11_head_115 : decode cX11_head 115 = .ok (.aload_n 0, 1) := by decide +kernel
theorem dX11_head_116 : decode cX11_head 116 = .ok (.iconst 2, 1) := by decide +kernel
theorem dX11_head_117 : decode cX11_head 117 = .ok (.iload 4, 2) := by decide +kernel
theorem dX11_head_119 : decode cX11_head 119 = .ok (.invokevirtual 179, 3) := by decide +kernel
theorem dX11_head_122 : decode cX11_head 122 = .ok (.aload_n 0, 1) := by decide +kernel
theorem dX11_head_123 : decode cX11_head 123 = .ok (.iconst 0, 1) := by decide +kernel
theorem dX11_head_124 : decode cX11_head 124 = .ok (.invokevirtual 205, 3) := by decide +kernel
theorem dX11_head_127 : decode cX11_head 127 = .ok (.istore 5, 2) := by decide +kernel
theorem dX11_head_129 : decode cX11_head 129 = .ok (.iconst 0, 1) := by decide +kernel
theorem dX11_head_130 : decode cX11_head 130 = .ok (.istore 6, 2) := by decide +kernel
theorem dX11_head_132 : decode cX11_head 132 = .ok (.iload 6, 2) := by decide +kernel
theorem dX11_head_134 : decode cX11_head 134 = .ok (.aload_n 0, 1) := by decide +kernel
theorem dX11_head_135 : decode cX11_head 135 = .ok (.getfield 35, 3) := by decide +kernel
theorem dX11_head_138 : decode cX11_head 138 = .ok (.iload_n 2, 1) := by decide +kernel
theorem dX11_head_139 : decode cX11_head 139 = .ok (.iaload, 1) := by decide +kernel
theorem dX11_head_140 : decode cX11_head 140 = .ok (.if_icmp .ge 39, 3) := by decide +kernel
theorem dX11_head_143 : decode cX11_head 143 = .ok (.aload_n 0, 1) := by decide +kernel
theorem dX11_head_144 : decode cX11_head 144 = .ok (.getfield 164, 3) := by decide +kernel
theorem dX11_head_147 : decode cX11_head 147 = .ok (.ifCond .ne 32, 3) := by decide +kernel
theorem dX11_head_150 : decode cX11_head 150 = .ok (.aload_n 0, 1) := by decide +kernel
theorem dX11_head_151 : decode cX11_head 151 = .ok (.getfield 38, 3) := by decide +kernel
theorem dX11_head_154 : decode cX11_head 154 = .ok (.iconst 4, 1) := by decide +kernel
theorem dX11_head_155 : decode cX11_head 155 = .ok (.iload_n 2, 1) := by decide +kernel
theorem dX11_head_156 : decode cX11_head 156 = .ok (.imul, 1) := by decide +kernel
theorem dX11_head_157 : decode cX11_head 157 = .ok (.iload 6, 2) := by decide +kernel
theorem dX11_head_159 : decode cX11_head 159 = .ok (.iadd, 1) := by decide +kernel
theorem dX11_head_160 : decode cX11_head 160 = .ok (.iaload, 1) := by decide +kernel
theorem dX11_head_161 : decode cX11_head 161 = .ok (.iload 5, 2) := by decide +kernel
theorem dX11_head_163 : decode cX11_head 163 = .ok (.if_icmp .ne 10, 3) := by decide +kernel
theorem dX11_head_166 : decode cX11_head 166 = .ok (.aload_n 0, 1) := by decide +kernel
theorem dX11_head_167 : decode cX11_head 167 = .ok (.iconst 3, 1) := by decide +kernel
theorem dX11_head_168 : decode cX11_head 168 = .ok (.iload 4, 2) := by decide +kernel
theorem dX11_head_170 : decode cX11_head 170 = .ok (.invokevirtual 179, 3) := by decide +kernel
theorem dX11_head_173 : decode cX11_head 173 = .ok (.iinc 6 1, 3) := by decide +kernel
theorem dX11_head_176 : decode cX11_head 176 = .ok (.goto (-44), 3) := by decide +kernel
theorem dX11_head_179 : decode cX11_head 179 = .ok (.aload_n 0, 1) := by decide +kernel
theorem dX11_head_180 : decode cX11_head 180 = .ok (.getfield 164, 3) := by decide +kernel
theorem dX11_head_183 : decode cX11_head 183 = .ok (.ifCond .eq 4, 3) := by decide +kernel
theorem dX11_head_186 : decode cX11_head 186 = .ok (.return_, 1) := by decide +kernel
theorem dX11_head_187 : decode cX11_head 187 = .ok (.aload_n 0, 1) := by decide +kernel
theorem dX11_head_188 : decode cX11_head 188 = .ok (.getfield 38, 3) := by decide +kernel
theorem dX11_head_191 : decode cX11_head 191 = .ok (.iconst 4, 1) := by decide +kernel
theorem dX11_head_192 : decode cX11_head 192 = .ok (.iload_n 2, 1) := by decide +kernel
theorem dX11_head_193 : decode cX11_head 193 = .ok (.imul, 1) := by decide +kernel
theorem dX11_head_194 : decode cX11_head 194 = .ok (.aload_n 0, 1) := by decide +kernel
theorem dX11_head_195 : decode cX11_head 195 = .ok (.getfield 35, 3) := by decide +kernel
theorem dX11_head_198 : decode cX11_head 198 = .ok (.iload_n 2, 1) := by decide +kernel
theorem dX11_head_199 : decode cX11_head 199 = .ok (.iaload, 1) := by decide +kernel
theorem dX11_head_200 : decode cX11_head 200 = .ok (.iadd, 1) := by decide +kernel
theorem dX11_head_201 : decode cX11_head 201 = .ok (.iload 5, 2) := by decide +kernel
theorem dX11_head_203 : decode cX11_head 203 = .ok (.iastore, 1) := by decide +kernel
theorem dX11_head_204 : decode cX11_head 204 = .ok (.aload_n 0, 1) := by decide +kernel
theorem dX11_head_205 : decode cX11_head 205 = .ok (.getfield 35, 3) := by decide +kernel
theorem dX11_head_208 : decode cX11_head 208 = .ok (.iload_n 2, 1) := by decide +kernel
theorem dX11_head_209 : decode cX11_head 209 = .ok (.dup2, 1) := by decide +kernel
theorem dX11_head_210 : decode cX11_head 210 = .ok (.iaload, 1) := by decide +kernel
theorem dX11_head_211 : decode cX11_head 211 = .ok (.iconst 1, 1) := by decide +kernel
theorem dX11_head_212 : decode cX11_head 212 = .ok (.iadd, 1) := by decide +kernel
theorem dX11_head_213 : decode cX11_head 213 = .ok (.iastore, 1) := by decide +kernel
theorem dX11_head_214 : decode cX11_head 214 = .ok (.aload_n 0, 1) := by decide +kernel
theorem dX11_head_215 : decode cX11_head 215 = .ok (.bipush 44, 2) := by decide +kernel
theorem dX11_head_217 : decode cX11_head 217 = .ok (.invokevirtual 176, 3) := by decide +kernel
theorem dX11_head_220 : decode cX11_head 220 = .ok (.istore_n 3, 1) := by decide +kernel
theorem dX11_head_221 : decode cX11_head 221 = .ok (.goto (-140), 3) := by decide +kernel
theorem dX11_head_224 : decode cX11_head 224 = .ok (.aload_n 0, 1) := by decide +kernel
theorem dX11_head_225 : decode cX11_head 225 = .ok (.bipush 41, 2) := by decide +kernel
theorem dX11_head_227 : decode cX11_head 227 = .ok (.invokevirtual 201, 3) := by decide +kernel
theorem dX11_head_230 : decode cX11_head 230 = .ok (.aload_n 0, 1) := by decide +kernel
theorem dX11_head_231 : decode cX11_head 231 = .ok (.iconst 0, 1) := by decide +kernel
theorem dX11_head_232 : decode cX11_head 232 = .ok (.iconst (-1), 1) := by decide +kernel
theorem dX11_head_233 : decode cX11_head 233 = .ok (.iconst (-1), 1) := by decide +kernel
theorem dX11_head_234 : decode cX11_head 234 = .ok (.invokevirtual 212, 3) := by decide +kernel
theorem dX11_head_237 : decode cX11_head 237 = .ok (.aload_n 0, 1) := by decide +kernel
theorem dX11_head_238 : decode cX11_head 238 = .ok (.getfield 32, 3) := by decide +kernel
theorem dX11_head_241 : decode cX11_head 241 = .ok (.iload_n 2, 1) := by decide +kernel
theorem dX11_head_242 : decode cX11_head 242 = .ok (.aload_n 0, 1) := by decide +kernel
theorem dX11_head_243 : decode cX11_head 243 = .ok (.getfield 183, 3) := by decide +kernel
theorem dX11_head_246 : decode cX11_head 246 = .ok (.iastore, 1) := by decide +kernel
theorem dX11_head_247 : decode cX11_head 247 = .ok (.aload_n 0, 1) := by decide +kernel
theorem dX11_head_248 : decode cX11_head 248 = .ok (.getfield 41, 3) := by decide +kernel
theorem dX11_head_251 : decode cX11_head 251 = .ok (.iconst 1, 1) := by decide +kernel
theorem dX11_head_252 : decode cX11_head 252 = .ok (.iaload, 1) := by decide +kernel
theorem dX11_head_253 : decode cX11_head 253 = .ok (.iconst (-1), 1) := by decide +kernel
theorem dX11_head_254 : decode cX11_head 254 = .ok (.if_icmp .ne 13, 3) := by decide +kernel
theorem dX11_head_257 : decode cX11_head 257 = .ok (.aload_n 0, 1) := by decide +kernel
theorem dX11_head_258 : decode cX11_head 258 = .ok (.getfield 41, 3) := by decide +kernel
theorem dX11_head_261 : decode cX11_head 261 = .ok (.iconst 1, 1) := by decide +kernel
theorem dX11_head_262 : decode cX11_head 262 = .ok (.aload_n 0, 1) := by decide +kernel
theorem dX11_head_263 : decode cX11_head 263 = .ok (.getfield 209, 3) := by decide +kernel
theorem dX11_head_266 : decode cX11_head 266 = .ok (.iastore, 1) := by decide +kernel
theorem dX11_head_267 : decode cX11_head 267 = .ok (.return_, 1) := by decide +kernel
theorem dX11_closes_0 : decode cX11_closes 0 = .ok (.aload_n 0, 1) := by decide +kernel
theorem dX11_closes_1 : decode cX11_closes 1 = .ok (.invokevirtual 173, 3) := by decide +kernel
theorem dX11_closes_4 : decode cX11_closes 4 = .ok (.aload_n 0, 1) := by decide +kernel
theorem dX11_closes_5 : decode cX11_closes 5 = .ok (.dup, 1) := by decide +kernel
theorem dX11_closes_6 : decode cX11_closes 6 = .ok (.getfield 189, 3) := by decide +kernel
theorem dX11_closes_9 : decode cX11_closes 9 = .ok (.iconst 1, 1) := by decide +kernel
theorem dX11_closes_10 : decode cX11_closes 10 = .ok (.isub, 1) := by decide +kernel
theorem dX11_closes_11 : decode cX11_closes 11 = .ok (.putfield 189, 3) := by decide +kernel
theorem dX11_closes_14 : decode cX11_closes 14 = .ok (.aload_n 0, 1) := by decide +kernel
theorem dX11_closes_15 : decode cX11_closes 15 = .ok (.getfield 74, 3) := by decide +kernel
theorem dX11_closes_18 : decode cX11_closes 18 = .ok (.aload_n 0, 1) := by decide +kernel
theorem dX11_closes_19 : decode cX11_closes 19 = .ok (.getfield 189, 3) := by decide +kernel
theorem dX11_closes_22 : decode cX11_closes 22 = .ok (.iaload, 1) := by decide +kernel
theorem dX11_closes_23 : decode cX11_closes 23 = .ok (.istore_n 1, 1) := by decide +kernel
theorem dX11_closes_24 : decode cX11_closes 24 = .ok (.aload_n 0, 1) := by decide +kernel
theorem dX11_closes_25 : decode cX11_closes 25 = .ok (.getfield 77, 3) := by decide +kernel
theorem dX11_closes_28 : decode cX11_closes 28 = .ok (.aload_n 0, 1) := by decide +kernel
theorem dX11_closes_29 : decode cX11_closes 29 = .ok (.getfield 189, 3) := by decide +kernel
theorem dX11_closes_32 : decode cX11_closes 32 = .ok (.iaload, 1) := by decide +kernel
theorem dX11_closes_33 : decode cX11_closes 33 = .ok (.istore_n 2, 1) := by decide +kernel
theorem dX11_closes_34 : decode cX11_closes 34 = .ok (.iload_n 1, 1) := by decide +kernel
theorem dX11_closes_35 : decode cX11_closes 35 = .ok (.ifCond .ne 25, 3) := by decide +kernel
theorem dX11_closes_38 : decode cX11_closes 38 = .ok (.aload_n 0, 1) := by decide +kernel
theorem dX11_closes_39 : decode cX11_closes 39 = .ok (.iconst 1, 1) := by decide +kernel
theorem dX11_closes_40 : decode cX11_closes 40 = .ok (.iconst 0, 1) := by decide +kernel
theorem dX11_closes_41 : decode cX11_closes 41 = .ok (.iconst 0, 1) := by decide +kernel
theorem dX11_closes_42 : decode cX11_closes 42 = .ok (.iconst 0, 1) := by decide +kernel
theorem dX11_closes_43 : decode cX11_closes 43 = .ok (.invokevirtual 216, 3) := by decide +kernel
theorem dX11_closes_46 : decode cX11_closes 46 = .ok (.pop, 1) := by decide +kernel
theorem dX11_closes_47 : decode cX11_closes 47 = .ok (.aload_n 0, 1) := by decide +kernel
theorem dX11_closes_48 : decode cX11_closes 48 = .ok (.bipush 9, 2) := by decide +kernel
theorem dX11_closes_50 : decode cX11_closes 50 = .ok (.iconst 0, 1) := by decide +kernel
theorem dX11_closes_51 : decode cX11_closes 51 = .ok (.iconst 0, 1) := by decide +kernel
theorem dX11_closes_52 : decode cX11_closes 52 = .ok (.iconst 0, 1) := by decide +kernel
theorem dX11_closes_53 : decode cX11_closes 53 = .ok (.invokevirtual 216, 3) := by decide +kernel
theorem dX11_closes_56 : decode cX11_closes 56 = .ok (.pop, 1) := by decide +kernel
theorem dX11_closes_57 : decode cX11_closes 57 = .ok (.goto 130, 3) := by decide +kernel
theorem dX11_closes_60 : decode cX11_closes 60 = .ok (.iload_n 1, 1) := by decide +kernel
theorem dX11_closes_61 : decode cX11_closes 61 = .ok (.iconst 3, 1) := by decide +kernel
theorem dX11_closes_62 : decode cX11_closes 62 = .ok (.if_icmp .ne 38, 3) := by decide +kernel
theorem dX11_closes_65 : decode cX11_closes 65 = .ok (.aload_n 0, 1) := by decide +kernel
theorem dX11_closes_66 : decode cX11_closes 66 = .ok (.bipush 13, 2) := by decide +kernel
theorem dX11_closes_68 : decode cX11_closes 68 = .ok (.aload_n 0, 1) := by decide +kernel
theorem dX11_closes_69 : decode cX11_closes 69 = .ok (.getfield 80, 3) := by decide +kernel
theorem dX11_closes_72 : decode cX11_closes 72 = .ok (.aload_n 0, 1) := by decide +kernel
theorem dX11_closes_73 : decode cX11_closes 73 = .ok (.getfield 189, 3) := by decide +kernel
theorem dX11_closes_76 : decode cX11_closes 76 = .ok (.iaload, 1) := by decide +kernel
theorem dX11_closes_77 : decode cX11_closes 77 = .ok (.iconst 1, 1) := by decide +kernel
theorem dX11_closes_78 : decode cX11_closes 78 = .ok (.iconst 0, 1) := by decide +kernel
theorem dX11_closes_79 : decode cX11_closes 79 = .ok (.invokevirtual 216, 3) := by decide +kernel
theorem dX11_closes_82 : decode cX11_closes 82 = .ok (.pop, 1) := by decide +kernel
theorem dX11_closes_83 : decode cX11_closes 83 = .ok (.aload_n 0, 1) := by decide +kernel
theorem dX11_closes_84 : decode cX11_closes 84 = .ok (.getfield 26, 3) := by decide +kernel
theorem dX11_closes_87 : decode cX11_closes 87 = .ok (.sipush 1300, 3) := by decide +kernel
theorem dX11_closes_90 : decode cX11_closes 90 = .ok (.iload_n 2, 1) := by decide +kernel
theorem dX11_closes_91 : decode cX11_closes 91 = .ok (.iadd, 1) := by decide +kernel
theorem dX11_closes_92 : decode cX11_closes 92 = .ok (.aload_n 0, 1) := by decide +kernel
theorem dX11_closes_93 : decode cX11_closes 93 = .ok (.getfield 183, 3) := by decide +kernel
theorem dX11_closes_96 : decode cX11_closes 96 = .ok (.iastore, 1) := by decide +kernel
theorem dX11_closes_97 : decode cX11_closes 97 = .ok (.goto 90, 3) := by decide +kernel
theorem dX11_closes_100 : decode cX11_closes 100 = .ok (.iload_n 1, 1) := by decide +kernel
theorem dX11_closes_101 : decode cX11_closes 101 = .ok (.iconst 1, 1) := by decide +kernel
theorem dX11_closes_102 : decode cX11_closes 102 = .ok (.if_icmp .ne 49, 3) := by decide +kernel
theorem dX11_closes_105 : decode cX11_closes 105 = .ok (.aload_n 0, 1) := by decide +kernel
theorem dX11_closes_106 : decode cX11_closes 106 = .ok (.iconst 1, 1) := by decide +kernel
theorem dX11_closes_107 : decode cX11_closes 107 = .ok (.invokevirtual 220, 3) := by decide +kernel
theorem dX11_closes_110 : decode cX11_closes 110 = .ok (.ifCond .eq 41, 3) := by decide +kernel
theorem dX11_closes_113 : decode cX11_closes 113 = .ok (.aload_n 0, 1) := by decide +kernel
theorem dX11_closes_114 : decode cX11_closes 114 = .ok (.invokevirtual 173, 3) := by decide +kernel
theorem dX11_closes_117 : decode cX11_closes 117 = .ok (.aload_n 0, 1) := by decide +kernel
theorem dX11_closes_118 : decode cX11_closes 118 = .ok (.bipush 13, 2) := by decide +kernel
theorem dX11_closes_120 : decode cX11_closes 120 = .ok (.iconst 0, 1) := by decide +kernel
theorem dX11_closes_121 : decode cX11_closes 121 = .ok (.iconst 0, 1) := by decide +kernel
theorem dX11_closes_122 : decode cX11_closes 122 = .ok (.iconst 0, 1) := by decide +kernel
theorem dX11_closes_123 : decode cX11_closes 123 = .ok (.invokevirtual 216, 3) := by decide +kernel
theorem dX11_closes_126 : decode cX11_closes 126 = .ok (.istore_n 3, 1) := by decide +kernel
theorem dX11_closes_127 : decode cX11_closes 127 = .ok (.aload_n 0, 1) := by decide +kernel
theorem dX11_closes_128 : decode cX11_closes 128 = .ok (.getfield 26, 3) := by decide +kernel
theorem dX11_closes_131 : decode cX11_closes 131 = .ok (.sipush 1300, 3) := by decide +kernel
theorem dX11_closes_134 : decode cX11_closes 134 = .ok (.iload_n 2, 1) := by decide +kernel
theorem dX11_closes_135 : decode cX11_closes 135 = .ok (.iadd, 1) := by decide +kernel
theorem dX11_closes_136 : decode cX11_closes 136 = .ok (.aload_n 0, 1) := by decide +kernel
theorem dX11_closes_137 : decode cX11_closes 137 = .ok (.getfield 183, 3) := by decide +kernel
theorem dX11_closes_140 : decode cX11_closes 140 = .ok (.iastore, 1) := by decide +kernel
theorem dX11_closes_141 : decode cX11_closes 141 = .ok (.aload_n 0, 1) := by decide +kernel
theorem dX11_closes_142 : decode cX11_closes 142 = .ok (.iconst 2, 1) := by decide +kernel
theorem dX11_closes_143 : decode cX11_closes 143 = .ok (.iload_n 3, 1) := by decide +kernel
theorem dX11_closes_144 : decode cX11_closes 144 = .ok (.iconst (-1), 1) := by decide +kernel
theorem dX11_closes_145 : decode cX11_closes 145 = .ok (.invokevirtual 212, 3) := by decide +kernel
theorem dX11_closes_148 : decode cX11_closes 148 = .ok (.goto 39, 3) := by decide +kernel
theorem dX11_closes_151 : decode cX11_closes 151 = .ok (.iload_n 1, 1) := by decide +kernel
theorem dX11_closes_152 : decode cX11_closes 152 = .ok (.iconst 1, 1) := by decide +kernel
theorem dX11_closes_153 : decode cX11_closes 153 = .ok (.if_icmp .ne 20, 3) := by decide +kernel
theorem dX11_closes_156 : decode cX11_closes 156 = .ok (.aload_n 0, 1) := by decide +kernel
theorem dX11_closes_157 : decode cX11_closes 157 = .ok (.getfield 26, 3) := by decide +kernel
theorem dX11_closes_160 : decode cX11_closes 160 = .ok (.sipush 1300, 3) := by decide +kernel
theorem dX11_closes_163 : decode cX11_closes 163 = .ok (.iload_n 2, 1) := by decide +kernel
theorem dX11_closes_164 : decode cX11_closes 164 = .ok (.iadd, 1) := by decide +kernel
theorem dX11_closes_165 : decode cX11_closes 165 = .ok (.aload_n 0, 1) := by decide +kernel
theorem dX11_closes_166 : decode cX11_closes 166 = .ok (.getfield 183, 3) := by decide +kernel
theorem dX11_closes_169 : decode cX11_closes 169 = .ok (.iastore, 1) := by decide +kernel
theorem dX11_closes_170 : decode cX11_closes 170 = .ok (.goto 17, 3) := by decide +kernel
theorem dX11_closes_173 : decode cX11_closes 173 = .ok (.aload_n 0, 1) := by decide +kernel
theorem dX11_closes_174 : decode cX11_closes 174 = .ok (.getfield 20, 3) := by decide +kernel
theorem dX11_closes_177 : decode cX11_closes 177 = .ok (.sipush 1300, 3) := by decide +kernel
theorem dX11_closes_180 : decode cX11_closes 180 = .ok (.iload_n 2, 1) := by decide +kernel
theorem dX11_closes_181 : decode cX11_closes 181 = .ok (.iadd, 1) := by decide +kernel
theorem dX11_closes_182 : decode cX11_closes 182 = .ok (.aload_n 0, 1) := by decide +kernel
theorem dX11_closes_183 : decode cX11_closes 183 = .ok (.getfield 183, 3) := by decide +kernel
theorem dX11_closes_186 : decode cX11_closes 186 = .ok (.iastore, 1) := by decide +kernel
theorem dX11_closes_187 : decode cX11_closes 187 = .ok (.return_, 1) := by decide +kernel
theorem dX11_newUse_0 : decode cX11_newUse 0 = .ok (.aload_n 0, 1) := by decide +kernel
theorem dX11_newUse_1 : decode cX11_newUse 1 = .ok (.getfield 53, 3) := by decide +kernel
theorem dX11_newUse_4 : decode cX11_newUse 4 = .ok (.iconst 1, 1) := by decide +kernel
theorem dX11_newUse_5 : decode cX11_newUse 5 = .ok (.iaload, 1) := by decide +kernel
theorem dX11_newUse_6 : decode cX11_newUse 6 = .ok (.bipush 40, 2) := by decide +kernel
theorem dX11_newUse_8 : decode cX11_newUse 8 = .ok (.if_icmp .ne 9, 3) := by decide +kernel
theorem dX11_newUse_11 : decode cX11_newUse 11 = .ok (.aload_n 0, 1) := by decide +kernel
theorem dX11_newUse_12 : decode cX11_newUse 12 = .ok (.iconst 2, 1) := by decide +kernel
theorem dX11_newUse_13 : decode cX11_newUse 13 = .ok (.iload_n 2, 1) := by decide +kernel
theorem dX11_newUse_14 : decode cX11_newUse 14 = .ok (.invokevirtual 179, 3) := by decide +kernel
theorem dX11_newUse_17 : decode cX11_newUse 17 = .ok (.aload_n 0, 1) := by decide +kernel
theorem dX11_newUse_18 : decode cX11_newUse 18 = .ok (.getfield 164, 3) := by decide +kernel
theorem dX11_newUse_21 : decode cX11_newUse 21 = .ok (.ifCond .eq 5, 3) := by decide +kernel
theorem dX11_newUse_24 : decode cX11_newUse 24 = .ok (.iconst 0, 1) := by decide +kernel
theorem dX11_newUse_25 : decode cX11_newUse 25 = .ok (.ireturn, 1) := by decide +kernel
theorem dX11_newUse_26 : decode cX11_newUse 26 = .ok (.bipush 41, 2) := by decide +kernel
theorem dX11_newUse_28 : decode cX11_newUse 28 = .ok (.aload_n 0, 1) := by decide +kernel
theorem dX11_newUse_29 : decode cX11_newUse 29 = .ok (.getfield 53, 3) := by decide +kernel
theorem dX11_newUse_32 : decode cX11_newUse 32 = .ok (.iconst 1, 1) := by decide +kernel
theorem dX11_newUse_33 : decode cX11_newUse 33 = .ok (.iaload, 1) := by decide +kernel
theorem dX11_newUse_34 : decode cX11_newUse 34 = .ok (.iadd, 1) := by decide +kernel
theorem dX11_newUse_35 : decode cX11_newUse 35 = .ok (.istore_n 3, 1) := by decide +kernel
theorem dX11_newUse_36 : decode cX11_newUse 36 = .ok (.aload_n 0, 1) := by decide +kernel
theorem dX11_newUse_37 : decode cX11_newUse 37 = .ok (.getfield 44, 3) := by decide +kernel
theorem dX11_newUse_40 : decode cX11_newUse 40 = .ok (.iload_n 3, 1) := by decide +kernel
theorem dX11_newUse_41 : decode cX11_newUse 41 = .ok (.aload_n 0, 1) := by decide +kernel
theorem dX11_newUse_42 : decode cX11_newUse 42 = .ok (.getfield 209, 3) := by decide +kernel
theorem dX11_newUse_45 : decode cX11_newUse 45 = .ok (.iastore, 1) := by decide +kernel
theorem dX11_newUse_46 : decode cX11_newUse 46 = .ok (.aload_n 0, 1) := by decide +kernel
theorem dX11_newUse_47 : decode cX11_newUse 47 = .ok (.getfield 47, 3) := by decide +kernel
theorem dX11_newUse_50 : decode cX11_newUse 50 = .ok (.iload_n 3, 1) := by decide +kernel
theorem dX11_newUse_51 : decode cX11_newUse 51 = .ok (.iload_n 2, 1) := by decide +kernel
theorem dX11_newUse_52 : decode cX11_newUse 52 = .ok (.iastore, 1) := by decide +kernel
theorem dX11_newUse_53 : decode cX11_newUse 53 = .ok (.aload_n 0, 1) := by decide +kernel
theorem dX11_newUse_54 : decode cX11_newUse 54 = .ok (.getfield 50, 3) := by decide +kernel
theorem dX11_newUse_57 : decode cX11_newUse 57 = .ok (.iload_n 3, 1) := by decide +kernel
theorem dX11_newUse_58 : decode cX11_newUse 58 = .ok (.iload_n 1, 1) := by decide +kernel
theorem dX11_newUse_59 : decode cX11_newUse 59 = .ok (.iastore, 1) := by decide +kernel
theorem dX11_newUse_60 : decode cX11_newUse 60 = .ok (.aload_n 0, 1) := by decide +kernel
theorem dX11_newUse_61 : decode cX11_newUse 61 = .ok (.getfield 53, 3) := by decide +kernel
theorem dX11_newUse_64 : decode cX11_newUse 64 = .ok (.iconst 1, 1) := by decide +kernel
theorem dX11_newUse_65 : decode cX11_newUse 65 = .ok (.dup2, 1) := by decide +kernel
theorem dX11_newUse_66 : decode cX11_newUse 66 = .ok (.iaload, 1) := by decide +kernel
theorem dX11_newUse_67 : decode cX11_newUse 67 = .ok (.iconst 1, 1) := by decide +kernel
theorem dX11_newUse_68 : decode cX11_newUse 68 = .ok (.iadd, 1) := by decide +kernel
theorem dX11_newUse_69 : decode cX11_newUse 69 = .ok (.iastore, 1) := by decide +kernel
theorem dX11_newUse_70 : decode cX11_newUse 70 = .ok (.aload_n 0, 1) := by decide +kernel
theorem dX11_newUse_71 : decode cX11_newUse 71 = .ok (.getfield 53, 3) := by decide +kernel
theorem dX11_newUse_74 : decode cX11_newUse 74 = .ok (.iconst 1, 1) := by decide +kernel
theorem dX11_newUse_75 : decode cX11_newUse 75 = .ok (.iaload, 1) := by decide +kernel
theorem dX11_newUse_76 : decode cX11_newUse 76 = .ok (.iconst 1, 1) := by decide +kernel
theorem dX11_newUse_77 : decode cX11_newUse 77 = .ok (.isub, 1) := by decide +kernel
theorem dX11_newUse_78 : decode cX11_newUse 78 = .ok (.ireturn, 1) := by decide +kernel
theorem dX11_field_0 : decode cX11_field 0 = .ok (.aload_n 0, 1) := by decide +kernel
theorem dX11_field_1 : decode cX11_field 1 = .ok (.getfield 164, 3) := by decide +kernel
theorem dX11_field_4 : decode cX11_field 4 = .ok (.ifCond .ne 37, 3) := by decide +kernel
theorem dX11_field_7 : decode cX11_field 7 = .ok (.aload_n 0, 1) := by decide +kernel
theorem dX11_field_8 : decode cX11_field 8 = .ok (.getfield 140, 3) := by decide +kernel
theorem dX11_field_11 : decode cX11_field 11 = .ok (.ifCond .ne 21, 3) := by decide +kernel
theorem dX11_field_14 : decode cX11_field 14 = .ok (.aload_n 0, 1) := by decide +kernel
theorem dX11_field_15 : decode cX11_field 15 = .ok (.getfield 150, 3) := by decide +kernel
theorem dX11_field_18 : decode cX11_field 18 = .ok (.bipush 15, 2) := by decide +kernel
theorem dX11_field_20 : decode cX11_field 20 = .ok (.if_icmp .eq 21, 3) := by decide +kernel
theorem dX11_field_23 : decode cX11_field 23 = .ok (.aload_n 0, 1) := by decide +kernel
theorem dX11_field_24 : decode cX11_field 24 = .ok (.getfield 150, 3) := by decide +kernel
theorem dX11_field_27 : decode cX11_field 27 = .ok (.bipush 16, 2) := by decide +kernel
theorem dX11_field_29 : decode cX11_field 29 = .ok (.if_icmp .eq 12, 3) := by decide +kernel
theorem dX11_field_32 : decode cX11_field 32 = .ok (.aload_n 0, 1) := by decide +kernel
theorem dX11_field_33 : decode cX11_field 33 = .ok (.iconst 1, 1) := by decide +kernel
theorem dX11_field_34 : decode cX11_field 34 = .ok (.aload_n 0, 1) := by decide +kernel
theorem dX11_field_35 : decode cX11_field 35 = .ok (.getfield 137, 3) := by decide +kernel
theorem dX11_field_38 : decode cX11_field 38 = .ok (.invokevirtual 179, 3) := by decide +kernel
theorem dX11_field_41 : decode cX11_field 41 = .ok (.aload_n 0, 1) := by decide +kernel
theorem dX11_field_42 : decode cX11_field 42 = .ok (.iconst 0, 1) := by decide +kernel
theorem dX11_field_43 : decode cX11_field 43 = .ok (.invokevirtual 205, 3) := by decide +kernel
theorem dX11_field_46 : decode cX11_field 46 = .ok (.bipush 15, 2) := by decide +kernel
theorem dX11_field_48 : decode cX11_field 48 = .ok (.isub, 1) := by decide +kernel
theorem dX11_field_49 : decode cX11_field 49 = .ok (.ireturn, 1) := by decide +kernel
theorem dX11_statement_0 : decode cX11_statement 0 = .ok (.aload_n 0, 1) := by decide +kernel
theorem dX11_statement_1 : decode cX11_statement 1 = .ok (.getfield 137, 3) := by decide +kernel
theorem dX11_statement_4 : decode cX11_statement 4 = .ok (.istore_n 1, 1) := by decide +kernel
theorem dX11_statement_5 : decode cX11_statement 5 = .ok (.aload_n 0, 1) := by decide +kernel
theorem dX11_statement_6 : decode cX11_statement 6 = .ok (.getfield 140, 3) := by decide +kernel
theorem dX11_statement_9 : decode cX11_statement 9 = .ok (.ifCond .ne 97, 3) := by decide +kernel
theorem dX11_statement_12 : decode cX11_statement 12 = .ok (.aload_n 0, 1) := by decide +kernel
theorem dX11_statement_13 : decode cX11_statement 13 = .ok (.iconst 0, 1) := by decide +kernel
theorem dX11_statement_14 : decode cX11_statement 14 = .ok (.iconst 0, 1) := by decide +kernel
theorem dX11_statement_15 : decode cX11_statement 15 = .ok (.iconst 0, 1) := by decide +kernel
theorem dX11_statement_16 : decode cX11_statement 16 = .ok (.iconst 0, 1) := by decide +kernel
theorem dX11_statement_17 : decode cX11_statement 17 = .ok (.invokevirtual 216, 3) := by decide +kernel
theorem dX11_statement_20 : decode cX11_statement 20 = .ok (.pop, 1) := by decide +kernel
theorem dX11_statement_21 : decode cX11_statement 21 = .ok (.aload_n 0, 1) := by decide +kernel
theorem dX11_statement_22 : decode cX11_statement 22 = .ok (.iconst 0, 1) := by decide +kernel
theorem dX11_statement_23 : decode cX11_statement 23 = .ok (.invokevirtual 205, 3) := by decide +kernel
theorem dX11_statement_26 : decode cX11_statement 26 = .ok (.istore_n 2, 1) := by decide +kernel
theorem dX11_statement_27 : decode cX11_statement 27 = .ok (.aload_n 0, 1) := by decide +kernel
theorem dX11_statement_28 : decode cX11_statement 28 = .ok (.bipush 46, 2) := by decide +kernel
theorem dX11_statement_30 : decode cX11_statement 30 = .ok (.invokevirtual 170, 3) := by decide +kernel
theorem dX11_statement_33 : decode cX11_statement 33 = .ok (.ifCond .eq 44, 3) := by decide +kernel
theorem dX11_statement_36 : decode cX11_statement 36 = .ok (.aload_n 0, 1) := by decide +kernel
theorem dX11_statement_37 : decode cX11_statement 37 = .ok (.iload_n 2, 1) := by decide +kernel
theorem dX11_statement_38 : decode cX11_statement 38 = .ok (.iload_n 1, 1) := by decide +kernel
theorem dX11_statement_39 : decode cX11_statement 39 = .ok (.invokevirtual 223, 3) := by decide +kernel
theorem dX11_statement_42 : decode cX11_statement 42 = .ok (.istore_n 3, 1) := by decide +kernel
theorem dX11_statement_43 : decode cX11_statement 43 = .ok (.aload_n 0, 1) := by decide +kernel
theorem dX11_statement_44 : decode cX11_statement 44 = .ok (.invokevirtual 173, 3) := by decide +kernel
theorem dX11_statement_47 : decode cX11_statement 47 = .ok (.aload_n 0, 1) := by decide +kernel
theorem dX11_statement_48 : decode cX11_statement 48 = .ok (.invokevirtual 227, 3) := by decide +kernel
theorem dX11_statement_51 : decode cX11_statement 51 = .ok (.istore 4, 2) := by decide +kernel
theorem dX11_statement_53 : decode cX11_statement 53 = .ok (.aload_n 0, 1) := by decide +kernel
theorem dX11_statement_54 : decode cX11_statement 54 = .ok (.bipush 61, 2) := by decide +kernel
theorem dX11_statement_56 : decode cX11_statement 56 = .ok (.invokevirtual 201, 3) := by decide +kernel
theorem dX11_statement_59 : decode cX11_statement 59 = .ok (.aload_n 0, 1) := by decide +kernel
theorem dX11_statement_60 : decode cX11_statement 60 = .ok (.invokevirtual 230, 3) := by decide +kernel
theorem dX11_statement_63 : decode cX11_statement 63 = .ok (.aload_n 0, 1) := by decide +kernel
theorem dX11_statement_64 : decode cX11_statement 64 = .ok (.bipush 8, 2) := by decide +kernel
theorem dX11_statement_66 : decode cX11_statement 66 = .ok (.iload_n 2, 1) := by decide +kernel
theorem dX11_statement_67 : decode cX11_statement 67 = .ok (.iload 4, 2) := by decide +kernel
theorem dX11_statement_69 : decode cX11_statement 69 = .ok (.iload_n 3, 1) := by decide +kernel
theorem dX11_statement_70 : decode cX11_statement 70 = .ok (.invokevirtual 216, 3) := by decide +kernel
theorem dX11_statement_73 : decode cX11_statement 73 = .ok (.pop, 1) := by decide +kernel
theorem dX11_statement_74 : decode cX11_statement 74 = .ok (.goto 23, 3) := by decide +kernel
theorem dX11_statement_77 : decode cX11_statement 77 = .ok (.aload_n 0, 1) := by decide +kernel
theorem dX11_statement_78 : decode cX11_statement 78 = .ok (.bipush 61, 2) := by decide +kernel
theorem dX11_statement_80 : decode cX11_statement 80 = .ok (.invokevirtual 201, 3) := by decide +kernel
theorem dX11_statement_83 : decode cX11_statement 83 = .ok (.aload_n 0, 1) := by decide +kernel
theorem dX11_statement_84 : decode cX11_statement 84 = .ok (.invokevirtual 230, 3) := by decide +kernel
theorem dX11_statement_87 : decode cX11_statement 87 = .ok (.aload_n 0, 1) := by decide +kernel
theorem dX11_statement_88 : decode cX11_statement 88 = .ok (.bipush 7, 2) := by decide +kernel
theorem dX11_statement_90 : decode cX11_statement 90 = .ok (.iload_n 2, 1) := by decide +kernel
theorem dX11_statement_91 : decode cX11_statement 91 = .ok (.iconst 0, 1) := by decide +kernel
theorem dX11_statement_92 : decode cX11_statement 92 = .ok (.iconst 0, 1) := by decide +kernel
theorem dX11_statement_93 : decode cX11_statement 93 = .ok (.invokevirtual 216, 3) := by decide +kernel
theorem dX11_statement_96 : decode cX11_statement 96 = .ok (.pop, 1) := by decide +kernel
theorem dX11_statement_97 : decode cX11_statement 97 = .ok (.aload_n 0, 1) := by decide +kernel
theorem dX11_statement_98 : decode cX11_statement 98 = .ok (.bipush 59, 2) := by decide +kernel
theorem dX11_statement_100 : decode cX11_statement 100 = .ok (.invokevirtual 201, 3) := by decide +kernel
theorem dX11_statement_103 : decode cX11_statement 103 = .ok (.goto 177, 3) := by decide +kernel
theorem dX11_statement_106 : decode cX11_statement 106 = .ok (.aload_n 0, 1) := by decide +kernel
theorem dX11_statement_107 : decode cX11_statement 107 = .ok (.getfield 140, 3) := by decide +kernel
theorem dX11_statement_110 : decode cX11_statement 110 = .ok (.iconst 1, 1) := by decide +kernel
theorem dX11_statement_111 : decode cX11_statement 111 = .ok (.if_icmp .ne 25, 3) := by decide +kernel
theorem dX11_statement_114 : decode cX11_statement 114 = .ok (.aload_n 0, 1) := by decide +kernel
theorem dX11_statement_115 : decode cX11_statement 115 = .ok (.iconst 0, 1) := by decide +kernel
theorem dX11_statement_116 : decode cX11_statement 116 = .ok (.iconst 0, 1) := by decide +kernel
theorem dX11_statement_117 : decode cX11_statement 117 = .ok (.iconst 0, 1) := by decide +kernel
theorem dX11_statement_118 : decode cX11_statement 118 = .ok (.iconst 0, 1) := by decide +kernel
theorem dX11_statement_119 : decode cX11_statement 119 = .ok (.invokevirtual 216, 3) := by decide +kernel
theorem dX11_statement_122 : decode cX11_statement 122 = .ok (.pop, 1) := by decide +kernel
theorem dX11_statement_123 : decode cX11_statement 123 = .ok (.aload_n 0, 1) := by decide +kernel
theorem dX11_statement_124 : decode cX11_statement 124 = .ok (.invokevirtual 233, 3) := by decide +kernel
theorem dX11_statement_127 : decode cX11_statement 127 = .ok (.aload_n 0, 1) := by decide +kernel
theorem dX11_statement_128 : decode cX11_statement 128 = .ok (.bipush 59, 2) := by decide +kernel
theorem dX11_statement_130 : decode cX11_statement 130 = .ok (.invokevirtual 201, 3) := by decide +kernel
theorem dX11_statement_133 : decode cX11_statement 133 = .ok (.goto 147, 3) := by decide +kernel
theorem dX11_statement_136 : decode cX11_statement 136 = .ok (.aload_n 0, 1) := by decide +kernel
theorem dX11_statement_137 : decode cX11_statement 137 = .ok (.bipush 8, 2) := by decide +kernel
theorem dX11_statement_139 : decode cX11_statement 139 = .ok (.invokevirtual 220, 3) := by decide +kernel
theorem dX11_statement_142 : decode cX11_statement 142 = .ok (.ifCond .eq 60, 3) := by decide +kernel
theorem dX11_statement_145 : decode cX11_statement 145 = .ok (.aload_n 0, 1) := by decide +kernel
theorem dX11_statement_146 : decode cX11_statement 146 = .ok (.iconst 0, 1) := by decide +kernel
theorem dX11_statement_147 : decode cX11_statement 147 = .ok (.iconst 0, 1) := by decide +kernel
theorem dX11_statement_148 : decode cX11_statement 148 = .ok (.iconst 0, 1) := by decide +kernel
theorem dX11_statement_149 : decode cX11_statement 149 = .ok (.iconst 0, 1) := by decide +kernel
theorem dX11_statement_150 : decode cX11_statement 150 = .ok (.invokevirtual 216, 3) := by decide +kernel
theorem dX11_statement_153 : decode cX11_statement 153 = .ok (.pop, 1) := by decide +kernel
theorem dX11_statement_154 : decode cX11_statement 154 = .ok (.aload_n 0, 1) := by decide +kernel
theorem dX11_statement_155 : decode cX11_statement 155 = .ok (.invokevirtual 173, 3) := by decide +kernel
theorem dX11_statement_158 : decode cX11_statement 158 = .ok (.aload_n 0, 1) := by decide +kernel
theorem dX11_statement_159 : decode cX11_statement 159 = .ok (.bipush 59, 2) := by decide +kernel
theorem dX11_statement_161 : decode cX11_statement 161 = .ok (.invokevirtual 170, 3) := by decide +kernel
theorem dX11_statement_164 : decode cX11_statement 164 = .ok (.ifCond .eq 15, 3) := by decide +kernel
theorem dX11_statement_167 : decode cX11_statement 167 = .ok (.aload_n 0, 1) := by decide +kernel
theorem dX11_statement_168 : decode cX11_statement 168 = .ok (.iconst 1, 1) := by decide +kernel
theorem dX11_statement_169 : decode cX11_statement 169 = .ok (.iconst 0, 1) := by decide +kernel
theorem dX11_statement_170 : decode cX11_statement 170 = .ok (.iconst 0, 1) := by decide +kernel
theorem dX11_statement_171 : decode cX11_statement 171 = .ok (.iconst 0, 1) := by decide +kernel
theorem dX11_statement_172 : decode cX11_statement 172 = .ok (.invokevirtual 216, 3) := by decide +kernel
theorem dX11_statement_175 : decode cX11_statement 175 = .ok (.pop, 1) := by decide +kernel
theorem dX11_statement_176 : decode cX11_statement 176 = .ok (.goto 7, 3) := by decide +kernel
theorem dX11_statement_179 : decode cX11_statement 179 = .ok (.aload_n 0, 1) := by decide +kernel
theorem dX11_statement_180 : decode cX11_statement 180 = .ok (.invokevirtual 230, 3) := by decide +kernel
theorem dX11_statement_183 : decode cX11_statement 183 = .ok (.aload_n 0, 1) := by decide +kernel
theorem dX11_statement_184 : decode cX11_statement 184 = .ok (.bipush 9, 2) := by decide +kernel
theorem dX11_statement_186 : decode cX11_statement 186 = .ok (.iconst 0, 1) := by decide +kernel
theorem dX11_statement_187 : decode cX11_statement 187 = .ok (.iconst 0, 1) := by decide +kernel
theorem dX11_statement_188 : decode cX11_statement 188 = .ok (.iconst 0, 1) := by decide +kernel
theorem dX11_statement_189 : decode cX11_statement 189 = .ok (.invokevirtual 216, 3) := by decide +kernel
theorem dX11_statement_192 : decode cX11_statement 192 = .ok (.pop, 1) := by decide +kernel
theorem dX11_statement_193 : decode cX11_statement 193 = .ok (.aload_n 0, 1) := by decide +kernel
theorem dX11_statement_194 : decode cX11_statement 194 = .ok (.bipush 59, 2) := by decide +kernel
theorem dX11_statement_196 : decode cX11_statement 196 = .ok (.invokevirtual 201, 3) := by decide +kernel
theorem dX11_statement_199 : decode cX11_statement 199 = .ok (.goto 81, 3) := by decide +kernel
theorem dX11_statement_202 : decode cX11_statement 202 = .ok (.aload_n 0, 1) := by decide +kernel
theorem dX11_statement_203 : decode cX11_statement 203 = .ok (.iconst 0, 1) := by decide +kernel
theorem dX11_statement_204 : decode cX11_statement 204 = .ok (.invokevirtual 220, 3) := by decide +kernel
theorem dX11_statement_207 : decode cX11_statement 207 = .ok (.ifCond .eq 31, 3) := by decide +kernel
theorem dX11_statement_210 : decode cX11_statement 210 = .ok (.aload_n 0, 1) := by decide +kernel
theorem dX11_statement_211 : decode cX11_statement 211 = .ok (.iconst 0, 1) := by decide +kernel
theorem dX11_statement_212 : decode cX11_statement 212 = .ok (.iconst 0, 1) := by decide +kernel
theorem dX11_statement_213 : decode cX11_statement 213 = .ok (.iconst 0, 1) := by decide +kernel
theorem dX11_statement_214 : decode cX11_statement 214 = .ok (.iconst 0, 1) := by decide +kernel
theorem dX11_statement_215 : decode cX11_statement 215 = .ok (.invokevirtual 216, 3) := by decide +kernel
theorem dX11_statement_218 : decode cX11_statement 218 = .ok (.pop, 1) := by decide +kernel
theorem dX11_statement_219 : decode cX11_statement 219 = .ok (.aload_n 0, 1) := by decide +kernel
theorem dX11_statement_220 : decode cX11_statement 220 = .ok (.invokevirtual 173, 3) := by decide +kernel
theorem dX11_statement_223 : decode cX11_statement 223 = .ok (.aload_n 0, 1) := by decide +kernel
theorem dX11_statement_224 : decode cX11_statement 224 = .ok (.invokevirtual 236, 3) := by decide +kernel
theorem dX11_statement_227 : decode cX11_statement 227 = .ok (.istore_n 2, 1) := by decide +kernel
theorem dX11_statement_228 : decode cX11_statement 228 = .ok (.aload_n 0, 1) := by decide +kernel
theorem dX11_statement_229 : decode cX11_statement 229 = .ok (.iconst 1, 1) := by decide +kernel
theorem dX11_statement_230 : decode cX11_statement 230 = .ok (.iload_n 2, 1) := by decide +kernel
theorem dX11_statement_231 : decode cX11_statement 231 = .ok (.iconst (-1), 1) := by decide +kernel
theorem dX11_statement_232 : decode cX11_statement 232 = .ok (.invokevirtual 212, 3) := by decide +kernel
theorem dX11_statement_235 : decode cX11_statement 235 = .ok (.goto 45, 3) := by decide +kernel
theorem dX11_statement_238 : decode cX11_statement 238 = .ok (.aload_n 0, 1) := by decide +kernel
theorem dX11_statement_239 : decode cX11_statement 239 = .ok (.iconst 2, 1) := by decide +kernel
theorem dX11_statement_240 : decode cX11_statement 240 = .ok (.invokevirtual 220, 3) := by decide +kernel
theorem dX11_statement_243 : decode cX11_statement 243 = .ok (.ifCond .eq 31, 3) := by decide +kernel
theorem dX11_statement_246 : decode cX11_statement 246 = .ok (.aload_n 0, 1) := by decide +kernel
theorem dX11_statement_247 : decode cX11_statement 247 = .ok (.iconst 0, 1) := by decide +kernel
theorem dX11_statement_248 : decode cX11_statement 248 = .ok (.iconst 0, 1) := by decide +kernel
theorem dX11_statement_249 : decode cX11_statement 249 = .ok (.iconst 0, 1) := by decide +kernel
theorem dX11_statement_250 : decode cX11_statement 250 = .ok (.iconst 0, 1) := by decide +kernel
theorem dX11_statement_251 : decode cX11_statement 251 = .ok (.invokevirtual 216, 3) := by decide +kernel
theorem dX11_statement_254 : decode cX11_statement 254 = .ok (.pop, 1) := by decide +kernel
theorem dX11_statement_255 : decode cX11_statement 255 = .ok (.aload_n 0, 1) := by decide +kernel
theorem dX11_statement_256 : decode cX11_statement 256 = .ok (.invokevirtual 173, 3) := by decide +kernel
theorem dX11_statement_259 : decode cX11_statement 259 = .ok (.aload_n 0, 1) := by decide +kernel
theorem dX11_statement_260 : decode cX11_statement 260 = .ok (.invokevirtual 236, 3) := by decide +kernel
theorem dX11_statement_263 : decode cX11_statement 263 = .ok (.istore_n 2, 1) := by decide +kernel
theorem dX11_statement_264 : decode cX11_statement 264 = .ok (.aload_n 0, 1) := by decide +kernel
theorem dX11_statement_265 : decode cX11_statement 265 = .ok (.iconst 3, 1) := by decide +kernel
theorem dX11_statement_266 : decode cX11_statement 266 = .ok (.iload_n 2, 1) := by decide +kernel
theorem dX11_statement_267 : decode cX11_statement 267 = .ok (.iload_n 2, 1) := by decide +kernel
theorem dX11_statement_268 : decode cX11_statement 268 = .ok (.invokevirtual 212, 3) := by decide +kernel
theorem dX11_statement_271 : decode cX11_statement 271 = .ok (.goto 9, 3) := by decide +kernel
theorem dX11_statement_274 : decode cX11_statement 274 = .ok (.aload_n 0, 1) := by decide +kernel
theorem dX11_statement_275 : decode cX11_statement 275 = .ok (.iconst 1, 1) := by decide +kernel
theorem dX11_statement_276 : decode cX11_statement 276 = .ok (.iload_n 1, 1) := by decide +kernel
theorem dX11_statement_277 : decode cX11_statement 277 = .ok (.invokevirtual 179, 3) := by decide +kernel
theorem dX11_statement_280 : decode cX11_statement 280 = .ok (.return_, 1) := by decide +kernel
theorem dX11_newTest_0 : decode cX11_newTest 0 = .ok (.aload_n 0, 1) := by decide +kernel
theorem dX11_newTest_1 : decode cX11_newTest 1 = .ok (.getfield 137, 3) := by decide +kernel
theorem dX11_newTest_4 : decode cX11_newTest 4 = .ok (.istore_n 1, 1) := by decide +kernel
theorem dX11_newTest_5 : decode cX11_newTest 5 = .ok (.aload_n 0, 1) := by decide +kernel
theorem dX11_newTest_6 : decode cX11_newTest 6 = .ok (.getfield 164, 3) := by decide +kernel
theorem dX11_newTest_9 : decode cX11_newTest 9 = .ok (.ifCond .ne 23, 3) := by decide +kernel
theorem dX11_newTest_12 : decode cX11_newTest 12 = .ok (.aload_n 0, 1) := by decide +kernel
theorem dX11_newTest_13 : decode cX11_newTest 13 = .ok (.getfield 140, 3) := by decide +kernel
theorem dX11_newTest_16 : decode cX11_newTest 16 = .ok (.ifCond .eq 12, 3) := by decide +kernel
theorem dX11_newTest_19 : decode cX11_newTest 19 = .ok (.aload_n 0, 1) := by decide +kernel
theorem dX11_newTest_20 : decode cX11_newTest 20 = .ok (.bipush 7, 2) := by decide +kernel
theorem dX11_newTest_22 : decode cX11_newTest 22 = .ok (.invokevirtual 220, 3) := by decide +kernel
theorem dX11_newTest_25 : decode cX11_newTest 25 = .ok (.ifCond .eq 7, 3) := by decide +kernel
theorem dX11_newTest_28 : decode cX11_newTest 28 = .ok (.iconst 1, 1) := by decide +kernel
theorem dX11_newTest_29 : decode cX11_newTest 29 = .ok (.goto 4, 3) := by decide +kernel
theorem dX11_newTest_32 : decode cX11_newTest 32 = .ok (.iconst 0, 1) := by decide +kernel
theorem dX11_newTest_33 : decode cX11_newTest 33 = .ok (.istore_n 2, 1) := by decide +kernel
theorem dX11_newTest_34 : decode cX11_newTest 34 = .ok (.iload_n 2, 1) := by decide +kernel
theorem dX11_newTest_35 : decode cX11_newTest 35 = .ok (.ifCond .ne 12, 3) := by decide +kernel
theorem dX11_newTest_38 : decode cX11_newTest 38 = .ok (.aload_n 0, 1) := by decide +kernel
theorem dX11_newTest_39 : decode cX11_newTest 39 = .ok (.iconst 1, 1) := by decide +kernel
theorem dX11_newTest_40 : decode cX11_newTest 40 = .ok (.iload_n 1, 1) := by decide +kernel
theorem dX11_newTest_41 : decode cX11_newTest 41 = .ok (.invokevirtual 179, 3) := by decide +kernel
theorem dX11_newTest_44 : decode cX11_newTest 44 = .ok (.goto 20, 3) := by decide +kernel
theorem dX11_newTest_47 : decode cX11_newTest 47 = .ok (.aload_n 0, 1) := by decide +kernel
theorem dX11_newTest_48 : decode cX11_newTest 48 = .ok (.getfield 62, 3) := by decide +kernel
theorem dX11_newTest_51 : decode cX11_newTest 51 = .ok (.iconst 1, 1) := by decide +kernel
theorem dX11_newTest_52 : decode cX11_newTest 52 = .ok (.iaload, 1) := by decide +kernel
theorem dX11_newTest_53 : decode cX11_newTest 53 = .ok (.bipush 24, 2) := by decide +kernel
theorem dX11_newTest_55 : decode cX11_newTest 55 = .ok (.if_icmp .ne 9, 3) := by decide +kernel
theorem dX11_newTest_58 : decode cX11_newTest 58 = .ok (.aload_n 0, 1) := by decide +kernel
theorem dX11_newTest_59 : decode cX11_newTest 59 = .ok (.iconst 2, 1) := by decide +kernel
theorem dX11_newTest_60 : decode cX11_newTest 60 = .ok (.iload_n 1, 1) := by decide +kernel
theorem dX11_newTest_61 : decode cX11_newTest 61 = .ok (.invokevirtual 179, 3) := by decide +kernel
theorem dX11_newTest_64 : decode cX11_newTest 64 = .ok (.aload_n 0, 1) := by decide +kernel
theorem dX11_newTest_65 : decode cX11_newTest 65 = .ok (.getfield 164, 3) := by decide +kernel
theorem dX11_newTest_68 : decode cX11_newTest 68 = .ok (.ifCond .eq 5, 3) := by decide +kernel
theorem dX11_newTest_71 : decode cX11_newTest 71 = .ok (.iconst 0, 1) := by decide +kernel
theorem dX11_newTest_72 : decode cX11_newTest 72 = .ok (.ireturn, 1) := by decide +kernel
theorem dX11_newTest_73 : decode cX11_newTest 73 = .ok (.aload_n 0, 1) := by decide +kernel
theorem dX11_newTest_74 : decode cX11_newTest 74 = .ok (.getfield 62, 3) := by decide +kernel
theorem dX11_newTest_77 : decode cX11_newTest 77 = .ok (.iconst 1, 1) := by decide +kernel
theorem dX11_newTest_78 : decode cX11_newTest 78 = .ok (.iaload, 1) := by decide +kernel
theorem dX11_newTest_79 : decode cX11_newTest 79 = .ok (.istore_n 3, 1) := by decide +kernel
theorem dX11_newTest_80 : decode cX11_newTest 80 = .ok (.aload_n 0, 1) := by decide +kernel
theorem dX11_newTest_81 : decode cX11_newTest 81 = .ok (.getfield 56, 3) := by decide +kernel
theorem dX11_newTest_84 : decode cX11_newTest 84 = .ok (.bipush 25, 2) := by decide +kernel
theorem dX11_newTest_86 : decode cX11_newTest 86 = .ok (.iload_n 3, 1) := by decide +kernel
theorem dX11_newTest_87 : decode cX11_newTest 87 = .ok (.iadd, 1) := by decide +kernel
theorem dX11_newTest_88 : decode cX11_newTest 88 = .ok (.aload_n 0, 1) := by decide +kernel
theorem dX11_newTest_89 : decode cX11_newTest 89 = .ok (.getfield 209, 3) := by decide +kernel
theorem dX11_newTest_92 : decode cX11_newTest 92 = .ok (.iastore, 1) := by decide +kernel
theorem dX11_newTest_93 : decode cX11_newTest 93 = .ok (.aload_n 0, 1) := by decide +kernel
theorem dX11_newTest_94 : decode cX11_newTest 94 = .ok (.getfield 59, 3) := by decide +kernel
theorem dX11_newTest_97 : decode cX11_newTest 97 = .ok (.bipush 25, 2) := by decide +kernel
theorem dX11_newTest_99 : decode cX11_newTest 99 = .ok (.iload_n 3, 1) := by decide +kernel
theorem dX11_newTest_100 : decode cX11_newTest 100 = .ok (.iadd, 1) := by decide +kernel
theorem dX11_newTest_101 : decode cX11_newTest 101 = .ok (.iload_n 1, 1) := by decide +kernel
theorem dX11_newTest_102 : decode cX11_newTest 102 = .ok (.iastore, 1) := by decide +kernel
theorem dX11_newTest_103 : decode cX11_newTest 103 = .ok (.aload_n 0, 1) := by decide +kernel
theorem dX11_newTest_104 : decode cX11_newTest 104 = .ok (.getfield 62, 3) := by decide +kernel
theorem dX11_newTest_107 : decode cX11_newTest 107 = .ok (.iconst 1, 1) := by decide +kernel
theorem dX11_newTest_108 : decode cX11_newTest 108 = .ok (.dup2, 1) := by decide +kernel
theorem dX11_newTest_109 : decode cX11_newTest 109 = .ok (.iaload, 1) := by decide +kernel
theorem dX11_newTest_110 : decode cX11_newTest 110 = .ok (.iconst 1, 1) := by decide +kernel
theorem dX11_newTest_111 : decode cX11_newTest 111 = .ok (.iadd, 1) := by decide +kernel
theorem dX11_newTest_112 : decode cX11_newTest 112 = .ok (.iastore, 1) := by decide +kernel
theorem dX11_newTest_113 : decode cX11_newTest 113 = .ok (.aload_n 0, 1) := by decide +kernel
theorem dX11_newTest_114 : decode cX11_newTest 114 = .ok (.bipush 7, 2) := by decide +kernel
theorem dX11_newTest_116 : decode cX11_newTest 116 = .ok (.invokevirtual 220, 3) := by decide +kernel
theorem dX11_newTest_119 : decode cX11_newTest 119 = .ok (.ifCond .eq 17, 3) := by decide +kernel
theorem dX11_newTest_122 : decode cX11_newTest 122 = .ok (.aload_n 0, 1) := by decide +kernel
theorem dX11_newTest_123 : decode cX11_newTest 123 = .ok (.invokevirtual 173, 3) := by decide +kernel
theorem dX11_newTest_126 : decode cX11_newTest 126 = .ok (.aload_n 0, 1) := by decide +kernel
theorem dX11_newTest_127 : decode cX11_newTest 127 = .ok (.bipush 12, 2) := by decide +kernel
theorem dX11_newTest_129 : decode cX11_newTest 129 = .ok (.iconst 0, 1) := by decide +kernel
theorem dX11_newTest_130 : decode cX11_newTest 130 = .ok (.iload_n 3, 1) := by decide +kernel
theorem dX11_newTest_131 : decode cX11_newTest 131 = .ok (.iconst 0, 1) := by decide +kernel
theorem dX11_newTest_132 : decode cX11_newTest 132 = .ok (.invokevirtual 216, 3) := by decide +kernel
theorem dX11_newTest_135 : decode cX11_newTest 135 = .ok (.ireturn, 1) := by decide +kernel
theorem dX11_newTest_136 : decode cX11_newTest 136 = .ok (.aload_n 0, 1) := by decide +kernel
theorem dX11_newTest_137 : decode cX11_newTest 137 = .ok (.iconst 0, 1) := by decide +kernel
theorem dX11_newTest_138 : decode cX11_newTest 138 = .ok (.invokevirtual 205, 3) := by decide +kernel
theorem dX11_newTest_141 : decode cX11_newTest 141 = .ok (.istore 4, 2) := by decide +kernel
theorem dX11_newTest_143 : decode cX11_newTest 143 = .ok (.aload_n 0, 1) := by decide +kernel
theorem dX11_newTest_144 : decode cX11_newTest 144 = .ok (.iconst 3, 1) := by decide +kernel
theorem dX11_newTest_145 : decode cX11_newTest 145 = .ok (.invokevirtual 220, 3) := by decide +kernel
theorem dX11_newTest_148 : decode cX11_newTest 148 = .ok (.istore 5, 2) := by decide +kernel
theorem dX11_newTest_150 : decode cX11_newTest 150 = .ok (.iload 5, 2) := by decide +kernel
theorem dX11_newTest_152 : decode cX11_newTest 152 = .ok (.ifCond .ne 20, 3) := by decide +kernel
theorem dX11_newTest_155 : decode cX11_newTest 155 = .ok (.aload_n 0, 1) := by decide +kernel
theorem dX11_newTest_156 : decode cX11_newTest 156 = .ok (.iconst 4, 1) := by decide +kernel
theorem dX11_newTest_157 : decode cX11_newTest 157 = .ok (.invokevirtual 220, 3) := by decide +kernel
theorem dX11_newTest_160 : decode cX11_newTest 160 = .ok (.ifCond .ne 12, 3) := by decide +kernel
theorem dX11_newTest_163 : decode cX11_newTest 163 = .ok (.aload_n 0, 1) := by decide +kernel
theorem dX11_newTest_164 : decode cX11_newTest 164 = .ok (.iconst 1, 1) := by decide +kernel
theorem dX11_newTest_165 : decode cX11_newTest 165 = .ok (.aload_n 0, 1) := by decide +kernel
theorem dX11_newTest_166 : decode cX11_newTest 166 = .ok (.getfield 137, 3) := by decide +kernel
theorem dX11_newTest_169 : decode cX11_newTest 169 = .ok (.invokevirtual 179, 3) := by decide +kernel
theorem dX11_newTest_172 : decode cX11_newTest 172 = .ok (.aload_n 0, 1) := by decide +kernel
theorem dX11_newTest_173 : decode cX11_newTest 173 = .ok (.getfield 164, 3) := by decide +kernel
theorem dX11_newTest_176 : decode cX11_newTest 176 = .ok (.ifCond .ne 7, 3) := by decide +kernel
theorem dX11_newTest_179 : decode cX11_newTest 179 = .ok (.aload_n 0, 1) := by decide +kernel
theorem dX11_newTest_180 : decode cX11_newTest 180 = .ok (.invokevirtual 173, 3) := by decide +kernel
theorem dX11_newTest_183 : decode cX11_newTest 183 = .ok (.aload_n 0, 1) := by decide +kernel
theorem dX11_newTest_184 : decode cX11_newTest 184 = .ok (.iconst 5, 1) := by decide +kernel
theorem dX11_newTest_185 : decode cX11_newTest 185 = .ok (.invokevirtual 220, 3) := by decide +kernel
theorem dX11_newTest_188 : decode cX11_newTest 188 = .ok (.ifCond .ne 12, 3) := by decide +kernel
theorem dX11_newTest_191 : decode cX11_newTest 191 = .ok (.aload_n 0, 1) := by decide +kernel
theorem dX11_newTest_192 : decode cX11_newTest 192 = .ok (.iconst 1, 1) := by decide +kernel
theorem dX11_newTest_193 : decode cX11_newTest 193 = .ok (.aload_n 0, 1) := by decide +kernel
theorem dX11_newTest_194 : decode cX11_newTest 194 = .ok (.getfield 137, 3) := by decide +kernel
theorem dX11_newTest_197 : decode cX11_newTest 197 = .ok (.invokevirtual 179, 3) := by decide +kernel
theorem dX11_newTest_200 : decode cX11_newTest 200 = .ok (.aload_n 0, 1) := by decide +kernel
theorem dX11_newTest_201 : decode cX11_newTest 201 = .ok (.getfield 164, 3) := by decide +kernel
theorem dX11_newTest_204 : decode cX11_newTest 204 = .ok (.ifCond .ne 7, 3) := by decide +kernel
theorem dX11_newTest_207 : decode cX11_newTest 207 = .ok (.aload_n 0, 1) := by decide +kernel
theorem dX11_newTest_208 : decode cX11_newTest 208 = .ok (.invokevirtual 173, 3) := by decide +kernel
theorem dX11_newTest_211 : decode cX11_newTest 211 = .ok (.aload_n 0, 1) := by decide +kernel
theorem dX11_newTest_212 : decode cX11_newTest 212 = .ok (.iload 5, 2) := by decide +kernel
theorem dX11_newTest_214 : decode cX11_newTest 214 = .ok (.ifCond .eq 8, 3) := by decide +kernel
theorem dX11_newTest_217 : decode cX11_newTest 217 = .ok (.bipush 10, 2) := by decide +kernel
theorem dX11_newTest_219 : decode cX11_newTest 219 = .ok (.goto 5, 3) := by decide +kernel
theorem dX11_newTest_222 : decode cX11_newTest 222 = .ok (.bipush 11, 2) := by decide +kernel
theorem dX11_newTest_224 : decode cX11_newTest 224 = .ok (.iload 4, 2) := by decide +kernel
theorem dX11_newTest_226 : decode cX11_newTest 226 = .ok (.iload_n 3, 1) := by decide +kernel
theorem dX11_newTest_227 : decode cX11_newTest 227 = .ok (.iconst 0, 1) := by decide +kernel
theorem dX11_newTest_228 : decode cX11_newTest 228 = .ok (.invokevirtual 216, 3) := by decide +kernel
theorem dX11_newTest_231 : decode cX11_newTest 231 = .ok (.ireturn, 1) := by decide +kernel
theorem dX11_worth_0 : decode cX11_worth 0 = .ok (.aload_n 0, 1) := by decide +kernel
theorem dX11_worth_1 : decode cX11_worth 1 = .ok (.getfield 164, 3) := by decide +kernel
theorem dX11_worth_4 : decode cX11_worth 4 = .ok (.ifCond .eq 4, 3) := by decide +kernel
theorem dX11_worth_7 : decode cX11_worth 7 = .ok (.return_, 1) := by decide +kernel
theorem dX11_worth_8 : decode cX11_worth 8 = .ok (.aload_n 0, 1) := by decide +kernel
theorem dX11_worth_9 : decode cX11_worth 9 = .ok (.getfield 137, 3) := by decide +kernel
theorem dX11_worth_12 : decode cX11_worth 12 = .ok (.istore_n 1, 1) := by decide +kernel
theorem dX11_worth_13 : decode cX11_worth 13 = .ok (.aload_n 0, 1) := by decide +kernel
theorem dX11_worth_14 : decode cX11_worth 14 = .ok (.iconst 5, 1) := by decide +kernel
theorem dX11_worth_15 : decode cX11_worth 15 = .ok (.invokevirtual 220, 3) := by decide +kernel
theorem dX11_worth_18 : decode cX11_worth 18 = .ok (.ifCond .eq 19, 3) := by decide +kernel
theorem dX11_worth_21 : decode cX11_worth 21 = .ok (.aload_n 0, 1) := by decide +kernel
theorem dX11_worth_22 : decode cX11_worth 22 = .ok (.invokevirtual 173, 3) := by decide +kernel
theorem dX11_worth_25 : decode cX11_worth 25 = .ok (.aload_n 0, 1) := by decide +kernel
theorem dX11_worth_26 : decode cX11_worth 26 = .ok (.iconst 1, 1) := by decide +kernel
theorem dX11_worth_27 : decode cX11_worth 27 = .ok (.iconst 0, 1) := by decide +kernel
theorem dX11_worth_28 : decode cX11_worth 28 = .ok (.iconst 0, 1) := by decide +kernel
theorem dX11_worth_29 : decode cX11_worth 29 = .ok (.iconst 0, 1) := by decide +kernel
theorem dX11_worth_30 : decode cX11_worth 30 = .ok (.invokevirtual 216, 3) := by decide +kernel
theorem dX11_worth_33 : decode cX11_worth 33 = .ok (.pop, 1) := by decide +kernel
theorem dX11_worth_34 : decode cX11_worth 34 = .ok (.goto 144, 3) := by decide +kernel
theorem dX11_worth_37 : decode cX11_worth 37 = .ok (.aload_n 0, 1) := by decide +kernel
theorem dX11_worth_38 : decode cX11_worth 38 = .ok (.bipush 7, 2) := by decide +kernel
theorem dX11_worth_40 : decode cX11_worth 40 = .ok (.invokevirtual 220, 3) := by decide +kernel
theorem dX11_worth_43 : decode cX11_worth 43 = .ok (.ifCond .eq 19, 3) := by decide +kernel
theorem dX11_worth_46 : decode cX11_worth 46 = .ok (.aload_n 0, 1) := by decide +kernel
theorem dX11_worth_47 : decode cX11_worth 47 = .ok (.invokevirtual 173, 3) := by decide +kernel
theorem dX11_worth_50 : decode cX11_worth 50 = .ok (.aload_n 0, 1) := by decide +kernel
theorem dX11_worth_51 : decode cX11_worth 51 = .ok (.iconst 2, 1) := by decide +kernel
theorem dX11_worth_52 : decode cX11_worth 52 = .ok (.iconst 0, 1) := by decide +kernel
theorem dX11_worth_53 : decode cX11_worth 53 = .ok (.iconst 0, 1) := by decide +kernel
theorem dX11_worth_54 : decode cX11_worth 54 = .ok (.iconst 0, 1) := by decide +kernel
theorem dX11_worth_55 : decode cX11_worth 55 = .ok (.invokevirtual 216, 3) := by decide +kernel
theorem dX11_worth_58 : decode cX11_worth 58 = .ok (.pop, 1) := by decide +kernel
theorem dX11_worth_59 : decode cX11_worth 59 = .ok (.goto 119, 3) := by decide +kernel
theorem dX11_worth_62 : decode cX11_worth 62 = .ok (.aload_n 0, 1) := by decide +kernel
theorem dX11_worth_63 : decode cX11_worth 63 = .ok (.bipush 6, 2) := by decide +kernel
theorem dX11_worth_65 : decode cX11_worth 65 = .ok (.invokevirtual 220, 3) := by decide +kernel
theorem dX11_worth_68 : decode cX11_worth 68 = .ok (.ifCond .eq 31, 3) := by decide +kernel
theorem dX11_worth_71 : decode cX11_worth 71 = .ok (.aload_n 0, 1) := by decide +kernel
theorem dX11_worth_72 : decode cX11_worth 72 = .ok (.invokevirtual 173, 3) := by decide +kernel
theorem dX11_worth_75 : decode cX11_worth 75 = .ok (.aload_n 0, 1) := by decide +kernel
theorem dX11_worth_76 : decode cX11_worth 76 = .ok (.iconst 0, 1) := by decide +kernel
theorem dX11_worth_77 : decode cX11_worth 77 = .ok (.invokevirtual 205, 3) := by decide +kernel
theorem dX11_worth_80 : decode cX11_worth 80 = .ok (.istore_n 2, 1) := by decide +kernel
theorem dX11_worth_81 : decode cX11_worth 81 = .ok (.aload_n 0, 1) := by decide +kernel
theorem dX11_worth_82 : decode cX11_worth 82 = .ok (.iconst 0, 1) := by decide +kernel
theorem dX11_worth_83 : decode cX11_worth 83 = .ok (.invokevirtual 205, 3) := by decide +kernel
theorem dX11_worth_86 : decode cX11_worth 86 = .ok (.istore_n 3, 1) := by decide +kernel
theorem dX11_worth_87 : decode cX11_worth 87 = .ok (.aload_n 0, 1) := by decide +kernel
theorem dX11_worth_88 : decode cX11_worth 88 = .ok (.iconst 3, 1) := by decide +kernel
theorem dX11_worth_89 : decode cX11_worth 89 = .ok (.iload_n 2, 1) := by decide +kernel
theorem dX11_worth_90 : decode cX11_worth 90 = .ok (.iload_n 3, 1) := by decide +kernel
theorem dX11_worth_91 : decode cX11_worth 91 = .ok (.iconst 0, 1) := by decide +kernel
theorem dX11_worth_92 : decode cX11_worth 92 = .ok (.invokevirtual 216, 3) := by decide +kernel
theorem dX11_worth_95 : decode cX11_worth 95 = .ok (.pop, 1) := by decide +kernel
theorem dX11_worth_96 : decode cX11_worth 96 = .ok (.goto 82, 3) := by decide +kernel
theorem dX11_worth_99 : decode cX11_worth 99 = .ok (.aload_n 0, 1) := by decide +kernel
theorem dX11_worth_100 : decode cX11_worth 100 = .ok (.getfield 140, 3) := by decide +kernel
theorem dX11_worth_103 : decode cX11_worth 103 = .ok (.ifCond .ne 54, 3) := by decide +kernel
theorem dX11_worth_106 : decode cX11_worth 106 = .ok (.aload_n 0, 1) := by decide +kernel
theorem dX11_worth_107 : decode cX11_worth 107 = .ok (.iconst 0, 1) := by decide +kernel
theorem dX11_worth_108 : decode cX11_worth 108 = .ok (.invokevirtual 205, 3) := by decide +kernel
theorem dX11_worth_111 : decode cX11_worth 111 = .ok (.istore_n 2, 1) := by decide +kernel
theorem dX11_worth_112 : decode cX11_worth 112 = .ok (.aload_n 0, 1) := by decide +kernel
theorem dX11_worth_113 : decode cX11_worth 113 = .ok (.bipush 46, 2) := by decide +kernel
theorem dX11_worth_115 : decode cX11_worth 115 = .ok (.invokevirtual 170, 3) := by decide +kernel
theorem dX11_worth_118 : decode cX11_worth 118 = .ok (.ifCond .ne 13, 3) := by decide +kernel
theorem dX11_worth_121 : decode cX11_worth 121 = .ok (.aload_n 0, 1) := by decide +kernel
theorem dX11_worth_122 : decode cX11_worth 122 = .ok (.iconst 4, 1) := by decide +kernel
theorem dX11_worth_123 : decode cX11_worth 123 = .ok (.iload_n 2, 1) := by decide +kernel
theorem dX11_worth_124 : decode cX11_worth 124 = .ok (.iconst 0, 1) := by decide +kernel
theorem dX11_worth_125 : decode cX11_worth 125 = .ok (.iconst 0, 1) := by decide +kernel
theorem dX11_worth_126 : decode cX11_worth 126 = .ok (.invokevirtual 216, 3) := by decide +kernel
theorem dX11_worth_129 : decode cX11_worth 129 = .ok (.pop, 1) := by decide +kernel
theorem dX11_worth_130 : decode cX11_worth 130 = .ok (.return_, 1) := by decide +kernel
theorem dX11_worth_131 : decode cX11_worth 131 = .ok (.aload_n 0, 1) := by decide +kernel
theorem dX11_worth_132 : decode cX11_worth 132 = .ok (.iload_n 2, 1) := by decide +kernel
theorem dX11_worth_133 : decode cX11_worth 133 = .ok (.iload_n 1, 1) := by decide +kernel
theorem dX11_worth_134 : decode cX11_worth 134 = .ok (.invokevirtual 223, 3) := by decide +kernel
theorem dX11_worth_137 : decode cX11_worth 137 = .ok (.istore_n 3, 1) := by decide +kernel
theorem dX11_worth_138 : decode cX11_worth 138 = .ok (.aload_n 0, 1) := by decide +kernel
theorem dX11_worth_139 : decode cX11_worth 139 = .ok (.invokevirtual 173, 3) := by decide +kernel
theorem dX11_worth_142 : decode cX11_worth 142 = .ok (.aload_n 0, 1) := by decide +kernel
theorem dX11_worth_143 : decode cX11_worth 143 = .ok (.iconst 5, 1) := by decide +kernel
theorem dX11_worth_144 : decode cX11_worth 144 = .ok (.iload_n 2, 1) := by decide +kernel
theorem dX11_worth_145 : decode cX11_worth 145 = .ok (.aload_n 0, 1) := by decide +kernel
theorem dX11_worth_146 : decode cX11_worth 146 = .ok (.invokevirtual 227, 3) := by decide +kernel
theorem dX11_worth_149 : decode cX11_worth 149 = .ok (.iload_n 3, 1) := by decide +kernel
theorem dX11_worth_150 : decode cX11_worth 150 = .ok (.invokevirtual 216, 3) := by decide +kernel
