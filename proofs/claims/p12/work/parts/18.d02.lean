theorem dX6_step_0 : decode cX6_step 0 = .ok (.aload_n 0, 1) := by decide +kernel
theorem dX6_step_1 : decode cX6_step 1 = .ok (.getfield 38, 3) := by decide +kernel
theorem dX6_step_4 : decode cX6_step 4 = .ok (.aload_n 0, 1) := by decide +kernel
theorem dX6_step_5 : decode cX6_step 5 = .ok (.getfield 105, 3) := by decide +kernel
theorem dX6_step_8 : decode cX6_step 8 = .ok (.iconst 0, 1) := by decide +kernel
theorem dX6_step_9 : decode cX6_step 9 = .ok (.invokevirtual 110, 3) := by decide +kernel
theorem dX6_step_12 : decode cX6_step 12 = .ok (.istore_n 1, 1) := by decide +kernel
theorem dX6_step_13 : decode cX6_step 13 = .ok (.iload_n 1, 1) := by decide +kernel
theorem dX6_step_14 : decode cX6_step 14 = .ok (.iconst 1, 1) := by decide +kernel
theorem dX6_step_15 : decode cX6_step 15 = .ok (.if_icmp .ne 23, 3) := by decide +kernel
theorem dX6_step_18 : decode cX6_step 18 = .ok (.aload_n 0, 1) := by decide +kernel
theorem dX6_step_19 : decode cX6_step 19 = .ok (.aload_n 0, 1) := by decide +kernel
theorem dX6_step_20 : decode cX6_step 20 = .ok (.getfield 38, 3) := by decide +kernel
theorem dX6_step_23 : decode cX6_step 23 = .ok (.aload_n 0, 1) := by decide +kernel
theorem dX6_step_24 : decode cX6_step 24 = .ok (.getfield 105, 3) := by decide +kernel
theorem dX6_step_27 : decode cX6_step 27 = .ok (.bipush 10, 2) := by decide +kernel
theorem dX6_step_29 : decode cX6_step 29 = .ok (.invokevirtual 110, 3) := by decide +kernel
theorem dX6_step_32 : decode cX6_step 32 = .ok (.putfield 105, 3) := by decide +kernel
theorem dX6_step_35 : decode cX6_step 35 = .ok (.goto 88, 3) := by decide +kernel
theorem dX6_step_38 : decode cX6_step 38 = .ok (.iload_n 1, 1) := by decide +kernel
theorem dX6_step_39 : decode cX6_step 39 = .ok (.ifCond .ne 11, 3) := by decide +kernel
theorem dX6_step_42 : decode cX6_step 42 = .ok (.aload_n 0, 1) := by decide +kernel
theorem dX6_step_43 : decode cX6_step 43 = .ok (.iconst 0, 1) := by decide +kernel
theorem dX6_step_44 : decode cX6_step 44 = .ok (.invokevirtual 113, 3) := by decide +kernel
theorem dX6_step_47 : decode cX6_step 47 = .ok (.goto 76, 3) := by decide +kernel
theorem dX6_step_50 : decode cX6_step 50 = .ok (.aload_n 0, 1) := by decide +kernel
theorem dX6_step_51 : decode cX6_step 51 = .ok (.getfield 61, 3) := by decide +kernel
theorem dX6_step_54 : decode cX6_step 54 = .ok (.sipush 400, 3) := by decide +kernel
theorem dX6_step_57 : decode cX6_step 57 = .ok (.if_icmp .lt 11, 3) := by decide +kernel
theorem dX6_step_60 : decode cX6_step 60 = .ok (.aload_n 0, 1) := by decide +kernel
theorem dX6_step_61 : decode cX6_step 61 = .ok (.iconst 3, 1) := by decide +kernel
theorem dX6_step_62 : decode cX6_step 62 = .ok (.putfield 44, 3) := by decide +kernel
theorem dX6_step_65 : decode cX6_step 65 = .ok (.goto 58, 3) := by decide +kernel
theorem dX6_step_68 : decode cX6_step 68 = .ok (.aload_n 0, 1) := by decide +kernel
theorem dX6_step_69 : decode cX6_step 69 = .ok (.dup, 1) := by decide +kernel
theorem dX6_step_70 : decode cX6_step 70 = .ok (.getfield 61, 3) := by decide +kernel
theorem dX6_step_73 : decode cX6_step 73 = .ok (.iconst 1, 1) := by decide +kernel
theorem dX6_step_74 : decode cX6_step 74 = .ok (.iadd, 1) := by decide +kernel
theorem dX6_step_75 : decode cX6_step 75 = .ok (.putfield 61, 3) := by decide +kernel
theorem dX6_step_78 : decode cX6_step 78 = .ok (.iload_n 1, 1) := by decide +kernel
theorem dX6_step_79 : decode cX6_step 79 = .ok (.iconst 2, 1) := by decide +kernel
theorem dX6_step_80 : decode cX6_step 80 = .ok (.if_icmp .ne 39, 3) := by decide +kernel
theorem dX6_step_83 : decode cX6_step 83 = .ok (.aload_n 0, 1) := by decide +kernel
theorem dX6_step_84 : decode cX6_step 84 = .ok (.aload_n 0, 1) := by decide +kernel
theorem dX6_step_85 : decode cX6_step 85 = .ok (.invokevirtual 117, 3) := by decide +kernel
theorem dX6_step_88 : decode cX6_step 88 = .ok (.ifCond .eq 12, 3) := by decide +kernel
theorem dX6_step_91 : decode cX6_step 91 = .ok (.aload_n 0, 1) := by decide +kernel
theorem dX6_step_92 : decode cX6_step 92 = .ok (.getfield 105, 3) := by decide +kernel
theorem dX6_step_95 : decode cX6_step 95 = .ok (.iconst 1, 1) := by decide +kernel
theorem dX6_step_96 : decode cX6_step 96 = .ok (.iadd, 1) := by decide +kernel
theorem dX6_step_97 : decode cX6_step 97 = .ok (.goto 16, 3) := by decide +kernel
theorem dX6_step_100 : decode cX6_step 100 = .ok (.aload_n 0, 1) := by decide +kernel
theorem dX6_step_101 : decode cX6_step 101 = .ok (.getfield 38, 3) := by decide +kernel
theorem dX6_step_104 : decode cX6_step 104 = .ok (.aload_n 0, 1) := by decide +kernel
theorem dX6_step_105 : decode cX6_step 105 = .ok (.getfield 105, 3) := by decide +kernel
theorem dX6_step_108 : decode cX6_step 108 = .ok (.bipush 10, 2) := by decide +kernel
theorem dX6_step_110 : decode cX6_step 110 = .ok (.invokevirtual 110, 3) := by decide +kernel
theorem dX6_step_113 : decode cX6_step 113 = .ok (.putfield 105, 3) := by decide +kernel
theorem dX6_step_116 : decode cX6_step 116 = .ok (.goto 7, 3) := by decide +kernel
theorem dX6_step_119 : decode cX6_step 119 = .ok (.aload_n 0, 1) := by decide +kernel
theorem dX6_step_120 : decode cX6_step 120 = .ok (.invokevirtual 121, 3) := by decide +kernel
theorem dX6_step_123 : decode cX6_step 123 = .ok (.return_, 1) := by decide +kernel
theorem dX6_holds_0 : decode cX6_holds 0 = .ok (.aload_n 0, 1) := by decide +kernel
theorem dX6_holds_1 : decode cX6_holds 1 = .ok (.getfield 38, 3) := by decide +kernel
theorem dX6_holds_4 : decode cX6_holds 4 = .ok (.aload_n 0, 1) := by decide +kernel
theorem dX6_holds_5 : decode cX6_holds 5 = .ok (.getfield 105, 3) := by decide +kernel
theorem dX6_holds_8 : decode cX6_holds 8 = .ok (.iconst 4, 1) := by decide +kernel
theorem dX6_holds_9 : decode cX6_holds 9 = .ok (.invokevirtual 110, 3) := by decide +kernel
theorem dX6_holds_12 : decode cX6_holds 12 = .ok (.istore_n 1, 1) := by decide +kernel
theorem dX6_holds_13 : decode cX6_holds 13 = .ok (.iload_n 1, 1) := by decide +kernel
theorem dX6_holds_14 : decode cX6_holds 14 = .ok (.iconst 1, 1) := by decide +kernel
theorem dX6_holds_15 : decode cX6_holds 15 = .ok (.if_icmp .ne 8, 3) := by decide +kernel
theorem dX6_holds_18 : decode cX6_holds 18 = .ok (.aload_n 0, 1) := by decide +kernel
theorem dX6_holds_19 : decode cX6_holds 19 = .ok (.invokevirtual 124, 3) := by decide +kernel
theorem dX6_holds_22 : decode cX6_holds 22 = .ok (.ireturn, 1) := by decide +kernel
theorem dX6_holds_23 : decode cX6_holds 23 = .ok (.aload_n 0, 1) := by decide +kernel
theorem dX6_holds_24 : decode cX6_holds 24 = .ok (.aload_n 0, 1) := by decide +kernel
theorem dX6_holds_25 : decode cX6_holds 25 = .ok (.getfield 38, 3) := by decide +kernel
theorem dX6_holds_28 : decode cX6_holds 28 = .ok (.aload_n 0, 1) := by decide +kernel
theorem dX6_holds_29 : decode cX6_holds 29 = .ok (.getfield 105, 3) := by decide +kernel
theorem dX6_holds_32 : decode cX6_holds 32 = .ok (.iconst 1, 1) := by decide +kernel
theorem dX6_holds_33 : decode cX6_holds 33 = .ok (.invokevirtual 110, 3) := by decide +kernel
theorem dX6_holds_36 : decode cX6_holds 36 = .ok (.invokevirtual 127, 3) := by decide +kernel
theorem dX6_holds_39 : decode cX6_holds 39 = .ok (.ifCond .ne 7, 3) := by decide +kernel
theorem dX6_holds_42 : decode cX6_holds 42 = .ok (.iconst 1, 1) := by decide +kernel
theorem dX6_holds_43 : decode cX6_holds 43 = .ok (.goto 4, 3) := by decide +kernel
theorem dX6_holds_46 : decode cX6_holds 46 = .ok (.iconst 0, 1) := by decide +kernel
theorem dX6_holds_47 : decode cX6_holds 47 = .ok (.istore_n 2, 1) := by decide +kernel
theorem dX6_holds_48 : decode cX6_holds 48 = .ok (.iload_n 2, 1) := by decide +kernel
theorem dX6_holds_49 : decode cX6_holds 49 = .ok (.iload_n 1, 1) := by decide +kernel
theorem dX6_holds_50 : decode cX6_holds 50 = .ok (.bipush 6, 2) := by decide +kernel
theorem dX6_holds_52 : decode cX6_holds 52 = .ok (.if_icmp .ne 7, 3) := by decide +kernel
theorem dX6_holds_55 : decode cX6_holds 55 = .ok (.iconst 1, 1) := by decide +kernel
theorem dX6_holds_56 : decode cX6_holds 56 = .ok (.goto 4, 3) := by decide +kernel
theorem dX6_holds_59 : decode cX6_holds 59 = .ok (.iconst 0, 1) := by decide +kernel
theorem dX6_holds_60 : decode cX6_holds 60 = .ok (.if_icmp .ne 7, 3) := by decide +kernel
theorem dX6_holds_63 : decode cX6_holds 63 = .ok (.iconst 1, 1) := by decide +kernel
theorem dX6_holds_64 : decode cX6_holds 64 = .ok (.goto 4, 3) := by decide +kernel
theorem dX6_holds_67 : decode cX6_holds 67 = .ok (.iconst 0, 1) := by decide +kernel
theorem dX6_holds_68 : decode cX6_holds 68 = .ok (.ireturn, 1) := by decide +kernel
theorem dX6_choose_0 : decode cX6_choose 0 = .ok (.aload_n 0, 1) := by decide +kernel
theorem dX6_choose_1 : decode cX6_choose 1 = .ok (.getfield 67, 3) := by decide +kernel
theorem dX6_choose_4 : decode cX6_choose 4 = .ok (.bipush 8, 2) := by decide +kernel
theorem dX6_choose_6 : decode cX6_choose 6 = .ok (.invokestatic 131, 3) := by decide +kernel
theorem dX6_choose_9 : decode cX6_choose 9 = .ok (.istore_n 1, 1) := by decide +kernel
theorem dX6_choose_10 : decode cX6_choose 10 = .ok (.aload_n 0, 1) := by decide +kernel
theorem dX6_choose_11 : decode cX6_choose 11 = .ok (.dup, 1) := by decide +kernel
theorem dX6_choose_12 : decode cX6_choose 12 = .ok (.getfield 67, 3) := by decide +kernel
theorem dX6_choose_15 : decode cX6_choose 15 = .ok (.iconst 1, 1) := by decide +kernel
theorem dX6_choose_16 : decode cX6_choose 16 = .ok (.iadd, 1) := by decide +kernel
theorem dX6_choose_17 : decode cX6_choose 17 = .ok (.putfield 67, 3) := by decide +kernel
theorem dX6_choose_20 : decode cX6_choose 20 = .ok (.aload_n 0, 1) := by decide +kernel
theorem dX6_choose_21 : decode cX6_choose 21 = .ok (.getfield 58, 3) := by decide +kernel
theorem dX6_choose_24 : decode cX6_choose 24 = .ok (.iload_n 1, 1) := by decide +kernel
theorem dX6_choose_25 : decode cX6_choose 25 = .ok (.ishr, 1) := by decide +kernel
theorem dX6_choose_26 : decode cX6_choose 26 = .ok (.iconst 1, 1) := by decide +kernel
theorem dX6_choose_27 : decode cX6_choose 27 = .ok (.iand, 1) := by decide +kernel
theorem dX6_choose_28 : decode cX6_choose 28 = .ok (.ifCond .eq 7, 3) := by decide +kernel
theorem dX6_choose_31 : decode cX6_choose 31 = .ok (.iconst 1, 1) := by decide +kernel
theorem dX6_choose_32 : decode cX6_choose 32 = .ok (.goto 4, 3) := by decide +kernel
theorem dX6_choose_35 : decode cX6_choose 35 = .ok (.iconst 0, 1) := by decide +kernel
theorem dX6_choose_36 : decode cX6_choose 36 = .ok (.ireturn, 1) := by decide +kernel
theorem dX6_work_0 : decode cX6_work 0 = .ok (.aload_n 0, 1) := by decide +kernel
theorem dX6_work_1 : decode cX6_work 1 = .ok (.getfield 38, 3) := by decide +kernel
theorem dX6_work_4 : decode cX6_work 4 = .ok (.aload_n 0, 1) := by decide +kernel
theorem dX6_work_5 : decode cX6_work 5 = .ok (.getfield 105, 3) := by decide +kernel
theorem dX6_work_8 : decode cX6_work 8 = .ok (.iconst 5, 1) := by decide +kernel
theorem dX6_work_9 : decode cX6_work 9 = .ok (.invokevirtual 110, 3) := by decide +kernel
theorem dX6_work_12 : decode cX6_work 12 = .ok (.istore_n 1, 1) := by decide +kernel
theorem dX6_work_13 : decode cX6_work 13 = .ok (.aload_n 0, 1) := by decide +kernel
theorem dX6_work_14 : decode cX6_work 14 = .ok (.getfield 38, 3) := by decide +kernel
theorem dX6_work_17 : decode cX6_work 17 = .ok (.aload_n 0, 1) := by decide +kernel
theorem dX6_work_18 : decode cX6_work 18 = .ok (.getfield 105, 3) := by decide +kernel
theorem dX6_work_21 : decode cX6_work 21 = .ok (.bipush 6, 2) := by decide +kernel
theorem dX6_work_23 : decode cX6_work 23 = .ok (.invokevirtual 110, 3) := by decide +kernel
theorem dX6_work_26 : decode cX6_work 26 = .ok (.istore_n 2, 1) := by decide +kernel
theorem dX6_work_27 : decode cX6_work 27 = .ok (.aload_n 0, 1) := by decide +kernel
theorem dX6_work_28 : decode cX6_work 28 = .ok (.iload_n 1, 1) := by decide +kernel
theorem dX6_work_29 : decode cX6_work 29 = .ok (.invokevirtual 127, 3) := by decide +kernel
theorem dX6_work_32 : decode cX6_work 32 = .ok (.istore_n 3, 1) := by decide +kernel
theorem dX6_work_33 : decode cX6_work 33 = .ok (.aload_n 0, 1) := by decide +kernel
theorem dX6_work_34 : decode cX6_work 34 = .ok (.getfield 38, 3) := by decide +kernel
theorem dX6_work_37 : decode cX6_work 37 = .ok (.aload_n 0, 1) := by decide +kernel
theorem dX6_work_38 : decode cX6_work 38 = .ok (.getfield 105, 3) := by decide +kernel
theorem dX6_work_41 : decode cX6_work 41 = .ok (.iconst 4, 1) := by decide +kernel
theorem dX6_work_42 : decode cX6_work 42 = .ok (.invokevirtual 110, 3) := by decide +kernel
theorem dX6_work_45 : decode cX6_work 45 = .ok (.istore 4, 2) := by decide +kernel
theorem dX6_work_47 : decode cX6_work 47 = .ok (.aload_n 0, 1) := by decide +kernel
theorem dX6_work_48 : decode cX6_work 48 = .ok (.iconst 0, 1) := by decide +kernel
theorem dX6_work_49 : decode cX6_work 49 = .ok (.putfield 136, 3) := by decide +kernel
theorem dX6_work_52 : decode cX6_work 52 = .ok (.aload_n 0, 1) := by decide +kernel
theorem dX6_work_53 : decode cX6_work 53 = .ok (.iconst 1, 1) := by decide +kernel
theorem dX6_work_54 : decode cX6_work 54 = .ok (.putfield 48, 3) := by decide +kernel
theorem dX6_work_57 : decode cX6_work 57 = .ok (.iload 4, 2) := by decide +kernel
theorem dX6_work_59 : decode cX6_work 59 = .ok (.iconst 1, 1) := by decide +kernel
theorem dX6_work_60 : decode cX6_work 60 = .ok (.if_icmp .ne 25, 3) := by decide +kernel
theorem dX6_work_63 : decode cX6_work 63 = .ok (.aload_n 0, 1) := by decide +kernel
theorem dX6_work_64 : decode cX6_work 64 = .ok (.aload_n 0, 1) := by decide +kernel
theorem dX6_work_65 : decode cX6_work 65 = .ok (.invokevirtual 124, 3) := by decide +kernel
theorem dX6_work_68 : decode cX6_work 68 = .ok (.ifCond .eq 10, 3) := by decide +kernel
theorem dX6_work_71 : decode cX6_work 71 = .ok (.aload_n 0, 1) := by decide +kernel
theorem dX6_work_72 : decode cX6_work 72 = .ok (.invokevirtual 90, 3) := by decide +kernel
theorem dX6_work_75 : decode cX6_work 75 = .ok (.goto 4, 3) := by decide +kernel
theorem dX6_work_78 : decode cX6_work 78 = .ok (.iconst 0, 1) := by decide +kernel
theorem dX6_work_79 : decode cX6_work 79 = .ok (.putfield 136, 3) := by decide +kernel
theorem dX6_work_82 : decode cX6_work 82 = .ok (.goto 70, 3) := by decide +kernel
theorem dX6_work_85 : decode cX6_work 85 = .ok (.iload 4, 2) := by decide +kernel
theorem dX6_work_87 : decode cX6_work 87 = .ok (.iconst 2, 1) := by decide +kernel
theorem dX6_work_88 : decode cX6_work 88 = .ok (.if_icmp .ne 20, 3) := by decide +kernel
theorem dX6_work_91 : decode cX6_work 91 = .ok (.aload_n 0, 1) := by decide +kernel
theorem dX6_work_92 : decode cX6_work 92 = .ok (.aload_n 0, 1) := by decide +kernel
theorem dX6_work_93 : decode cX6_work 93 = .ok (.iload_n 3, 1) := by decide +kernel
theorem dX6_work_94 : decode cX6_work 94 = .ok (.aload_n 0, 1) := by decide +kernel
theorem dX6_work_95 : decode cX6_work 95 = .ok (.iload_n 2, 1) := by decide +kernel
theorem dX6_work_96 : decode cX6_work 96 = .ok (.invokevirtual 127, 3) := by decide +kernel
theorem dX6_work_99 : decode cX6_work 99 = .ok (.invokevirtual 139, 3) := by decide +kernel
theorem dX6_work_102 : decode cX6_work 102 = .ok (.putfield 136, 3) := by decide +kernel
theorem dX6_work_105 : decode cX6_work 105 = .ok (.goto 47, 3) := by decide +kernel
theorem dX6_work_108 : decode cX6_work 108 = .ok (.iload 4, 2) := by decide +kernel
theorem dX6_work_110 : decode cX6_work 110 = .ok (.iconst 3, 1) := by decide +kernel
theorem dX6_work_111 : decode cX6_work 111 = .ok (.if_icmp .ne 11, 3) := by decide +kernel
theorem dX6_work_114 : decode cX6_work 114 = .ok (.aload_n 0, 1) := by decide +kernel
theorem dX6_work_115 : decode cX6_work 115 = .ok (.iload_n 3, 1) := by decide +kernel
theorem dX6_work_116 : decode cX6_work 116 = .ok (.putfield 136, 3) := by decide +kernel
theorem dX6_work_119 : decode cX6_work 119 = .ok (.goto 33, 3) := by decide +kernel
theorem dX6_work_122 : decode cX6_work 122 = .ok (.iload 4, 2) := by decide +kernel
theorem dX6_work_124 : decode cX6_work 124 = .ok (.iconst 4, 1) := by decide +kernel
theorem dX6_work_125 : decode cX6_work 125 = .ok (.if_icmp .ne 16, 3) := by decide +kernel
theorem dX6_work_128 : decode cX6_work 128 = .ok (.aload_n 0, 1) := by decide +kernel
theorem dX6_work_129 : decode cX6_work 129 = .ok (.aload_n 0, 1) := by decide +kernel
theorem dX6_work_130 : decode cX6_work 130 = .ok (.iload_n 3, 1) := by decide +kernel
theorem dX6_work_131 : decode cX6_work 131 = .ok (.iload_n 2, 1) := by decide +kernel
theorem dX6_work_132 : decode cX6_work 132 = .ok (.invokevirtual 142, 3) := by decide +kernel
theorem dX6_work_135 : decode cX6_work 135 = .ok (.putfield 136, 3) := by decide +kernel
theorem dX6_work_138 : decode cX6_work 138 = .ok (.goto 14, 3) := by decide +kernel
theorem dX6_work_141 : decode cX6_work 141 = .ok (.iload 4, 2) := by decide +kernel
theorem dX6_work_143 : decode cX6_work 143 = .ok (.iconst 5, 1) := by decide +kernel
theorem dX6_work_144 : decode cX6_work 144 = .ok (.if_icmp .ne 8, 3) := by decide +kernel
theorem dX6_work_147 : decode cX6_work 147 = .ok (.aload_n 0, 1) := by decide +kernel
theorem dX6_work_148 : decode cX6_work 148 = .ok (.iload_n 2, 1) := by decide +kernel
theorem dX6_work_149 : decode cX6_work 149 = .ok (.invokevirtual 145, 3) := by decide +kernel
theorem dX6_work_152 : decode cX6_work 152 = .ok (.return_, 1) := by decide +kernel
theorem dX6_finish_0 : decode cX6_finish 0 = .ok (.aload_n 0, 1) := by decide +kernel
theorem dX6_finish_1 : decode cX6_finish 1 = .ok (.iconst 0, 1) := by decide +kernel
theorem dX6_finish_2 : decode cX6_finish 2 = .ok (.putfield 48, 3) := by decide +kernel
theorem dX6_finish_5 : decode cX6_finish 5 = .ok (.aload_n 0, 1) := by decide +kernel
theorem dX6_finish_6 : decode cX6_finish 6 = .ok (.getfield 38, 3) := by decide +kernel
theorem dX6_finish_9 : decode cX6_finish 9 = .ok (.aload_n 0, 1) := by decide +kernel
theorem dX6_finish_10 : decode cX6_finish 10 = .ok (.getfield 105, 3) := by decide +kernel
theorem dX6_finish_13 : decode cX6_finish 13 = .ok (.iconst 1, 1) := by decide +kernel
theorem dX6_finish_14 : decode cX6_finish 14 = .ok (.invokevirtual 110, 3) := by decide +kernel
theorem dX6_finish_17 : decode cX6_finish 17 = .ok (.istore_n 1, 1) := by decide +kernel
theorem dX6_finish_18 : decode cX6_finish 18 = .ok (.aload_n 0, 1) := by decide +kernel
theorem dX6_finish_19 : decode cX6_finish 19 = .ok (.getfield 38, 3) := by decide +kernel
theorem dX6_finish_22 : decode cX6_finish 22 = .ok (.aload_n 0, 1) := by decide +kernel
theorem dX6_finish_23 : decode cX6_finish 23 = .ok (.getfield 105, 3) := by decide +kernel
theorem dX6_finish_26 : decode cX6_finish 26 = .ok (.iconst 0, 1) := by decide +kernel
theorem dX6_finish_27 : decode cX6_finish 27 = .ok (.invokevirtual 110, 3) := by decide +kernel
theorem dX6_finish_30 : decode cX6_finish 30 = .ok (.istore_n 2, 1) := by decide +kernel
theorem dX6_finish_31 : decode cX6_finish 31 = .ok (.iload_n 2, 1) := by decide +kernel
theorem dX6_finish_32 : decode cX6_finish 32 = .ok (.bipush 6, 2) := by decide +kernel
theorem dX6_finish_34 : decode cX6_finish 34 = .ok (.if_icmp .ne 12, 3) := by decide +kernel
theorem dX6_finish_37 : decode cX6_finish 37 = .ok (.aload_n 0, 1) := by decide +kernel
theorem dX6_finish_38 : decode cX6_finish 38 = .ok (.aload_n 0, 1) := by decide +kernel
theorem dX6_finish_39 : decode cX6_finish 39 = .ok (.getfield 136, 3) := by decide +kernel
theorem dX6_finish_42 : decode cX6_finish 42 = .ok (.invokevirtual 113, 3) := by decide +kernel
theorem dX6_finish_45 : decode cX6_finish 45 = .ok (.return_, 1) := by decide +kernel
theorem dX6_finish_46 : decode cX6_finish 46 = .ok (.iload_n 2, 1) := by decide +kernel
theorem dX6_finish_47 : decode cX6_finish 47 = .ok (.iconst 3, 1) := by decide +kernel
theorem dX6_finish_48 : decode cX6_finish 48 = .ok (.if_icmp .ne 15, 3) := by decide +kernel
theorem dX6_finish_51 : decode cX6_finish 51 = .ok (.aload_n 0, 1) := by decide +kernel
theorem dX6_finish_52 : decode cX6_finish 52 = .ok (.iload_n 1, 1) := by decide +kernel
theorem dX6_finish_53 : decode cX6_finish 53 = .ok (.aload_n 0, 1) := by decide +kernel
theorem dX6_finish_54 : decode cX6_finish 54 = .ok (.getfield 136, 3) := by decide +kernel
theorem dX6_finish_57 : decode cX6_finish 57 = .ok (.invokevirtual 93, 3) := by decide +kernel
theorem dX6_finish_60 : decode cX6_finish 60 = .ok (.goto 17, 3) := by decide +kernel
theorem dX6_finish_63 : decode cX6_finish 63 = .ok (.iload_n 2, 1) := by decide +kernel
theorem dX6_finish_64 : decode cX6_finish 64 = .ok (.iconst 4, 1) := by decide +kernel
theorem dX6_finish_65 : decode cX6_finish 65 = .ok (.if_icmp .ne 12, 3) := by decide +kernel
theorem dX6_finish_68 : decode cX6_finish 68 = .ok (.aload_n 0, 1) := by decide +kernel
theorem dX6_finish_69 : decode cX6_finish 69 = .ok (.aload_n 0, 1) := by decide +kernel
theorem dX6_finish_70 : decode cX6_finish 70 = .ok (.iload_n 1, 1) := by decide +kernel
theorem dX6_finish_71 : decode cX6_finish 71 = .ok (.invokevirtual 127, 3) := by decide +kernel
theorem dX6_finish_74 : decode cX6_finish 74 = .ok (.invokevirtual 148, 3) := by decide +kernel
theorem dX6_finish_77 : decode cX6_finish 77 = .ok (.aload_n 0, 1) := by decide +kernel
theorem dX6_finish_78 : decode cX6_finish 78 = .ok (.dup, 1) := by decide +kernel
theorem dX6_finish_79 : decode cX6_finish 79 = .ok (.getfield 105, 3) := by decide +kernel
theorem dX6_finish_82 : decode cX6_finish 82 = .ok (.iconst 1, 1) := by decide +kernel
theorem dX6_finish_83 : decode cX6_finish 83 = .ok (.iadd, 1) := by decide +kernel
theorem dX6_finish_84 : decode cX6_finish 84 = .ok (.putfield 105, 3) := by decide +kernel
theorem dX6_finish_87 : decode cX6_finish 87 = .ok (.return_, 1) := by decide +kernel
theorem dX6_fieldOf_0 : decode cX6_fieldOf 0 = .ok (.iload_n 1, 1) := by decide +kernel
theorem dX6_fieldOf_1 : decode cX6_fieldOf 1 = .ok (.ifCond .ne 27, 3) := by decide +kernel
theorem dX6_fieldOf_4 : decode cX6_fieldOf 4 = .ok (.aload_n 0, 1) := by decide +kernel
theorem dX6_fieldOf_5 : decode cX6_fieldOf 5 = .ok (.iconst 2, 1) := by decide +kernel
theorem dX6_fieldOf_6 : decode cX6_fieldOf 6 = .ok (.putfield 44, 3) := by decide +kernel
theorem dX6_fieldOf_9 : decode cX6_fieldOf 9 = .ok (.aload_n 0, 1) := by decide +kernel
theorem dX6_fieldOf_10 : decode cX6_fieldOf 10 = .ok (.aload_n 0, 1) := by decide +kernel
theorem dX6_fieldOf_11 : decode cX6_fieldOf 11 = .ok (.getfield 38, 3) := by decide +kernel
theorem dX6_fieldOf_14 : decode cX6_fieldOf 14 = .ok (.aload_n 0, 1) := by decide +kernel
theorem dX6_fieldOf_15 : decode cX6_fieldOf 15 = .ok (.getfield 105, 3) := by decide +kernel
theorem dX6_fieldOf_18 : decode cX6_fieldOf 18 = .ok (.bipush 7, 2) := by decide +kernel
theorem dX6_fieldOf_20 : decode cX6_fieldOf 20 = .ok (.invokevirtual 110, 3) := by decide +kernel
theorem dX6_fieldOf_23 : decode cX6_fieldOf 23 = .ok (.putfield 70, 3) := by decide +kernel
theorem dX6_fieldOf_26 : decode cX6_fieldOf 26 = .ok (.iconst 0, 1) := by decide +kernel
theorem dX6_fieldOf_27 : decode cX6_fieldOf 27 = .ok (.ireturn, 1) := by decide +kernel
theorem dX6_fieldOf_28 : decode cX6_fieldOf 28 = .ok (.aload_n 0, 1) := by decide +kernel
theorem dX6_fieldOf_29 : decode cX6_fieldOf 29 = .ok (.getfield 18, 3) := by decide +kernel
theorem dX6_fieldOf_32 : decode cX6_fieldOf 32 = .ok (.iload_n 1, 1) := by decide +kernel
theorem dX6_fieldOf_33 : decode cX6_fieldOf 33 = .ok (.iconst 2, 1) := by decide +kernel
theorem dX6_fieldOf_34 : decode cX6_fieldOf 34 = .ok (.imul, 1) := by decide +kernel
theorem dX6_fieldOf_35 : decode cX6_fieldOf 35 = .ok (.iload_n 2, 1) := by decide +kernel
theorem dX6_fieldOf_36 : decode cX6_fieldOf 36 = .ok (.iadd, 1) := by decide +kernel
theorem dX6_fieldOf_37 : decode cX6_fieldOf 37 = .ok (.invokestatic 99, 3) := by decide +kernel
theorem dX6_fieldOf_40 : decode cX6_fieldOf 40 = .ok (.ireturn, 1) := by decide +kernel
theorem dX6_store_0 : decode cX6_store 0 = .ok (.iload_n 1, 1) := by decide +kernel
theorem dX6_store_1 : decode cX6_store 1 = .ok (.ifCond .ne 25, 3) := by decide +kernel
theorem dX6_store_4 : decode cX6_store 4 = .ok (.aload_n 0, 1) := by decide +kernel
theorem dX6_store_5 : decode cX6_store 5 = .ok (.iconst 2, 1) := by decide +kernel
theorem dX6_store_6 : decode cX6_store 6 = .ok (.putfield 44, 3) := by decide +kernel
theorem dX6_store_9 : decode cX6_store 9 = .ok (.aload_n 0, 1) := by decide +kernel
theorem dX6_store_10 : decode cX6_store 10 = .ok (.aload_n 0, 1) := by decide +kernel
theorem dX6_store_11 : decode cX6_store 11 = .ok (.getfield 38, 3) := by decide +kernel
theorem dX6_store_14 : decode cX6_store 14 = .ok (.aload_n 0, 1) := by decide +kernel
theorem dX6_store_15 : decode cX6_store 15 = .ok (.getfield 105, 3) := by decide +kernel
theorem dX6_store_18 : decode cX6_store 18 = .ok (.iconst 3, 1) := by decide +kernel
theorem dX6_store_19 : decode cX6_store 19 = .ok (.invokevirtual 110, 3) := by decide +kernel
theorem dX6_store_22 : decode cX6_store 22 = .ok (.putfield 70, 3) := by decide +kernel
theorem dX6_store_25 : decode cX6_store 25 = .ok (.return_, 1) := by decide +kernel
theorem dX6_store_26 : decode cX6_store 26 = .ok (.aload_n 0, 1) := by decide +kernel
theorem dX6_store_27 : decode cX6_store 27 = .ok (.getfield 18, 3) := by decide +kernel
theorem dX6_store_30 : decode cX6_store 30 = .ok (.iload_n 1, 1) := by decide +kernel
theorem dX6_store_31 : decode cX6_store 31 = .ok (.iconst 2, 1) := by decide +kernel
theorem dX6_store_32 : decode cX6_store 32 = .ok (.imul, 1) := by decide +kernel
theorem dX6_store_33 : decode cX6_store 33 = .ok (.aload_n 0, 1) := by decide +kernel
theorem dX6_store_34 : decode cX6_store 34 = .ok (.getfield 38, 3) := by decide +kernel
theorem dX6_store_37 : decode cX6_store 37 = .ok (.aload_n 0, 1) := by decide +kernel
theorem dX6_store_38 : decode cX6_store 38 = .ok (.getfield 105, 3) := by decide +kernel
theorem dX6_store_41 : decode cX6_store 41 = .ok (.iconst 2, 1) := by decide +kernel
theorem dX6_store_42 : decode cX6_store 42 = .ok (.invokevirtual 110, 3) := by decide +kernel
theorem dX6_store_45 : decode cX6_store 45 = .ok (.iadd, 1) := by decide +kernel
theorem dX6_store_46 : decode cX6_store 46 = .ok (.aload_n 0, 1) := by decide +kernel
theorem dX6_store_47 : decode cX6_store 47 = .ok (.getfield 136, 3) := by decide +kernel
theorem dX6_store_50 : decode cX6_store 50 = .ok (.invokestatic 151, 3) := by decide +kernel
theorem dX6_store_53 : decode cX6_store 53 = .ok (.return_, 1) := by decide +kernel
theorem dX6_enter_0 : decode cX6_enter 0 = .ok (.aload_n 0, 1) := by decide +kernel
theorem dX6_enter_1 : decode cX6_enter 1 = .ok (.getfield 73, 3) := by decide +kernel
theorem dX6_enter_4 : decode cX6_enter 4 = .ok (.bipush 12, 2) := by decide +kernel
theorem dX6_enter_6 : decode cX6_enter 6 = .ok (.if_icmp .lt 9, 3) := by decide +kernel
theorem dX6_enter_9 : decode cX6_enter 9 = .ok (.aload_n 0, 1) := by decide +kernel
theorem dX6_enter_10 : decode cX6_enter 10 = .ok (.iconst 3, 1) := by decide +kernel
theorem dX6_enter_11 : decode cX6_enter 11 = .ok (.putfield 44, 3) := by decide +kernel
theorem dX6_enter_14 : decode cX6_enter 14 = .ok (.return_, 1) := by decide +kernel
theorem dX6_enter_15 : decode cX6_enter 15 = .ok (.aload_n 0, 1) := by decide +kernel
theorem dX6_enter_16 : decode cX6_enter 16 = .ok (.getfield 73, 3) := by decide +kernel
theorem dX6_enter_19 : decode cX6_enter 19 = .ok (.istore_n 2, 1) := by decide +kernel
theorem dX6_enter_20 : decode cX6_enter 20 = .ok (.aload_n 0, 1) := by decide +kernel
theorem dX6_enter_21 : decode cX6_enter 21 = .ok (.getfield 15, 3) := by decide +kernel
theorem dX6_enter_24 : decode cX6_enter 24 = .ok (.aload_n 0, 1) := by decide +kernel
theorem dX6_enter_25 : decode cX6_enter 25 = .ok (.getfield 73, 3) := by decide +kernel
theorem dX6_enter_28 : decode cX6_enter 28 = .ok (.aload_n 0, 1) := by decide +kernel
theorem dX6_enter_29 : decode cX6_enter 29 = .ok (.getfield 105, 3) := by decide +kernel
theorem dX6_enter_32 : decode cX6_enter 32 = .ok (.invokestatic 151, 3) := by decide +kernel
theorem dX6_enter_35 : decode cX6_enter 35 = .ok (.aload_n 0, 1) := by decide +kernel
theorem dX6_enter_36 : decode cX6_enter 36 = .ok (.dup, 1) := by decide +kernel
theorem dX6_enter_37 : decode cX6_enter 37 = .ok (.getfield 73, 3) := by decide +kernel
theorem dX6_enter_40 : decode cX6_enter 40 = .ok (.iconst 1, 1) := by decide +kernel
theorem dX6_enter_41 : decode cX6_enter 41 = .ok (.iadd, 1) := by decide +kernel
theorem dX6_enter_42 : decode cX6_enter 42 = .ok (.putfield 73, 3) := by decide +kernel
theorem dX6_enter_45 : decode cX6_enter 45 = .ok (.aload_n 0, 1) := by decide +kernel
theorem dX6_enter_46 : decode cX6_enter 46 = .ok (.invokevirtual 76, 3) := by decide +kernel
theorem dX6_enter_49 : decode cX6_enter 49 = .ok (.iconst 0, 1) := by decide +kernel
theorem dX6_enter_50 : decode cX6_enter 50 = .ok (.istore_n 3, 1) := by decide +kernel
theorem dX6_enter_51 : decode cX6_enter 51 = .ok (.iload_n 3, 1) := by decide +kernel
theorem dX6_enter_52 : decode cX6_enter 52 = .ok (.aload_n 0, 1) := by decide +kernel
theorem dX6_enter_53 : decode cX6_enter 53 = .ok (.getfield 38, 3) := by decide +kernel
theorem dX6_enter_56 : decode cX6_enter 56 = .ok (.aload_n 0, 1) := by decide +kernel
theorem dX6_enter_57 : decode cX6_enter 57 = .ok (.getfield 105, 3) := by decide +kernel
theorem dX6_enter_60 : decode cX6_enter 60 = .ok (.invokevirtual 155, 3) := by decide +kernel
theorem dX6_enter_63 : decode cX6_enter 63 = .ok (.if_icmp .ge 50, 3) := by decide +kernel
theorem dX6_enter_66 : decode cX6_enter 66 = .ok (.aload_n 0, 1) := by decide +kernel
theorem dX6_enter_67 : decode cX6_enter 67 = .ok (.getfield 11, 3) := by decide +kernel
theorem dX6_enter_70 : decode cX6_enter 70 = .ok (.iload_n 2, 1) := by decide +kernel
theorem dX6_enter_71 : decode cX6_enter 71 = .ok (.bipush 26, 2) := by decide +kernel
theorem dX6_enter_73 : decode cX6_enter 73 = .ok (.imul, 1) := by decide +kernel
theorem dX6_enter_74 : decode cX6_enter 74 = .ok (.aload_n 0, 1) := by decide +kernel
theorem dX6_enter_75 : decode cX6_enter 75 = .ok (.getfield 38, 3) := by decide +kernel
theorem dX6_enter_78 : decode cX6_enter 78 = .ok (.aload_n 0, 1) := by decide +kernel
theorem dX6_enter_79 : decode cX6_enter 79 = .ok (.getfield 105, 3) := by decide +kernel
theorem dX6_enter_82 : decode cX6_enter 82 = .ok (.iload_n 3, 1) := by decide +kernel
theorem dX6_enter_83 : decode cX6_enter 83 = .ok (.invokevirtual 158, 3) := by decide +kernel
theorem dX6_enter_86 : decode cX6_enter 86 = .ok (.iadd, 1) := by decide +kernel
theorem dX6_enter_87 : decode cX6_enter 87 = .ok (.invokestatic 99, 3) := by decide +kernel
theorem dX6_enter_90 : decode cX6_enter 90 = .ok (.istore 4, 2) := by decide +kernel
theorem dX6_enter_92 : decode cX6_enter 92 = .ok (.aload_n 0, 1) := by decide +kernel
theorem dX6_enter_93 : decode cX6_enter 93 = .ok (.aload_n 0, 1) := by decide +kernel
theorem dX6_enter_94 : decode cX6_enter 94 = .ok (.getfield 31, 3) := by decide +kernel
theorem dX6_enter_97 : decode cX6_enter 97 = .ok (.iload_n 1, 1) := by decide +kernel
theorem dX6_enter_98 : decode cX6_enter 98 = .ok (.iload_n 3, 1) := by decide +kernel
theorem dX6_enter_99 : decode cX6_enter 99 = .ok (.invokevirtual 86, 3) := by decide +kernel
theorem dX6_enter_102 : decode cX6_enter 102 = .ok (.iload 4, 2) := by decide +kernel
theorem dX6_enter_104 : decode cX6_enter 104 = .ok (.invokevirtual 93, 3) := by decide +kernel
theorem dX6_enter_107 : decode cX6_enter 107 = .ok (.iinc 3 1, 3) := by decide +kernel
theorem dX6_enter_110 : decode cX6_enter 110 = .ok (.goto (-59), 3) := by decide +kernel
theorem dX6_enter_113 : decode cX6_enter 113 = .ok (.aload_n 0, 1) := by decide +kernel
theorem dX6_enter_114 : decode cX6_enter 114 = .ok (.aload_n 0, 1) := by decide +kernel
theorem dX6_enter_115 : decode cX6_enter 115 = .ok (.getfield 31, 3) := by decide +kernel
theorem dX6_enter_118 : decode cX6_enter 118 = .ok (.getfield 96, 3) := by decide +kernel
theorem dX6_enter_121 : decode cX6_enter 121 = .ok (.iload_n 1, 1) := by decide +kernel
theorem dX6_enter_122 : decode cX6_enter 122 = .ok (.invokestatic 99, 3) := by decide +kernel
theorem dX6_enter_125 : decode cX6_enter 125 = .ok (.putfield 105, 3) := by decide +kernel
theorem dX6_enter_128 : decode cX6_enter 128 = .ok (.aload_n 0, 1) := by decide +kernel
theorem dX6_enter_129 : decode cX6_enter 129 = .ok (.iconst 0, 1) := by decide +kernel
theorem dX6_enter_130 : decode cX6_enter 130 = .ok (.putfield 48, 3) := by decide +kernel
theorem dX6_enter_133 : decode cX6_enter 133 = .ok (.return_, 1) := by decide +kernel
theorem dX6_leave_0 : decode cX6_leave 0 = .ok (.aload_n 0, 1) := by decide +kernel
theorem dX6_leave_1 : decode cX6_leave 1 = .ok (.getfield 73, 3) := by decide +kernel
theorem dX6_leave_4 : decode cX6_leave 4 = .ok (.ifCond .ne 17, 3) := by decide +kernel
theorem dX6_leave_7 : decode cX6_leave 7 = .ok (.aload_n 0, 1) := by decide +kernel
theorem dX6_leave_8 : decode cX6_leave 8 = .ok (.iload_n 1, 1) := by decide +kernel
theorem dX6_leave_9 : decode cX6_leave 9 = .ok (.ifCond .ne 7, 3) := by decide +kernel
theorem dX6_leave_12 : decode cX6_leave 12 = .ok (.iconst 0, 1) := by decide +kernel
theorem dX6_leave_13 : decode cX6_leave 13 = .ok (.goto 4, 3) := by decide +kernel
theorem dX6_leave_16 : decode cX6_leave 16 = .ok (.iconst 1, 1) := by decide +kernel
theorem dX6_leave_17 : decode cX6_leave 17 = .ok (.putfield 44, 3) := by decide +kernel
theorem dX6_leave_20 : decode cX6_leave 20 = .ok (.return_, 1) := by decide +kernel
theorem dX6_leave_21 : decode cX6_leave 21 = .ok (.aload_n 0, 1) := by decide +kernel
theorem dX6_leave_22 : decode cX6_leave 22 = .ok (.dup, 1) := by decide +kernel
theorem dX6_leave_23 : decode cX6_leave 23 = .ok (.getfield 73, 3) := by decide +kernel
theorem dX6_leave_26 : decode cX6_leave 26 = .ok (.iconst 1, 1) := by decide +kernel
theorem dX6_leave_27 : decode cX6_leave 27 = .ok (.isub, 1) := by decide +kernel
theorem dX6_leave_28 : decode cX6_leave 28 = .ok (.putfield 73, 3) := by decide +kernel
theorem dX6_leave_31 : decode cX6_leave 31 = .ok (.aload_n 0, 1) := by decide +kernel
theorem dX6_leave_32 : decode cX6_leave 32 = .ok (.aload_n 0, 1) := by decide +kernel
theorem dX6_leave_33 : decode cX6_leave 33 = .ok (.getfield 15, 3) := by decide +kernel
theorem dX6_leave_36 : decode cX6_leave 36 = .ok (.aload_n 0, 1) := by decide +kernel
theorem dX6_leave_37 : decode cX6_leave 37 = .ok (.getfield 73, 3) := by decide +kernel
theorem dX6_leave_40 : decode cX6_leave 40 = .ok (.invokestatic 99, 3) := by decide +kernel
theorem dX6_leave_43 : decode cX6_leave 43 = .ok (.putfield 105, 3) := by decide +kernel
theorem dX6_leave_46 : decode cX6_leave 46 = .ok (.aload_n 0, 1) := by decide +kernel
theorem dX6_leave_47 : decode cX6_leave 47 = .ok (.iload_n 1, 1) := by decide +kernel
theorem dX6_leave_48 : decode cX6_leave 48 = .ok (.putfield 136, 3) := by decide +kernel
theorem dX6_leave_51 : decode cX6_leave 51 = .ok (.aload_n 0, 1) := by decide +kernel
theorem dX6_leave_52 : decode cX6_leave 52 = .ok (.iconst 1, 1) := by decide +kernel
theorem dX6_leave_53 : decode cX6_leave 53 = .ok (.putfield 48, 3) := by decide +kernel
theorem dX6_leave_56 : decode cX6_leave 56 = .ok (.return_, 1) := by decide +kernel
theorem dX6_makeLoop_0 : decode cX6_makeLoop 0 = .ok (.aload_n 0, 1) := by decide +kernel
theorem dX6_makeLoop_1 : decode cX6_makeLoop 1 = .ok (.aload_n 0, 1) := by decide +kernel
theorem dX6_makeLoop_2 : decode cX6_makeLoop 2 = .ok (.getfield 64, 3) := by decide +kernel
theorem dX6_makeLoop_5 : decode cX6_makeLoop 5 = .ok (.iconst 1, 1) := by decide +kernel
theorem dX6_makeLoop_6 : decode cX6_makeLoop 6 = .ok (.iadd, 1) := by decide +kernel
theorem dX6_makeLoop_7 : decode cX6_makeLoop 7 = .ok (.aload_n 0, 1) := by decide +kernel
theorem dX6_makeLoop_8 : decode cX6_makeLoop 8 = .ok (.getfield 64, 3) := by decide +kernel
theorem dX6_makeLoop_11 : decode cX6_makeLoop 11 = .ok (.iconst 1, 1) := by decide +kernel
theorem dX6_makeLoop_12 : decode cX6_makeLoop 12 = .ok (.iadd, 1) := by decide +kernel
theorem dX6_makeLoop_13 : decode cX6_makeLoop 13 = .ok (.invokevirtual 139, 3) := by decide +kernel
theorem dX6_makeLoop_16 : decode cX6_makeLoop 16 = .ok (.ireturn, 1) := by decide +kernel
theorem dX6_make_0 : decode cX6_make 0 = .ok (.aload_n 0, 1) := by decide +kernel
theorem dX6_make_1 : decode cX6_make 1 = .ok (.getfield 64, 3) := by decide +kernel
theorem dX6_make_4 : decode cX6_make 4 = .ok (.sipush 300, 3) := by decide +kernel
theorem dX6_make_7 : decode cX6_make 7 = .ok (.if_icmp .lt 10, 3) := by decide +kernel
theorem dX6_make_10 : decode cX6_make 10 = .ok (.aload_n 0, 1) := by decide +kernel
theorem dX6_make_11 : decode cX6_make 11 = .ok (.iconst 3, 1) := by decide +kernel
theorem dX6_make_12 : decode cX6_make 12 = .ok (.putfield 44, 3) := by decide +kernel
theorem dX6_make_15 : decode cX6_make 15 = .ok (.iconst 0, 1) := by decide +kernel
theorem dX6_make_16 : decode cX6_make 16 = .ok (.ireturn, 1) := by decide +kernel
theorem dX6_make_17 : decode cX6_make 17 = .ok (.aload_n 0, 1) := by decide +kernel
theorem dX6_make_18 : decode cX6_make 18 = .ok (.dup, 1) := by decide +kernel
theorem dX6_make_19 : decode cX6_make 19 = .ok (.getfield 64, 3) := by decide +kernel
theorem dX6_make_22 : decode cX6_make 22 = .ok (.iconst 1, 1) := by decide +kernel
theorem dX6_make_23 : decode cX6_make 23 = .ok (.iadd, 1) := by decide +kernel
theorem dX6_make_24 : decode cX6_make 24 = .ok (.putfield 64, 3) := by decide +kernel
theorem dX6_make_27 : decode cX6_make 27 = .ok (.aload_n 0, 1) := by decide +kernel
theorem dX6_make_28 : decode cX6_make 28 = .ok (.getfield 18, 3) := by decide +kernel
theorem dX6_make_31 : decode cX6_make 31 = .ok (.aload_n 0, 1) := by decide +kernel
theorem dX6_make_32 : decode cX6_make 32 = .ok (.getfield 64, 3) := by decide +kernel
theorem dX6_make_35 : decode cX6_make 35 = .ok (.iconst 2, 1) := by decide +kernel
theorem dX6_make_36 : decode cX6_make 36 = .ok (.imul, 1) := by decide +kernel
theorem dX6_make_37 : decode cX6_make 37 = .ok (.iload_n 1, 1) := by decide +kernel
theorem dX6_make_38 : decode cX6_make 38 = .ok (.invokestatic 151, 3) := by decide +kernel
theorem dX6_make_41 : decode cX6_make 41 = .ok (.aload_n 0, 1) := by decide +kernel
theorem dX6_make_42 : decode cX6_make 42 = .ok (.getfield 18, 3) := by decide +kernel
theorem dX6_make_45 : decode cX6_make 45 = .ok (.aload_n 0, 1) := by decide +kernel
theorem dX6_make_46 : decode cX6_make 46 = .ok (.getfield 64, 3) := by decide +kernel
theorem dX6_make_49 : decode cX6_make 49 = .ok (.iconst 2, 1) := by decide +kernel
theorem dX6_make_50 : decode cX6_make 50 = .ok (.imul, 1) := by decide +kernel
theorem dX6_make_51 : decode cX6_make 51 = .ok (.iconst 1, 1) := by decide +kernel
theorem dX6_make_52 : decode cX6_make 52 = .ok (.iadd, 1) := by decide +kernel
theorem dX6_make_53 : decode cX6_make 53 = .ok (.iload_n 2, 1) := by decide +kernel
theorem dX6_make_54 : decode cX6_make 54 = .ok (.invokestatic 151, 3) := by decide +kernel
theorem dX6_make_57 : decode cX6_make 57 = .ok (.aload_n 0, 1) := by decide +kernel
theorem dX6_make_58 : decode cX6_make 58 = .ok (.getfield 64, 3) := by decide +kernel
theorem dX6_make_61 : decode cX6_make 61 = .ok (.ireturn, 1) := by decide +kernel
theorem dX6_clearNames_0 : decode cX6_clearNames 0 = .ok (.iconst 0, 1) := by decide +kernel
theorem dX6_clearNames_1 : decode cX6_clearNames 1 = .ok (.istore_n 1, 1) := by decide +kernel
theorem dX6_clearNames_2 : decode cX6_clearNames 2 = .ok (.iload_n 1, 1) := by decide +kernel
theorem dX6_clearNames_3 : decode cX6_clearNames 3 = .ok (.bipush 26, 2) := by decide +kernel
theorem dX6_clearNames_5 : decode cX6_clearNames 5 = .ok (.if_icmp .ge 26, 3) := by decide +kernel
theorem dX6_clearNames_8 : decode cX6_clearNames 8 = .ok (.aload_n 0, 1) := by decide +kernel
theorem dX6_clearNames_9 : decode cX6_clearNames 9 = .ok (.getfield 11, 3) := by decide +kernel
theorem dX6_clearNames_12 : decode cX6_clearNames 12 = .ok (.aload_n 0, 1) := by decide +kernel
theorem dX6_clearNames_13 : decode cX6_clearNames 13 = .ok (.getfield 73, 3) := by decide +kernel
theorem dX6_clearNames_16 : decode cX6_clearNames 16 = .ok (.bipush 26, 2) := by decide +kernel
theorem dX6_clearNames_18 : decode cX6_clearNames 18 = .ok (.imul, 1) := by decide +kernel
theorem dX6_clearNames_19 : decode cX6_clearNames 19 = .ok (.iload_n 1, 1) := by decide +kernel
theorem dX6_clearNames_20 : decode cX6_clearNames 20 = .ok (.iadd, 1) := by decide +kernel
theorem dX6_clearNames_21 : decode cX6_clearNames 21 = .ok (.iconst 0, 1) := by decide +kernel
theorem dX6_clearNames_22 : decode cX6_clearNames 22 = .ok (.invokestatic 151, 3) := by decide +kernel
theorem dX6_clearNames_25 : decode cX6_clearNames 25 = .ok (.iinc 1 1, 3) := by decide +kernel
theorem dX6_clearNames_28 : decode cX6_clearNames 28 = .ok (.goto (-26), 3) := by decide +kernel
theorem dX6_clearNames_31 : decode cX6_clearNames 31 = .ok (.return_, 1) := by decide +kernel
theorem dX6_nameOf_0 : decode cX6_nameOf 0 = .ok (.aload_n 0, 1) := by decide +kernel
theorem dX6_nameOf_1 : decode cX6_nameOf 1 = .ok (.getfield 11, 3) := by decide +kernel
theorem dX6_nameOf_4 : decode cX6_nameOf 4 = .ok (.aload_n 0, 1) := by decide +kernel
theorem dX6_nameOf_5 : decode cX6_nameOf 5 = .ok (.getfield 73, 3) := by decide +kernel
theorem dX6_nameOf_8 : decode cX6_nameOf 8 = .ok (.bipush 26, 2) := by decide +kernel
theorem dX6_nameOf_10 : decode cX6_nameOf 10 = .ok (.imul, 1) := by decide +kernel
theorem dX6_nameOf_11 : decode cX6_nameOf 11 = .ok (.iload_n 1, 1) := by decide +kernel
theorem dX6_nameOf_12 : decode cX6_nameOf 12 = .ok (.iadd, 1) := by decide +kernel
theorem dX6_nameOf_13 : decode cX6_nameOf 13 = .ok (.invokestatic 99, 3) := by decide +kernel
theorem dX6_nameOf_16 : decode cX6_nameOf 16 = .ok (.ireturn, 1) := by decide +kernel
theorem dX6_setName_0 : decode cX6_setName 0 = .ok (.aload_n 0, 1) := by decide +kernel
theorem dX6_setName_1 : decode cX6_setName 1 = .ok (.getfield 11, 3) := by decide +kernel
theorem dX6_setName_4 : decode cX6_setName 4 = .ok (.aload_n 0, 1) := by decide +kernel
theorem dX6_setName_5 : decode cX6_setName 5 = .ok (.getfield 73, 3) := by decide +kernel
theorem dX6_setName_8 : decode cX6_setName 8 = .ok (.bipush 26, 2) := by decide +kernel
theorem dX6_setName_10 : decode cX6_setName 10 = .ok (.imul, 1) := by decide +kernel
theorem dX6_setName_11 : decode cX6_setName 11 = .ok (.iload_n 1, 1) := by decide +kernel
theorem dX6_setName_12 : decode cX6_setName 12 = .ok (.iadd, 1) := by decide +kernel
theorem dX6_setName_13 : decode cX6_setName 13 = .ok (.iload_n 2, 1) := by decide +kernel
theorem dX6_setName_14 : decode cX6_setName 14 = .ok (.invokestatic 151, 3) := by decide +kernel
theorem dX6_setName_17 : decode cX6_setName 17 = .ok (.return_, 1) := by decide +kernel
theorem dX7_startAt_0 : decode cX7_startAt 0 = .ok (.aload_n 0, 1) := by decide +kernel
theorem dX7_startAt_1 : decode cX7_startAt 1 = .ok (.iload_n 1, 1) := by decide +kernel
theorem dX7_startAt_2 : decode cX7_startAt 2 = .ok (.putfield 9, 3) := by decide +kernel
theorem dX7_startAt_5 : decode cX7_startAt 5 = .ok (.aload_n 0, 1) := by decide +kernel
theorem dX7_startAt_6 : decode cX7_startAt 6 = .ok (.getfield 15, 3) := by decide +kernel
theorem dX7_startAt_9 : decode cX7_startAt 9 = .ok (.iconst 3, 1) := by decide +kernel
theorem dX7_startAt_10 : decode cX7_startAt 10 = .ok (.invokestatic 23, 3) := by decide +kernel
theorem dX7_startAt_13 : decode cX7_startAt 13 = .ok (.return_, 1) := by decide +kernel
theorem dX7_outers_0 : decode cX7_outers 0 = .ok (.aload_n 0, 1) := by decide +kernel
theorem dX7_outers_1 : decode cX7_outers 1 = .ok (.getfield 19, 3) := by decide +kernel
theorem dX7_outers_4 : decode cX7_outers 4 = .ok (.getfield 29, 3) := by decide +kernel
theorem dX7_outers_7 : decode cX7_outers 7 = .ok (.aload_n 0, 1) := by decide +kernel
theorem dX7_outers_8 : decode cX7_outers 8 = .ok (.getfield 9, 3) := by decide +kernel
theorem dX7_outers_11 : decode cX7_outers 11 = .ok (.invokestatic 34, 3) := by decide +kernel
theorem dX7_outers_14 : decode cX7_outers 14 = .ok (.aload_n 0, 1) := by decide +kernel
theorem dX7_outers_15 : decode cX7_outers 15 = .ok (.getfield 19, 3) := by decide +kernel
theorem dX7_outers_18 : decode cX7_outers 18 = .ok (.aload_n 0, 1) := by decide +kernel
theorem dX7_outers_19 : decode cX7_outers 19 = .ok (.getfield 9, 3) := by decide +kernel
theorem dX7_outers_22 : decode cX7_outers 22 = .ok (.invokevirtual 40, 3) := by decide +kernel
theorem dX7_outers_25 : decode cX7_outers 25 = .ok (.ifCond .eq 7, 3) := by decide +kernel
theorem dX7_outers_28 : decode cX7_outers 28 = .ok (.iconst 4, 1) := by decide +kernel
theorem dX7_outers_29 : decode cX7_outers 29 = .ok (.goto 4, 3) := by decide +kernel
theorem dX7_outers_32 : decode cX7_outers 32 = .ok (.iconst 0, 1) := by decide +kernel
theorem dX7_outers_33 : decode cX7_outers 33 = .ok (.invokestatic 44, 3) := by decide +kernel
theorem dX7_outers_36 : decode cX7_outers 36 = .ok (.ireturn, 1) := by decide +kernel
theorem dX7_allows_0 : decode cX7_allows 0 = .ok (.aload_n 0, 1) := by decide +kernel
theorem dX7_allows_1 : decode cX7_allows 1 = .ok (.getfield 19, 3) := by decide +kernel
theorem dX7_allows_4 : decode cX7_allows 4 = .ok (.aload_n 0, 1) := by decide +kernel
theorem dX7_allows_5 : decode cX7_allows 5 = .ok (.getfield 9, 3) := by decide +kernel
theorem dX7_allows_8 : decode cX7_allows 8 = .ok (.invokevirtual 40, 3) := by decide +kernel
theorem dX7_allows_11 : decode cX7_allows 11 = .ok (.ifCond .eq 17, 3) := by decide +kernel
theorem dX7_allows_14 : decode cX7_allows 14 = .ok (.iload_n 1, 1) := by decide +kernel
theorem dX7_allows_15 : decode cX7_allows 15 = .ok (.ifCond .lt 13, 3) := by decide +kernel
theorem dX7_allows_18 : decode cX7_allows 18 = .ok (.iload_n 1, 1) := by decide +kernel
theorem dX7_allows_19 : decode cX7_allows 19 = .ok (.iconst 1, 1) := by decide +kernel
theorem dX7_allows_20 : decode cX7_allows 20 = .ok (.aload_n 0, 1) := by decide +kernel
theorem dX7_allows_21 : decode cX7_allows 21 = .ok (.invokevirtual 50, 3) := by decide +kernel
theorem dX7_allows_24 : decode cX7_allows 24 = .ok (.ishl, 1) := by decide +kernel
theorem dX7_allows_25 : decode cX7_allows 25 = .ok (.if_icmp .lt 5, 3) := by decide +kernel
theorem dX7_allows_28 : decode cX7_allows 28 = .ok (.iconst 0, 1) := by decide +kernel
theorem dX7_allows_29 : decode cX7_allows 29 = .ok (.ireturn, 1) := by decide +kernel
theorem dX7_allows_30 : decode cX7_allows 30 = .ok (.iconst 0, 1) := by decide +kernel
theorem dX7_allows_31 : decode cX7_allows 31 = .ok (.istore_n 2, 1) := by decide +kernel
theorem dX7_allows_32 : decode cX7_allows 32 = .ok (.iload_n 2, 1) := by decide +kernel
theorem dX7_allows_33 : decode cX7_allows 33 = .ok (.aload_n 0, 1) := by decide +kernel
theorem dX7_allows_34 : decode cX7_allows 34 = .ok (.invokevirtual 50, 3) := by decide +kernel
theorem dX7_allows_37 : decode cX7_allows 37 = .ok (.if_icmp .ge 38, 3) := by decide +kernel
theorem dX7_allows_40 : decode cX7_allows 40 = .ok (.iload_n 1, 1) := by decide +kernel
theorem dX7_allows_41 : decode cX7_allows 41 = .ok (.iload_n 2, 1) := by decide +kernel
theorem dX7_allows_42 : decode cX7_allows 42 = .ok (.ishr, 1) := by decide +kernel
theorem dX7_allows_43 : decode cX7_allows 43 = .ok (.iconst 1, 1) := by decide +kernel
theorem dX7_allows_44 : decode cX7_allows 44 = .ok (.iand, 1) := by decide +kernel
theorem dX7_allows_45 : decode cX7_allows 45 = .ok (.ifCond .eq 7, 3) := by decide +kernel
theorem dX7_allows_48 : decode cX7_allows 48 = .ok (.iconst 2, 1) := by decide +kernel
theorem dX7_allows_49 : decode cX7_allows 49 = .ok (.goto 4, 3) := by decide +kernel
theorem dX7_allows_52 : decode cX7_allows 52 = .ok (.iconst 1, 1) := by decide +kernel
theorem dX7_allows_53 : decode cX7_allows 53 = .ok (.istore_n 3, 1) := by decide +kernel
theorem dX7_allows_54 : decode cX7_allows 54 = .ok (.aload_n 0, 1) := by decide +kernel
theorem dX7_allows_55 : decode cX7_allows 55 = .ok (.getfield 15, 3) := by decide +kernel
theorem dX7_allows_58 : decode cX7_allows 58 = .ok (.iload_n 2, 1) := by decide +kernel
theorem dX7_allows_59 : decode cX7_allows 59 = .ok (.invokestatic 34, 3) := by decide +kernel
theorem dX7_allows_62 : decode cX7_allows 62 = .ok (.iload_n 3, 1) := by decide +kernel
theorem dX7_allows_63 : decode cX7_allows 63 = .ok (.iand, 1) := by decide +kernel
theorem dX7_allows_64 : decode cX7_allows 64 = .ok (.ifCond .ne 5, 3) := by decide +kernel
theorem dX7_allows_67 : decode cX7_allows 67 = .ok (.iconst 0, 1) := by decide +kernel
theorem dX7_allows_68 : decode cX7_allows 68 = .ok (.ireturn, 1) := by decide +kernel
theorem dX7_allows_69 : decode cX7_allows 69 = .ok (.iinc 2 1, 3) := by decide +kernel
theorem dX7_allows_72 : decode cX7_allows 72 = .ok (.goto (-40), 3) := by decide +kernel
theorem dX7_allows_75 : decode cX7_allows 75 = .ok (.iconst 1, 1) := by decide +kernel
theorem dX7_allows_76 : decode cX7_allows 76 = .ok (.ireturn, 1) := by decide +kernel
theorem dX8_scan_0 : decode cX8_scan 0 = .ok (.aload_n 0, 1) := by decide +kernel
theorem dX8_scan_1 : decode cX8_scan 1 = .ok (.iconst 0, 1) := by decide +kernel
theorem dX8_scan_2 : decode cX8_scan 2 = .ok (.putfield 15, 3) := by decide +kernel
theorem dX8_scan_5 : decode cX8_scan 5 = .ok (.aload_n 0, 1) := by decide +kernel
theorem dX8_scan_6 : decode cX8_scan 6 = .ok (.iload_n 2, 1) := by decide +kernel
theorem dX8_scan_7 : decode cX8_scan 7 = .ok (.aload_n 1, 1) := by decide +kernel
theorem dX8_scan_8 : decode cX8_scan 8 = .ok (.arraylength, 1) := by decide +kernel
theorem dX8_scan_9 : decode cX8_scan 9 = .ok (.invokestatic 19, 3) := by decide +kernel
theorem dX8_scan_12 : decode cX8_scan 12 = .ok (.putfield 25, 3) := by decide +kernel
theorem dX8_scan_15 : decode cX8_scan 15 = .ok (.iconst 0, 1) := by decide +kernel
theorem dX8_scan_16 : decode cX8_scan 16 = .ok (.istore_n 3, 1) := by decide +kernel
theorem dX8_scan_17 : decode cX8_scan 17 = .ok (.iload_n 3, 1) := by decide +kernel
theorem dX8_scan_18 : decode cX8_scan 18 = .ok (.aload_n 0, 1) := by decide +kernel
theorem dX8_scan_19 : decode cX8_scan 19 = .ok (.getfield 25, 3) := by decide +kernel
theorem dX8_scan_22 : decode cX8_scan 22 = .ok (.if_icmp .ge 114, 3) := by decide +kernel
theorem dX8_scan_25 : decode cX8_scan 25 = .ok (.aload_n 1, 1) := by decide +kernel
theorem dX8_scan_26 : decode cX8_scan 26 = .ok (.iload_n 3, 1) := by decide +kernel
theorem dX8_scan_27 : decode cX8_scan 27 = .ok (.baload, 1) := by decide +kernel
theorem dX8_scan_28 : decode cX8_scan 28 = .ok (.istore 4, 2) := by decide +kernel
theorem dX8_scan_30 : decode cX8_scan 30 = .ok (.iload 4, 2) := by decide +kernel
theorem dX8_scan_32 : decode cX8_scan 32 = .ok (.invokestatic 28, 3) := by decide +kernel
theorem dX8_scan_35 : decode cX8_scan 35 = .ok (.ifCond .eq 42, 3) := by decide +kernel
theorem dX8_scan_38 : decode cX8_scan 38 = .ok (.aload_n 0, 1) := by decide +kernel
theorem dX8_scan_39 : decode cX8_scan 39 = .ok (.aload_n 1, 1) := by decide +kernel
theorem dX8_scan_40 : decode cX8_scan 40 = .ok (.iload_n 3, 1) := by decide +kernel
theorem dX8_scan_41 : decode cX8_scan 41 = .ok (.invokevirtual 32, 3) := by decide +kernel
theorem dX8_scan_44 : decode cX8_scan 44 = .ok (.istore 5, 2) := by decide +kernel
theorem dX8_scan_46 : decode cX8_scan 46 = .ok (.aload_n 0, 1) := by decide +kernel
theorem dX8_scan_47 : decode cX8_scan 47 = .ok (.aload_n 1, 1) := by decide +kernel
theorem dX8_scan_48 : decode cX8_scan 48 = .ok (.iload_n 3, 1) := by decide +kernel
theorem dX8_scan_49 : decode cX8_scan 49 = .ok (.iload 5, 2) := by decide +kernel
theorem dX8_scan_51 : decode cX8_scan 51 = .ok (.iload_n 3, 1) := by decide +kernel
theorem dX8_scan_52 : decode cX8_scan 52 = .ok (.isub, 1) := by decide +kernel
theorem dX8_scan_53 : decode cX8_scan 53 = .ok (.invokestatic 36, 3) := by decide +kernel
theorem dX8_scan_56 : decode cX8_scan 56 = .ok (.iload_n 3, 1) := by decide +kernel
theorem dX8_scan_57 : decode cX8_scan 57 = .ok (.iload 4, 2) := by decide +kernel
theorem dX8_scan_59 : decode cX8_scan 59 = .ok (.bipush 97, 2) := by decide +kernel
theorem dX8_scan_61 : decode cX8_scan 61 = .ok (.isub, 1) := by decide +kernel
theorem dX8_scan_62 : decode cX8_scan 62 = .ok (.invokevirtual 40, 3) := by decide +kernel
theorem dX8_scan_65 : decode cX8_scan 65 = .ok (.iload_n 3, 1) := by decide +kernel
theorem dX8_scan_66 : decode cX8_scan 66 = .ok (.iload 5, 2) := by decide +kernel
theorem dX8_scan_68 : decode cX8_scan 68 = .ok (.iconst 1, 1) := by decide +kernel
theorem dX8_scan_69 : decode cX8_scan 69 = .ok (.isub, 1) := by decide +kernel
theorem dX8_scan_70 : decode cX8_scan 70 = .ok (.invokestatic 44, 3) := by decide +kernel
theorem dX8_scan_73 : decode cX8_scan 73 = .ok (.istore_n 3, 1) := by decide +kernel
theorem dX8_scan_74 : decode cX8_scan 74 = .ok (.goto 56, 3) := by decide +kernel
theorem dX8_scan_77 : decode cX8_scan 77 = .ok (.iload 4, 2) := by decide +kernel
theorem dX8_scan_79 : decode cX8_scan 79 = .ok (.bipush 65, 2) := by decide +kernel
theorem dX8_scan_81 : decode cX8_scan 81 = .ok (.if_icmp .lt 24, 3) := by decide +kernel
theorem dX8_scan_84 : decode cX8_scan 84 = .ok (.iload 4, 2) := by decide +kernel
theorem dX8_scan_86 : decode cX8_scan 86 = .ok (.bipush 73, 2) := by decide +kernel
theorem dX8_scan_88 : decode cX8_scan 88 = .ok (.if_icmp .ge 17, 3) := by decide +kernel
theorem dX8_scan_91 : decode cX8_scan 91 = .ok (.aload_n 0, 1) := by decide +kernel
theorem dX8_scan_92 : decode cX8_scan 92 = .ok (.iconst 3, 1) := by decide +kernel
theorem dX8_scan_93 : decode cX8_scan 93 = .ok (.iload_n 3, 1) := by decide +kernel
theorem dX8_scan_94 : decode cX8_scan 94 = .ok (.iload 4, 2) := by decide +kernel
theorem dX8_scan_96 : decode cX8_scan 96 = .ok (.bipush 65, 2) := by decide +kernel
theorem dX8_scan_98 : decode cX8_scan 98 = .ok (.isub, 1) := by decide +kernel
theorem dX8_scan_99 : decode cX8_scan 99 = .ok (.invokevirtual 40, 3) := by decide +kernel
theorem dX8_scan_102 : decode cX8_scan 102 = .ok (.goto 28, 3) := by decide +kernel
theorem dX8_scan_105 : decode cX8_scan 105 = .ok (.iload 4, 2) := by decide +kernel
theorem dX8_scan_107 : decode cX8_scan 107 = .ok (.bipush 32, 2) := by decide +kernel
theorem dX8_scan_109 : decode cX8_scan 109 = .ok (.if_icmp .eq 21, 3) := by decide +kernel
theorem dX8_scan_112 : decode cX8_scan 112 = .ok (.iload 4, 2) := by decide +kernel
theorem dX8_scan_114 : decode cX8_scan 114 = .ok (.bipush 10, 2) := by decide +kernel
theorem dX8_scan_116 : decode cX8_scan 116 = .ok (.if_icmp .eq 14, 3) := by decide +kernel
theorem dX8_scan_119 : decode cX8_scan 119 = .ok (.aload_n 0, 1) := by decide +kernel
theorem dX8_scan_120 : decode cX8_scan 120 = .ok (.iload 4, 2) := by decide +kernel
theorem dX8_scan_122 : decode cX8_scan 122 = .ok (.invokestatic 47, 3) := by decide +kernel
theorem dX8_scan_125 : decode cX8_scan 125 = .ok (.iload_n 3, 1) := by decide +kernel
theorem dX8_scan_126 : decode cX8_scan 126 = .ok (.iconst 0, 1) := by decide +kernel
theorem dX8_scan_127 : decode cX8_scan 127 = .ok (.invokevirtual 40, 3) := by decide +kernel
theorem dX8_scan_130 : decode cX8_scan 130 = .ok (.iinc 3 1, 3) := by decide +kernel
theorem dX8_scan_133 : decode cX8_scan 133 = .ok (.goto (-116), 3) := by decide +kernel
theorem dX8_scan_136 : decode cX8_scan 136 = .ok (.return_, 1) := by decide +kernel
theorem dX8_kindAt_0 : decode cX8_kindAt 0 = .ok (.iload_n 1, 1) := by decide +kernel
theorem dX8_kindAt_1 : decode cX8_kindAt 1 = .ok (.ifCond .lt 34, 3) := by decide +kernel
theorem dX8_kindAt_4 : decode cX8_kindAt 4 = .ok (.iload_n 1, 1) := by decide +kernel
theorem dX8_kindAt_5 : decode cX8_kindAt 5 = .ok (.aload_n 0, 1) := by decide +kernel
theorem dX8_kindAt_6 : decode cX8_kindAt 6 = .ok (.getfield 15, 3) := by decide +kernel
theorem dX8_kindAt_9 : decode cX8_kindAt 9 = .ok (.if_icmp .ge 26, 3) := by decide +kernel
theorem dX8_kindAt_12 : decode cX8_kindAt 12 = .ok (.iload_n 1, 1) := by decide +kernel
theorem dX8_kindAt_13 : decode cX8_kindAt 13 = .ok (.aload_n 0, 1) := by decide +kernel
theorem dX8_kindAt_14 : decode cX8_kindAt 14 = .ok (.getfield 9, 3) := by decide +kernel
theorem dX8_kindAt_17 : decode cX8_kindAt 17 = .ok (.arraylength, 1) := by decide +kernel
theorem dX8_kindAt_18 : decode cX8_kindAt 18 = .ok (.if_icmp .ge 17, 3) := by decide +kernel
theorem dX8_kindAt_21 : decode cX8_kindAt 21 = .ok (.aload_n 0, 1) := by decide +kernel
theorem dX8_kindAt_22 : decode cX8_kindAt 22 = .ok (.getfield 9, 3) := by decide +kernel
theorem dX8_kindAt_25 : decode cX8_kindAt 25 = .ok (.iload_n 1, 1) := by decide +kernel
theorem dX8_kindAt_26 : decode cX8_kindAt 26 = .ok (.iaload, 1) := by decide +kernel
theorem dX8_kindAt_27 : decode cX8_kindAt 27 = .ok (.iconst 5, 1) := by decide +kernel
theorem dX8_kindAt_28 : decode cX8_kindAt 28 = .ok (.ishr, 1) := by decide +kernel
theorem dX8_kindAt_29 : decode cX8_kindAt 29 = .ok (.bipush 31, 2) := by decide +kernel
theorem dX8_kindAt_31 : decode cX8_kindAt 31 = .ok (.iand, 1) := by decide +kernel
theorem dX8_kindAt_32 : decode cX8_kindAt 32 = .ok (.goto 4, 3) := by decide +kernel
theorem dX8_kindAt_35 : decode cX8_kindAt 35 = .ok (.iconst 0, 1) := by decide +kernel
theorem dX8_kindAt_36 : decode cX8_kindAt 36 = .ok (.ireturn, 1) := by decide +kernel
theorem dX8_placeAt_0 : decode cX8_placeAt 0 = .ok (.iload_n 1, 1) := by decide +kernel
theorem dX8_placeAt_1 : decode cX8_placeAt 1 = .ok (.ifCond .lt 32, 3) := by decide +kernel
theorem dX8_placeAt_4 : decode cX8_placeAt 4 = .ok (.iload_n 1, 1) := by decide +kernel
theorem dX8_placeAt_5 : decode cX8_placeAt 5 = .ok (.aload_n 0, 1) := by decide +kernel
theorem dX8_placeAt_6 : decode cX8_placeAt 6 = .ok (.getfield 15, 3) := by decide +kernel
theorem dX8_placeAt_9 : decode cX8_placeAt 9 = .ok (.if_icmp .ge 24, 3) := by decide +kernel
theorem dX8_placeAt_12 : decode cX8_placeAt 12 = .ok (.iload_n 1, 1) := by decide +kernel
theorem dX8_placeAt_13 : decode cX8_placeAt 13 = .ok (.aload_n 0, 1) := by decide +kernel
theorem dX8_placeAt_14 : decode cX8_placeAt 14 = .ok (.getfield 9, 3) := by decide +kernel
theorem dX8_placeAt_17 : decode cX8_placeAt 17 = .ok (.arraylength, 1) := by decide +kernel
theorem dX8_placeAt_18 : decode cX8_placeAt 18 = .ok (.if_icmp .ge 15, 3) := by decide +kernel
theorem dX8_placeAt_21 : decode cX8_placeAt 21 = .ok (.aload_n 0, 1) := by decide +kernel
theorem dX8_placeAt_22 : decode cX8_placeAt 22 = .ok (.getfield 9, 3) := by decide +kernel
theorem dX8_placeAt_25 : decode cX8_placeAt 25 = .ok (.iload_n 1, 1) := by decide +kernel
theorem dX8_placeAt_26 : decode cX8_placeAt 26 = .ok (.iaload, 1) := by decide +kernel
theorem dX8_placeAt_27 : decode cX8_placeAt 27 = .ok (.bipush 10, 2) := by decide +kernel
theorem dX8_placeAt_29 : decode cX8_placeAt 29 = .ok (.ishr, 1) := by decide +kernel
theorem dX8_placeAt_30 : decode cX8_placeAt 30 = .ok (.goto 7, 3) := by decide +kernel
theorem dX8_placeAt_33 : decode cX8_placeAt 33 = .ok (.aload_n 0, 1) := by decide +kernel
theorem dX8_placeAt_34 : decode cX8_placeAt 34 = .ok (.getfield 25, 3) := by decide +kernel
theorem dX8_placeAt_37 : decode cX8_placeAt 37 = .ok (.ireturn, 1) := by decide +kernel
theorem dX8_letterAt_0 : decode cX8_letterAt 0 = .ok (.iload_n 1, 1) := by decide +kernel
theorem dX8_letterAt_1 : decode cX8_letterAt 1 = .ok (.ifCond .lt 32, 3) := by decide +kernel
theorem dX8_letterAt_4 : decode cX8_letterAt 4 = .ok (.iload_n 1, 1) := by decide +kernel
theorem dX8_letterAt_5 : decode cX8_letterAt 5 = .ok (.aload_n 0, 1) := by decide +kernel
theorem dX8_letterAt_6 : decode cX8_letterAt 6 = .ok (.getfield 15, 3) := by decide +kernel
theorem dX8_letterAt_9 : decode cX8_letterAt 9 = .ok (.if_icmp .ge 24, 3) := by decide +kernel
theorem dX8_letterAt_12 : decode cX8_letterAt 12 = .ok (.iload_n 1, 1) := by decide +kernel
theorem dX8_letterAt_13 : decode cX8_letterAt 13 = .ok (.aload_n 0, 1) := by decide +kernel
theorem dX8_letterAt_14 : decode cX8_letterAt 14 = .ok (.getfield 9, 3) := by decide +kernel
theorem dX8_letterAt_17 : decode cX8_letterAt 17 = .ok (.arraylength, 1) := by decide +kernel
theorem dX8_letterAt_18 : decode cX8_letterAt 18 = .ok (.if_icmp .ge 15, 3) := by decide +kernel
theorem dX8_letterAt_21 : decode cX8_letterAt 21 = .ok (.aload_n 0, 1) := by decide +kernel
theorem dX8_letterAt_22 : decode cX8_letterAt 22 = .ok (.getfield 9, 3) := by decide +kernel
theorem dX8_letterAt_25 : decode cX8_letterAt 25 = .ok (.iload_n 1, 1) := by decide +kernel
theorem dX8_letterAt_26 : decode cX8_letterAt 26 = .ok (.iaload, 1) := by decide +kernel
theorem dX8_letterAt_27 : decode cX8_letterAt 27 = .ok (.bipush 31, 2) := by decide +kernel
theorem dX8_letterAt_29 : decode cX8_letterAt 29 = .ok (.iand, 1) := by decide +kernel
theorem dX8_letterAt_30 : decode cX8_letterAt 30 = .ok (.goto 4, 3) := by decide +kernel
theorem dX8_letterAt_33 : decode cX8_letterAt 33 = .ok (.iconst 0, 1) := by decide +kernel
theorem dX8_letterAt_34 : decode cX8_letterAt 34 = .ok (.ireturn, 1) := by decide +kernel
theorem dX8_add_0 : decode cX8_add 0 = .ok (.aload_n 0, 1) := by decide +kernel
theorem dX8_add_1 : decode cX8_add 1 = .ok (.getfield 9, 3) := by decide +kernel
theorem dX8_add_4 : decode cX8_add 4 = .ok (.aload_n 0, 1) := by decide +kernel
theorem dX8_add_5 : decode cX8_add 5 = .ok (.getfield 15, 3) := by decide +kernel
theorem dX8_add_8 : decode cX8_add 8 = .ok (.iload_n 2, 1) := by decide +kernel
theorem dX8_add_9 : decode cX8_add 9 = .ok (.bipush 10, 2) := by decide +kernel
theorem dX8_add_11 : decode cX8_add 11 = .ok (.ishl, 1) := by decide +kernel
theorem dX8_add_12 : decode cX8_add 12 = .ok (.iload_n 1, 1) := by decide +kernel
theorem dX8_add_13 : decode cX8_add 13 = .ok (.iconst 5, 1) := by decide +kernel
theorem dX8_add_14 : decode cX8_add 14 = .ok (.ishl, 1) := by decide +kernel
theorem dX8_add_15 : decode cX8_add 15 = .ok (.ior, 1) := by decide +kernel
theorem dX8_add_16 : decode cX8_add 16 = .ok (.iload_n 3, 1) := by decide +kernel
theorem dX8_add_17 : decode cX8_add 17 = .ok (.ior, 1) := by decide +kernel
theorem dX8_add_18 : decode cX8_add 18 = .ok (.invokestatic 51, 3) := by decide +kernel
theorem dX8_add_21 : decode cX8_add 21 = .ok (.aload_n 0, 1) := by decide +kernel
theorem dX8_add_22 : decode cX8_add 22 = .ok (.dup, 1) := by decide +kernel
theorem dX8_add_23 : decode cX8_add 23 = .ok (.getfield 15, 3) := by decide +kernel
theorem dX8_add_26 : decode cX8_add 26 = .ok (.iconst 1, 1) := by decide +kernel
theorem dX8_add_27 : decode cX8_add 27 = .ok (.iadd, 1) := by decide +kernel
theorem dX8_add_28 : decode cX8_add 28 = .ok (.putfield 15, 3) := by decide +kernel
theorem dX8_add_31 : decode cX8_add 31 = .ok (.return_, 1) := by decide +kernel
theorem dX8_endOfWord_0 : decode cX8_endOfWord 0 = .ok (.iload_n 2, 1) := by decide +kernel
theorem dX8_endOfWord_1 : decode cX8_endOfWord 1 = .ok (.iconst 1, 1) := by decide +kernel
theorem dX8_endOfWord_2 : decode cX8_endOfWord 2 = .ok (.iadd, 1) := by decide +kernel
theorem dX8_endOfWord_3 : decode cX8_endOfWord 3 = .ok (.istore_n 3, 1) := by decide +kernel
theorem dX8_endOfWord_4 : decode cX8_endOfWord 4 = .ok (.iload_n 3, 1) := by decide +kernel
theorem dX8_endOfWord_5 : decode cX8_endOfWord 5 = .ok (.aload_n 0, 1) := by decide +kernel
theorem dX8_endOfWord_6 : decode cX8_endOfWord 6 = .ok (.getfield 25, 3) := by decide +kernel
theorem dX8_endOfWord_9 : decode cX8_endOfWord 9 = .ok (.if_icmp .ge 24, 3) := by decide +kernel
theorem dX8_endOfWord_12 : decode cX8_endOfWord 12 = .ok (.iload_n 3, 1) := by decide +kernel
theorem dX8_endOfWord_13 : decode cX8_endOfWord 13 = .ok (.aload_n 1, 1) := by decide +kernel
theorem dX8_endOfWord_14 : decode cX8_endOfWord 14 = .ok (.arraylength, 1) := by decide +kernel
theorem dX8_endOfWord_15 : decode cX8_endOfWord 15 = .ok (.if_icmp .ge 18, 3) := by decide +kernel
theorem dX8_endOfWord_18 : decode cX8_endOfWord 18 = .ok (.aload_n 1, 1) := by decide +kernel
theorem dX8_endOfWord_19 : decode cX8_endOfWord 19 = .ok (.iload_n 3, 1) := by decide +kernel
theorem dX8_endOfWord_20 : decode cX8_endOfWord 20 = .ok (.baload, 1) := by decide +kernel
theorem dX8_endOfWord_21 : decode cX8_endOfWord 21 = .ok (.invokestatic 28, 3) := by decide +kernel
theorem dX8_endOfWord_24 : decode cX8_endOfWord 24 = .ok (.ifCond .eq 9, 3) := by decide +kernel
theorem dX8_endOfWord_27 : decode cX8_endOfWord 27 = .ok (.iinc 3 1, 3) := by decide +kernel
theorem dX8_endOfWord_30 : decode cX8_endOfWord 30 = .ok (.goto (-26), 3) := by decide +kernel
theorem dX8_endOfWord_33 : decode cX8_endOfWord 33 = .ok (.iload_n 3, 1) := by decide +kernel
theorem dX8_endOfWord_34 : decode cX8_endOfWord 34 = .ok (.ireturn, 1) := by decide +kernel
theorem dX8_isSmall_0 : decode cX8_isSmall 0 = .ok (.iload_n 0, 1) := by decide +kernel
theorem dX8_isSmall_1 : decode cX8_isSmall 1 = .ok (.bipush 97, 2) := by decide +kernel
theorem dX8_isSmall_3 : decode cX8_isSmall 3 = .ok (.if_icmp .lt 13, 3) := by decide +kernel
theorem dX8_isSmall_6 : decode cX8_isSmall 6 = .ok (.iload_n 0, 1) := by decide +kernel
theorem dX8_isSmall_7 : decode cX8_isSmall 7 = .ok (.bipush 122, 2) := by decide +kernel
theorem dX8_isSmall_9 : decode cX8_isSmall 9 = .ok (.if_icmp .gt 7, 3) := by decide +kernel
theorem dX8_isSmall_12 : decode cX8_isSmall 12 = .ok (.iconst 1, 1) := by decide +kernel
theorem dX8_isSmall_13 : decode cX8_isSmall 13 = .ok (.goto 4, 3) := by decide +kernel
theorem dX8_isSmall_16 : decode cX8_isSmall 16 = .ok (.iconst 0, 1) := by decide +kernel
theorem dX8_isSmall_17 : decode cX8_isSmall 17 = .ok (.ireturn, 1) := by decide +kernel
theorem dX8_kindOfSign_0 : decode cX8_kindOfSign 0 = .ok (.iload_n 0, 1) := by decide +kernel
theorem dX8_kindOfSign_1 : decode cX8_kindOfSign 1 = .ok (.lookupswitch 97 #[(40, 75), (41, 77), (44, 85), (46, 94), (59, 88), (61, 91), (123, 79), (125, 82)], 75) := by decide +kernel
theorem dX8_kindOfSign_76 : decode cX8_kindOfSign 76 = .ok (.iconst 4, 1) := by decide +kernel
theorem dX8_kindOfSign_77 : decode cX8_kindOfSign 77 = .ok (.ireturn, 1) := by decide +kernel
theorem dX8_kindOfSign_78 : decode cX8_kindOfSign 78 = .ok (.iconst 5, 1) := by decide +kernel
theorem dX8_kindOfSign_79 : decode cX8_kindOfSign 79 = .ok (.ireturn, 1) := by decide +kernel
theorem dX8_kindOfSign_80 : decode cX8_kindOfSign 80 = .ok (.bipush 6, 2) := by decide +kernel
theorem dX8_kindOfSign_82 : decode cX8_kindOfSign 82 = .ok (.ireturn, 1) := by decide +kernel
theorem dX8_kindOfSign_83 : decode cX8_kindOfSign 83 = .ok (.bipush 7, 2) := by decide +kernel
theorem dX8_kindOfSign_85 : decode cX8_kindOfSign 85 = .ok (.ireturn, 1) := by decide +kernel
theorem dX8_kindOfSign_86 : decode cX8_kindOfSign 86 = .ok (.bipush 8, 2) := by decide +kernel
theorem dX8_kindOfSign_88 : decode cX8_kindOfSign 88 = .ok (.ireturn, 1) := by decide +kernel
theorem dX8_kindOfSign_89 : decode cX8_kindOfSign 89 = .ok (.bipush 9, 2) := by decide +kernel
theorem dX8_kindOfSign_91 : decode cX8_kindOfSign 91 = .ok (.ireturn, 1) := by decide +kernel
theorem dX8_kindOfSign_92 : decode cX8_kindOfSign 92 = .ok (.bipush 10, 2) := by decide +kernel
theorem dX8_kindOfSign_94 : decode cX8_kindOfSign 94 = .ok (.ireturn, 1) := by decide +kernel
theorem dX8_kindOfSign_95 : decode cX8_kindOfSign 95 = .ok (.bipush 11, 2) := by decide +kernel
theorem dX8_kindOfSign_97 : decode cX8_kindOfSign 97 = .ok (.ireturn, 1) := by decide +kernel
theorem dX8_kindOfSign_98 : decode cX8_kindOfSign 98 = .ok (.iconst 1, 1) := by decide +kernel
theorem dX8_kindOfSign_99 : decode cX8_kindOfSign 99 = .ok (.ireturn, 1) := by decide +kernel
theorem dX8_kindOfWord_0 : decode cX8_kindOfWord 0 = .ok (.iload_n 2, 1) := by decide +kernel
theorem dX8_kindOfWord_1 : decode cX8_kindOfWord 1 = .ok (.tableswitch 190 1 7 #[43, 45, 77, 122, 139, 156, 173], 43) := by decide +kernel
theorem dX8_kindOfWord_44 : decode cX8_kindOfWord 44 = .ok (.iconst 2, 1) := by decide +kernel
theorem dX8_kindOfWord_45 : decode cX8_kindOfWord 45 = .ok (.ireturn, 1) := by decide +kernel
theorem dX8_kindOfWord_46 : decode cX8_kindOfWord 46 = .ok (.aload_n 0, 1) := by decide +kernel
theorem dX8_kindOfWord_47 : decode cX8_kindOfWord 47 = .ok (.iload_n 1, 1) := by decide +kernel
theorem dX8_kindOfWord_48 : decode cX8_kindOfWord 48 = .ok (.ldc 57, 2) := by decide +kernel
theorem dX8_kindOfWord_50 : decode cX8_kindOfWord 50 = .ok (.invokestatic 59, 3) := by decide +kernel
theorem dX8_kindOfWord_53 : decode cX8_kindOfWord 53 = .ok (.ifCond .eq 8, 3) := by decide +kernel
theorem dX8_kindOfWord_56 : decode cX8_kindOfWord 56 = .ok (.bipush 12, 2) := by decide +kernel
theorem dX8_kindOfWord_58 : decode cX8_kindOfWord 58 = .ok (.goto 19, 3) := by decide +kernel
theorem dX8_kindOfWord_61 : decode cX8_kindOfWord 61 = .ok (.aload_n 0, 1) := by decide +kernel
theorem dX8_kindOfWord_62 : decode cX8_kindOfWord 62 = .ok (.iload_n 1, 1) := by decide +kernel
theorem dX8_kindOfWord_63 : decode cX8_kindOfWord 63 = .ok (.ldc 63, 2) := by decide +kernel
theorem dX8_kindOfWord_65 : decode cX8_kindOfWord 65 = .ok (.invokestatic 59, 3) := by decide +kernel
theorem dX8_kindOfWord_68 : decode cX8_kindOfWord 68 = .ok (.ifCond .eq 8, 3) := by decide +kernel
theorem dX8_kindOfWord_71 : decode cX8_kindOfWord 71 = .ok (.bipush 15, 2) := by decide +kernel
theorem dX8_kindOfWord_73 : decode cX8_kindOfWord 73 = .ok (.goto 4, 3) := by decide +kernel
theorem dX8_kindOfWord_76 : decode cX8_kindOfWord 76 = .ok (.iconst 1, 1) := by decide +kernel
theorem dX8_kindOfWord_77 : decode cX8_kindOfWord 77 = .ok (.ireturn, 1) := by decide +kernel
theorem dX8_kindOfWord_78 : decode cX8_kindOfWord 78 = .ok (.aload_n 0, 1) := by decide +kernel
theorem dX8_kindOfWord_79 : decode cX8_kindOfWord 79 = .ok (.iload_n 1, 1) := by decide +kernel
theorem dX8_kindOfWord_80 : decode cX8_kindOfWord 80 = .ok (.ldc 65, 2) := by decide +kernel
theorem dX8_kindOfWord_82 : decode cX8_kindOfWord 82 = .ok (.invokestatic 59, 3) := by decide +kernel
theorem dX8_kindOfWord_85 : decode cX8_kindOfWord 85 = .ok (.ifCond .eq 6, 3) := by decide +kernel
theorem dX8_kindOfWord_88 : decode cX8_kindOfWord 88 = .ok (.bipush 19, 2) := by decide +kernel
theorem dX8_kindOfWord_90 : decode cX8_kindOfWord 90 = .ok (.ireturn, 1) := by decide +kernel
theorem dX8_kindOfWord_91 : decode cX8_kindOfWord 91 = .ok (.aload_n 0, 1) := by decide +kernel
theorem dX8_kindOfWord_92 : decode cX8_kindOfWord 92 = .ok (.iload_n 1, 1) := by decide +kernel
theorem dX8_kindOfWord_93 : decode cX8_kindOfWord 93 = .ok (.ldc 67, 2) := by decide +kernel
theorem dX8_kindOfWord_95 : decode cX8_kindOfWord 95 = .ok (.invokestatic 59, 3) := by decide +kernel
theorem dX8_kindOfWord_98 : decode cX8_kindOfWord 98 = .ok (.ifCond .eq 8, 3) := by decide +kernel
theorem dX8_kindOfWord_101 : decode cX8_kindOfWord 101 = .ok (.bipush 18, 2) := by decide +kernel
theorem dX8_kindOfWord_103 : decode cX8_kindOfWord 103 = .ok (.goto 19, 3) := by decide +kernel
theorem dX8_kindOfWord_106 : decode cX8_kindOfWord 106 = .ok (.aload_n 0, 1) := by decide +kernel
theorem dX8_kindOfWord_107 : decode cX8_kindOfWord 107 = .ok (.iload_n 1, 1) := by decide +kernel
theorem dX8_kindOfWord_108 : decode cX8_kindOfWord 108 = .ok (.ldc 69, 2) := by decide +kernel
theorem dX8_kindOfWord_110 : decode cX8_kindOfWord 110 = .ok (.invokestatic 59, 3) := by decide +kernel
theorem dX8_kindOfWord_113 : decode cX8_kindOfWord 113 = .ok (.ifCond .eq 8, 3) := by decide +kernel
theorem dX8_kindOfWord_116 : decode cX8_kindOfWord 116 = .ok (.bipush 16, 2) := by decide +kernel
theorem dX8_kindOfWord_118 : decode cX8_kindOfWord 118 = .ok (.goto 4, 3) := by decide +kernel
theorem dX8_kindOfWord_121 : decode cX8_kindOfWord 121 = .ok (.iconst 1, 1) := by decide +kernel
theorem dX8_kindOfWord_122 : decode cX8_kindOfWord 122 = .ok (.ireturn, 1) := by decide +kernel
theorem dX8_kindOfWord_123 : decode cX8_kindOfWord 123 = .ok (.aload_n 0, 1) := by decide +kernel
theorem dX8_kindOfWord_124 : decode cX8_kindOfWord 124 = .ok (.iload_n 1, 1) := by decide +kernel
theorem dX8_kindOfWord_125 : decode cX8_kindOfWord 125 = .ok (.ldc 71, 2) := by decide +kernel
theorem dX8_kindOfWord_127 : decode cX8_kindOfWord 127 = .ok (.invokestatic 59, 3) := by decide +kernel
theorem dX8_kindOfWord_130 : decode cX8_kindOfWord 130 = .ok (.ifCond .eq 8, 3) := by decide +kernel
theorem dX8_kindOfWord_133 : decode cX8_kindOfWord 133 = .ok (.bipush 13, 2) := by decide +kernel
theorem dX8_kindOfWord_135 : decode cX8_kindOfWord 135 = .ok (.goto 4, 3) := by decide +kernel
theorem dX8_kindOfWord_138 : decode cX8_kindOfWord 138 = .ok (.iconst 1, 1) := by decide +kernel
theorem dX8_kindOfWord_139 : decode cX8_kindOfWord 139 = .ok (.ireturn, 1) := by decide +kernel
theorem dX8_kindOfWord_140 : decode cX8_kindOfWord 140 = .ok (.aload_n 0, 1) := by decide +kernel
theorem dX8_kindOfWord_141 : decode cX8_kindOfWord 141 = .ok (.iload_n 1, 1) := by decide +kernel
theorem dX8_kindOfWord_142 : decode cX8_kindOfWord 142 = .ok (.ldc 73, 2) := by decide +kernel
theorem dX8_kindOfWord_144 : decode cX8_kindOfWord 144 = .ok (.invokestatic 59, 3) := by decide +kernel
theorem dX8_kindOfWord_147 : decode cX8_kindOfWord 147 = .ok (.ifCond .eq 8, 3) := by decide +kernel
theorem dX8_kindOfWord_150 : decode cX8_kindOfWord 150 = .ok (.bipush 14, 2) := by decide +kernel
theorem dX8_kindOfWord_152 : decode cX8_kindOfWord 152 = .ok (.goto 4, 3) := by decide +kernel
theorem dX8_kindOfWord_155 : decode cX8_kindOfWord 155 = .ok (.iconst 1, 1) := by decide +kernel
theorem dX8_kindOfWord_156 : decode cX8_kindOfWord 156 = .ok (.ireturn, 1) := by decide +kernel
theorem dX8_kindOfWord_157 : decode cX8_kindOfWord 157 = .ok (.aload_n 0, 1) := by decide +kernel
theorem dX8_kindOfWord_158 : decode cX8_kindOfWord 158 = .ok (.iload_n 1, 1) := by decide +kernel
theorem dX8_kindOfWord_159 : decode cX8_kindOfWord 159 = .ok (.ldc 75, 2) := by decide +kernel
theorem dX8_kindOfWord_161 : decode cX8_kindOfWord 161 = .ok (.invokestatic 59, 3) := by decide +kernel
theorem dX8_kindOfWord_164 : decode cX8_kindOfWord 164 = .ok (.ifCond .eq 8, 3) := by decide +kernel
theorem dX8_kindOfWord_167 : decode cX8_kindOfWord 167 = .ok (.bipush 20, 2) := by decide +kernel
theorem dX8_kindOfWord_169 : decode cX8_kindOfWord 169 = .ok (.goto 4, 3) := by decide +kernel
theorem dX8_kindOfWord_172 : decode cX8_kindOfWord 172 = .ok (.iconst 1, 1) := by decide +kernel
theorem dX8_kindOfWord_173 : decode cX8_kindOfWord 173 = .ok (.ireturn, 1) := by decide +kernel
theorem dX8_kindOfWord_174 : decode cX8_kindOfWord 174 = .ok (.aload_n 0, 1) := by decide +kernel
theorem dX8_kindOfWord_175 : decode cX8_kindOfWord 175 = .ok (.iload_n 1, 1) := by decide +kernel
theorem dX8_kindOfWord_176 : decode cX8_kindOfWord 176 = .ok (.ldc 77, 2) := by decide +kernel
theorem dX8_kindOfWord_178 : decode cX8_kindOfWord 178 = .ok (.invokestatic 59, 3) := by decide +kernel
theorem dX8_kindOfWord_181 : decode cX8_kindOfWord 181 = .ok (.ifCond .eq 8, 3) := by decide +kernel
theorem dX8_kindOfWord_184 : decode cX8_kindOfWord 184 = .ok (.bipush 17, 2) := by decide +kernel
theorem dX8_kindOfWord_186 : decode cX8_kindOfWord 186 = .ok (.goto 4, 3) := by decide +kernel
theorem dX8_kindOfWord_189 : decode cX8_kindOfWord 189 = .ok (.iconst 1, 1) := by decide +kernel
theorem dX8_kindOfWord_190 : decode cX8_kindOfWord 190 = .ok (.ireturn, 1) := by decide +kernel
theorem dX8_kindOfWord_191 : decode cX8_kindOfWord 191 = .ok (.iconst 1, 1) := by decide +kernel
theorem dX8_kindOfWord_192 : decode cX8_kindOfWord 192 = .ok (.ireturn, 1) := by decide +kernel
theorem dX8_spells_0 : decode cX8_spells 0 = .ok (.iload_n 1, 1) := by decide +kernel
theorem dX8_spells_1 : decode cX8_spells 1 = .ok (.ifCond .lt 14, 3) := by decide +kernel
theorem dX8_spells_4 : decode cX8_spells 4 = .ok (.iload_n 1, 1) := by decide +kernel
theorem dX8_spells_5 : decode cX8_spells 5 = .ok (.aload_n 2, 1) := by decide +kernel
theorem dX8_spells_6 : decode cX8_spells 6 = .ok (.invokevirtual 79, 3) := by decide +kernel
theorem dX8_spells_9 : decode cX8_spells 9 = .ok (.iadd, 1) := by decide +kernel
theorem dX8_spells_10 : decode cX8_spells 10 = .ok (.aload_n 0, 1) := by decide +kernel
theorem dX8_spells_11 : decode cX8_spells 11 = .ok (.arraylength, 1) := by decide +kernel
theorem dX8_spells_12 : decode cX8_spells 12 = .ok (.if_icmp .le 5, 3) := by decide +kernel
theorem dX8_spells_15 : decode cX8_spells 15 = .ok (.iconst 0, 1) := by decide +kernel
theorem dX8_spells_16 : decode cX8_spells 16 = .ok (.ireturn, 1) := by decide +kernel
theorem dX8_spells_17 : decode cX8_spells 17 = .ok (.iconst 0, 1) := by decide +kernel
theorem dX8_spells_18 : decode cX8_spells 18 = .ok (.istore_n 3, 1) := by decide +kernel
theorem dX8_spells_19 : decode cX8_spells 19 = .ok (.iload_n 3, 1) := by decide +kernel
theorem dX8_spells_20 : decode cX8_spells 20 = .ok (.aload_n 2, 1) := by decide +kernel
theorem dX8_spells_21 : decode cX8_spells 21 = .ok (.invokevirtual 79, 3) := by decide +kernel
theorem dX8_spells_24 : decode cX8_spells 24 = .ok (.if_icmp .ge 24, 3) := by decide +kernel
theorem dX8_spells_27 : decode cX8_spells 27 = .ok (.aload_n 0, 1) := by decide +kernel
theorem dX8_spells_28 : decode cX8_spells 28 = .ok (.iload_n 1, 1) := by decide +kernel
theorem dX8_spells_29 : decode cX8_spells 29 = .ok (.iload_n 3, 1) := by decide +kernel
theorem dX8_spells_30 : decode cX8_spells 30 = .ok (.iadd, 1) := by decide +kernel
theorem dX8_spells_31 : decode cX8_spells 31 = .ok (.baload, 1) := by decide +kernel
theorem dX8_spells_32 : decode cX8_spells 32 = .ok (.aload_n 2, 1) := by decide +kernel
theorem dX8_spells_33 : decode cX8_spells 33 = .ok (.iload_n 3, 1) := by decide +kernel
theorem dX8_spells_34 : decode cX8_spells 34 = .ok (.invokevirtual 84, 3) := by decide +kernel
theorem dX8_spells_37 : decode cX8_spells 37 = .ok (.if_icmp .eq 5, 3) := by decide +kernel
theorem dX8_spells_40 : decode cX8_spells 40 = .ok (.iconst 0, 1) := by decide +kernel
theorem dX8_spells_41 : decode cX8_spells 41 = .ok (.ireturn, 1) := by decide +kernel
theorem dX8_spells_42 : decode cX8_spells 42 = .ok (.iinc 3 1, 3) := by decide +kernel
theorem dX8_spells_45 : decode cX8_spells 45 = .ok (.goto (-26), 3) := by decide +kernel
theorem dX8_spells_48 : decode cX8_spells 48 = .ok (.iconst 1, 1) := by decide +kernel
theorem dX8_spells_49 : decode cX8_spells 49 = .ok (.ireturn, 1) := by decide +kernel
theorem dX9_fill_0 : decode cX9_fill 0 = .ok (.aload_n 0, 1) := by decide +kernel
theorem dX9_fill_1 : decode cX9_fill 1 = .ok (.getfield 18, 3) := by decide +kernel
theorem dX9_fill_4 : decode cX9_fill 4 = .ok (.ifCond .ne 4, 3) := by decide +kernel
theorem dX9_fill_7 : decode cX9_fill 7 = .ok (.return_, 1) := by decide +kernel
theorem dX9_fill_8 : decode cX9_fill 8 = .ok (.aload_n 0, 1) := by decide +kernel
theorem dX9_fill_9 : decode cX9_fill 9 = .ok (.iload_n 1, 1) := by decide +kernel
theorem dX9_fill_10 : decode cX9_fill 10 = .ok (.putfield 30, 3) := by decide +kernel
theorem dX9_fill_13 : decode cX9_fill 13 = .ok (.aload_n 0, 1) := by decide +kernel
theorem dX9_fill_14 : decode cX9_fill 14 = .ok (.getfield 9, 3) := by decide +kernel
theorem dX9_fill_17 : decode cX9_fill 17 = .ok (.iconst (-1), 1) := by decide +kernel
theorem dX9_fill_18 : decode cX9_fill 18 = .ok (.invokestatic 34, 3) := by decide +kernel
theorem dX9_fill_21 : decode cX9_fill 21 = .ok (.aload_n 0, 1) := by decide +kernel
theorem dX9_fill_22 : decode cX9_fill 22 = .ok (.getfield 15, 3) := by decide +kernel
theorem dX9_fill_25 : decode cX9_fill 25 = .ok (.iconst (-1), 1) := by decide +kernel
theorem dX9_fill_26 : decode cX9_fill 26 = .ok (.invokestatic 34, 3) := by decide +kernel
theorem dX9_fill_29 : decode cX9_fill 29 = .ok (.iconst 0, 1) := by decide +kernel
theorem dX9_fill_30 : decode cX9_fill 30 = .ok (.istore_n 2, 1) := by decide +kernel
theorem dX9_fill_31 : decode cX9_fill 31 = .ok (.iload_n 2, 1) := by decide +kernel
theorem dX9_fill_32 : decode cX9_fill 32 = .ok (.sipush 4096, 3) := by decide +kernel
theorem dX9_fill_35 : decode cX9_fill 35 = .ok (.if_icmp .ge 75, 3) := by decide +kernel
theorem dX9_fill_38 : decode cX9_fill 38 = .ok (.aload_n 0, 1) := by decide +kernel
theorem dX9_fill_39 : decode cX9_fill 39 = .ok (.getfield 30, 3) := by decide +kernel
theorem dX9_fill_42 : decode cX9_fill 42 = .ok (.ifCond .le 68, 3) := by decide +kernel
theorem dX9_fill_45 : decode cX9_fill 45 = .ok (.iload_n 2, 1) := by decide +kernel
theorem dX9_fill_46 : decode cX9_fill 46 = .ok (.sipush 256, 3) := by decide +kernel
theorem dX9_fill_49 : decode cX9_fill 49 = .ok (.idiv, 1) := by decide +kernel
theorem dX9_fill_50 : decode cX9_fill 50 = .ok (.istore_n 3, 1) := by decide +kernel
theorem dX9_fill_51 : decode cX9_fill 51 = .ok (.iload_n 2, 1) := by decide +kernel
theorem dX9_fill_52 : decode cX9_fill 52 = .ok (.sipush 256, 3) := by decide +kernel
theorem dX9_fill_55 : decode cX9_fill 55 = .ok (.irem, 1) := by decide +kernel
theorem dX9_fill_56 : decode cX9_fill 56 = .ok (.istore 4, 2) := by decide +kernel
theorem dX9_fill_58 : decode cX9_fill 58 = .ok (.aload_n 0, 1) := by decide +kernel
theorem dX9_fill_59 : decode cX9_fill 59 = .ok (.getfield 15, 3) := by decide +kernel
theorem dX9_fill_62 : decode cX9_fill 62 = .ok (.iload 4, 2) := by decide +kernel
theorem dX9_fill_64 : decode cX9_fill 64 = .ok (.invokestatic 40, 3) := by decide +kernel
theorem dX9_fill_67 : decode cX9_fill 67 = .ok (.iload_n 3, 1) := by decide +kernel
theorem dX9_fill_68 : decode cX9_fill 68 = .ok (.if_icmp .eq 36, 3) := by decide +kernel
theorem dX9_fill_71 : decode cX9_fill 71 = .ok (.aload_n 0, 1) := by decide +kernel
theorem dX9_fill_72 : decode cX9_fill 72 = .ok (.getfield 22, 3) := by decide +kernel
theorem dX9_fill_75 : decode cX9_fill 75 = .ok (.iload_n 3, 1) := by decide +kernel
theorem dX9_fill_76 : decode cX9_fill 76 = .ok (.invokevirtual 46, 3) := by decide +kernel
theorem dX9_fill_79 : decode cX9_fill 79 = .ok (.ifCond .eq 25, 3) := by decide +kernel
theorem dX9_fill_82 : decode cX9_fill 82 = .ok (.aload_n 0, 1) := by decide +kernel
theorem dX9_fill_83 : decode cX9_fill 83 = .ok (.iload_n 2, 1) := by decide +kernel
theorem dX9_fill_84 : decode cX9_fill 84 = .ok (.aload_n 0, 1) := by decide +kernel
theorem dX9_fill_85 : decode cX9_fill 85 = .ok (.getfield 26, 3) := by decide +kernel
theorem dX9_fill_88 : decode cX9_fill 88 = .ok (.iload_n 3, 1) := by decide +kernel
theorem dX9_fill_89 : decode cX9_fill 89 = .ok (.iload 4, 2) := by decide +kernel
theorem dX9_fill_91 : decode cX9_fill 91 = .ok (.invokevirtual 52, 3) := by decide +kernel
theorem dX9_fill_94 : decode cX9_fill 94 = .ok (.invokevirtual 58, 3) := by decide +kernel
theorem dX9_fill_97 : decode cX9_fill 97 = .ok (.aload_n 0, 1) := by decide +kernel
theorem dX9_fill_98 : decode cX9_fill 98 = .ok (.iload_n 3, 1) := by decide +kernel
theorem dX9_fill_99 : decode cX9_fill 99 = .ok (.iload 4, 2) := by decide +kernel
theorem dX9_fill_101 : decode cX9_fill 101 = .ok (.invokevirtual 62, 3) := by decide +kernel
theorem dX9_fill_104 : decode cX9_fill 104 = .ok (.iinc 2 1, 3) := by decide +kernel
theorem dX9_fill_107 : decode cX9_fill 107 = .ok (.goto (-76), 3) := by decide +kernel
theorem dX9_fill_110 : decode cX9_fill 110 = .ok (.aload_n 0, 1) := by decide +kernel
theorem dX9_fill_111 : decode cX9_fill 111 = .ok (.iconst 0, 1) := by decide +kernel
theorem dX9_fill_112 : decode cX9_fill 112 = .ok (.putfield 18, 3) := by decide +kernel
theorem dX9_fill_115 : decode cX9_fill 115 = .ok (.return_, 1) := by decide +kernel
theorem dX9_noteFailure_0 : decode cX9_noteFailure 0 = .ok (.aload_n 0, 1) := by decide +kernel
theorem dX9_noteFailure_1 : decode cX9_noteFailure 1 = .ok (.getfield 26, 3) := by decide +kernel
theorem dX9_noteFailure_4 : decode cX9_noteFailure 4 = .ok (.getfield 65, 3) := by decide +kernel
theorem dX9_noteFailure_7 : decode cX9_noteFailure 7 = .ok (.istore_n 3, 1) := by decide +kernel
theorem dX9_noteFailure_8 : decode cX9_noteFailure 8 = .ok (.iload_n 2, 1) := by decide +kernel
theorem dX9_noteFailure_9 : decode cX9_noteFailure 9 = .ok (.iconst 2, 1) := by decide +kernel
theorem dX9_noteFailure_10 : decode cX9_noteFailure 10 = .ok (.if_icmp .ne 34, 3) := by decide +kernel
theorem dX9_noteFailure_13 : decode cX9_noteFailure 13 = .ok (.aload_n 0, 1) := by decide +kernel
theorem dX9_noteFailure_14 : decode cX9_noteFailure 14 = .ok (.getfield 9, 3) := by decide +kernel
theorem dX9_noteFailure_17 : decode cX9_noteFailure 17 = .ok (.iload_n 3, 1) := by decide +kernel
theorem dX9_noteFailure_18 : decode cX9_noteFailure 18 = .ok (.invokestatic 40, 3) := by decide +kernel
theorem dX9_noteFailure_21 : decode cX9_noteFailure 21 = .ok (.iconst (-1), 1) := by decide +kernel
theorem dX9_noteFailure_22 : decode cX9_noteFailure 22 = .ok (.if_icmp .ne 22, 3) := by decide +kernel
theorem dX9_noteFailure_25 : decode cX9_noteFailure 25 = .ok (.aload_n 0, 1) := by decide +kernel
theorem dX9_noteFailure_26 : decode cX9_noteFailure 26 = .ok (.getfield 9, 3) := by decide +kernel
theorem dX9_noteFailure_29 : decode cX9_noteFailure 29 = .ok (.iload_n 3, 1) := by decide +kernel
theorem dX9_noteFailure_30 : decode cX9_noteFailure 30 = .ok (.iload_n 1, 1) := by decide +kernel
theorem dX9_noteFailure_31 : decode cX9_noteFailure 31 = .ok (.invokestatic 68, 3) := by decide +kernel
theorem dX9_noteFailure_34 : decode cX9_noteFailure 34 = .ok (.aload_n 0, 1) := by decide +kernel
theorem dX9_noteFailure_35 : decode cX9_noteFailure 35 = .ok (.dup, 1) := by decide +kernel
theorem dX9_noteFailure_36 : decode cX9_noteFailure 36 = .ok (.getfield 30, 3) := by decide +kernel
theorem dX9_noteFailure_39 : decode cX9_noteFailure 39 = .ok (.iconst 1, 1) := by decide +kernel
theorem dX9_noteFailure_40 : decode cX9_noteFailure 40 = .ok (.isub, 1) := by decide +kernel
theorem dX9_noteFailure_41 : decode cX9_noteFailure 41 = .ok (.putfield 30, 3) := by decide +kernel
theorem dX9_noteFailure_44 : decode cX9_noteFailure 44 = .ok (.return_, 1) := by decide +kernel
theorem dX9_skipTheSame_0 : decode cX9_skipTheSame 0 = .ok (.aload_n 0, 1) := by decide +kernel
theorem dX9_skipTheSame_1 : decode cX9_skipTheSame 1 = .ok (.getfield 26, 3) := by decide +kernel
theorem dX9_skipTheSame_4 : decode cX9_skipTheSame 4 = .ok (.getfield 72, 3) := by decide +kernel
theorem dX9_skipTheSame_7 : decode cX9_skipTheSame 7 = .ok (.bipush 8, 2) := by decide +kernel
theorem dX9_skipTheSame_9 : decode cX9_skipTheSame 9 = .ok (.if_icmp .ge 36, 3) := by decide +kernel
theorem dX9_skipTheSame_12 : decode cX9_skipTheSame 12 = .ok (.iload_n 2, 1) := by decide +kernel
theorem dX9_skipTheSame_13 : decode cX9_skipTheSame 13 = .ok (.istore_n 3, 1) := by decide +kernel
theorem dX9_skipTheSame_14 : decode cX9_skipTheSame 14 = .ok (.iload_n 3, 1) := by decide +kernel
theorem dX9_skipTheSame_15 : decode cX9_skipTheSame 15 = .ok (.sipush 256, 3) := by decide +kernel
theorem dX9_skipTheSame_18 : decode cX9_skipTheSame 18 = .ok (.if_icmp .ge 27, 3) := by decide +kernel
theorem dX9_skipTheSame_21 : decode cX9_skipTheSame 21 = .ok (.aload_n 0, 1) := by decide +kernel
theorem dX9_skipTheSame_22 : decode cX9_skipTheSame 22 = .ok (.getfield 15, 3) := by decide +kernel
theorem dX9_skipTheSame_25 : decode cX9_skipTheSame 25 = .ok (.iload_n 3, 1) := by decide +kernel
theorem dX9_skipTheSame_26 : decode cX9_skipTheSame 26 = .ok (.iload_n 1, 1) := by decide +kernel
theorem dX9_skipTheSame_27 : decode cX9_skipTheSame 27 = .ok (.invokestatic 68, 3) := by decide +kernel
theorem dX9_skipTheSame_30 : decode cX9_skipTheSame 30 = .ok (.iload_n 3, 1) := by decide +kernel
theorem dX9_skipTheSame_31 : decode cX9_skipTheSame 31 = .ok (.iconst 1, 1) := by decide +kernel
theorem dX9_skipTheSame_32 : decode cX9_skipTheSame 32 = .ok (.aload_n 0, 1) := by decide +kernel
theorem dX9_skipTheSame_33 : decode cX9_skipTheSame 33 = .ok (.getfield 26, 3) := by decide +kernel
theorem dX9_skipTheSame_36 : decode cX9_skipTheSame 36 = .ok (.getfield 72, 3) := by decide +kernel
theorem dX9_skipTheSame_39 : decode cX9_skipTheSame 39 = .ok (.ishl, 1) := by decide +kernel
theorem dX9_skipTheSame_40 : decode cX9_skipTheSame 40 = .ok (.iadd, 1) := by decide +kernel
theorem dX9_skipTheSame_41 : decode cX9_skipTheSame 41 = .ok (.istore_n 3, 1) := by decide +kernel
theorem dX9_skipTheSame_42 : decode cX9_skipTheSame 42 = .ok (.goto (-28), 3) := by decide +kernel
theorem dX9_skipTheSame_45 : decode cX9_skipTheSame 45 = .ok (.return_, 1) := by decide +kernel
theorem dX10_feed_0 : decode cX10_feed 0 = .ok (.aload_n 0, 1) := by decide +kernel
theorem dX10_feed_1 : decode cX10_feed 1 = .ok (.getfield 87, 3) := by decide +kernel
theorem dX10_feed_4 : decode cX10_feed 4 = .ok (.bipush 20, 2) := by decide +kernel
theorem dX10_feed_6 : decode cX10_feed 6 = .ok (.iadd, 1) := by decide +kernel
theorem dX10_feed_7 : decode cX10_feed 7 = .ok (.sipush 1200, 3) := by decide +kernel
theorem dX10_feed_10 : decode cX10_feed 10 = .ok (.if_icmp .le 5, 3) := by decide +kernel
theorem dX10_feed_13 : decode cX10_feed 13 = .ok (.iconst (-1), 1) := by decide +kernel
theorem dX10_feed_14 : decode cX10_feed 14 = .ok (.ireturn, 1) := by decide +kernel
theorem dX10_feed_15 : decode cX10_feed 15 = .ok (.aload_n 0, 1) := by decide +kernel
theorem dX10_feed_16 : decode cX10_feed 16 = .ok (.iload_n 1, 1) := by decide +kernel
theorem dX10_feed_17 : decode cX10_feed 17 = .ok (.invokevirtual 90, 3) := by decide +kernel
theorem dX10_feed_20 : decode cX10_feed 20 = .ok (.aload_n 0, 1) := by decide +kernel
theorem dX10_feed_21 : decode cX10_feed 21 = .ok (.iload_n 2, 1) := by decide +kernel
theorem dX10_feed_22 : decode cX10_feed 22 = .ok (.invokevirtual 90, 3) := by decide +kernel
theorem dX10_feed_25 : decode cX10_feed 25 = .ok (.aload_n 0, 1) := by decide +kernel
theorem dX10_feed_26 : decode cX10_feed 26 = .ok (.iload_n 3, 1) := by decide +kernel
theorem dX10_feed_27 : decode cX10_feed 27 = .ok (.invokevirtual 90, 3) := by decide +kernel
theorem dX10_feed_30 : decode cX10_feed 30 = .ok (.aload_n 0, 1) := by decide +kernel
theorem dX10_feed_31 : decode cX10_feed 31 = .ok (.iload 4, 2) := by decide +kernel
theorem dX10_feed_33 : decode cX10_feed 33 = .ok (.invokevirtual 90, 3) := by decide +kernel
theorem dX10_feed_36 : decode cX10_feed 36 = .ok (.aload_n 0, 1) := by decide +kernel
theorem dX10_feed_37 : decode cX10_feed 37 = .ok (.iload 5, 2) := by decide +kernel
theorem dX10_feed_39 : decode cX10_feed 39 = .ok (.invokevirtual 90, 3) := by decide +kernel
theorem dX10_feed_42 : decode cX10_feed 42 = .ok (.aload_n 0, 1) := by decide +kernel
theorem dX10_feed_43 : decode cX10_feed 43 = .ok (.getfield 87, 3) := by decide +kernel
theorem dX10_feed_46 : decode cX10_feed 46 = .ok (.ireturn, 1) := by decide +kernel
theorem dX10_text_0 : decode cX10_text 0 = .ok (.iload_n 1, 1) := by decide +kernel
theorem dX10_text_1 : decode cX10_text 1 = .ok (.ifCond .lt 11, 3) := by decide +kernel
theorem dX10_text_4 : decode cX10_text 4 = .ok (.iload_n 1, 1) := by decide +kernel
theorem dX10_text_5 : decode cX10_text 5 = .ok (.aload_n 0, 1) := by decide +kernel
theorem dX10_text_6 : decode cX10_text 6 = .ok (.getfield 87, 3) := by decide +kernel
theorem dX10_text_9 : decode cX10_text 9 = .ok (.if_icmp .le 6, 3) := by decide +kernel
theorem dX10_text_12 : decode cX10_text 12 = .ok (.bipush (-2), 2) := by decide +kernel
theorem dX10_text_14 : decode cX10_text 14 = .ok (.ireturn, 1) := by decide +kernel
theorem dX10_text_15 : decode cX10_text 15 = .ok (.aload_n 0, 1) := by decide +kernel
theorem dX10_text_16 : decode cX10_text 16 = .ok (.iconst 0, 1) := by decide +kernel
theorem dX10_text_17 : decode cX10_text 17 = .ok (.putfield 87, 3) := by decide +kernel
theorem dX10_text_20 : decode cX10_text 20 = .ok (.aload_n 0, 1) := by decide +kernel
theorem dX10_text_21 : decode cX10_text 21 = .ok (.getfield 16, 3) := by decide +kernel
theorem dX10_text_24 : decode cX10_text 24 = .ok (.aload_n 0, 1) := by decide +kernel
theorem dX10_text_25 : decode cX10_text 25 = .ok (.getfield 9, 3) := by decide +kernel
theorem dX10_text_28 : decode cX10_text 28 = .ok (.iload_n 1, 1) := by decide +kernel
theorem dX10_text_29 : decode cX10_text 29 = .ok (.invokevirtual 94, 3) := by decide +kernel
theorem dX10_text_32 : decode cX10_text 32 = .ok (.aload_n 0, 1) := by decide +kernel
theorem dX10_text_33 : decode cX10_text 33 = .ok (.getfield 32, 3) := by decide +kernel
theorem dX10_text_36 : decode cX10_text 36 = .ok (.aload_n 0, 1) := by decide +kernel
theorem dX10_text_37 : decode cX10_text 37 = .ok (.getfield 23, 3) := by decide +kernel
theorem dX10_text_40 : decode cX10_text 40 = .ok (.invokevirtual 98, 3) := by decide +kernel
theorem dX10_text_43 : decode cX10_text 43 = .ok (.aload_n 0, 1) := by decide +kernel
theorem dX10_text_44 : decode cX10_text 44 = .ok (.aload_n 0, 1) := by decide +kernel
theorem dX10_text_45 : decode cX10_text 45 = .ok (.getfield 32, 3) := by decide +kernel
theorem dX10_text_48 : decode cX10_text 48 = .ok (.getfield 101, 3) := by decide +kernel
theorem dX10_text_51 : decode cX10_text 51 = .ok (.putfield 104, 3) := by decide +kernel
theorem dX10_text_54 : decode cX10_text 54 = .ok (.aload_n 0, 1) := by decide +kernel
theorem dX10_text_55 : decode cX10_text 55 = .ok (.aload_n 0, 1) := by decide +kernel
theorem dX10_text_56 : decode cX10_text 56 = .ok (.getfield 32, 3) := by decide +kernel
theorem dX10_text_59 : decode cX10_text 59 = .ok (.getfield 107, 3) := by decide +kernel
theorem dX10_text_62 : decode cX10_text 62 = .ok (.putfield 36, 3) := by decide +kernel
theorem dX10_text_65 : decode cX10_text 65 = .ok (.aload_n 0, 1) := by decide +kernel
theorem dX10_text_66 : decode cX10_text 66 = .ok (.getfield 104, 3) := by decide +kernel
theorem dX10_text_69 : decode cX10_text 69 = .ok (.ifCond .eq 5, 3) := by decide +kernel
theorem dX10_text_72 : decode cX10_text 72 = .ok (.iconst (-1), 1) := by decide +kernel
theorem dX10_text_73 : decode cX10_text 73 = .ok (.ireturn, 1) := by decide +kernel
theorem dX10_text_74 : decode cX10_text 74 = .ok (.aload_n 0, 1) := by decide +kernel
theorem dX10_text_75 : decode cX10_text 75 = .ok (.getfield 45, 3) := by decide +kernel
theorem dX10_text_78 : decode cX10_text 78 = .ok (.getfield 110, 3) := by decide +kernel
theorem dX10_text_81 : decode cX10_text 81 = .ok (.astore_n 2, 1) := by decide +kernel
theorem dX10_text_82 : decode cX10_text 82 = .ok (.aload_n 0, 1) := by decide +kernel
theorem dX10_text_83 : decode cX10_text 83 = .ok (.getfield 45, 3) := by decide +kernel
theorem dX10_text_86 : decode cX10_text 86 = .ok (.aload_n 0, 1) := by decide +kernel
theorem dX10_text_87 : decode cX10_text 87 = .ok (.getfield 23, 3) := by decide +kernel
theorem dX10_text_90 : decode cX10_text 90 = .ok (.putfield 110, 3) := by decide +kernel
theorem dX10_text_93 : decode cX10_text 93 = .ok (.aload_n 0, 1) := by decide +kernel
theorem dX10_text_94 : decode cX10_text 94 = .ok (.aload_n 2, 1) := by decide +kernel
theorem dX10_text_95 : decode cX10_text 95 = .ok (.putfield 23, 3) := by decide +kernel
theorem dX10_text_98 : decode cX10_text 98 = .ok (.aload_n 0, 1) := by decide +kernel
theorem dX10_text_99 : decode cX10_text 99 = .ok (.getfield 45, 3) := by decide +kernel
theorem dX10_text_102 : decode cX10_text 102 = .ok (.aload_n 0, 1) := by decide +kernel
theorem dX10_text_103 : decode cX10_text 103 = .ok (.getfield 45, 3) := by decide +kernel
theorem dX10_text_106 : decode cX10_text 106 = .ok (.getfield 110, 3) := by decide +kernel
theorem dX10_text_109 : decode cX10_text 109 = .ok (.getfield 113, 3) := by decide +kernel
theorem dX10_text_112 : decode cX10_text 112 = .ok (.invokevirtual 116, 3) := by decide +kernel
theorem dX10_text_115 : decode cX10_text 115 = .ok (.aload_n 0, 1) := by decide +kernel
theorem dX10_text_116 : decode cX10_text 116 = .ok (.invokevirtual 119, 3) := by decide +kernel
theorem dX10_text_119 : decode cX10_text 119 = .ok (.aload_n 0, 1) := by decide +kernel
theorem dX10_text_120 : decode cX10_text 120 = .ok (.getfield 45, 3) := by decide +kernel
theorem dX10_text_123 : decode cX10_text 123 = .ok (.getfield 110, 3) := by decide +kernel
theorem dX10_text_126 : decode cX10_text 126 = .ok (.getfield 122, 3) := by decide +kernel
theorem dX10_text_129 : decode cX10_text 129 = .ok (.ireturn, 1) := by decide +kernel
theorem dX10_fault_0 : decode cX10_fault 0 = .ok (.iload_n 1, 1) := by decide +kernel
theorem dX10_fault_1 : decode cX10_fault 1 = .ok (.ifCond .ne 8, 3) := by decide +kernel
theorem dX10_fault_4 : decode cX10_fault 4 = .ok (.aload_n 0, 1) := by decide +kernel
theorem dX10_fault_5 : decode cX10_fault 5 = .ok (.getfield 104, 3) := by decide +kernel
theorem dX10_fault_8 : decode cX10_fault 8 = .ok (.ireturn, 1) := by decide +kernel
theorem dX10_fault_9 : decode cX10_fault 9 = .ok (.iload_n 1, 1) := by decide +kernel
theorem dX10_fault_10 : decode cX10_fault 10 = .ok (.iconst 1, 1) := by decide +kernel
theorem dX10_fault_11 : decode cX10_fault 11 = .ok (.if_icmp .ne 10, 3) := by decide +kernel
theorem dX10_fault_14 : decode cX10_fault 14 = .ok (.aload_n 0, 1) := by decide +kernel
theorem dX10_fault_15 : decode cX10_fault 15 = .ok (.getfield 36, 3) := by decide +kernel
theorem dX10_fault_18 : decode cX10_fault 18 = .ok (.goto 4, 3) := by decide +kernel
theorem dX10_fault_21 : decode cX10_fault 21 = .ok (.iconst (-1), 1) := by decide +kernel
theorem dX10_fault_22 : decode cX10_fault 22 = .ok (.ireturn, 1) := by decide +kernel
theorem dX10_entry_0 : decode cX10_entry 0 = .ok (.aload_n 0, 1) := by decide +kernel
theorem dX10_entry_1 : decode cX10_entry 1 = .ok (.getfield 45, 3) := by decide +kernel
theorem dX10_entry_4 : decode cX10_entry 4 = .ok (.getfield 110, 3) := by decide +kernel
theorem dX10_entry_7 : decode cX10_entry 7 = .ok (.iload_n 1, 1) := by decide +kernel
theorem dX10_entry_8 : decode cX10_entry 8 = .ok (.invokevirtual 125, 3) := by decide +kernel
theorem dX10_entry_11 : decode cX10_entry 11 = .ok (.ifCond .ne 5, 3) := by decide +kernel
theorem dX10_entry_14 : decode cX10_entry 14 = .ok (.iconst 0, 1) := by decide +kernel
theorem dX10_entry_15 : decode cX10_entry 15 = .ok (.ireturn, 1) := by decide +kernel
theorem dX10_entry_16 : decode cX10_entry 16 = .ok (.aload_n 0, 1) := by decide +kernel
theorem dX10_entry_17 : decode cX10_entry 17 = .ok (.getfield 45, 3) := by decide +kernel
theorem dX10_entry_20 : decode cX10_entry 20 = .ok (.iload_n 1, 1) := by decide +kernel
theorem dX10_entry_21 : decode cX10_entry 21 = .ok (.invokevirtual 116, 3) := by decide +kernel
theorem dX10_entry_24 : decode cX10_entry 24 = .ok (.aload_n 0, 1) := by decide +kernel
theorem dX10_entry_25 : decode cX10_entry 25 = .ok (.invokevirtual 119, 3) := by decide +kernel
theorem dX10_entry_28 : decode cX10_entry 28 = .ok (.iconst 1, 1) := by decide +kernel
theorem dX10_entry_29 : decode cX10_entry 29 = .ok (.ireturn, 1) := by decide +kernel
theorem dX10_outer_0 : decode cX10_outer 0 = .ok (.iload_n 1, 1) := by decide +kernel
theorem dX10_outer_1 : decode cX10_outer 1 = .ok (.ifCond .lt 24, 3) := by decide +kernel
theorem dX10_outer_4 : decode cX10_outer 4 = .ok (.iload_n 1, 1) := by decide +kernel
theorem dX10_outer_5 : decode cX10_outer 5 = .ok (.aload_n 0, 1) := by decide +kernel
theorem dX10_outer_6 : decode cX10_outer 6 = .ok (.getfield 45, 3) := by decide +kernel
theorem dX10_outer_9 : decode cX10_outer 9 = .ok (.invokevirtual 129, 3) := by decide +kernel
theorem dX10_outer_12 : decode cX10_outer 12 = .ok (.if_icmp .ge 13, 3) := by decide +kernel
theorem dX10_outer_15 : decode cX10_outer 15 = .ok (.iload_n 2, 1) := by decide +kernel
theorem dX10_outer_16 : decode cX10_outer 16 = .ok (.iconst 1, 1) := by decide +kernel
theorem dX10_outer_17 : decode cX10_outer 17 = .ok (.if_icmp .lt 8, 3) := by decide +kernel
theorem dX10_outer_20 : decode cX10_outer 20 = .ok (.iload_n 2, 1) := by decide +kernel
theorem dX10_outer_21 : decode cX10_outer 21 = .ok (.iconst 3, 1) := by decide +kernel
theorem dX10_outer_22 : decode cX10_outer 22 = .ok (.if_icmp .le 5, 3) := by decide +kernel
theorem dX10_outer_25 : decode cX10_outer 25 = .ok (.iconst 0, 1) := by decide +kernel
theorem dX10_outer_26 : decode cX10_outer 26 = .ok (.ireturn, 1) := by decide +kernel
theorem dX10_outer_27 : decode cX10_outer 27 = .ok (.aload_n 0, 1) := by decide +kernel
theorem dX10_outer_28 : decode cX10_outer 28 = .ok (.getfield 45, 3) := by decide +kernel
theorem dX10_outer_31 : decode cX10_outer 31 = .ok (.getfield 133, 3) := by decide +kernel
theorem dX10_outer_34 : decode cX10_outer 34 = .ok (.iload_n 1, 1) := by decide +kernel
theorem dX10_outer_35 : decode cX10_outer 35 = .ok (.iload_n 2, 1) := by decide +kernel
theorem dX10_outer_36 : decode cX10_outer 36 = .ok (.invokestatic 136, 3) := by decide +kernel
theorem dX10_outer_39 : decode cX10_outer 39 = .ok (.aload_n 0, 1) := by decide +kernel
theorem dX10_outer_40 : decode cX10_outer 40 = .ok (.invokevirtual 119, 3) := by decide +kernel
theorem dX10_outer_43 : decode cX10_outer 43 = .ok (.iconst 1, 1) := by decide +kernel
theorem dX10_outer_44 : decode cX10_outer 44 = .ok (.ireturn, 1) := by decide +kernel
theorem dX10_mark_0 : decode cX10_mark 0 = .ok (.aload_n 0, 1) := by decide +kernel
theorem dX10_mark_1 : decode cX10_mark 1 = .ok (.iload_n 1, 1) := by decide +kernel
theorem dX10_mark_2 : decode cX10_mark 2 = .ok (.iload_n 2, 1) := by decide +kernel
theorem dX10_mark_3 : decode cX10_mark 3 = .ok (.iload_n 3, 1) := by decide +kernel
theorem dX10_mark_4 : decode cX10_mark 4 = .ok (.invokevirtual 142, 3) := by decide +kernel
theorem dX10_mark_7 : decode cX10_mark 7 = .ok (.istore 4, 2) := by decide +kernel
theorem dX10_mark_9 : decode cX10_mark 9 = .ok (.iload 4, 2) := by decide +kernel
theorem dX10_mark_11 : decode cX10_mark 11 = .ok (.iconst (-1), 1) := by decide +kernel
theorem dX10_mark_12 : decode cX10_mark 12 = .ok (.if_icmp .ne 5, 3) := by decide +kernel
theorem dX10_mark_15 : decode cX10_mark 15 = .ok (.iconst (-1), 1) := by decide +kernel
theorem dX10_mark_16 : decode cX10_mark 16 = .ok (.ireturn, 1) := by decide +kernel
theorem dX10_mark_17 : decode cX10_mark 17 = .ok (.aload_n 0, 1) := by decide +kernel
theorem dX10_mark_18 : decode cX10_mark 18 = .ok (.getfield 54, 3) := by decide +kernel
theorem dX10_mark_21 : decode cX10_mark 21 = .ok (.lconst 0, 1) := by decide +kernel
theorem dX10_mark_22 : decode cX10_mark 22 = .ok (.invokevirtual 146, 3) := by decide +kernel
theorem dX10_mark_25 : decode cX10_mark 25 = .ok (.aload_n 0, 1) := by decide +kernel
theorem dX10_mark_26 : decode cX10_mark 26 = .ok (.getfield 54, 3) := by decide +kernel
theorem dX10_mark_29 : decode cX10_mark 29 = .ok (.getfield 150, 3) := by decide +kernel
theorem dX10_mark_32 : decode cX10_mark 32 = .ok (.iload 4, 2) := by decide +kernel
theorem dX10_mark_34 : decode cX10_mark 34 = .ok (.invokestatic 153, 3) := by decide +kernel
theorem dX10_mark_37 : decode cX10_mark 37 = .ok (.ireturn, 1) := by decide +kernel
theorem dX10_use_0 : decode cX10_use 0 = .ok (.aload_n 0, 1) := by decide +kernel
theorem dX10_use_1 : decode cX10_use 1 = .ok (.getfield 45, 3) := by decide +kernel
theorem dX10_use_4 : decode cX10_use 4 = .ok (.getfield 110, 3) := by decide +kernel
theorem dX10_use_7 : decode cX10_use 7 = .ok (.astore_n 3, 1) := by decide +kernel
theorem dX10_use_8 : decode cX10_use 8 = .ok (.iload_n 1, 1) := by decide +kernel
theorem dX10_use_9 : decode cX10_use 9 = .ok (.ifCond .lt 11, 3) := by decide +kernel
theorem dX10_use_12 : decode cX10_use 12 = .ok (.iload_n 1, 1) := by decide +kernel
theorem dX10_use_13 : decode cX10_use 13 = .ok (.aload_n 3, 1) := by decide +kernel
theorem dX10_use_14 : decode cX10_use 14 = .ok (.getfield 157, 3) := by decide +kernel
theorem dX10_use_17 : decode cX10_use 17 = .ok (.if_icmp .lt 5, 3) := by decide +kernel
theorem dX10_use_20 : decode cX10_use 20 = .ok (.iconst (-1), 1) := by decide +kernel
theorem dX10_use_21 : decode cX10_use 21 = .ok (.ireturn, 1) := by decide +kernel
theorem dX10_use_22 : decode cX10_use 22 = .ok (.iload_n 2, 1) := by decide +kernel
theorem dX10_use_23 : decode cX10_use 23 = .ok (.tableswitch 79 0 3 #[29, 52, 61, 70], 29) := by decide +kernel
theorem dX10_use_52 : decode cX10_use 52 = .ok (.aload_n 0, 1) := by decide +kernel
theorem dX10_use_53 : decode cX10_use 53 = .ok (.getfield 54, 3) := by decide +kernel
theorem dX10_use_56 : decode cX10_use 56 = .ok (.lconst 0, 1) := by decide +kernel
theorem dX10_use_57 : decode cX10_use 57 = .ok (.invokevirtual 146, 3) := by decide +kernel
theorem dX10_use_60 : decode cX10_use 60 = .ok (.aload_n 0, 1) := by decide +kernel
theorem dX10_use_61 : decode cX10_use 61 = .ok (.getfield 54, 3) := by decide +kernel
theorem dX10_use_64 : decode cX10_use 64 = .ok (.getfield 160, 3) := by decide +kernel
theorem dX10_use_67 : decode cX10_use 67 = .ok (.iload_n 1, 1) := by decide +kernel
theorem dX10_use_68 : decode cX10_use 68 = .ok (.invokestatic 153, 3) := by decide +kernel
theorem dX10_use_71 : decode cX10_use 71 = .ok (.invokestatic 163, 3) := by decide +kernel
theorem dX10_use_74 : decode cX10_use 74 = .ok (.ireturn, 1) := by decide +kernel
theorem dX10_use_75 : decode cX10_use 75 = .ok (.aload_n 3, 1) := by decide +kernel
theorem dX10_use_76 : decode cX10_use 76 = .ok (.getfield 167, 3) := by decide +kernel
theorem dX10_use_79 : decode cX10_use 79 = .ok (.iload_n 1, 1) := by decide +kernel
theorem dX10_use_80 : decode cX10_use 80 = .ok (.invokestatic 153, 3) := by decide +kernel
theorem dX10_use_83 : decode cX10_use 83 = .ok (.ireturn, 1) := by decide +kernel
theorem dX10_use_84 : decode cX10_use 84 = .ok (.aload_n 3, 1) := by decide +kernel
theorem dX10_use_85 : decode cX10_use 85 = .ok (.getfield 170, 3) := by decide +kernel
theorem dX10_use_88 : decode cX10_use 88 = .ok (.iload_n 1, 1) := by decide +kernel
theorem dX10_use_89 : decode cX10_use 89 = .ok (.invokestatic 153, 3) := by decide +kernel
theorem dX10_use_92 : decode cX10_use 92 = .ok (.ireturn, 1) := by decide +kernel
theorem dX10_use_93 : decode cX10_use 93 = .ok (.aload_n 3, 1) := by decide +kernel
theorem dX10_use_94 : decode cX10_use 94 = .ok (.getfield 173, 3) := by decide +kernel
theorem dX10_use_97 : decode cX10_use 97 = .ok (.iload_n 1, 1) := by decide +kernel
theorem dX10_use_98 : decode cX10_use 98 = .ok (.invokestatic 153, 3) := by decide +kernel
theorem dX10_use_101 : decode cX10_use 101 = .ok (.ireturn, 1) := by decide +kernel
theorem dX10_use_102 : decode cX10_use 102 = .ok (.iconst (-1), 1) := by decide +kernel
theorem dX10_use_103 : decode cX10_use 103 = .ok (.ireturn, 1) := by decide +kernel
theorem dX10_test_0 : decode cX10_test 0 = .ok (.aload_n 0, 1) := by decide +kernel
theorem dX10_test_1 : decode cX10_test 1 = .ok (.getfield 45, 3) := by decide +kernel
theorem dX10_test_4 : decode cX10_test 4 = .ok (.getfield 110, 3) := by decide +kernel
theorem dX10_test_7 : decode cX10_test 7 = .ok (.astore_n 3, 1) := by decide +kernel
theorem dX10_test_8 : decode cX10_test 8 = .ok (.iload_n 1, 1) := by decide +kernel
theorem dX10_test_9 : decode cX10_test 9 = .ok (.ifCond .lt 11, 3) := by decide +kernel
theorem dX10_test_12 : decode cX10_test 12 = .ok (.iload_n 1, 1) := by decide +kernel
theorem dX10_test_13 : decode cX10_test 13 = .ok (.aload_n 3, 1) := by decide +kernel
theorem dX10_test_14 : decode cX10_test 14 = .ok (.getfield 176, 3) := by decide +kernel
theorem dX10_test_17 : decode cX10_test 17 = .ok (.if_icmp .lt 5, 3) := by decide +kernel
theorem dX10_test_20 : decode cX10_test 20 = .ok (.iconst (-1), 1) := by decide +kernel
theorem dX10_test_21 : decode cX10_test 21 = .ok (.ireturn, 1) := by decide +kernel
theorem dX10_test_22 : decode cX10_test 22 = .ok (.iload_n 2, 1) := by decide +kernel
theorem dX10_test_23 : decode cX10_test 23 = .ok (.tableswitch 66 0 2 #[25, 48, 57], 25) := by decide +kernel
theorem dX10_test_48 : decode cX10_test 48 = .ok (.aload_n 0, 1) := by decide +kernel
theorem dX10_test_49 : decode cX10_test 49 = .ok (.getfield 54, 3) := by decide +kernel
theorem dX10_test_52 : decode cX10_test 52 = .ok (.lconst 0, 1) := by decide +kernel
theorem dX10_test_53 : decode cX10_test 53 = .ok (.invokevirtual 146, 3) := by decide +kernel
theorem dX10_test_56 : decode cX10_test 56 = .ok (.aload_n 0, 1) := by decide +kernel
theorem dX10_test_57 : decode cX10_test 57 = .ok (.getfield 54, 3) := by decide +kernel
theorem dX10_test_60 : decode cX10_test 60 = .ok (.getfield 179, 3) := by decide +kernel
theorem dX10_test_63 : decode cX10_test 63 = .ok (.iload_n 1, 1) := by decide +kernel
theorem dX10_test_64 : decode cX10_test 64 = .ok (.invokestatic 153, 3) := by decide +kernel
theorem dX10_test_67 : decode cX10_test 67 = .ok (.invokestatic 182, 3) := by decide +kernel
theorem dX10_test_70 : decode cX10_test 70 = .ok (.ireturn, 1) := by decide +kernel
theorem dX10_test_71 : decode cX10_test 71 = .ok (.aload_n 3, 1) := by decide +kernel
theorem dX10_test_72 : decode cX10_test 72 = .ok (.getfield 185, 3) := by decide +kernel
theorem dX10_test_75 : decode cX10_test 75 = .ok (.iload_n 1, 1) := by decide +kernel
theorem dX10_test_76 : decode cX10_test 76 = .ok (.invokestatic 153, 3) := by decide +kernel
theorem dX10_test_79 : decode cX10_test 79 = .ok (.ireturn, 1) := by decide +kernel
theorem dX10_test_80 : decode cX10_test 80 = .ok (.aload_n 3, 1) := by decide +kernel
theorem dX10_test_81 : decode cX10_test 81 = .ok (.getfield 188, 3) := by decide +kernel
theorem dX10_test_84 : decode cX10_test 84 = .ok (.iload_n 1, 1) := by decide +kernel
theorem dX10_test_85 : decode cX10_test 85 = .ok (.invokestatic 153, 3) := by decide +kernel
theorem dX10_test_88 : decode cX10_test 88 = .ok (.ireturn, 1) := by decide +kernel
theorem dX10_test_89 : decode cX10_test 89 = .ok (.iconst (-1), 1) := by decide +kernel
theorem dX10_test_90 : decode cX10_test 90 = .ok (.ireturn, 1) := by decide +kernel
theorem dX10_run_0 : decode cX10_run 0 = .ok (.iload_n 2, 1) := by decide +kernel
theorem dX10_run_1 : decode cX10_run 1 = .ok (.ifCond .lt 21, 3) := by decide +kernel
theorem dX10_run_4 : decode cX10_run 4 = .ok (.iload_n 2, 1) := by decide +kernel
theorem dX10_run_5 : decode cX10_run 5 = .ok (.sipush 256, 3) := by decide +kernel
theorem dX10_run_8 : decode cX10_run 8 = .ok (.if_icmp .ge 14, 3) := by decide +kernel
theorem dX10_run_11 : decode cX10_run 11 = .ok (.aload_n 0, 1) := by decide +kernel
theorem dX10_run_12 : decode cX10_run 12 = .ok (.getfield 45, 3) := by decide +kernel
theorem dX10_run_15 : decode cX10_run 15 = .ok (.iload_n 1, 1) := by decide +kernel
theorem dX10_run_16 : decode cX10_run 16 = .ok (.invokevirtual 191, 3) := by decide +kernel
theorem dX10_run_19 : decode cX10_run 19 = .ok (.ifCond .ne 5, 3) := by decide +kernel
theorem dX10_run_22 : decode cX10_run 22 = .ok (.iconst (-1), 1) := by decide +kernel
theorem dX10_run_23 : decode cX10_run 23 = .ok (.ireturn, 1) := by decide +kernel
theorem dX10_run_24 : decode cX10_run 24 = .ok (.aload_n 0, 1) := by decide +kernel
theorem dX10_run_25 : decode cX10_run 25 = .ok (.getfield 61, 3) := by decide +kernel
theorem dX10_run_28 : decode cX10_run 28 = .ok (.iload_n 1, 1) := by decide +kernel
theorem dX10_run_29 : decode cX10_run 29 = .ok (.iload_n 2, 1) := by decide +kernel
theorem dX10_run_30 : decode cX10_run 30 = .ok (.invokevirtual 194, 3) := by decide +kernel
theorem dX10_run_33 : decode cX10_run 33 = .ok (.istore_n 3, 1) := by decide +kernel
theorem dX10_run_34 : decode cX10_run 34 = .ok (.aload_n 0, 1) := by decide +kernel
theorem dX10_run_35 : decode cX10_run 35 = .ok (.getfield 83, 3) := by decide +kernel
theorem dX10_run_38 : decode cX10_run 38 = .ok (.iconst 0, 1) := by decide +kernel
theorem dX10_run_39 : decode cX10_run 39 = .ok (.aload_n 0, 1) := by decide +kernel
theorem dX10_run_40 : decode cX10_run 40 = .ok (.getfield 61, 3) := by decide +kernel
theorem dX10_run_43 : decode cX10_run 43 = .ok (.getfield 198, 3) := by decide +kernel
theorem dX10_run_46 : decode cX10_run 46 = .ok (.invokestatic 136, 3) := by decide +kernel
theorem dX10_run_49 : decode cX10_run 49 = .ok (.aload_n 0, 1) := by decide +kernel
theorem dX10_run_50 : decode cX10_run 50 = .ok (.getfield 83, 3) := by decide +kernel
theorem dX10_run_53 : decode cX10_run 53 = .ok (.iconst 1, 1) := by decide +kernel
theorem dX10_run_54 : decode cX10_run 54 = .ok (.aload_n 0, 1) := by decide +kernel
theorem dX10_run_55 : decode cX10_run 55 = .ok (.getfield 61, 3) := by decide +kernel
theorem dX10_run_58 : decode cX10_run 58 = .ok (.getfield 201, 3) := by decide +kernel
theorem dX10_run_61 : decode cX10_run 61 = .ok (.invokestatic 136, 3) := by decide +kernel
theorem dX10_run_64 : decode cX10_run 64 = .ok (.aload_n 0, 1) := by decide +kernel
theorem dX10_run_65 : decode cX10_run 65 = .ok (.getfield 83, 3) := by decide +kernel
theorem dX10_run_68 : decode cX10_run 68 = .ok (.iconst 2, 1) := by decide +kernel
theorem dX10_run_69 : decode cX10_run 69 = .ok (.aload_n 0, 1) := by decide +kernel
theorem dX10_run_70 : decode cX10_run 70 = .ok (.getfield 61, 3) := by decide +kernel
theorem dX10_run_73 : decode cX10_run 73 = .ok (.getfield 204, 3) := by decide +kernel
theorem dX10_run_76 : decode cX10_run 76 = .ok (.invokestatic 136, 3) := by decide +kernel
theorem dX10_run_79 : decode cX10_run 79 = .ok (.aload_n 0, 1) := by decide +kernel
theorem dX10_run_80 : decode cX10_run 80 = .ok (.getfield 83, 3) := by decide +kernel
theorem dX10_run_83 : decode cX10_run 83 = .ok (.iconst 3, 1) := by decide +kernel
theorem dX10_run_84 : decode cX10_run 84 = .ok (.aload_n 0, 1) := by decide +kernel
theorem dX10_run_85 : decode cX10_run 85 = .ok (.getfield 61, 3) := by decide +kernel
theorem dX10_run_88 : decode cX10_run 88 = .ok (.getfield 207, 3) := by decide +kernel
theorem dX10_run_91 : decode cX10_run 91 = .ok (.invokestatic 136, 3) := by decide +kernel
theorem dX10_run_94 : decode cX10_run 94 = .ok (.iload_n 3, 1) := by decide +kernel
theorem dX10_run_95 : decode cX10_run 95 = .ok (.ireturn, 1) := by decide +kernel
theorem dX10_ran_0 : decode cX10_ran 0 = .ok (.iload_n 1, 1) := by decide +kernel
theorem dX10_ran_1 : decode cX10_ran 1 = .ok (.ifCond .lt 12, 3) := by decide +kernel
theorem dX10_ran_4 : decode cX10_ran 4 = .ok (.iload_n 1, 1) := by decide +kernel
theorem dX10_ran_5 : decode cX10_ran 5 = .ok (.aload_n 0, 1) := by decide +kernel
theorem dX10_ran_6 : decode cX10_ran 6 = .ok (.getfield 83, 3) := by decide +kernel
theorem dX10_ran_9 : decode cX10_ran 9 = .ok (.arraylength, 1) := by decide +kernel
theorem dX10_ran_10 : decode cX10_ran 10 = .ok (.if_icmp .lt 7, 3) := by decide +kernel
theorem dX10_ran_13 : decode cX10_ran 13 = .ok (.iconst (-1), 1) := by decide +kernel
theorem dX10_ran_14 : decode cX10_ran 14 = .ok (.goto 9, 3) := by decide +kernel
theorem dX10_ran_17 : decode cX10_ran 17 = .ok (.aload_n 0, 1) := by decide +kernel
theorem dX10_ran_18 : decode cX10_ran 18 = .ok (.getfield 83, 3) := by decide +kernel
theorem dX10_ran_21 : decode cX10_ran 21 = .ok (.iload_n 1, 1) := by decide +kernel
theorem dX10_ran_22 : decode cX10_ran 22 = .ok (.iaload, 1) := by decide +kernel
theorem dX10_ran_23 : decode cX10_ran 23 = .ok (.ireturn, 1) := by decide +kernel
