theorem dX0_add_0 : decode cX0_add 0 = .ok (.aload_n 0, 1) := by decide +kernel
theorem dX0_add_1 : decode cX0_add 1 = .ok (.getfield 15, 3) := by decide +kernel
theorem dX0_add_4 : decode cX0_add 4 = .ok (.istore_n 3, 1) := by decide +kernel
theorem dX0_add_5 : decode cX0_add 5 = .ok (.iload_n 3, 1) := by decide +kernel
theorem dX0_add_6 : decode cX0_add 6 = .ok (.ifCond .lt 10, 3) := by decide +kernel
theorem dX0_add_9 : decode cX0_add 9 = .ok (.iload_n 3, 1) := by decide +kernel
theorem dX0_add_10 : decode cX0_add 10 = .ok (.sipush 304, 3) := by decide +kernel
theorem dX0_add_13 : decode cX0_add 13 = .ok (.if_icmp .lt 5, 3) := by decide +kernel
theorem dX0_add_16 : decode cX0_add 16 = .ok (.iconst (-1), 1) := by decide +kernel
theorem dX0_add_17 : decode cX0_add 17 = .ok (.ireturn, 1) := by decide +kernel
theorem dX0_add_18 : decode cX0_add 18 = .ok (.aload_n 0, 1) := by decide +kernel
theorem dX0_add_19 : decode cX0_add 19 = .ok (.dup, 1) := by decide +kernel
theorem dX0_add_20 : decode cX0_add 20 = .ok (.getfield 15, 3) := by decide +kernel
theorem dX0_add_23 : decode cX0_add 23 = .ok (.iconst 1, 1) := by decide +kernel
theorem dX0_add_24 : decode cX0_add 24 = .ok (.iadd, 1) := by decide +kernel
theorem dX0_add_25 : decode cX0_add 25 = .ok (.putfield 15, 3) := by decide +kernel
theorem dX0_add_28 : decode cX0_add 28 = .ok (.iconst 0, 1) := by decide +kernel
theorem dX0_add_29 : decode cX0_add 29 = .ok (.istore 4, 2) := by decide +kernel
theorem dX0_add_31 : decode cX0_add 31 = .ok (.iload 4, 2) := by decide +kernel
theorem dX0_add_33 : decode cX0_add 33 = .ok (.bipush 12, 2) := by decide +kernel
theorem dX0_add_35 : decode cX0_add 35 = .ok (.if_icmp .ge 17, 3) := by decide +kernel
theorem dX0_add_38 : decode cX0_add 38 = .ok (.aload_n 0, 1) := by decide +kernel
theorem dX0_add_39 : decode cX0_add 39 = .ok (.iload_n 3, 1) := by decide +kernel
theorem dX0_add_40 : decode cX0_add 40 = .ok (.iload 4, 2) := by decide +kernel
theorem dX0_add_42 : decode cX0_add 42 = .ok (.iconst 0, 1) := by decide +kernel
theorem dX0_add_43 : decode cX0_add 43 = .ok (.invokevirtual 19, 3) := by decide +kernel
theorem dX0_add_46 : decode cX0_add 46 = .ok (.iinc 4 1, 3) := by decide +kernel
theorem dX0_add_49 : decode cX0_add 49 = .ok (.goto (-18), 3) := by decide +kernel
theorem dX0_add_52 : decode cX0_add 52 = .ok (.aload_n 0, 1) := by decide +kernel
theorem dX0_add_53 : decode cX0_add 53 = .ok (.iload_n 3, 1) := by decide +kernel
theorem dX0_add_54 : decode cX0_add 54 = .ok (.iconst 0, 1) := by decide +kernel
theorem dX0_add_55 : decode cX0_add 55 = .ok (.iload_n 1, 1) := by decide +kernel
theorem dX0_add_56 : decode cX0_add 56 = .ok (.invokevirtual 19, 3) := by decide +kernel
theorem dX0_add_59 : decode cX0_add 59 = .ok (.aload_n 0, 1) := by decide +kernel
theorem dX0_add_60 : decode cX0_add 60 = .ok (.iload_n 3, 1) := by decide +kernel
theorem dX0_add_61 : decode cX0_add 61 = .ok (.bipush 11, 2) := by decide +kernel
theorem dX0_add_63 : decode cX0_add 63 = .ok (.iload_n 2, 1) := by decide +kernel
theorem dX0_add_64 : decode cX0_add 64 = .ok (.invokevirtual 19, 3) := by decide +kernel
theorem dX0_add_67 : decode cX0_add 67 = .ok (.iload_n 3, 1) := by decide +kernel
theorem dX0_add_68 : decode cX0_add 68 = .ok (.ireturn, 1) := by decide +kernel
theorem dX0_get_0 : decode cX0_get 0 = .ok (.iload_n 1, 1) := by decide +kernel
theorem dX0_get_1 : decode cX0_get 1 = .ok (.bipush 12, 2) := by decide +kernel
theorem dX0_get_3 : decode cX0_get 3 = .ok (.imul, 1) := by decide +kernel
theorem dX0_get_4 : decode cX0_get 4 = .ok (.iload_n 2, 1) := by decide +kernel
theorem dX0_get_5 : decode cX0_get 5 = .ok (.iadd, 1) := by decide +kernel
theorem dX0_get_6 : decode cX0_get 6 = .ok (.istore_n 3, 1) := by decide +kernel
theorem dX0_get_7 : decode cX0_get 7 = .ok (.iload_n 1, 1) := by decide +kernel
theorem dX0_get_8 : decode cX0_get 8 = .ok (.ifCond .lt 33, 3) := by decide +kernel
theorem dX0_get_11 : decode cX0_get 11 = .ok (.iload_n 1, 1) := by decide +kernel
theorem dX0_get_12 : decode cX0_get 12 = .ok (.aload_n 0, 1) := by decide +kernel
theorem dX0_get_13 : decode cX0_get 13 = .ok (.getfield 15, 3) := by decide +kernel
theorem dX0_get_16 : decode cX0_get 16 = .ok (.if_icmp .ge 25, 3) := by decide +kernel
theorem dX0_get_19 : decode cX0_get 19 = .ok (.iload_n 3, 1) := by decide +kernel
theorem dX0_get_20 : decode cX0_get 20 = .ok (.ifCond .lt 21, 3) := by decide +kernel
theorem dX0_get_23 : decode cX0_get 23 = .ok (.iload_n 3, 1) := by decide +kernel
theorem dX0_get_24 : decode cX0_get 24 = .ok (.aload_n 0, 1) := by decide +kernel
theorem dX0_get_25 : decode cX0_get 25 = .ok (.getfield 11, 3) := by decide +kernel
theorem dX0_get_28 : decode cX0_get 28 = .ok (.arraylength, 1) := by decide +kernel
theorem dX0_get_29 : decode cX0_get 29 = .ok (.if_icmp .ge 12, 3) := by decide +kernel
theorem dX0_get_32 : decode cX0_get 32 = .ok (.aload_n 0, 1) := by decide +kernel
theorem dX0_get_33 : decode cX0_get 33 = .ok (.getfield 11, 3) := by decide +kernel
theorem dX0_get_36 : decode cX0_get 36 = .ok (.iload_n 3, 1) := by decide +kernel
theorem dX0_get_37 : decode cX0_get 37 = .ok (.iaload, 1) := by decide +kernel
theorem dX0_get_38 : decode cX0_get 38 = .ok (.goto 4, 3) := by decide +kernel
theorem dX0_get_41 : decode cX0_get 41 = .ok (.iconst 0, 1) := by decide +kernel
theorem dX0_get_42 : decode cX0_get 42 = .ok (.ireturn, 1) := by decide +kernel
theorem dX0_set_0 : decode cX0_set 0 = .ok (.iload_n 1, 1) := by decide +kernel
theorem dX0_set_1 : decode cX0_set 1 = .ok (.bipush 12, 2) := by decide +kernel
theorem dX0_set_3 : decode cX0_set 3 = .ok (.imul, 1) := by decide +kernel
theorem dX0_set_4 : decode cX0_set 4 = .ok (.iload_n 2, 1) := by decide +kernel
theorem dX0_set_5 : decode cX0_set 5 = .ok (.iadd, 1) := by decide +kernel
theorem dX0_set_6 : decode cX0_set 6 = .ok (.istore 4, 2) := by decide +kernel
theorem dX0_set_8 : decode cX0_set 8 = .ok (.iload_n 1, 1) := by decide +kernel
theorem dX0_set_9 : decode cX0_set 9 = .ok (.ifCond .lt 34, 3) := by decide +kernel
theorem dX0_set_12 : decode cX0_set 12 = .ok (.iload_n 1, 1) := by decide +kernel
theorem dX0_set_13 : decode cX0_set 13 = .ok (.aload_n 0, 1) := by decide +kernel
theorem dX0_set_14 : decode cX0_set 14 = .ok (.getfield 15, 3) := by decide +kernel
theorem dX0_set_17 : decode cX0_set 17 = .ok (.if_icmp .ge 26, 3) := by decide +kernel
theorem dX0_set_20 : decode cX0_set 20 = .ok (.iload 4, 2) := by decide +kernel
theorem dX0_set_22 : decode cX0_set 22 = .ok (.ifCond .lt 21, 3) := by decide +kernel
theorem dX0_set_25 : decode cX0_set 25 = .ok (.iload 4, 2) := by decide +kernel
theorem dX0_set_27 : decode cX0_set 27 = .ok (.aload_n 0, 1) := by decide +kernel
theorem dX0_set_28 : decode cX0_set 28 = .ok (.getfield 11, 3) := by decide +kernel
theorem dX0_set_31 : decode cX0_set 31 = .ok (.arraylength, 1) := by decide +kernel
theorem dX0_set_32 : decode cX0_set 32 = .ok (.if_icmp .ge 11, 3) := by decide +kernel
theorem dX0_set_35 : decode cX0_set 35 = .ok (.aload_n 0, 1) := by decide +kernel
theorem dX0_set_36 : decode cX0_set 36 = .ok (.getfield 11, 3) := by decide +kernel
theorem dX0_set_39 : decode cX0_set 39 = .ok (.iload 4, 2) := by decide +kernel
theorem dX0_set_41 : decode cX0_set 41 = .ok (.iload_n 3, 1) := by decide +kernel
theorem dX0_set_42 : decode cX0_set 42 = .ok (.iastore, 1) := by decide +kernel
theorem dX0_set_43 : decode cX0_set 43 = .ok (.return_, 1) := by decide +kernel
theorem dX0_addArgument_0 : decode cX0_addArgument 0 = .ok (.aload_n 0, 1) := by decide +kernel
theorem dX0_addArgument_1 : decode cX0_addArgument 1 = .ok (.iload_n 1, 1) := by decide +kernel
theorem dX0_addArgument_2 : decode cX0_addArgument 2 = .ok (.bipush 8, 2) := by decide +kernel
theorem dX0_addArgument_4 : decode cX0_addArgument 4 = .ok (.invokevirtual 23, 3) := by decide +kernel
theorem dX0_addArgument_7 : decode cX0_addArgument 7 = .ok (.istore_n 3, 1) := by decide +kernel
theorem dX0_addArgument_8 : decode cX0_addArgument 8 = .ok (.iload_n 3, 1) := by decide +kernel
theorem dX0_addArgument_9 : decode cX0_addArgument 9 = .ok (.bipush 20, 2) := by decide +kernel
theorem dX0_addArgument_11 : decode cX0_addArgument 11 = .ok (.ishr, 1) := by decide +kernel
theorem dX0_addArgument_12 : decode cX0_addArgument 12 = .ok (.istore 4, 2) := by decide +kernel
theorem dX0_addArgument_14 : decode cX0_addArgument 14 = .ok (.aload_n 0, 1) := by decide +kernel
theorem dX0_addArgument_15 : decode cX0_addArgument 15 = .ok (.iload_n 1, 1) := by decide +kernel
theorem dX0_addArgument_16 : decode cX0_addArgument 16 = .ok (.bipush 8, 2) := by decide +kernel
theorem dX0_addArgument_18 : decode cX0_addArgument 18 = .ok (.iload_n 3, 1) := by decide +kernel
theorem dX0_addArgument_19 : decode cX0_addArgument 19 = .ok (.ldc 27, 2) := by decide +kernel
theorem dX0_addArgument_21 : decode cX0_addArgument 21 = .ok (.iadd, 1) := by decide +kernel
theorem dX0_addArgument_22 : decode cX0_addArgument 22 = .ok (.iload_n 2, 1) := by decide +kernel
theorem dX0_addArgument_23 : decode cX0_addArgument 23 = .ok (.iload 4, 2) := by decide +kernel
theorem dX0_addArgument_25 : decode cX0_addArgument 25 = .ok (.iconst 5, 1) := by decide +kernel
theorem dX0_addArgument_26 : decode cX0_addArgument 26 = .ok (.imul, 1) := by decide +kernel
theorem dX0_addArgument_27 : decode cX0_addArgument 27 = .ok (.ishl, 1) := by decide +kernel
theorem dX0_addArgument_28 : decode cX0_addArgument 28 = .ok (.iadd, 1) := by decide +kernel
theorem dX0_addArgument_29 : decode cX0_addArgument 29 = .ok (.invokevirtual 19, 3) := by decide +kernel
theorem dX0_addArgument_32 : decode cX0_addArgument 32 = .ok (.return_, 1) := by decide +kernel
theorem dX0_arguments_0 : decode cX0_arguments 0 = .ok (.aload_n 0, 1) := by decide +kernel
theorem dX0_arguments_1 : decode cX0_arguments 1 = .ok (.iload_n 1, 1) := by decide +kernel
theorem dX0_arguments_2 : decode cX0_arguments 2 = .ok (.bipush 8, 2) := by decide +kernel
theorem dX0_arguments_4 : decode cX0_arguments 4 = .ok (.invokevirtual 23, 3) := by decide +kernel
theorem dX0_arguments_7 : decode cX0_arguments 7 = .ok (.bipush 20, 2) := by decide +kernel
theorem dX0_arguments_9 : decode cX0_arguments 9 = .ok (.ishr, 1) := by decide +kernel
theorem dX0_arguments_10 : decode cX0_arguments 10 = .ok (.ireturn, 1) := by decide +kernel
theorem dX0_argument_0 : decode cX0_argument 0 = .ok (.aload_n 0, 1) := by decide +kernel
theorem dX0_argument_1 : decode cX0_argument 1 = .ok (.iload_n 1, 1) := by decide +kernel
theorem dX0_argument_2 : decode cX0_argument 2 = .ok (.bipush 8, 2) := by decide +kernel
theorem dX0_argument_4 : decode cX0_argument 4 = .ok (.invokevirtual 23, 3) := by decide +kernel
theorem dX0_argument_7 : decode cX0_argument 7 = .ok (.iload_n 2, 1) := by decide +kernel
theorem dX0_argument_8 : decode cX0_argument 8 = .ok (.iconst 5, 1) := by decide +kernel
theorem dX0_argument_9 : decode cX0_argument 9 = .ok (.imul, 1) := by decide +kernel
theorem dX0_argument_10 : decode cX0_argument 10 = .ok (.ishr, 1) := by decide +kernel
theorem dX0_argument_11 : decode cX0_argument 11 = .ok (.bipush 31, 2) := by decide +kernel
theorem dX0_argument_13 : decode cX0_argument 13 = .ok (.iand, 1) := by decide +kernel
theorem dX0_argument_14 : decode cX0_argument 14 = .ok (.ireturn, 1) := by decide +kernel
theorem dX1_settle_0 : decode cX1_settle 0 = .ok (.aload_n 0, 1) := by decide +kernel
theorem dX1_settle_1 : decode cX1_settle 1 = .ok (.getfield 28, 3) := by decide +kernel
theorem dX1_settle_4 : decode cX1_settle 4 = .ok (.ifCond .ne 13, 3) := by decide +kernel
theorem dX1_settle_7 : decode cX1_settle 7 = .ok (.aload_n 0, 1) := by decide +kernel
theorem dX1_settle_8 : decode cX1_settle 8 = .ok (.getfield 50, 3) := by decide +kernel
theorem dX1_settle_11 : decode cX1_settle 11 = .ok (.lload_n 1, 1) := by decide +kernel
theorem dX1_settle_12 : decode cX1_settle 12 = .ok (.lcmp, 1) := by decide +kernel
theorem dX1_settle_13 : decode cX1_settle 13 = .ok (.ifCond .ne 4, 3) := by decide +kernel
theorem dX1_settle_16 : decode cX1_settle 16 = .ok (.return_, 1) := by decide +kernel
theorem dX1_settle_17 : decode cX1_settle 17 = .ok (.aload_n 0, 1) := by decide +kernel
theorem dX1_settle_18 : decode cX1_settle 18 = .ok (.invokevirtual 54, 3) := by decide +kernel
theorem dX1_settle_21 : decode cX1_settle 21 = .ok (.aload_n 0, 1) := by decide +kernel
theorem dX1_settle_22 : decode cX1_settle 22 = .ok (.lload_n 1, 1) := by decide +kernel
theorem dX1_settle_23 : decode cX1_settle 23 = .ok (.putfield 50, 3) := by decide +kernel
theorem dX1_settle_26 : decode cX1_settle 26 = .ok (.aload_n 0, 1) := by decide +kernel
theorem dX1_settle_27 : decode cX1_settle 27 = .ok (.invokevirtual 57, 3) := by decide +kernel
theorem dX1_settle_30 : decode cX1_settle 30 = .ok (.aload_n 0, 1) := by decide +kernel
theorem dX1_settle_31 : decode cX1_settle 31 = .ok (.iconst 1, 1) := by decide +kernel
theorem dX1_settle_32 : decode cX1_settle 32 = .ok (.putfield 60, 3) := by decide +kernel
theorem dX1_settle_35 : decode cX1_settle 35 = .ok (.iconst 0, 1) := by decide +kernel
theorem dX1_settle_36 : decode cX1_settle 36 = .ok (.istore_n 3, 1) := by decide +kernel
theorem dX1_settle_37 : decode cX1_settle 37 = .ok (.iload_n 3, 1) := by decide +kernel
theorem dX1_settle_38 : decode cX1_settle 38 = .ok (.sipush 15902, 3) := by decide +kernel
theorem dX1_settle_41 : decode cX1_settle 41 = .ok (.if_icmp .ge 110, 3) := by decide +kernel
theorem dX1_settle_44 : decode cX1_settle 44 = .ok (.aload_n 0, 1) := by decide +kernel
theorem dX1_settle_45 : decode cX1_settle 45 = .ok (.getfield 60, 3) := by decide +kernel
theorem dX1_settle_48 : decode cX1_settle 48 = .ok (.ifCond .eq 103, 3) := by decide +kernel
theorem dX1_settle_51 : decode cX1_settle 51 = .ok (.aload_n 0, 1) := by decide +kernel
theorem dX1_settle_52 : decode cX1_settle 52 = .ok (.iconst 0, 1) := by decide +kernel
theorem dX1_settle_53 : decode cX1_settle 53 = .ok (.putfield 60, 3) := by decide +kernel
theorem dX1_settle_56 : decode cX1_settle 56 = .ok (.aload_n 0, 1) := by decide +kernel
theorem dX1_settle_57 : decode cX1_settle 57 = .ok (.invokevirtual 63, 3) := by decide +kernel
theorem dX1_settle_60 : decode cX1_settle 60 = .ok (.iconst 0, 1) := by decide +kernel
theorem dX1_settle_61 : decode cX1_settle 61 = .ok (.istore 4, 2) := by decide +kernel
theorem dX1_settle_63 : decode cX1_settle 63 = .ok (.iload 4, 2) := by decide +kernel
theorem dX1_settle_65 : decode cX1_settle 65 = .ok (.aload_n 0, 1) := by decide +kernel
theorem dX1_settle_66 : decode cX1_settle 66 = .ok (.getfield 49, 3) := by decide +kernel
theorem dX1_settle_69 : decode cX1_settle 69 = .ok (.getfield 66, 3) := by decide +kernel
theorem dX1_settle_72 : decode cX1_settle 72 = .ok (.if_icmp .ge 73, 3) := by decide +kernel
theorem dX1_settle_75 : decode cX1_settle 75 = .ok (.iload 4, 2) := by decide +kernel
theorem dX1_settle_77 : decode cX1_settle 77 = .ok (.aload_n 0, 1) := by decide +kernel
theorem dX1_settle_78 : decode cX1_settle 78 = .ok (.getfield 9, 3) := by decide +kernel
theorem dX1_settle_81 : decode cX1_settle 81 = .ok (.arraylength, 1) := by decide +kernel
theorem dX1_settle_82 : decode cX1_settle 82 = .ok (.if_icmp .ge 63, 3) := by decide +kernel
theorem dX1_settle_85 : decode cX1_settle 85 = .ok (.aload_n 0, 1) := by decide +kernel
theorem dX1_settle_86 : decode cX1_settle 86 = .ok (.getfield 9, 3) := by decide +kernel
theorem dX1_settle_89 : decode cX1_settle 89 = .ok (.iload 4, 2) := by decide +kernel
theorem dX1_settle_91 : decode cX1_settle 91 = .ok (.laload, 1) := by decide +kernel
theorem dX1_settle_92 : decode cX1_settle 92 = .ok (.lconst 0, 1) := by decide +kernel
theorem dX1_settle_93 : decode cX1_settle 93 = .ok (.lcmp, 1) := by decide +kernel
theorem dX1_settle_94 : decode cX1_settle 94 = .ok (.ifCond .eq 45, 3) := by decide +kernel
theorem dX1_settle_97 : decode cX1_settle 97 = .ok (.aload_n 0, 1) := by decide +kernel
theorem dX1_settle_98 : decode cX1_settle 98 = .ok (.getfield 15, 3) := by decide +kernel
theorem dX1_settle_101 : decode cX1_settle 101 = .ok (.iload 4, 2) := by decide +kernel
theorem dX1_settle_103 : decode cX1_settle 103 = .ok (.invokestatic 72, 3) := by decide +kernel
theorem dX1_settle_106 : decode cX1_settle 106 = .ok (.aload_n 0, 1) := by decide +kernel
theorem dX1_settle_107 : decode cX1_settle 107 = .ok (.getfield 78, 3) := by decide +kernel
theorem dX1_settle_110 : decode cX1_settle 110 = .ok (.if_icmp .eq 29, 3) := by decide +kernel
theorem dX1_settle_113 : decode cX1_settle 113 = .ok (.aload_n 0, 1) := by decide +kernel
theorem dX1_settle_114 : decode cX1_settle 114 = .ok (.getfield 15, 3) := by decide +kernel
theorem dX1_settle_117 : decode cX1_settle 117 = .ok (.iload 4, 2) := by decide +kernel
theorem dX1_settle_119 : decode cX1_settle 119 = .ok (.aload_n 0, 1) := by decide +kernel
theorem dX1_settle_120 : decode cX1_settle 120 = .ok (.getfield 78, 3) := by decide +kernel
theorem dX1_settle_123 : decode cX1_settle 123 = .ok (.invokestatic 81, 3) := by decide +kernel
theorem dX1_settle_126 : decode cX1_settle 126 = .ok (.aload_n 0, 1) := by decide +kernel
theorem dX1_settle_127 : decode cX1_settle 127 = .ok (.iload 4, 2) := by decide +kernel
theorem dX1_settle_129 : decode cX1_settle 129 = .ok (.aload_n 0, 1) := by decide +kernel
theorem dX1_settle_130 : decode cX1_settle 130 = .ok (.getfield 9, 3) := by decide +kernel
theorem dX1_settle_133 : decode cX1_settle 133 = .ok (.iload 4, 2) := by decide +kernel
theorem dX1_settle_135 : decode cX1_settle 135 = .ok (.laload, 1) := by decide +kernel
theorem dX1_settle_136 : decode cX1_settle 136 = .ok (.invokevirtual 85, 3) := by decide +kernel
theorem dX1_settle_139 : decode cX1_settle 139 = .ok (.iinc 4 1, 3) := by decide +kernel
theorem dX1_settle_142 : decode cX1_settle 142 = .ok (.goto (-79), 3) := by decide +kernel
theorem dX1_settle_145 : decode cX1_settle 145 = .ok (.iinc 3 1, 3) := by decide +kernel
theorem dX1_settle_148 : decode cX1_settle 148 = .ok (.goto (-111), 3) := by decide +kernel
theorem dX1_settle_151 : decode cX1_settle 151 = .ok (.aload_n 0, 1) := by decide +kernel
theorem dX1_settle_152 : decode cX1_settle 152 = .ok (.iconst 0, 1) := by decide +kernel
theorem dX1_settle_153 : decode cX1_settle 153 = .ok (.putfield 28, 3) := by decide +kernel
theorem dX1_settle_156 : decode cX1_settle 156 = .ok (.return_, 1) := by decide +kernel
theorem dX1_guardsNeeded_0 : decode cX1_guardsNeeded 0 = .ok (.iconst 0, 1) := by decide +kernel
theorem dX1_guardsNeeded_1 : decode cX1_guardsNeeded 1 = .ok (.istore_n 1, 1) := by decide +kernel
theorem dX1_guardsNeeded_2 : decode cX1_guardsNeeded 2 = .ok (.iconst 0, 1) := by decide +kernel
theorem dX1_guardsNeeded_3 : decode cX1_guardsNeeded 3 = .ok (.istore_n 2, 1) := by decide +kernel
theorem dX1_guardsNeeded_4 : decode cX1_guardsNeeded 4 = .ok (.iload_n 2, 1) := by decide +kernel
theorem dX1_guardsNeeded_5 : decode cX1_guardsNeeded 5 = .ok (.aload_n 0, 1) := by decide +kernel
theorem dX1_guardsNeeded_6 : decode cX1_guardsNeeded 6 = .ok (.getfield 42, 3) := by decide +kernel
theorem dX1_guardsNeeded_9 : decode cX1_guardsNeeded 9 = .ok (.getfield 89, 3) := by decide +kernel
theorem dX1_guardsNeeded_12 : decode cX1_guardsNeeded 12 = .ok (.if_icmp .ge 25, 3) := by decide +kernel
theorem dX1_guardsNeeded_15 : decode cX1_guardsNeeded 15 = .ok (.aload_n 0, 1) := by decide +kernel
theorem dX1_guardsNeeded_16 : decode cX1_guardsNeeded 16 = .ok (.getfield 22, 3) := by decide +kernel
theorem dX1_guardsNeeded_19 : decode cX1_guardsNeeded 19 = .ok (.iload_n 2, 1) := by decide +kernel
theorem dX1_guardsNeeded_20 : decode cX1_guardsNeeded 20 = .ok (.invokestatic 72, 3) := by decide +kernel
theorem dX1_guardsNeeded_23 : decode cX1_guardsNeeded 23 = .ok (.iconst 1, 1) := by decide +kernel
theorem dX1_guardsNeeded_24 : decode cX1_guardsNeeded 24 = .ok (.iand, 1) := by decide +kernel
theorem dX1_guardsNeeded_25 : decode cX1_guardsNeeded 25 = .ok (.ifCond .eq 6, 3) := by decide +kernel
theorem dX1_guardsNeeded_28 : decode cX1_guardsNeeded 28 = .ok (.iinc 1 1, 3) := by decide +kernel
theorem dX1_guardsNeeded_31 : decode cX1_guardsNeeded 31 = .ok (.iinc 2 1, 3) := by decide +kernel
theorem dX1_guardsNeeded_34 : decode cX1_guardsNeeded 34 = .ok (.goto (-30), 3) := by decide +kernel
theorem dX1_guardsNeeded_37 : decode cX1_guardsNeeded 37 = .ok (.iload_n 1, 1) := by decide +kernel
theorem dX1_guardsNeeded_38 : decode cX1_guardsNeeded 38 = .ok (.ireturn, 1) := by decide +kernel
theorem dX1_clear_0 : decode cX1_clear 0 = .ok (.aload_n 0, 1) := by decide +kernel
theorem dX1_clear_1 : decode cX1_clear 1 = .ok (.aload_n 0, 1) := by decide +kernel
theorem dX1_clear_2 : decode cX1_clear 2 = .ok (.getfield 32, 3) := by decide +kernel
theorem dX1_clear_5 : decode cX1_clear 5 = .ok (.getfield 36, 3) := by decide +kernel
theorem dX1_clear_8 : decode cX1_clear 8 = .ok (.putfield 42, 3) := by decide +kernel
theorem dX1_clear_11 : decode cX1_clear 11 = .ok (.aload_n 0, 1) := by decide +kernel
theorem dX1_clear_12 : decode cX1_clear 12 = .ok (.aload_n 0, 1) := by decide +kernel
theorem dX1_clear_13 : decode cX1_clear 13 = .ok (.getfield 42, 3) := by decide +kernel
theorem dX1_clear_16 : decode cX1_clear 16 = .ok (.getfield 43, 3) := by decide +kernel
theorem dX1_clear_19 : decode cX1_clear 19 = .ok (.putfield 49, 3) := by decide +kernel
theorem dX1_clear_22 : decode cX1_clear 22 = .ok (.aload_n 0, 1) := by decide +kernel
theorem dX1_clear_23 : decode cX1_clear 23 = .ok (.iconst 0, 1) := by decide +kernel
theorem dX1_clear_24 : decode cX1_clear 24 = .ok (.putfield 92, 3) := by decide +kernel
theorem dX1_clear_27 : decode cX1_clear 27 = .ok (.aload_n 0, 1) := by decide +kernel
theorem dX1_clear_28 : decode cX1_clear 28 = .ok (.iconst 1, 1) := by decide +kernel
theorem dX1_clear_29 : decode cX1_clear 29 = .ok (.putfield 78, 3) := by decide +kernel
theorem dX1_clear_32 : decode cX1_clear 32 = .ok (.aload_n 0, 1) := by decide +kernel
theorem dX1_clear_33 : decode cX1_clear 33 = .ok (.getfield 9, 3) := by decide +kernel
theorem dX1_clear_36 : decode cX1_clear 36 = .ok (.lconst 0, 1) := by decide +kernel
theorem dX1_clear_37 : decode cX1_clear 37 = .ok (.invokestatic 95, 3) := by decide +kernel
theorem dX1_clear_40 : decode cX1_clear 40 = .ok (.aload_n 0, 1) := by decide +kernel
theorem dX1_clear_41 : decode cX1_clear 41 = .ok (.getfield 15, 3) := by decide +kernel
theorem dX1_clear_44 : decode cX1_clear 44 = .ok (.iconst 0, 1) := by decide +kernel
theorem dX1_clear_45 : decode cX1_clear 45 = .ok (.invokestatic 101, 3) := by decide +kernel
theorem dX1_clear_48 : decode cX1_clear 48 = .ok (.aload_n 0, 1) := by decide +kernel
theorem dX1_clear_49 : decode cX1_clear 49 = .ok (.getfield 19, 3) := by decide +kernel
theorem dX1_clear_52 : decode cX1_clear 52 = .ok (.iconst 0, 1) := by decide +kernel
theorem dX1_clear_53 : decode cX1_clear 53 = .ok (.invokestatic 101, 3) := by decide +kernel
theorem dX1_clear_56 : decode cX1_clear 56 = .ok (.aload_n 0, 1) := by decide +kernel
theorem dX1_clear_57 : decode cX1_clear 57 = .ok (.getfield 22, 3) := by decide +kernel
theorem dX1_clear_60 : decode cX1_clear 60 = .ok (.iconst 0, 1) := by decide +kernel
theorem dX1_clear_61 : decode cX1_clear 61 = .ok (.invokestatic 101, 3) := by decide +kernel
theorem dX1_clear_64 : decode cX1_clear 64 = .ok (.aload_n 0, 1) := by decide +kernel
theorem dX1_clear_65 : decode cX1_clear 65 = .ok (.getfield 25, 3) := by decide +kernel
theorem dX1_clear_68 : decode cX1_clear 68 = .ok (.iconst 0, 1) := by decide +kernel
theorem dX1_clear_69 : decode cX1_clear 69 = .ok (.invokestatic 101, 3) := by decide +kernel
theorem dX1_clear_72 : decode cX1_clear 72 = .ok (.return_, 1) := by decide +kernel
theorem dX1_reachEntry_0 : decode cX1_reachEntry 0 = .ok (.aload_n 0, 1) := by decide +kernel
theorem dX1_reachEntry_1 : decode cX1_reachEntry 1 = .ok (.getfield 42, 3) := by decide +kernel
theorem dX1_reachEntry_4 : decode cX1_reachEntry 4 = .ok (.aload_n 0, 1) := by decide +kernel
theorem dX1_reachEntry_5 : decode cX1_reachEntry 5 = .ok (.getfield 32, 3) := by decide +kernel
theorem dX1_reachEntry_8 : decode cX1_reachEntry 8 = .ok (.getfield 104, 3) := by decide +kernel
theorem dX1_reachEntry_11 : decode cX1_reachEntry 11 = .ok (.invokevirtual 107, 3) := by decide +kernel
theorem dX1_reachEntry_14 : decode cX1_reachEntry 14 = .ok (.ifCond .ne 4, 3) := by decide +kernel
theorem dX1_reachEntry_17 : decode cX1_reachEntry 17 = .ok (.return_, 1) := by decide +kernel
theorem dX1_reachEntry_18 : decode cX1_reachEntry 18 = .ok (.aload_n 0, 1) := by decide +kernel
theorem dX1_reachEntry_19 : decode cX1_reachEntry 19 = .ok (.iconst 1, 1) := by decide +kernel
theorem dX1_reachEntry_20 : decode cX1_reachEntry 20 = .ok (.aload_n 0, 1) := by decide +kernel
theorem dX1_reachEntry_21 : decode cX1_reachEntry 21 = .ok (.getfield 32, 3) := by decide +kernel
theorem dX1_reachEntry_24 : decode cX1_reachEntry 24 = .ok (.getfield 104, 3) := by decide +kernel
theorem dX1_reachEntry_27 : decode cX1_reachEntry 27 = .ok (.ishl, 1) := by decide +kernel
theorem dX1_reachEntry_28 : decode cX1_reachEntry 28 = .ok (.putfield 92, 3) := by decide +kernel
theorem dX1_reachEntry_31 : decode cX1_reachEntry 31 = .ok (.iconst 0, 1) := by decide +kernel
theorem dX1_reachEntry_32 : decode cX1_reachEntry 32 = .ok (.istore_n 1, 1) := by decide +kernel
theorem dX1_reachEntry_33 : decode cX1_reachEntry 33 = .ok (.iload_n 1, 1) := by decide +kernel
theorem dX1_reachEntry_34 : decode cX1_reachEntry 34 = .ok (.aload_n 0, 1) := by decide +kernel
theorem dX1_reachEntry_35 : decode cX1_reachEntry 35 = .ok (.getfield 32, 3) := by decide +kernel
theorem dX1_reachEntry_38 : decode cX1_reachEntry 38 = .ok (.invokevirtual 111, 3) := by decide +kernel
theorem dX1_reachEntry_41 : decode cX1_reachEntry 41 = .ok (.if_icmp .ge 55, 3) := by decide +kernel
theorem dX1_reachEntry_44 : decode cX1_reachEntry 44 = .ok (.aload_n 0, 1) := by decide +kernel
theorem dX1_reachEntry_45 : decode cX1_reachEntry 45 = .ok (.getfield 32, 3) := by decide +kernel
theorem dX1_reachEntry_48 : decode cX1_reachEntry 48 = .ok (.getfield 115, 3) := by decide +kernel
theorem dX1_reachEntry_51 : decode cX1_reachEntry 51 = .ok (.iload_n 1, 1) := by decide +kernel
theorem dX1_reachEntry_52 : decode cX1_reachEntry 52 = .ok (.invokestatic 72, 3) := by decide +kernel
theorem dX1_reachEntry_55 : decode cX1_reachEntry 55 = .ok (.istore_n 2, 1) := by decide +kernel
theorem dX1_reachEntry_56 : decode cX1_reachEntry 56 = .ok (.aload_n 0, 1) := by decide +kernel
theorem dX1_reachEntry_57 : decode cX1_reachEntry 57 = .ok (.aload_n 0, 1) := by decide +kernel
theorem dX1_reachEntry_58 : decode cX1_reachEntry 58 = .ok (.getfield 32, 3) := by decide +kernel
theorem dX1_reachEntry_61 : decode cX1_reachEntry 61 = .ok (.getfield 104, 3) := by decide +kernel
theorem dX1_reachEntry_64 : decode cX1_reachEntry 64 = .ok (.iconst 4, 1) := by decide +kernel
theorem dX1_reachEntry_65 : decode cX1_reachEntry 65 = .ok (.imul, 1) := by decide +kernel
theorem dX1_reachEntry_66 : decode cX1_reachEntry 66 = .ok (.iload_n 1, 1) := by decide +kernel
theorem dX1_reachEntry_67 : decode cX1_reachEntry 67 = .ok (.iadd, 1) := by decide +kernel
theorem dX1_reachEntry_68 : decode cX1_reachEntry 68 = .ok (.iload_n 2, 1) := by decide +kernel
theorem dX1_reachEntry_69 : decode cX1_reachEntry 69 = .ok (.invokevirtual 118, 3) := by decide +kernel
theorem dX1_reachEntry_72 : decode cX1_reachEntry 72 = .ok (.aload_n 0, 1) := by decide +kernel
theorem dX1_reachEntry_73 : decode cX1_reachEntry 73 = .ok (.bipush 40, 2) := by decide +kernel
theorem dX1_reachEntry_75 : decode cX1_reachEntry 75 = .ok (.iload_n 2, 1) := by decide +kernel
theorem dX1_reachEntry_76 : decode cX1_reachEntry 76 = .ok (.iconst 2, 1) := by decide +kernel
theorem dX1_reachEntry_77 : decode cX1_reachEntry 77 = .ok (.iand, 1) := by decide +kernel
theorem dX1_reachEntry_78 : decode cX1_reachEntry 78 = .ok (.invokevirtual 118, 3) := by decide +kernel
theorem dX1_reachEntry_81 : decode cX1_reachEntry 81 = .ok (.aload_n 0, 1) := by decide +kernel
theorem dX1_reachEntry_82 : decode cX1_reachEntry 82 = .ok (.bipush 41, 2) := by decide +kernel
theorem dX1_reachEntry_84 : decode cX1_reachEntry 84 = .ok (.iload_n 2, 1) := by decide +kernel
theorem dX1_reachEntry_85 : decode cX1_reachEntry 85 = .ok (.iconst 2, 1) := by decide +kernel
theorem dX1_reachEntry_86 : decode cX1_reachEntry 86 = .ok (.iand, 1) := by decide +kernel
theorem dX1_reachEntry_87 : decode cX1_reachEntry 87 = .ok (.invokevirtual 118, 3) := by decide +kernel
theorem dX1_reachEntry_90 : decode cX1_reachEntry 90 = .ok (.iinc 1 1, 3) := by decide +kernel
theorem dX1_reachEntry_93 : decode cX1_reachEntry 93 = .ok (.goto (-60), 3) := by decide +kernel
theorem dX1_reachEntry_96 : decode cX1_reachEntry 96 = .ok (.return_, 1) := by decide +kernel
theorem dX1_openRoutines_0 : decode cX1_openRoutines 0 = .ok (.iconst 0, 1) := by decide +kernel
theorem dX1_openRoutines_1 : decode cX1_openRoutines 1 = .ok (.istore_n 1, 1) := by decide +kernel
theorem dX1_openRoutines_2 : decode cX1_openRoutines 2 = .ok (.iload_n 1, 1) := by decide +kernel
theorem dX1_openRoutines_3 : decode cX1_openRoutines 3 = .ok (.bipush 8, 2) := by decide +kernel
theorem dX1_openRoutines_5 : decode cX1_openRoutines 5 = .ok (.if_icmp .ge 97, 3) := by decide +kernel
theorem dX1_openRoutines_8 : decode cX1_openRoutines 8 = .ok (.aload_n 0, 1) := by decide +kernel
theorem dX1_openRoutines_9 : decode cX1_openRoutines 9 = .ok (.getfield 92, 3) := by decide +kernel
theorem dX1_openRoutines_12 : decode cX1_openRoutines 12 = .ok (.iload_n 1, 1) := by decide +kernel
theorem dX1_openRoutines_13 : decode cX1_openRoutines 13 = .ok (.ishr, 1) := by decide +kernel
theorem dX1_openRoutines_14 : decode cX1_openRoutines 14 = .ok (.iconst 1, 1) := by decide +kernel
theorem dX1_openRoutines_15 : decode cX1_openRoutines 15 = .ok (.iand, 1) := by decide +kernel
theorem dX1_openRoutines_16 : decode cX1_openRoutines 16 = .ok (.ifCond .eq 80, 3) := by decide +kernel
theorem dX1_openRoutines_19 : decode cX1_openRoutines 19 = .ok (.ldc2_w 122, 3) := by decide +kernel
theorem dX1_openRoutines_22 : decode cX1_openRoutines 22 = .ok (.lstore_n 2, 1) := by decide +kernel
theorem dX1_openRoutines_23 : decode cX1_openRoutines 23 = .ok (.iconst 0, 1) := by decide +kernel
theorem dX1_openRoutines_24 : decode cX1_openRoutines 24 = .ok (.istore 4, 2) := by decide +kernel
theorem dX1_openRoutines_26 : decode cX1_openRoutines 26 = .ok (.iload 4, 2) := by decide +kernel
theorem dX1_openRoutines_28 : decode cX1_openRoutines 28 = .ok (.aload_n 0, 1) := by decide +kernel
theorem dX1_openRoutines_29 : decode cX1_openRoutines 29 = .ok (.getfield 42, 3) := by decide +kernel
theorem dX1_openRoutines_32 : decode cX1_openRoutines 32 = .ok (.getfield 124, 3) := by decide +kernel
theorem dX1_openRoutines_35 : decode cX1_openRoutines 35 = .ok (.iload_n 1, 1) := by decide +kernel
theorem dX1_openRoutines_36 : decode cX1_openRoutines 36 = .ok (.invokestatic 72, 3) := by decide +kernel
theorem dX1_openRoutines_39 : decode cX1_openRoutines 39 = .ok (.if_icmp .ge 41, 3) := by decide +kernel
theorem dX1_openRoutines_42 : decode cX1_openRoutines 42 = .ok (.aload_n 0, 1) := by decide +kernel
theorem dX1_openRoutines_43 : decode cX1_openRoutines 43 = .ok (.getfield 19, 3) := by decide +kernel
theorem dX1_openRoutines_46 : decode cX1_openRoutines 46 = .ok (.iload_n 1, 1) := by decide +kernel
theorem dX1_openRoutines_47 : decode cX1_openRoutines 47 = .ok (.iconst 4, 1) := by decide +kernel
theorem dX1_openRoutines_48 : decode cX1_openRoutines 48 = .ok (.imul, 1) := by decide +kernel
theorem dX1_openRoutines_49 : decode cX1_openRoutines 49 = .ok (.iload 4, 2) := by decide +kernel
theorem dX1_openRoutines_51 : decode cX1_openRoutines 51 = .ok (.iadd, 1) := by decide +kernel
theorem dX1_openRoutines_52 : decode cX1_openRoutines 52 = .ok (.invokestatic 72, 3) := by decide +kernel
theorem dX1_openRoutines_55 : decode cX1_openRoutines 55 = .ok (.istore 5, 2) := by decide +kernel
theorem dX1_openRoutines_57 : decode cX1_openRoutines 57 = .ok (.lload_n 2, 1) := by decide +kernel
theorem dX1_openRoutines_58 : decode cX1_openRoutines 58 = .ok (.aload_n 0, 1) := by decide +kernel
theorem dX1_openRoutines_59 : decode cX1_openRoutines 59 = .ok (.getfield 42, 3) := by decide +kernel
theorem dX1_openRoutines_62 : decode cX1_openRoutines 62 = .ok (.iload_n 1, 1) := by decide +kernel
theorem dX1_openRoutines_63 : decode cX1_openRoutines 63 = .ok (.iload 4, 2) := by decide +kernel
theorem dX1_openRoutines_65 : decode cX1_openRoutines 65 = .ok (.invokevirtual 127, 3) := by decide +kernel
theorem dX1_openRoutines_68 : decode cX1_openRoutines 68 = .ok (.iload 5, 2) := by decide +kernel
theorem dX1_openRoutines_70 : decode cX1_openRoutines 70 = .ok (.invokestatic 131, 3) := by decide +kernel
theorem dX1_openRoutines_73 : decode cX1_openRoutines 73 = .ok (.lstore_n 2, 1) := by decide +kernel
theorem dX1_openRoutines_74 : decode cX1_openRoutines 74 = .ok (.iinc 4 1, 3) := by decide +kernel
theorem dX1_openRoutines_77 : decode cX1_openRoutines 77 = .ok (.goto (-51), 3) := by decide +kernel
theorem dX1_openRoutines_80 : decode cX1_openRoutines 80 = .ok (.aload_n 0, 1) := by decide +kernel
theorem dX1_openRoutines_81 : decode cX1_openRoutines 81 = .ok (.aload_n 0, 1) := by decide +kernel
theorem dX1_openRoutines_82 : decode cX1_openRoutines 82 = .ok (.getfield 42, 3) := by decide +kernel
theorem dX1_openRoutines_85 : decode cX1_openRoutines 85 = .ok (.getfield 135, 3) := by decide +kernel
theorem dX1_openRoutines_88 : decode cX1_openRoutines 88 = .ok (.iload_n 1, 1) := by decide +kernel
theorem dX1_openRoutines_89 : decode cX1_openRoutines 89 = .ok (.invokestatic 72, 3) := by decide +kernel
theorem dX1_openRoutines_92 : decode cX1_openRoutines 92 = .ok (.lload_n 2, 1) := by decide +kernel
theorem dX1_openRoutines_93 : decode cX1_openRoutines 93 = .ok (.invokevirtual 138, 3) := by decide +kernel
theorem dX1_openRoutines_96 : decode cX1_openRoutines 96 = .ok (.iinc 1 1, 3) := by decide +kernel
theorem dX1_openRoutines_99 : decode cX1_openRoutines 99 = .ok (.goto (-97), 3) := by decide +kernel
theorem dX1_openRoutines_102 : decode cX1_openRoutines 102 = .ok (.return_, 1) := by decide +kernel
theorem dX1_advance_0 : decode cX1_advance 0 = .ok (.aload_n 0, 1) := by decide +kernel
theorem dX1_advance_1 : decode cX1_advance 1 = .ok (.getfield 49, 3) := by decide +kernel
theorem dX1_advance_4 : decode cX1_advance 4 = .ok (.iload_n 1, 1) := by decide +kernel
theorem dX1_advance_5 : decode cX1_advance 5 = .ok (.iconst 0, 1) := by decide +kernel
theorem dX1_advance_6 : decode cX1_advance 6 = .ok (.invokevirtual 141, 3) := by decide +kernel
theorem dX1_advance_9 : decode cX1_advance 9 = .ok (.istore 4, 2) := by decide +kernel
theorem dX1_advance_11 : decode cX1_advance 11 = .ok (.iload 4, 2) := by decide +kernel
theorem dX1_advance_13 : decode cX1_advance 13 = .ok (.iconst 1, 1) := by decide +kernel
theorem dX1_advance_14 : decode cX1_advance 14 = .ok (.if_icmp .ne 21, 3) := by decide +kernel
theorem dX1_advance_17 : decode cX1_advance 17 = .ok (.aload_n 0, 1) := by decide +kernel
theorem dX1_advance_18 : decode cX1_advance 18 = .ok (.aload_n 0, 1) := by decide +kernel
theorem dX1_advance_19 : decode cX1_advance 19 = .ok (.getfield 49, 3) := by decide +kernel
theorem dX1_advance_22 : decode cX1_advance 22 = .ok (.iload_n 1, 1) := by decide +kernel
theorem dX1_advance_23 : decode cX1_advance 23 = .ok (.bipush 10, 2) := by decide +kernel
theorem dX1_advance_25 : decode cX1_advance 25 = .ok (.invokevirtual 141, 3) := by decide +kernel
theorem dX1_advance_28 : decode cX1_advance 28 = .ok (.lload_n 2, 1) := by decide +kernel
theorem dX1_advance_29 : decode cX1_advance 29 = .ok (.invokevirtual 138, 3) := by decide +kernel
theorem dX1_advance_32 : decode cX1_advance 32 = .ok (.goto 70, 3) := by decide +kernel
theorem dX1_advance_35 : decode cX1_advance 35 = .ok (.iload 4, 2) := by decide +kernel
theorem dX1_advance_37 : decode cX1_advance 37 = .ok (.ifCond .ne 24, 3) := by decide +kernel
theorem dX1_advance_40 : decode cX1_advance 40 = .ok (.aload_n 0, 1) := by decide +kernel
theorem dX1_advance_41 : decode cX1_advance 41 = .ok (.bipush 32, 2) := by decide +kernel
theorem dX1_advance_43 : decode cX1_advance 43 = .ok (.aload_n 0, 1) := by decide +kernel
theorem dX1_advance_44 : decode cX1_advance 44 = .ok (.getfield 49, 3) := by decide +kernel
theorem dX1_advance_47 : decode cX1_advance 47 = .ok (.iload_n 1, 1) := by decide +kernel
theorem dX1_advance_48 : decode cX1_advance 48 = .ok (.bipush 11, 2) := by decide +kernel
theorem dX1_advance_50 : decode cX1_advance 50 = .ok (.invokevirtual 141, 3) := by decide +kernel
theorem dX1_advance_53 : decode cX1_advance 53 = .ok (.iadd, 1) := by decide +kernel
theorem dX1_advance_54 : decode cX1_advance 54 = .ok (.iconst 1, 1) := by decide +kernel
theorem dX1_advance_55 : decode cX1_advance 55 = .ok (.invokevirtual 118, 3) := by decide +kernel
theorem dX1_advance_58 : decode cX1_advance 58 = .ok (.goto 44, 3) := by decide +kernel
theorem dX1_advance_61 : decode cX1_advance 61 = .ok (.iload 4, 2) := by decide +kernel
theorem dX1_advance_63 : decode cX1_advance 63 = .ok (.iconst 2, 1) := by decide +kernel
theorem dX1_advance_64 : decode cX1_advance 64 = .ok (.if_icmp .ne 12, 3) := by decide +kernel
theorem dX1_advance_67 : decode cX1_advance 67 = .ok (.aload_n 0, 1) := by decide +kernel
theorem dX1_advance_68 : decode cX1_advance 68 = .ok (.iload_n 1, 1) := by decide +kernel
theorem dX1_advance_69 : decode cX1_advance 69 = .ok (.lload_n 2, 1) := by decide +kernel
theorem dX1_advance_70 : decode cX1_advance 70 = .ok (.invokevirtual 144, 3) := by decide +kernel
theorem dX1_advance_73 : decode cX1_advance 73 = .ok (.goto 29, 3) := by decide +kernel
theorem dX1_advance_76 : decode cX1_advance 76 = .ok (.aload_n 0, 1) := by decide +kernel
theorem dX1_advance_77 : decode cX1_advance 77 = .ok (.iload_n 1, 1) := by decide +kernel
theorem dX1_advance_78 : decode cX1_advance 78 = .ok (.lload_n 2, 1) := by decide +kernel
theorem dX1_advance_79 : decode cX1_advance 79 = .ok (.invokevirtual 147, 3) := by decide +kernel
theorem dX1_advance_82 : decode cX1_advance 82 = .ok (.istore 5, 2) := by decide +kernel
theorem dX1_advance_84 : decode cX1_advance 84 = .ok (.aload_n 0, 1) := by decide +kernel
theorem dX1_advance_85 : decode cX1_advance 85 = .ok (.getfield 151, 3) := by decide +kernel
theorem dX1_advance_88 : decode cX1_advance 88 = .ok (.lconst 0, 1) := by decide +kernel
theorem dX1_advance_89 : decode cX1_advance 89 = .ok (.lcmp, 1) := by decide +kernel
theorem dX1_advance_90 : decode cX1_advance 90 = .ok (.ifCond .eq 12, 3) := by decide +kernel
theorem dX1_advance_93 : decode cX1_advance 93 = .ok (.aload_n 0, 1) := by decide +kernel
theorem dX1_advance_94 : decode cX1_advance 94 = .ok (.iload_n 1, 1) := by decide +kernel
theorem dX1_advance_95 : decode cX1_advance 95 = .ok (.iload 4, 2) := by decide +kernel
theorem dX1_advance_97 : decode cX1_advance 97 = .ok (.iload 5, 2) := by decide +kernel
theorem dX1_advance_99 : decode cX1_advance 99 = .ok (.invokevirtual 154, 3) := by decide +kernel
theorem dX1_advance_102 : decode cX1_advance 102 = .ok (.return_, 1) := by decide +kernel
theorem dX1_fork_0 : decode cX1_fork 0 = .ok (.aload_n 0, 1) := by decide +kernel
theorem dX1_fork_1 : decode cX1_fork 1 = .ok (.getfield 49, 3) := by decide +kernel
theorem dX1_fork_4 : decode cX1_fork 4 = .ok (.iload_n 1, 1) := by decide +kernel
theorem dX1_fork_5 : decode cX1_fork 5 = .ok (.iconst 4, 1) := by decide +kernel
theorem dX1_fork_6 : decode cX1_fork 6 = .ok (.invokevirtual 141, 3) := by decide +kernel
theorem dX1_fork_9 : decode cX1_fork 9 = .ok (.istore 4, 2) := by decide +kernel
theorem dX1_fork_11 : decode cX1_fork 11 = .ok (.aload_n 0, 1) := by decide +kernel
theorem dX1_fork_12 : decode cX1_fork 12 = .ok (.getfield 49, 3) := by decide +kernel
theorem dX1_fork_15 : decode cX1_fork 15 = .ok (.iload_n 1, 1) := by decide +kernel
theorem dX1_fork_16 : decode cX1_fork 16 = .ok (.iconst 1, 1) := by decide +kernel
theorem dX1_fork_17 : decode cX1_fork 17 = .ok (.invokevirtual 141, 3) := by decide +kernel
theorem dX1_fork_20 : decode cX1_fork 20 = .ok (.istore 5, 2) := by decide +kernel
theorem dX1_fork_22 : decode cX1_fork 22 = .ok (.lload_n 2, 1) := by decide +kernel
theorem dX1_fork_23 : decode cX1_fork 23 = .ok (.lstore 6, 2) := by decide +kernel
theorem dX1_fork_25 : decode cX1_fork 25 = .ok (.lload_n 2, 1) := by decide +kernel
theorem dX1_fork_26 : decode cX1_fork 26 = .ok (.lstore 8, 2) := by decide +kernel
theorem dX1_fork_28 : decode cX1_fork 28 = .ok (.iload 4, 2) := by decide +kernel
theorem dX1_fork_30 : decode cX1_fork 30 = .ok (.iconst 1, 1) := by decide +kernel
theorem dX1_fork_31 : decode cX1_fork 31 = .ok (.if_icmp .eq 39, 3) := by decide +kernel
theorem dX1_fork_34 : decode cX1_fork 34 = .ok (.iload 4, 2) := by decide +kernel
theorem dX1_fork_36 : decode cX1_fork 36 = .ok (.bipush 6, 2) := by decide +kernel
theorem dX1_fork_38 : decode cX1_fork 38 = .ok (.if_icmp .ne 7, 3) := by decide +kernel
theorem dX1_fork_41 : decode cX1_fork 41 = .ok (.iconst 1, 1) := by decide +kernel
theorem dX1_fork_42 : decode cX1_fork 42 = .ok (.goto 4, 3) := by decide +kernel
theorem dX1_fork_45 : decode cX1_fork 45 = .ok (.iconst 2, 1) := by decide +kernel
theorem dX1_fork_46 : decode cX1_fork 46 = .ok (.istore 10, 2) := by decide +kernel
theorem dX1_fork_48 : decode cX1_fork 48 = .ok (.lload_n 2, 1) := by decide +kernel
theorem dX1_fork_49 : decode cX1_fork 49 = .ok (.iload 5, 2) := by decide +kernel
theorem dX1_fork_51 : decode cX1_fork 51 = .ok (.iload 10, 2) := by decide +kernel
theorem dX1_fork_53 : decode cX1_fork 53 = .ok (.invokestatic 158, 3) := by decide +kernel
theorem dX1_fork_56 : decode cX1_fork 56 = .ok (.lstore 6, 2) := by decide +kernel
theorem dX1_fork_58 : decode cX1_fork 58 = .ok (.lload_n 2, 1) := by decide +kernel
theorem dX1_fork_59 : decode cX1_fork 59 = .ok (.iload 5, 2) := by decide +kernel
theorem dX1_fork_61 : decode cX1_fork 61 = .ok (.iconst 3, 1) := by decide +kernel
theorem dX1_fork_62 : decode cX1_fork 62 = .ok (.iload 10, 2) := by decide +kernel
theorem dX1_fork_64 : decode cX1_fork 64 = .ok (.isub, 1) := by decide +kernel
theorem dX1_fork_65 : decode cX1_fork 65 = .ok (.invokestatic 158, 3) := by decide +kernel
theorem dX1_fork_68 : decode cX1_fork 68 = .ok (.lstore 8, 2) := by decide +kernel
theorem dX1_fork_70 : decode cX1_fork 70 = .ok (.lload 6, 2) := by decide +kernel
theorem dX1_fork_72 : decode cX1_fork 72 = .ok (.lconst 0, 1) := by decide +kernel
theorem dX1_fork_73 : decode cX1_fork 73 = .ok (.lcmp, 1) := by decide +kernel
theorem dX1_fork_74 : decode cX1_fork 74 = .ok (.ifCond .eq 7, 3) := by decide +kernel
theorem dX1_fork_77 : decode cX1_fork 77 = .ok (.iconst 1, 1) := by decide +kernel
theorem dX1_fork_78 : decode cX1_fork 78 = .ok (.goto 4, 3) := by decide +kernel
theorem dX1_fork_81 : decode cX1_fork 81 = .ok (.iconst 0, 1) := by decide +kernel
theorem dX1_fork_82 : decode cX1_fork 82 = .ok (.lload 8, 2) := by decide +kernel
theorem dX1_fork_84 : decode cX1_fork 84 = .ok (.lconst 0, 1) := by decide +kernel
theorem dX1_fork_85 : decode cX1_fork 85 = .ok (.lcmp, 1) := by decide +kernel
theorem dX1_fork_86 : decode cX1_fork 86 = .ok (.ifCond .eq 7, 3) := by decide +kernel
theorem dX1_fork_89 : decode cX1_fork 89 = .ok (.iconst 2, 1) := by decide +kernel
theorem dX1_fork_90 : decode cX1_fork 90 = .ok (.goto 4, 3) := by decide +kernel
theorem dX1_fork_93 : decode cX1_fork 93 = .ok (.iconst 0, 1) := by decide +kernel
theorem dX1_fork_94 : decode cX1_fork 94 = .ok (.ior, 1) := by decide +kernel
theorem dX1_fork_95 : decode cX1_fork 95 = .ok (.istore 10, 2) := by decide +kernel
theorem dX1_fork_97 : decode cX1_fork 97 = .ok (.aload_n 0, 1) := by decide +kernel
theorem dX1_fork_98 : decode cX1_fork 98 = .ok (.getfield 49, 3) := by decide +kernel
theorem dX1_fork_101 : decode cX1_fork 101 = .ok (.iload_n 1, 1) := by decide +kernel
theorem dX1_fork_102 : decode cX1_fork 102 = .ok (.iconst 3, 1) := by decide +kernel
theorem dX1_fork_103 : decode cX1_fork 103 = .ok (.invokevirtual 141, 3) := by decide +kernel
theorem dX1_fork_106 : decode cX1_fork 106 = .ok (.istore 11, 2) := by decide +kernel
theorem dX1_fork_108 : decode cX1_fork 108 = .ok (.aload_n 0, 1) := by decide +kernel
theorem dX1_fork_109 : decode cX1_fork 109 = .ok (.getfield 25, 3) := by decide +kernel
theorem dX1_fork_112 : decode cX1_fork 112 = .ok (.iload 11, 2) := by decide +kernel
theorem dX1_fork_114 : decode cX1_fork 114 = .ok (.aload_n 0, 1) := by decide +kernel
theorem dX1_fork_115 : decode cX1_fork 115 = .ok (.getfield 25, 3) := by decide +kernel
theorem dX1_fork_118 : decode cX1_fork 118 = .ok (.iload 11, 2) := by decide +kernel
theorem dX1_fork_120 : decode cX1_fork 120 = .ok (.invokestatic 72, 3) := by decide +kernel
theorem dX1_fork_123 : decode cX1_fork 123 = .ok (.iload 10, 2) := by decide +kernel
theorem dX1_fork_125 : decode cX1_fork 125 = .ok (.ior, 1) := by decide +kernel
theorem dX1_fork_126 : decode cX1_fork 126 = .ok (.invokestatic 81, 3) := by decide +kernel
theorem dX1_fork_129 : decode cX1_fork 129 = .ok (.aload_n 0, 1) := by decide +kernel
theorem dX1_fork_130 : decode cX1_fork 130 = .ok (.iload_n 1, 1) := by decide +kernel
theorem dX1_fork_131 : decode cX1_fork 131 = .ok (.iconst 1, 1) := by decide +kernel
theorem dX1_fork_132 : decode cX1_fork 132 = .ok (.iadd, 1) := by decide +kernel
theorem dX1_fork_133 : decode cX1_fork 133 = .ok (.lload 6, 2) := by decide +kernel
theorem dX1_fork_135 : decode cX1_fork 135 = .ok (.invokevirtual 138, 3) := by decide +kernel
theorem dX1_fork_138 : decode cX1_fork 138 = .ok (.aload_n 0, 1) := by decide +kernel
theorem dX1_fork_139 : decode cX1_fork 139 = .ok (.aload_n 0, 1) := by decide +kernel
theorem dX1_fork_140 : decode cX1_fork 140 = .ok (.getfield 49, 3) := by decide +kernel
theorem dX1_fork_143 : decode cX1_fork 143 = .ok (.iload_n 1, 1) := by decide +kernel
theorem dX1_fork_144 : decode cX1_fork 144 = .ok (.bipush 10, 2) := by decide +kernel
theorem dX1_fork_146 : decode cX1_fork 146 = .ok (.invokevirtual 141, 3) := by decide +kernel
theorem dX1_fork_149 : decode cX1_fork 149 = .ok (.lload 8, 2) := by decide +kernel
theorem dX1_fork_151 : decode cX1_fork 151 = .ok (.invokevirtual 138, 3) := by decide +kernel
theorem dX1_fork_154 : decode cX1_fork 154 = .ok (.return_, 1) := by decide +kernel
theorem dX1_work_0 : decode cX1_work 0 = .ok (.aload_n 0, 1) := by decide +kernel
theorem dX1_work_1 : decode cX1_work 1 = .ok (.getfield 49, 3) := by decide +kernel
theorem dX1_work_4 : decode cX1_work 4 = .ok (.iload_n 1, 1) := by decide +kernel
theorem dX1_work_5 : decode cX1_work 5 = .ok (.iconst 5, 1) := by decide +kernel
theorem dX1_work_6 : decode cX1_work 6 = .ok (.invokevirtual 141, 3) := by decide +kernel
theorem dX1_work_9 : decode cX1_work 9 = .ok (.istore 4, 2) := by decide +kernel
theorem dX1_work_11 : decode cX1_work 11 = .ok (.aload_n 0, 1) := by decide +kernel
theorem dX1_work_12 : decode cX1_work 12 = .ok (.getfield 49, 3) := by decide +kernel
theorem dX1_work_15 : decode cX1_work 15 = .ok (.iload_n 1, 1) := by decide +kernel
theorem dX1_work_16 : decode cX1_work 16 = .ok (.bipush 6, 2) := by decide +kernel
theorem dX1_work_18 : decode cX1_work 18 = .ok (.invokevirtual 141, 3) := by decide +kernel
theorem dX1_work_21 : decode cX1_work 21 = .ok (.istore 5, 2) := by decide +kernel
theorem dX1_work_23 : decode cX1_work 23 = .ok (.aload_n 0, 1) := by decide +kernel
theorem dX1_work_24 : decode cX1_work 24 = .ok (.lload_n 2, 1) := by decide +kernel
theorem dX1_work_25 : decode cX1_work 25 = .ok (.putfield 151, 3) := by decide +kernel
theorem dX1_work_28 : decode cX1_work 28 = .ok (.aload_n 0, 1) := by decide +kernel
theorem dX1_work_29 : decode cX1_work 29 = .ok (.getfield 49, 3) := by decide +kernel
theorem dX1_work_32 : decode cX1_work 32 = .ok (.iload_n 1, 1) := by decide +kernel
theorem dX1_work_33 : decode cX1_work 33 = .ok (.iconst 4, 1) := by decide +kernel
theorem dX1_work_34 : decode cX1_work 34 = .ok (.invokevirtual 141, 3) := by decide +kernel
theorem dX1_work_37 : decode cX1_work 37 = .ok (.tableswitch 137 1 5 #[35, 51, 77, 84, 128], 35) := by decide +kernel
theorem dX1_work_72 : decode cX1_work 72 = .ok (.aload_n 0, 1) := by decide +kernel
theorem dX1_work_73 : decode cX1_work 73 = .ok (.bipush 40, 2) := by decide +kernel
theorem dX1_work_75 : decode cX1_work 75 = .ok (.iconst 2, 1) := by decide +kernel
theorem dX1_work_76 : decode cX1_work 76 = .ok (.invokevirtual 118, 3) := by decide +kernel
theorem dX1_work_79 : decode cX1_work 79 = .ok (.aload_n 0, 1) := by decide +kernel
theorem dX1_work_80 : decode cX1_work 80 = .ok (.bipush 41, 2) := by decide +kernel
theorem dX1_work_82 : decode cX1_work 82 = .ok (.iconst 2, 1) := by decide +kernel
theorem dX1_work_83 : decode cX1_work 83 = .ok (.invokevirtual 118, 3) := by decide +kernel
theorem dX1_work_86 : decode cX1_work 86 = .ok (.iconst 3, 1) := by decide +kernel
theorem dX1_work_87 : decode cX1_work 87 = .ok (.ireturn, 1) := by decide +kernel
theorem dX1_work_88 : decode cX1_work 88 = .ok (.aload_n 0, 1) := by decide +kernel
theorem dX1_work_89 : decode cX1_work 89 = .ok (.bipush 40, 2) := by decide +kernel
theorem dX1_work_91 : decode cX1_work 91 = .ok (.lload_n 2, 1) := by decide +kernel
theorem dX1_work_92 : decode cX1_work 92 = .ok (.iload 4, 2) := by decide +kernel
theorem dX1_work_94 : decode cX1_work 94 = .ok (.invokestatic 161, 3) := by decide +kernel
theorem dX1_work_97 : decode cX1_work 97 = .ok (.invokevirtual 118, 3) := by decide +kernel
theorem dX1_work_100 : decode cX1_work 100 = .ok (.aload_n 0, 1) := by decide +kernel
theorem dX1_work_101 : decode cX1_work 101 = .ok (.bipush 41, 2) := by decide +kernel
theorem dX1_work_103 : decode cX1_work 103 = .ok (.lload_n 2, 1) := by decide +kernel
theorem dX1_work_104 : decode cX1_work 104 = .ok (.iload 5, 2) := by decide +kernel
theorem dX1_work_106 : decode cX1_work 106 = .ok (.invokestatic 161, 3) := by decide +kernel
theorem dX1_work_109 : decode cX1_work 109 = .ok (.invokevirtual 118, 3) := by decide +kernel
theorem dX1_work_112 : decode cX1_work 112 = .ok (.iconst 2, 1) := by decide +kernel
theorem dX1_work_113 : decode cX1_work 113 = .ok (.ireturn, 1) := by decide +kernel
theorem dX1_work_114 : decode cX1_work 114 = .ok (.lload_n 2, 1) := by decide +kernel
theorem dX1_work_115 : decode cX1_work 115 = .ok (.iload 4, 2) := by decide +kernel
theorem dX1_work_117 : decode cX1_work 117 = .ok (.invokestatic 161, 3) := by decide +kernel
theorem dX1_work_120 : decode cX1_work 120 = .ok (.ireturn, 1) := by decide +kernel
theorem dX1_work_121 : decode cX1_work 121 = .ok (.aload_n 0, 1) := by decide +kernel
theorem dX1_work_122 : decode cX1_work 122 = .ok (.aload_n 0, 1) := by decide +kernel
theorem dX1_work_123 : decode cX1_work 123 = .ok (.getfield 49, 3) := by decide +kernel
theorem dX1_work_126 : decode cX1_work 126 = .ok (.iload_n 1, 1) := by decide +kernel
theorem dX1_work_127 : decode cX1_work 127 = .ok (.bipush 7, 2) := by decide +kernel
theorem dX1_work_129 : decode cX1_work 129 = .ok (.invokevirtual 141, 3) := by decide +kernel
theorem dX1_work_132 : decode cX1_work 132 = .ok (.lload_n 2, 1) := by decide +kernel
theorem dX1_work_133 : decode cX1_work 133 = .ok (.iload 4, 2) := by decide +kernel
theorem dX1_work_135 : decode cX1_work 135 = .ok (.invokestatic 161, 3) := by decide +kernel
theorem dX1_work_138 : decode cX1_work 138 = .ok (.invokevirtual 165, 3) := by decide +kernel
theorem dX1_work_141 : decode cX1_work 141 = .ok (.aload_n 0, 1) := by decide +kernel
theorem dX1_work_142 : decode cX1_work 142 = .ok (.lload_n 2, 1) := by decide +kernel
theorem dX1_work_143 : decode cX1_work 143 = .ok (.iload 4, 2) := by decide +kernel
theorem dX1_work_145 : decode cX1_work 145 = .ok (.iconst 2, 1) := by decide +kernel
theorem dX1_work_146 : decode cX1_work 146 = .ok (.invokestatic 158, 3) := by decide +kernel
theorem dX1_work_149 : decode cX1_work 149 = .ok (.putfield 151, 3) := by decide +kernel
theorem dX1_work_152 : decode cX1_work 152 = .ok (.aload_n 0, 1) := by decide +kernel
theorem dX1_work_153 : decode cX1_work 153 = .ok (.getfield 19, 3) := by decide +kernel
theorem dX1_work_156 : decode cX1_work 156 = .ok (.bipush 40, 2) := by decide +kernel
theorem dX1_work_158 : decode cX1_work 158 = .ok (.iload 5, 2) := by decide +kernel
theorem dX1_work_160 : decode cX1_work 160 = .ok (.iadd, 1) := by decide +kernel
theorem dX1_work_161 : decode cX1_work 161 = .ok (.invokestatic 72, 3) := by decide +kernel
theorem dX1_work_164 : decode cX1_work 164 = .ok (.ireturn, 1) := by decide +kernel
theorem dX1_work_165 : decode cX1_work 165 = .ok (.aload_n 0, 1) := by decide +kernel
theorem dX1_work_166 : decode cX1_work 166 = .ok (.iload_n 1, 1) := by decide +kernel
theorem dX1_work_167 : decode cX1_work 167 = .ok (.lload_n 2, 1) := by decide +kernel
theorem dX1_work_168 : decode cX1_work 168 = .ok (.iload 5, 2) := by decide +kernel
theorem dX1_work_170 : decode cX1_work 170 = .ok (.invokevirtual 168, 3) := by decide +kernel
theorem dX1_work_173 : decode cX1_work 173 = .ok (.ireturn, 1) := by decide +kernel
theorem dX1_work_174 : decode cX1_work 174 = .ok (.iconst 1, 1) := by decide +kernel
theorem dX1_work_175 : decode cX1_work 175 = .ok (.ireturn, 1) := by decide +kernel
theorem dX1_workCall_0 : decode cX1_workCall 0 = .ok (.aload_n 0, 1) := by decide +kernel
theorem dX1_workCall_1 : decode cX1_workCall 1 = .ok (.getfield 92, 3) := by decide +kernel
theorem dX1_workCall_4 : decode cX1_workCall 4 = .ok (.iload 4, 2) := by decide +kernel
theorem dX1_workCall_6 : decode cX1_workCall 6 = .ok (.ishr, 1) := by decide +kernel
theorem dX1_workCall_7 : decode cX1_workCall 7 = .ok (.iconst 1, 1) := by decide +kernel
theorem dX1_workCall_8 : decode cX1_workCall 8 = .ok (.iand, 1) := by decide +kernel
theorem dX1_workCall_9 : decode cX1_workCall 9 = .ok (.ifCond .ne 21, 3) := by decide +kernel
theorem dX1_workCall_12 : decode cX1_workCall 12 = .ok (.aload_n 0, 1) := by decide +kernel
theorem dX1_workCall_13 : decode cX1_workCall 13 = .ok (.dup, 1) := by decide +kernel
theorem dX1_workCall_14 : decode cX1_workCall 14 = .ok (.getfield 92, 3) := by decide +kernel
theorem dX1_workCall_17 : decode cX1_workCall 17 = .ok (.iconst 1, 1) := by decide +kernel
theorem dX1_workCall_18 : decode cX1_workCall 18 = .ok (.iload 4, 2) := by decide +kernel
theorem dX1_workCall_20 : decode cX1_workCall 20 = .ok (.ishl, 1) := by decide +kernel
theorem dX1_workCall_21 : decode cX1_workCall 21 = .ok (.ior, 1) := by decide +kernel
theorem dX1_workCall_22 : decode cX1_workCall 22 = .ok (.putfield 92, 3) := by decide +kernel
theorem dX1_workCall_25 : decode cX1_workCall 25 = .ok (.aload_n 0, 1) := by decide +kernel
theorem dX1_workCall_26 : decode cX1_workCall 26 = .ok (.iconst 1, 1) := by decide +kernel
theorem dX1_workCall_27 : decode cX1_workCall 27 = .ok (.putfield 60, 3) := by decide +kernel
theorem dX1_workCall_30 : decode cX1_workCall 30 = .ok (.iconst 0, 1) := by decide +kernel
theorem dX1_workCall_31 : decode cX1_workCall 31 = .ok (.istore 5, 2) := by decide +kernel
theorem dX1_workCall_33 : decode cX1_workCall 33 = .ok (.iload 5, 2) := by decide +kernel
theorem dX1_workCall_35 : decode cX1_workCall 35 = .ok (.aload_n 0, 1) := by decide +kernel
theorem dX1_workCall_36 : decode cX1_workCall 36 = .ok (.getfield 49, 3) := by decide +kernel
theorem dX1_workCall_39 : decode cX1_workCall 39 = .ok (.iload_n 1, 1) := by decide +kernel
theorem dX1_workCall_40 : decode cX1_workCall 40 = .ok (.invokevirtual 172, 3) := by decide +kernel
theorem dX1_workCall_43 : decode cX1_workCall 43 = .ok (.if_icmp .ge 34, 3) := by decide +kernel
theorem dX1_workCall_46 : decode cX1_workCall 46 = .ok (.aload_n 0, 1) := by decide +kernel
theorem dX1_workCall_47 : decode cX1_workCall 47 = .ok (.iload 4, 2) := by decide +kernel
theorem dX1_workCall_49 : decode cX1_workCall 49 = .ok (.iconst 4, 1) := by decide +kernel
theorem dX1_workCall_50 : decode cX1_workCall 50 = .ok (.imul, 1) := by decide +kernel
theorem dX1_workCall_51 : decode cX1_workCall 51 = .ok (.iload 5, 2) := by decide +kernel
theorem dX1_workCall_53 : decode cX1_workCall 53 = .ok (.iadd, 1) := by decide +kernel
theorem dX1_workCall_54 : decode cX1_workCall 54 = .ok (.lload_n 2, 1) := by decide +kernel
theorem dX1_workCall_55 : decode cX1_workCall 55 = .ok (.aload_n 0, 1) := by decide +kernel
theorem dX1_workCall_56 : decode cX1_workCall 56 = .ok (.getfield 49, 3) := by decide +kernel
theorem dX1_workCall_59 : decode cX1_workCall 59 = .ok (.iload_n 1, 1) := by decide +kernel
theorem dX1_workCall_60 : decode cX1_workCall 60 = .ok (.iload 5, 2) := by decide +kernel
theorem dX1_workCall_62 : decode cX1_workCall 62 = .ok (.invokevirtual 176, 3) := by decide +kernel
theorem dX1_workCall_65 : decode cX1_workCall 65 = .ok (.invokestatic 161, 3) := by decide +kernel
theorem dX1_workCall_68 : decode cX1_workCall 68 = .ok (.invokevirtual 118, 3) := by decide +kernel
theorem dX1_workCall_71 : decode cX1_workCall 71 = .ok (.iinc 5 1, 3) := by decide +kernel
theorem dX1_workCall_74 : decode cX1_workCall 74 = .ok (.goto (-41), 3) := by decide +kernel
theorem dX1_workCall_77 : decode cX1_workCall 77 = .ok (.aload_n 0, 1) := by decide +kernel
theorem dX1_workCall_78 : decode cX1_workCall 78 = .ok (.getfield 19, 3) := by decide +kernel
theorem dX1_workCall_81 : decode cX1_workCall 81 = .ok (.bipush 32, 2) := by decide +kernel
theorem dX1_workCall_83 : decode cX1_workCall 83 = .ok (.iload 4, 2) := by decide +kernel
theorem dX1_workCall_85 : decode cX1_workCall 85 = .ok (.iadd, 1) := by decide +kernel
theorem dX1_workCall_86 : decode cX1_workCall 86 = .ok (.invokestatic 72, 3) := by decide +kernel
theorem dX1_workCall_89 : decode cX1_workCall 89 = .ok (.istore 5, 2) := by decide +kernel
theorem dX1_workCall_91 : decode cX1_workCall 91 = .ok (.iload 5, 2) := by decide +kernel
theorem dX1_workCall_93 : decode cX1_workCall 93 = .ok (.ifCond .ne 8, 3) := by decide +kernel
theorem dX1_workCall_96 : decode cX1_workCall 96 = .ok (.aload_n 0, 1) := by decide +kernel
theorem dX1_workCall_97 : decode cX1_workCall 97 = .ok (.lconst 0, 1) := by decide +kernel
theorem dX1_workCall_98 : decode cX1_workCall 98 = .ok (.putfield 151, 3) := by decide +kernel
theorem dX1_workCall_101 : decode cX1_workCall 101 = .ok (.iload 5, 2) := by decide +kernel
theorem dX1_workCall_103 : decode cX1_workCall 103 = .ok (.ireturn, 1) := by decide +kernel
theorem dX1_finish_0 : decode cX1_finish 0 = .ok (.aload_n 0, 1) := by decide +kernel
theorem dX1_finish_1 : decode cX1_finish 1 = .ok (.getfield 49, 3) := by decide +kernel
theorem dX1_finish_4 : decode cX1_finish 4 = .ok (.iload_n 1, 1) := by decide +kernel
theorem dX1_finish_5 : decode cX1_finish 5 = .ok (.iconst 1, 1) := by decide +kernel
theorem dX1_finish_6 : decode cX1_finish 6 = .ok (.invokevirtual 141, 3) := by decide +kernel
theorem dX1_finish_9 : decode cX1_finish 9 = .ok (.istore 4, 2) := by decide +kernel
theorem dX1_finish_11 : decode cX1_finish 11 = .ok (.iload_n 2, 1) := by decide +kernel
theorem dX1_finish_12 : decode cX1_finish 12 = .ok (.iconst 3, 1) := by decide +kernel
theorem dX1_finish_13 : decode cX1_finish 13 = .ok (.if_icmp .ne 23, 3) := by decide +kernel
theorem dX1_finish_16 : decode cX1_finish 16 = .ok (.aload_n 0, 1) := by decide +kernel
theorem dX1_finish_17 : decode cX1_finish 17 = .ok (.iload_n 1, 1) := by decide +kernel
theorem dX1_finish_18 : decode cX1_finish 18 = .ok (.iconst 1, 1) := by decide +kernel
theorem dX1_finish_19 : decode cX1_finish 19 = .ok (.iadd, 1) := by decide +kernel
theorem dX1_finish_20 : decode cX1_finish 20 = .ok (.aload_n 0, 1) := by decide +kernel
theorem dX1_finish_21 : decode cX1_finish 21 = .ok (.getfield 151, 3) := by decide +kernel
theorem dX1_finish_24 : decode cX1_finish 24 = .ok (.iload 4, 2) := by decide +kernel
theorem dX1_finish_26 : decode cX1_finish 26 = .ok (.iload_n 3, 1) := by decide +kernel
theorem dX1_finish_27 : decode cX1_finish 27 = .ok (.invokestatic 131, 3) := by decide +kernel
theorem dX1_finish_30 : decode cX1_finish 30 = .ok (.invokevirtual 138, 3) := by decide +kernel
theorem dX1_finish_33 : decode cX1_finish 33 = .ok (.goto 122, 3) := by decide +kernel
theorem dX1_finish_36 : decode cX1_finish 36 = .ok (.iload_n 2, 1) := by decide +kernel
theorem dX1_finish_37 : decode cX1_finish 37 = .ok (.iconst 4, 1) := by decide +kernel
theorem dX1_finish_38 : decode cX1_finish 38 = .ok (.if_icmp .ne 79, 3) := by decide +kernel
theorem dX1_finish_41 : decode cX1_finish 41 = .ok (.aload_n 0, 1) := by decide +kernel
theorem dX1_finish_42 : decode cX1_finish 42 = .ok (.aload_n 0, 1) := by decide +kernel
theorem dX1_finish_43 : decode cX1_finish 43 = .ok (.getfield 49, 3) := by decide +kernel
theorem dX1_finish_46 : decode cX1_finish 46 = .ok (.iload_n 1, 1) := by decide +kernel
theorem dX1_finish_47 : decode cX1_finish 47 = .ok (.iconst 3, 1) := by decide +kernel
theorem dX1_finish_48 : decode cX1_finish 48 = .ok (.invokevirtual 141, 3) := by decide +kernel
theorem dX1_finish_51 : decode cX1_finish 51 = .ok (.aload_n 0, 1) := by decide +kernel
theorem dX1_finish_52 : decode cX1_finish 52 = .ok (.getfield 151, 3) := by decide +kernel
theorem dX1_finish_55 : decode cX1_finish 55 = .ok (.iload 4, 2) := by decide +kernel
theorem dX1_finish_57 : decode cX1_finish 57 = .ok (.invokestatic 161, 3) := by decide +kernel
theorem dX1_finish_60 : decode cX1_finish 60 = .ok (.invokevirtual 165, 3) := by decide +kernel
theorem dX1_finish_63 : decode cX1_finish 63 = .ok (.aload_n 0, 1) := by decide +kernel
theorem dX1_finish_64 : decode cX1_finish 64 = .ok (.aload_n 0, 1) := by decide +kernel
theorem dX1_finish_65 : decode cX1_finish 65 = .ok (.getfield 151, 3) := by decide +kernel
theorem dX1_finish_68 : decode cX1_finish 68 = .ok (.iload 4, 2) := by decide +kernel
theorem dX1_finish_70 : decode cX1_finish 70 = .ok (.iconst 2, 1) := by decide +kernel
theorem dX1_finish_71 : decode cX1_finish 71 = .ok (.invokestatic 158, 3) := by decide +kernel
theorem dX1_finish_74 : decode cX1_finish 74 = .ok (.putfield 151, 3) := by decide +kernel
theorem dX1_finish_77 : decode cX1_finish 77 = .ok (.aload_n 0, 1) := by decide +kernel
theorem dX1_finish_78 : decode cX1_finish 78 = .ok (.getfield 151, 3) := by decide +kernel
theorem dX1_finish_81 : decode cX1_finish 81 = .ok (.lconst 0, 1) := by decide +kernel
theorem dX1_finish_82 : decode cX1_finish 82 = .ok (.lcmp, 1) := by decide +kernel
theorem dX1_finish_83 : decode cX1_finish 83 = .ok (.ifCond .eq 72, 3) := by decide +kernel
theorem dX1_finish_86 : decode cX1_finish 86 = .ok (.aload_n 0, 1) := by decide +kernel
theorem dX1_finish_87 : decode cX1_finish 87 = .ok (.bipush 40, 2) := by decide +kernel
theorem dX1_finish_89 : decode cX1_finish 89 = .ok (.aload_n 0, 1) := by decide +kernel
theorem dX1_finish_90 : decode cX1_finish 90 = .ok (.getfield 49, 3) := by decide +kernel
theorem dX1_finish_93 : decode cX1_finish 93 = .ok (.iload_n 1, 1) := by decide +kernel
theorem dX1_finish_94 : decode cX1_finish 94 = .ok (.iconst 2, 1) := by decide +kernel
theorem dX1_finish_95 : decode cX1_finish 95 = .ok (.invokevirtual 141, 3) := by decide +kernel
theorem dX1_finish_98 : decode cX1_finish 98 = .ok (.iadd, 1) := by decide +kernel
theorem dX1_finish_99 : decode cX1_finish 99 = .ok (.iload_n 3, 1) := by decide +kernel
theorem dX1_finish_100 : decode cX1_finish 100 = .ok (.invokevirtual 118, 3) := by decide +kernel
theorem dX1_finish_103 : decode cX1_finish 103 = .ok (.aload_n 0, 1) := by decide +kernel
theorem dX1_finish_104 : decode cX1_finish 104 = .ok (.iload_n 1, 1) := by decide +kernel
theorem dX1_finish_105 : decode cX1_finish 105 = .ok (.iconst 1, 1) := by decide +kernel
theorem dX1_finish_106 : decode cX1_finish 106 = .ok (.iadd, 1) := by decide +kernel
theorem dX1_finish_107 : decode cX1_finish 107 = .ok (.aload_n 0, 1) := by decide +kernel
theorem dX1_finish_108 : decode cX1_finish 108 = .ok (.getfield 151, 3) := by decide +kernel
theorem dX1_finish_111 : decode cX1_finish 111 = .ok (.invokevirtual 138, 3) := by decide +kernel
theorem dX1_finish_114 : decode cX1_finish 114 = .ok (.goto 41, 3) := by decide +kernel
theorem dX1_finish_117 : decode cX1_finish 117 = .ok (.iload_n 2, 1) := by decide +kernel
theorem dX1_finish_118 : decode cX1_finish 118 = .ok (.bipush 6, 2) := by decide +kernel
theorem dX1_finish_120 : decode cX1_finish 120 = .ok (.if_icmp .ne 24, 3) := by decide +kernel
theorem dX1_finish_123 : decode cX1_finish 123 = .ok (.aload_n 0, 1) := by decide +kernel
theorem dX1_finish_124 : decode cX1_finish 124 = .ok (.bipush 32, 2) := by decide +kernel
theorem dX1_finish_126 : decode cX1_finish 126 = .ok (.aload_n 0, 1) := by decide +kernel
theorem dX1_finish_127 : decode cX1_finish 127 = .ok (.getfield 49, 3) := by decide +kernel
theorem dX1_finish_130 : decode cX1_finish 130 = .ok (.iload_n 1, 1) := by decide +kernel
theorem dX1_finish_131 : decode cX1_finish 131 = .ok (.bipush 11, 2) := by decide +kernel
theorem dX1_finish_133 : decode cX1_finish 133 = .ok (.invokevirtual 141, 3) := by decide +kernel
theorem dX1_finish_136 : decode cX1_finish 136 = .ok (.iadd, 1) := by decide +kernel
theorem dX1_finish_137 : decode cX1_finish 137 = .ok (.iload_n 3, 1) := by decide +kernel
theorem dX1_finish_138 : decode cX1_finish 138 = .ok (.invokevirtual 118, 3) := by decide +kernel
theorem dX1_finish_141 : decode cX1_finish 141 = .ok (.goto 14, 3) := by decide +kernel
theorem dX1_finish_144 : decode cX1_finish 144 = .ok (.aload_n 0, 1) := by decide +kernel
theorem dX1_finish_145 : decode cX1_finish 145 = .ok (.iload_n 1, 1) := by decide +kernel
theorem dX1_finish_146 : decode cX1_finish 146 = .ok (.iconst 1, 1) := by decide +kernel
theorem dX1_finish_147 : decode cX1_finish 147 = .ok (.iadd, 1) := by decide +kernel
theorem dX1_finish_148 : decode cX1_finish 148 = .ok (.aload_n 0, 1) := by decide +kernel
theorem dX1_finish_149 : decode cX1_finish 149 = .ok (.getfield 151, 3) := by decide +kernel
theorem dX1_finish_152 : decode cX1_finish 152 = .ok (.invokevirtual 138, 3) := by decide +kernel
theorem dX1_finish_155 : decode cX1_finish 155 = .ok (.return_, 1) := by decide +kernel
theorem dX1_noteUse_0 : decode cX1_noteUse 0 = .ok (.aload_n 0, 1) := by decide +kernel
theorem dX1_noteUse_1 : decode cX1_noteUse 1 = .ok (.getfield 22, 3) := by decide +kernel
theorem dX1_noteUse_4 : decode cX1_noteUse 4 = .ok (.iload_n 1, 1) := by decide +kernel
theorem dX1_noteUse_5 : decode cX1_noteUse 5 = .ok (.aload_n 0, 1) := by decide +kernel
theorem dX1_noteUse_6 : decode cX1_noteUse 6 = .ok (.getfield 22, 3) := by decide +kernel
theorem dX1_noteUse_9 : decode cX1_noteUse 9 = .ok (.iload_n 1, 1) := by decide +kernel
theorem dX1_noteUse_10 : decode cX1_noteUse 10 = .ok (.invokestatic 72, 3) := by decide +kernel
theorem dX1_noteUse_13 : decode cX1_noteUse 13 = .ok (.iload_n 2, 1) := by decide +kernel
theorem dX1_noteUse_14 : decode cX1_noteUse 14 = .ok (.ior, 1) := by decide +kernel
theorem dX1_noteUse_15 : decode cX1_noteUse 15 = .ok (.invokestatic 81, 3) := by decide +kernel
theorem dX1_noteUse_18 : decode cX1_noteUse 18 = .ok (.return_, 1) := by decide +kernel
theorem dX1_raise_0 : decode cX1_raise 0 = .ok (.aload_n 0, 1) := by decide +kernel
theorem dX1_raise_1 : decode cX1_raise 1 = .ok (.getfield 50, 3) := by decide +kernel
theorem dX1_raise_4 : decode cX1_raise 4 = .ok (.iload_n 1, 1) := by decide +kernel
theorem dX1_raise_5 : decode cX1_raise 5 = .ok (.lshr, 1) := by decide +kernel
theorem dX1_raise_6 : decode cX1_raise 6 = .ok (.lconst 1, 1) := by decide +kernel
theorem dX1_raise_7 : decode cX1_raise 7 = .ok (.land, 1) := by decide +kernel
theorem dX1_raise_8 : decode cX1_raise 8 = .ok (.lconst 0, 1) := by decide +kernel
theorem dX1_raise_9 : decode cX1_raise 9 = .ok (.lcmp, 1) := by decide +kernel
theorem dX1_raise_10 : decode cX1_raise 10 = .ok (.ifCond .eq 9, 3) := by decide +kernel
theorem dX1_raise_13 : decode cX1_raise 13 = .ok (.iload_n 2, 1) := by decide +kernel
theorem dX1_raise_14 : decode cX1_raise 14 = .ok (.iconst 2, 1) := by decide +kernel
theorem dX1_raise_15 : decode cX1_raise 15 = .ok (.iand, 1) := by decide +kernel
theorem dX1_raise_16 : decode cX1_raise 16 = .ok (.goto 4, 3) := by decide +kernel
theorem dX1_raise_19 : decode cX1_raise 19 = .ok (.iload_n 2, 1) := by decide +kernel
theorem dX1_raise_20 : decode cX1_raise 20 = .ok (.istore_n 3, 1) := by decide +kernel
theorem dX1_raise_21 : decode cX1_raise 21 = .ok (.aload_n 0, 1) := by decide +kernel
theorem dX1_raise_22 : decode cX1_raise 22 = .ok (.getfield 19, 3) := by decide +kernel
theorem dX1_raise_25 : decode cX1_raise 25 = .ok (.iload_n 1, 1) := by decide +kernel
theorem dX1_raise_26 : decode cX1_raise 26 = .ok (.invokestatic 72, 3) := by decide +kernel
theorem dX1_raise_29 : decode cX1_raise 29 = .ok (.istore 4, 2) := by decide +kernel
theorem dX1_raise_31 : decode cX1_raise 31 = .ok (.iload 4, 2) := by decide +kernel
theorem dX1_raise_33 : decode cX1_raise 33 = .ok (.iload_n 3, 1) := by decide +kernel
theorem dX1_raise_34 : decode cX1_raise 34 = .ok (.ior, 1) := by decide +kernel
theorem dX1_raise_35 : decode cX1_raise 35 = .ok (.iload 4, 2) := by decide +kernel
theorem dX1_raise_37 : decode cX1_raise 37 = .ok (.if_icmp .eq 30, 3) := by decide +kernel
theorem dX1_raise_40 : decode cX1_raise 40 = .ok (.aload_n 0, 1) := by decide +kernel
theorem dX1_raise_41 : decode cX1_raise 41 = .ok (.getfield 19, 3) := by decide +kernel
theorem dX1_raise_44 : decode cX1_raise 44 = .ok (.iload_n 1, 1) := by decide +kernel
theorem dX1_raise_45 : decode cX1_raise 45 = .ok (.iload 4, 2) := by decide +kernel
theorem dX1_raise_47 : decode cX1_raise 47 = .ok (.iload_n 3, 1) := by decide +kernel
theorem dX1_raise_48 : decode cX1_raise 48 = .ok (.ior, 1) := by decide +kernel
theorem dX1_raise_49 : decode cX1_raise 49 = .ok (.invokestatic 81, 3) := by decide +kernel
theorem dX1_raise_52 : decode cX1_raise 52 = .ok (.aload_n 0, 1) := by decide +kernel
theorem dX1_raise_53 : decode cX1_raise 53 = .ok (.dup, 1) := by decide +kernel
theorem dX1_raise_54 : decode cX1_raise 54 = .ok (.getfield 78, 3) := by decide +kernel
theorem dX1_raise_57 : decode cX1_raise 57 = .ok (.iconst 1, 1) := by decide +kernel
theorem dX1_raise_58 : decode cX1_raise 58 = .ok (.iadd, 1) := by decide +kernel
theorem dX1_raise_59 : decode cX1_raise 59 = .ok (.putfield 78, 3) := by decide +kernel
theorem dX1_raise_62 : decode cX1_raise 62 = .ok (.aload_n 0, 1) := by decide +kernel
theorem dX1_raise_63 : decode cX1_raise 63 = .ok (.iconst 1, 1) := by decide +kernel
theorem dX1_raise_64 : decode cX1_raise 64 = .ok (.putfield 60, 3) := by decide +kernel
theorem dX1_raise_67 : decode cX1_raise 67 = .ok (.return_, 1) := by decide +kernel
theorem dX1_join_0 : decode cX1_join 0 = .ok (.iload_n 1, 1) := by decide +kernel
theorem dX1_join_1 : decode cX1_join 1 = .ok (.ifCond .lt 54, 3) := by decide +kernel
theorem dX1_join_4 : decode cX1_join 4 = .ok (.iload_n 1, 1) := by decide +kernel
theorem dX1_join_5 : decode cX1_join 5 = .ok (.aload_n 0, 1) := by decide +kernel
theorem dX1_join_6 : decode cX1_join 6 = .ok (.getfield 9, 3) := by decide +kernel
theorem dX1_join_9 : decode cX1_join 9 = .ok (.arraylength, 1) := by decide +kernel
theorem dX1_join_10 : decode cX1_join 10 = .ok (.if_icmp .ge 45, 3) := by decide +kernel
theorem dX1_join_13 : decode cX1_join 13 = .ok (.aload_n 0, 1) := by decide +kernel
theorem dX1_join_14 : decode cX1_join 14 = .ok (.getfield 9, 3) := by decide +kernel
theorem dX1_join_17 : decode cX1_join 17 = .ok (.iload_n 1, 1) := by decide +kernel
theorem dX1_join_18 : decode cX1_join 18 = .ok (.laload, 1) := by decide +kernel
theorem dX1_join_19 : decode cX1_join 19 = .ok (.lload_n 2, 1) := by decide +kernel
theorem dX1_join_20 : decode cX1_join 20 = .ok (.lor, 1) := by decide +kernel
theorem dX1_join_21 : decode cX1_join 21 = .ok (.aload_n 0, 1) := by decide +kernel
theorem dX1_join_22 : decode cX1_join 22 = .ok (.getfield 9, 3) := by decide +kernel
theorem dX1_join_25 : decode cX1_join 25 = .ok (.iload_n 1, 1) := by decide +kernel
theorem dX1_join_26 : decode cX1_join 26 = .ok (.laload, 1) := by decide +kernel
theorem dX1_join_27 : decode cX1_join 27 = .ok (.lcmp, 1) := by decide +kernel
theorem dX1_join_28 : decode cX1_join 28 = .ok (.ifCond .eq 27, 3) := by decide +kernel
theorem dX1_join_31 : decode cX1_join 31 = .ok (.aload_n 0, 1) := by decide +kernel
theorem dX1_join_32 : decode cX1_join 32 = .ok (.getfield 9, 3) := by decide +kernel
theorem dX1_join_35 : decode cX1_join 35 = .ok (.iload_n 1, 1) := by decide +kernel
theorem dX1_join_36 : decode cX1_join 36 = .ok (.dup2, 1) := by decide +kernel
theorem dX1_join_37 : decode cX1_join 37 = .ok (.laload, 1) := by decide +kernel
theorem dX1_join_38 : decode cX1_join 38 = .ok (.lload_n 2, 1) := by decide +kernel
theorem dX1_join_39 : decode cX1_join 39 = .ok (.lor, 1) := by decide +kernel
theorem dX1_join_40 : decode cX1_join 40 = .ok (.lastore, 1) := by decide +kernel
theorem dX1_join_41 : decode cX1_join 41 = .ok (.aload_n 0, 1) := by decide +kernel
theorem dX1_join_42 : decode cX1_join 42 = .ok (.getfield 15, 3) := by decide +kernel
theorem dX1_join_45 : decode cX1_join 45 = .ok (.iload_n 1, 1) := by decide +kernel
theorem dX1_join_46 : decode cX1_join 46 = .ok (.iconst 0, 1) := by decide +kernel
theorem dX1_join_47 : decode cX1_join 47 = .ok (.invokestatic 81, 3) := by decide +kernel
theorem dX1_join_50 : decode cX1_join 50 = .ok (.aload_n 0, 1) := by decide +kernel
theorem dX1_join_51 : decode cX1_join 51 = .ok (.iconst 1, 1) := by decide +kernel
theorem dX1_join_52 : decode cX1_join 52 = .ok (.putfield 60, 3) := by decide +kernel
theorem dX1_join_55 : decode cX1_join 55 = .ok (.return_, 1) := by decide +kernel
theorem dX1_factOf_0 : decode cX1_factOf 0 = .ok (.lload_n 0, 1) := by decide +kernel
theorem dX1_factOf_1 : decode cX1_factOf 1 = .ok (.iload_n 2, 1) := by decide +kernel
theorem dX1_factOf_2 : decode cX1_factOf 2 = .ok (.lshr, 1) := by decide +kernel
theorem dX1_factOf_3 : decode cX1_factOf 3 = .ok (.lconst 1, 1) := by decide +kernel
theorem dX1_factOf_4 : decode cX1_factOf 4 = .ok (.land, 1) := by decide +kernel
theorem dX1_factOf_5 : decode cX1_factOf 5 = .ok (.l2i, 1) := by decide +kernel
theorem dX1_factOf_6 : decode cX1_factOf 6 = .ok (.istore_n 3, 1) := by decide +kernel
theorem dX1_factOf_7 : decode cX1_factOf 7 = .ok (.lload_n 0, 1) := by decide +kernel
theorem dX1_factOf_8 : decode cX1_factOf 8 = .ok (.iload_n 2, 1) := by decide +kernel
theorem dX1_factOf_9 : decode cX1_factOf 9 = .ok (.bipush 26, 2) := by decide +kernel
theorem dX1_factOf_11 : decode cX1_factOf 11 = .ok (.iadd, 1) := by decide +kernel
theorem dX1_factOf_12 : decode cX1_factOf 12 = .ok (.lshr, 1) := by decide +kernel
theorem dX1_factOf_13 : decode cX1_factOf 13 = .ok (.lconst 1, 1) := by decide +kernel
theorem dX1_factOf_14 : decode cX1_factOf 14 = .ok (.land, 1) := by decide +kernel
theorem dX1_factOf_15 : decode cX1_factOf 15 = .ok (.l2i, 1) := by decide +kernel
theorem dX1_factOf_16 : decode cX1_factOf 16 = .ok (.istore 4, 2) := by decide +kernel
theorem dX1_factOf_18 : decode cX1_factOf 18 = .ok (.iload_n 3, 1) := by decide +kernel
theorem dX1_factOf_19 : decode cX1_factOf 19 = .ok (.iconst 1, 1) := by decide +kernel
theorem dX1_factOf_20 : decode cX1_factOf 20 = .ok (.imul, 1) := by decide +kernel
theorem dX1_factOf_21 : decode cX1_factOf 21 = .ok (.iload 4, 2) := by decide +kernel
theorem dX1_factOf_23 : decode cX1_factOf 23 = .ok (.iconst 2, 1) := by decide +kernel
theorem dX1_factOf_24 : decode cX1_factOf 24 = .ok (.imul, 1) := by decide +kernel
theorem dX1_factOf_25 : decode cX1_factOf 25 = .ok (.iadd, 1) := by decide +kernel
theorem dX1_factOf_26 : decode cX1_factOf 26 = .ok (.ireturn, 1) := by decide +kernel
theorem dX1_with_0 : decode cX1_with 0 = .ok (.lload_n 0, 1) := by decide +kernel
theorem dX1_with_1 : decode cX1_with 1 = .ok (.lconst 0, 1) := by decide +kernel
theorem dX1_with_2 : decode cX1_with 2 = .ok (.lcmp, 1) := by decide +kernel
theorem dX1_with_3 : decode cX1_with 3 = .ok (.ifCond .eq 7, 3) := by decide +kernel
theorem dX1_with_6 : decode cX1_with 6 = .ok (.iload_n 3, 1) := by decide +kernel
theorem dX1_with_7 : decode cX1_with 7 = .ok (.ifCond .ne 5, 3) := by decide +kernel
theorem dX1_with_10 : decode cX1_with 10 = .ok (.lconst 0, 1) := by decide +kernel
theorem dX1_with_11 : decode cX1_with 11 = .ok (.lreturn, 1) := by decide +kernel
theorem dX1_with_12 : decode cX1_with 12 = .ok (.lload_n 0, 1) := by decide +kernel
theorem dX1_with_13 : decode cX1_with 13 = .ok (.lconst 1, 1) := by decide +kernel
theorem dX1_with_14 : decode cX1_with 14 = .ok (.iload_n 2, 1) := by decide +kernel
theorem dX1_with_15 : decode cX1_with 15 = .ok (.lshl, 1) := by decide +kernel
theorem dX1_with_16 : decode cX1_with 16 = .ok (.ldc2_w 179, 3) := by decide +kernel
theorem dX1_with_19 : decode cX1_with 19 = .ok (.lxor, 1) := by decide +kernel
theorem dX1_with_20 : decode cX1_with 20 = .ok (.land, 1) := by decide +kernel
theorem dX1_with_21 : decode cX1_with 21 = .ok (.lconst 1, 1) := by decide +kernel
theorem dX1_with_22 : decode cX1_with 22 = .ok (.iload_n 2, 1) := by decide +kernel
theorem dX1_with_23 : decode cX1_with 23 = .ok (.bipush 26, 2) := by decide +kernel
theorem dX1_with_25 : decode cX1_with 25 = .ok (.iadd, 1) := by decide +kernel
theorem dX1_with_26 : decode cX1_with 26 = .ok (.lshl, 1) := by decide +kernel
theorem dX1_with_27 : decode cX1_with 27 = .ok (.ldc2_w 179, 3) := by decide +kernel
theorem dX1_with_30 : decode cX1_with 30 = .ok (.lxor, 1) := by decide +kernel
theorem dX1_with_31 : decode cX1_with 31 = .ok (.land, 1) := by decide +kernel
theorem dX1_with_32 : decode cX1_with 32 = .ok (.lstore 4, 2) := by decide +kernel
theorem dX1_with_34 : decode cX1_with 34 = .ok (.iload_n 3, 1) := by decide +kernel
theorem dX1_with_35 : decode cX1_with 35 = .ok (.iconst 1, 1) := by decide +kernel
theorem dX1_with_36 : decode cX1_with 36 = .ok (.iand, 1) := by decide +kernel
theorem dX1_with_37 : decode cX1_with 37 = .ok (.ifCond .eq 9, 3) := by decide +kernel
theorem dX1_with_40 : decode cX1_with 40 = .ok (.lconst 1, 1) := by decide +kernel
theorem dX1_with_41 : decode cX1_with 41 = .ok (.iload_n 2, 1) := by decide +kernel
theorem dX1_with_42 : decode cX1_with 42 = .ok (.lshl, 1) := by decide +kernel
theorem dX1_with_43 : decode cX1_with 43 = .ok (.goto 4, 3) := by decide +kernel
theorem dX1_with_46 : decode cX1_with 46 = .ok (.lconst 0, 1) := by decide +kernel
theorem dX1_with_47 : decode cX1_with 47 = .ok (.lstore 6, 2) := by decide +kernel
theorem dX1_with_49 : decode cX1_with 49 = .ok (.iload_n 3, 1) := by decide +kernel
theorem dX1_with_50 : decode cX1_with 50 = .ok (.iconst 2, 1) := by decide +kernel
theorem dX1_with_51 : decode cX1_with 51 = .ok (.iand, 1) := by decide +kernel
theorem dX1_with_52 : decode cX1_with 52 = .ok (.ifCond .eq 12, 3) := by decide +kernel
theorem dX1_with_55 : decode cX1_with 55 = .ok (.lconst 1, 1) := by decide +kernel
theorem dX1_with_56 : decode cX1_with 56 = .ok (.iload_n 2, 1) := by decide +kernel
theorem dX1_with_57 : decode cX1_with 57 = .ok (.bipush 26, 2) := by decide +kernel
theorem dX1_with_59 : decode cX1_with 59 = .ok (.iadd, 1) := by decide +kernel
theorem dX1_with_60 : decode cX1_with 60 = .ok (.lshl, 1) := by decide +kernel
theorem dX1_with_61 : decode cX1_with 61 = .ok (.goto 4, 3) := by decide +kernel
theorem dX1_with_64 : decode cX1_with 64 = .ok (.lconst 0, 1) := by decide +kernel
theorem dX1_with_65 : decode cX1_with 65 = .ok (.lstore 8, 2) := by decide +kernel
theorem dX1_with_67 : decode cX1_with 67 = .ok (.lload 4, 2) := by decide +kernel
theorem dX1_with_69 : decode cX1_with 69 = .ok (.lload 6, 2) := by decide +kernel
theorem dX1_with_71 : decode cX1_with 71 = .ok (.lor, 1) := by decide +kernel
theorem dX1_with_72 : decode cX1_with 72 = .ok (.lload 8, 2) := by decide +kernel
theorem dX1_with_74 : decode cX1_with 74 = .ok (.lor, 1) := by decide +kernel
theorem dX1_with_75 : decode cX1_with 75 = .ok (.lreturn, 1) := by decide +kernel
theorem dX1_narrow_0 : decode cX1_narrow 0 = .ok (.lload_n 0, 1) := by decide +kernel
theorem dX1_narrow_1 : decode cX1_narrow 1 = .ok (.iload_n 2, 1) := by decide +kernel
theorem dX1_narrow_2 : decode cX1_narrow 2 = .ok (.lload_n 0, 1) := by decide +kernel
theorem dX1_narrow_3 : decode cX1_narrow 3 = .ok (.iload_n 2, 1) := by decide +kernel
theorem dX1_narrow_4 : decode cX1_narrow 4 = .ok (.invokestatic 161, 3) := by decide +kernel
theorem dX1_narrow_7 : decode cX1_narrow 7 = .ok (.iload_n 3, 1) := by decide +kernel
theorem dX1_narrow_8 : decode cX1_narrow 8 = .ok (.iand, 1) := by decide +kernel
theorem dX1_narrow_9 : decode cX1_narrow 9 = .ok (.invokestatic 131, 3) := by decide +kernel
theorem dX1_narrow_12 : decode cX1_narrow 12 = .ok (.lreturn, 1) := by decide +kernel
theorem dX2_search_0 : decode cX2_search 0 = .ok (.aload_n 0, 1) := by decide +kernel
theorem dX2_search_1 : decode cX2_search 1 = .ok (.getfield 21, 3) := by decide +kernel
theorem dX2_search_4 : decode cX2_search 4 = .ok (.ifCond .ne 4, 3) := by decide +kernel
theorem dX2_search_7 : decode cX2_search 7 = .ok (.return_, 1) := by decide +kernel
theorem dX2_search_8 : decode cX2_search 8 = .ok (.aload_n 0, 1) := by decide +kernel
theorem dX2_search_9 : decode cX2_search 9 = .ok (.getfield 29, 3) := by decide +kernel
theorem dX2_search_12 : decode cX2_search 12 = .ok (.lconst 0, 1) := by decide +kernel
theorem dX2_search_13 : decode cX2_search 13 = .ok (.invokevirtual 33, 3) := by decide +kernel
theorem dX2_search_16 : decode cX2_search 16 = .ok (.aload_n 0, 1) := by decide +kernel
theorem dX2_search_17 : decode cX2_search 17 = .ok (.invokevirtual 39, 3) := by decide +kernel
theorem dX2_search_20 : decode cX2_search 20 = .ok (.aload_n 0, 1) := by decide +kernel
theorem dX2_search_21 : decode cX2_search 21 = .ok (.iconst 0, 1) := by decide +kernel
theorem dX2_search_22 : decode cX2_search 22 = .ok (.putfield 42, 3) := by decide +kernel
theorem dX2_search_25 : decode cX2_search 25 = .ok (.aload_n 0, 1) := by decide +kernel
theorem dX2_search_26 : decode cX2_search 26 = .ok (.aload_n 0, 1) := by decide +kernel
theorem dX2_search_27 : decode cX2_search 27 = .ok (.getfield 29, 3) := by decide +kernel
theorem dX2_search_30 : decode cX2_search 30 = .ok (.invokevirtual 45, 3) := by decide +kernel
theorem dX2_search_33 : decode cX2_search 33 = .ok (.putfield 49, 3) := by decide +kernel
theorem dX2_search_36 : decode cX2_search 36 = .ok (.aload_n 0, 1) := by decide +kernel
theorem dX2_search_37 : decode cX2_search 37 = .ok (.aload_n 0, 1) := by decide +kernel
theorem dX2_search_38 : decode cX2_search 38 = .ok (.getfield 49, 3) := by decide +kernel
theorem dX2_search_41 : decode cX2_search 41 = .ok (.aload_n 0, 1) := by decide +kernel
theorem dX2_search_42 : decode cX2_search 42 = .ok (.getfield 9, 3) := by decide +kernel
theorem dX2_search_45 : decode cX2_search 45 = .ok (.iconst 3, 1) := by decide +kernel
theorem dX2_search_46 : decode cX2_search 46 = .ok (.invokestatic 52, 3) := by decide +kernel
theorem dX2_search_49 : decode cX2_search 49 = .ok (.imul, 1) := by decide +kernel
theorem dX2_search_50 : decode cX2_search 50 = .ok (.putfield 25, 3) := by decide +kernel
theorem dX2_search_53 : decode cX2_search 53 = .ok (.iconst 1, 1) := by decide +kernel
theorem dX2_search_54 : decode cX2_search 54 = .ok (.aload_n 0, 1) := by decide +kernel
theorem dX2_search_55 : decode cX2_search 55 = .ok (.getfield 58, 3) := by decide +kernel
theorem dX2_search_58 : decode cX2_search 58 = .ok (.ishl, 1) := by decide +kernel
theorem dX2_search_59 : decode cX2_search 59 = .ok (.iconst 1, 1) := by decide +kernel
theorem dX2_search_60 : decode cX2_search 60 = .ok (.isub, 1) := by decide +kernel
theorem dX2_search_61 : decode cX2_search 61 = .ok (.istore_n 1, 1) := by decide +kernel
theorem dX2_search_62 : decode cX2_search 62 = .ok (.iload_n 1, 1) := by decide +kernel
theorem dX2_search_63 : decode cX2_search 63 = .ok (.ifCond .le 45, 3) := by decide +kernel
theorem dX2_search_66 : decode cX2_search 66 = .ok (.aload_n 0, 1) := by decide +kernel
theorem dX2_search_67 : decode cX2_search 67 = .ok (.getfield 29, 3) := by decide +kernel
theorem dX2_search_70 : decode cX2_search 70 = .ok (.aload_n 0, 1) := by decide +kernel
theorem dX2_search_71 : decode cX2_search 71 = .ok (.iload_n 1, 1) := by decide +kernel
theorem dX2_search_72 : decode cX2_search 72 = .ok (.invokevirtual 61, 3) := by decide +kernel
theorem dX2_search_75 : decode cX2_search 75 = .ok (.invokevirtual 33, 3) := by decide +kernel
theorem dX2_search_78 : decode cX2_search 78 = .ok (.aload_n 0, 1) := by decide +kernel
theorem dX2_search_79 : decode cX2_search 79 = .ok (.getfield 29, 3) := by decide +kernel
theorem dX2_search_82 : decode cX2_search 82 = .ok (.invokevirtual 45, 3) := by decide +kernel
theorem dX2_search_85 : decode cX2_search 85 = .ok (.istore_n 2, 1) := by decide +kernel
theorem dX2_search_86 : decode cX2_search 86 = .ok (.aload_n 0, 1) := by decide +kernel
theorem dX2_search_87 : decode cX2_search 87 = .ok (.iload_n 1, 1) := by decide +kernel
theorem dX2_search_88 : decode cX2_search 88 = .ok (.iload_n 2, 1) := by decide +kernel
theorem dX2_search_89 : decode cX2_search 89 = .ok (.invokevirtual 65, 3) := by decide +kernel
theorem dX2_search_92 : decode cX2_search 92 = .ok (.iload_n 1, 1) := by decide +kernel
theorem dX2_search_93 : decode cX2_search 93 = .ok (.iconst 1, 1) := by decide +kernel
theorem dX2_search_94 : decode cX2_search 94 = .ok (.isub, 1) := by decide +kernel
theorem dX2_search_95 : decode cX2_search 95 = .ok (.aload_n 0, 1) := by decide +kernel
theorem dX2_search_96 : decode cX2_search 96 = .ok (.iload_n 1, 1) := by decide +kernel
theorem dX2_search_97 : decode cX2_search 97 = .ok (.iload_n 2, 1) := by decide +kernel
theorem dX2_search_98 : decode cX2_search 98 = .ok (.invokevirtual 69, 3) := by decide +kernel
theorem dX2_search_101 : decode cX2_search 101 = .ok (.invokestatic 73, 3) := by decide +kernel
theorem dX2_search_104 : decode cX2_search 104 = .ok (.istore_n 1, 1) := by decide +kernel
theorem dX2_search_105 : decode cX2_search 105 = .ok (.goto (-43), 3) := by decide +kernel
theorem dX2_search_108 : decode cX2_search 108 = .ok (.aload_n 0, 1) := by decide +kernel
theorem dX2_search_109 : decode cX2_search 109 = .ok (.invokevirtual 78, 3) := by decide +kernel
theorem dX2_search_112 : decode cX2_search 112 = .ok (.aload_n 0, 1) := by decide +kernel
theorem dX2_search_113 : decode cX2_search 113 = .ok (.iconst 0, 1) := by decide +kernel
theorem dX2_search_114 : decode cX2_search 114 = .ok (.putfield 21, 3) := by decide +kernel
theorem dX2_search_117 : decode cX2_search 117 = .ok (.return_, 1) := by decide +kernel
theorem dX2_consider_0 : decode cX2_consider 0 = .ok (.aload_n 0, 1) := by decide +kernel
theorem dX2_consider_1 : decode cX2_consider 1 = .ok (.iload_n 1, 1) := by decide +kernel
theorem dX2_consider_2 : decode cX2_consider 2 = .ok (.invokevirtual 81, 3) := by decide +kernel
theorem dX2_consider_5 : decode cX2_consider 5 = .ok (.iload_n 2, 1) := by decide +kernel
theorem dX2_consider_6 : decode cX2_consider 6 = .ok (.aload_n 0, 1) := by decide +kernel
theorem dX2_consider_7 : decode cX2_consider 7 = .ok (.getfield 9, 3) := by decide +kernel
theorem dX2_consider_10 : decode cX2_consider 10 = .ok (.iconst 3, 1) := by decide +kernel
theorem dX2_consider_11 : decode cX2_consider 11 = .ok (.invokestatic 52, 3) := by decide +kernel
theorem dX2_consider_14 : decode cX2_consider 14 = .ok (.imul, 1) := by decide +kernel
theorem dX2_consider_15 : decode cX2_consider 15 = .ok (.iadd, 1) := by decide +kernel
theorem dX2_consider_16 : decode cX2_consider 16 = .ok (.istore_n 3, 1) := by decide +kernel
theorem dX2_consider_17 : decode cX2_consider 17 = .ok (.iload_n 3, 1) := by decide +kernel
theorem dX2_consider_18 : decode cX2_consider 18 = .ok (.aload_n 0, 1) := by decide +kernel
theorem dX2_consider_19 : decode cX2_consider 19 = .ok (.getfield 25, 3) := by decide +kernel
theorem dX2_consider_22 : decode cX2_consider 22 = .ok (.if_icmp .lt 19, 3) := by decide +kernel
theorem dX2_consider_25 : decode cX2_consider 25 = .ok (.iload_n 3, 1) := by decide +kernel
theorem dX2_consider_26 : decode cX2_consider 26 = .ok (.aload_n 0, 1) := by decide +kernel
theorem dX2_consider_27 : decode cX2_consider 27 = .ok (.getfield 25, 3) := by decide +kernel
theorem dX2_consider_30 : decode cX2_consider 30 = .ok (.if_icmp .ne 26, 3) := by decide +kernel
theorem dX2_consider_33 : decode cX2_consider 33 = .ok (.iload_n 1, 1) := by decide +kernel
theorem dX2_consider_34 : decode cX2_consider 34 = .ok (.aload_n 0, 1) := by decide +kernel
theorem dX2_consider_35 : decode cX2_consider 35 = .ok (.getfield 42, 3) := by decide +kernel
theorem dX2_consider_38 : decode cX2_consider 38 = .ok (.if_icmp .ge 18, 3) := by decide +kernel
theorem dX2_consider_41 : decode cX2_consider 41 = .ok (.aload_n 0, 1) := by decide +kernel
theorem dX2_consider_42 : decode cX2_consider 42 = .ok (.iload_n 1, 1) := by decide +kernel
theorem dX2_consider_43 : decode cX2_consider 43 = .ok (.putfield 42, 3) := by decide +kernel
theorem dX2_consider_46 : decode cX2_consider 46 = .ok (.aload_n 0, 1) := by decide +kernel
theorem dX2_consider_47 : decode cX2_consider 47 = .ok (.iload_n 3, 1) := by decide +kernel
theorem dX2_consider_48 : decode cX2_consider 48 = .ok (.putfield 25, 3) := by decide +kernel
theorem dX2_consider_51 : decode cX2_consider 51 = .ok (.aload_n 0, 1) := by decide +kernel
theorem dX2_consider_52 : decode cX2_consider 52 = .ok (.iload_n 2, 1) := by decide +kernel
theorem dX2_consider_53 : decode cX2_consider 53 = .ok (.putfield 49, 3) := by decide +kernel
theorem dX2_consider_56 : decode cX2_consider 56 = .ok (.return_, 1) := by decide +kernel
theorem dX2_nextBelow_0 : decode cX2_nextBelow 0 = .ok (.aload_n 0, 1) := by decide +kernel
theorem dX2_nextBelow_1 : decode cX2_nextBelow 1 = .ok (.getfield 58, 3) := by decide +kernel
theorem dX2_nextBelow_4 : decode cX2_nextBelow 4 = .ok (.istore_n 3, 1) := by decide +kernel
theorem dX2_nextBelow_5 : decode cX2_nextBelow 5 = .ok (.iload_n 3, 1) := by decide +kernel
theorem dX2_nextBelow_6 : decode cX2_nextBelow 6 = .ok (.ifCond .le 48, 3) := by decide +kernel
theorem dX2_nextBelow_9 : decode cX2_nextBelow 9 = .ok (.iconst 1, 1) := by decide +kernel
theorem dX2_nextBelow_10 : decode cX2_nextBelow 10 = .ok (.iload_n 3, 1) := by decide +kernel
theorem dX2_nextBelow_11 : decode cX2_nextBelow 11 = .ok (.ishl, 1) := by decide +kernel
theorem dX2_nextBelow_12 : decode cX2_nextBelow 12 = .ok (.iconst 1, 1) := by decide +kernel
theorem dX2_nextBelow_13 : decode cX2_nextBelow 13 = .ok (.isub, 1) := by decide +kernel
theorem dX2_nextBelow_14 : decode cX2_nextBelow 14 = .ok (.istore 4, 2) := by decide +kernel
theorem dX2_nextBelow_16 : decode cX2_nextBelow 16 = .ok (.iload_n 1, 1) := by decide +kernel
theorem dX2_nextBelow_17 : decode cX2_nextBelow 17 = .ok (.iload 4, 2) := by decide +kernel
theorem dX2_nextBelow_19 : decode cX2_nextBelow 19 = .ok (.iconst (-1), 1) := by decide +kernel
theorem dX2_nextBelow_20 : decode cX2_nextBelow 20 = .ok (.ixor, 1) := by decide +kernel
theorem dX2_nextBelow_21 : decode cX2_nextBelow 21 = .ok (.iand, 1) := by decide +kernel
theorem dX2_nextBelow_22 : decode cX2_nextBelow 22 = .ok (.istore 5, 2) := by decide +kernel
theorem dX2_nextBelow_24 : decode cX2_nextBelow 24 = .ok (.iload_n 1, 1) := by decide +kernel
theorem dX2_nextBelow_25 : decode cX2_nextBelow 25 = .ok (.iload 4, 2) := by decide +kernel
theorem dX2_nextBelow_27 : decode cX2_nextBelow 27 = .ok (.iand, 1) := by decide +kernel
theorem dX2_nextBelow_28 : decode cX2_nextBelow 28 = .ok (.iload 4, 2) := by decide +kernel
theorem dX2_nextBelow_30 : decode cX2_nextBelow 30 = .ok (.if_icmp .ne 18, 3) := by decide +kernel
theorem dX2_nextBelow_33 : decode cX2_nextBelow 33 = .ok (.aload_n 0, 1) := by decide +kernel
theorem dX2_nextBelow_34 : decode cX2_nextBelow 34 = .ok (.iload 5, 2) := by decide +kernel
theorem dX2_nextBelow_36 : decode cX2_nextBelow 36 = .ok (.iload_n 2, 1) := by decide +kernel
theorem dX2_nextBelow_37 : decode cX2_nextBelow 37 = .ok (.invokevirtual 85, 3) := by decide +kernel
theorem dX2_nextBelow_40 : decode cX2_nextBelow 40 = .ok (.ifCond .eq 8, 3) := by decide +kernel
theorem dX2_nextBelow_43 : decode cX2_nextBelow 43 = .ok (.iload 5, 2) := by decide +kernel
theorem dX2_nextBelow_45 : decode cX2_nextBelow 45 = .ok (.iconst 1, 1) := by decide +kernel
theorem dX2_nextBelow_46 : decode cX2_nextBelow 46 = .ok (.isub, 1) := by decide +kernel
theorem dX2_nextBelow_47 : decode cX2_nextBelow 47 = .ok (.ireturn, 1) := by decide +kernel
theorem dX2_nextBelow_48 : decode cX2_nextBelow 48 = .ok (.iinc 3 (-1), 3) := by decide +kernel
theorem dX2_nextBelow_51 : decode cX2_nextBelow 51 = .ok (.goto (-46), 3) := by decide +kernel
theorem dX2_nextBelow_54 : decode cX2_nextBelow 54 = .ok (.iload_n 1, 1) := by decide +kernel
theorem dX2_nextBelow_55 : decode cX2_nextBelow 55 = .ok (.iconst 1, 1) := by decide +kernel
theorem dX2_nextBelow_56 : decode cX2_nextBelow 56 = .ok (.isub, 1) := by decide +kernel
theorem dX2_nextBelow_57 : decode cX2_nextBelow 57 = .ok (.ireturn, 1) := by decide +kernel
theorem dX2_isTooDear_0 : decode cX2_isTooDear 0 = .ok (.aload_n 0, 1) := by decide +kernel
theorem dX2_isTooDear_1 : decode cX2_isTooDear 1 = .ok (.iload_n 1, 1) := by decide +kernel
theorem dX2_isTooDear_2 : decode cX2_isTooDear 2 = .ok (.invokevirtual 81, 3) := by decide +kernel
theorem dX2_isTooDear_5 : decode cX2_isTooDear 5 = .ok (.iload_n 2, 1) := by decide +kernel
theorem dX2_isTooDear_6 : decode cX2_isTooDear 6 = .ok (.aload_n 0, 1) := by decide +kernel
theorem dX2_isTooDear_7 : decode cX2_isTooDear 7 = .ok (.getfield 9, 3) := by decide +kernel
theorem dX2_isTooDear_10 : decode cX2_isTooDear 10 = .ok (.iconst 3, 1) := by decide +kernel
theorem dX2_isTooDear_11 : decode cX2_isTooDear 11 = .ok (.invokestatic 52, 3) := by decide +kernel
theorem dX2_isTooDear_14 : decode cX2_isTooDear 14 = .ok (.imul, 1) := by decide +kernel
theorem dX2_isTooDear_15 : decode cX2_isTooDear 15 = .ok (.iadd, 1) := by decide +kernel
theorem dX2_isTooDear_16 : decode cX2_isTooDear 16 = .ok (.istore_n 3, 1) := by decide +kernel
theorem dX2_isTooDear_17 : decode cX2_isTooDear 17 = .ok (.iload_n 3, 1) := by decide +kernel
theorem dX2_isTooDear_18 : decode cX2_isTooDear 18 = .ok (.aload_n 0, 1) := by decide +kernel
theorem dX2_isTooDear_19 : decode cX2_isTooDear 19 = .ok (.getfield 25, 3) := by decide +kernel
theorem dX2_isTooDear_22 : decode cX2_isTooDear 22 = .ok (.if_icmp .gt 19, 3) := by decide +kernel
theorem dX2_isTooDear_25 : decode cX2_isTooDear 25 = .ok (.iload_n 3, 1) := by decide +kernel
theorem dX2_isTooDear_26 : decode cX2_isTooDear 26 = .ok (.aload_n 0, 1) := by decide +kernel
theorem dX2_isTooDear_27 : decode cX2_isTooDear 27 = .ok (.getfield 25, 3) := by decide +kernel
theorem dX2_isTooDear_30 : decode cX2_isTooDear 30 = .ok (.if_icmp .ne 15, 3) := by decide +kernel
theorem dX2_isTooDear_33 : decode cX2_isTooDear 33 = .ok (.iload_n 1, 1) := by decide +kernel
theorem dX2_isTooDear_34 : decode cX2_isTooDear 34 = .ok (.aload_n 0, 1) := by decide +kernel
theorem dX2_isTooDear_35 : decode cX2_isTooDear 35 = .ok (.getfield 42, 3) := by decide +kernel
theorem dX2_isTooDear_38 : decode cX2_isTooDear 38 = .ok (.if_icmp .lt 7, 3) := by decide +kernel
theorem dX2_isTooDear_41 : decode cX2_isTooDear 41 = .ok (.iconst 1, 1) := by decide +kernel
theorem dX2_isTooDear_42 : decode cX2_isTooDear 42 = .ok (.goto 4, 3) := by decide +kernel
theorem dX2_isTooDear_45 : decode cX2_isTooDear 45 = .ok (.iconst 0, 1) := by decide +kernel
theorem dX2_isTooDear_46 : decode cX2_isTooDear 46 = .ok (.ireturn, 1) := by decide +kernel
theorem dX2_findCandidates_0 : decode cX2_findCandidates 0 = .ok (.aload_n 0, 1) := by decide +kernel
theorem dX2_findCandidates_1 : decode cX2_findCandidates 1 = .ok (.iconst 0, 1) := by decide +kernel
theorem dX2_findCandidates_2 : decode cX2_findCandidates 2 = .ok (.putfield 58, 3) := by decide +kernel
theorem dX2_findCandidates_5 : decode cX2_findCandidates 5 = .ok (.iconst 0, 1) := by decide +kernel
theorem dX2_findCandidates_6 : decode cX2_findCandidates 6 = .ok (.istore_n 1, 1) := by decide +kernel
theorem dX2_findCandidates_7 : decode cX2_findCandidates 7 = .ok (.iload_n 1, 1) := by decide +kernel
theorem dX2_findCandidates_8 : decode cX2_findCandidates 8 = .ok (.bipush 42, 2) := by decide +kernel
theorem dX2_findCandidates_10 : decode cX2_findCandidates 10 = .ok (.if_icmp .ge 87, 3) := by decide +kernel
theorem dX2_findCandidates_13 : decode cX2_findCandidates 13 = .ok (.aload_n 0, 1) := by decide +kernel
theorem dX2_findCandidates_14 : decode cX2_findCandidates 14 = .ok (.getfield 58, 3) := by decide +kernel
theorem dX2_findCandidates_17 : decode cX2_findCandidates 17 = .ok (.bipush 10, 2) := by decide +kernel
theorem dX2_findCandidates_19 : decode cX2_findCandidates 19 = .ok (.if_icmp .ge 78, 3) := by decide +kernel
theorem dX2_findCandidates_22 : decode cX2_findCandidates 22 = .ok (.iload_n 1, 1) := by decide +kernel
theorem dX2_findCandidates_23 : decode cX2_findCandidates 23 = .ok (.bipush 32, 2) := by decide +kernel
theorem dX2_findCandidates_25 : decode cX2_findCandidates 25 = .ok (.if_icmp .ge 23, 3) := by decide +kernel
theorem dX2_findCandidates_28 : decode cX2_findCandidates 28 = .ok (.iload_n 1, 1) := by decide +kernel
theorem dX2_findCandidates_29 : decode cX2_findCandidates 29 = .ok (.iconst 4, 1) := by decide +kernel
theorem dX2_findCandidates_30 : decode cX2_findCandidates 30 = .ok (.idiv, 1) := by decide +kernel
theorem dX2_findCandidates_31 : decode cX2_findCandidates 31 = .ok (.aload_n 0, 1) := by decide +kernel
theorem dX2_findCandidates_32 : decode cX2_findCandidates 32 = .ok (.getfield 29, 3) := by decide +kernel
theorem dX2_findCandidates_35 : decode cX2_findCandidates 35 = .ok (.getfield 89, 3) := by decide +kernel
theorem dX2_findCandidates_38 : decode cX2_findCandidates 38 = .ok (.getfield 93, 3) := by decide +kernel
theorem dX2_findCandidates_41 : decode cX2_findCandidates 41 = .ok (.if_icmp .ne 7, 3) := by decide +kernel
theorem dX2_findCandidates_44 : decode cX2_findCandidates 44 = .ok (.iconst 1, 1) := by decide +kernel
theorem dX2_findCandidates_45 : decode cX2_findCandidates 45 = .ok (.goto 4, 3) := by decide +kernel
theorem dX2_findCandidates_48 : decode cX2_findCandidates 48 = .ok (.iconst 0, 1) := by decide +kernel
theorem dX2_findCandidates_49 : decode cX2_findCandidates 49 = .ok (.istore_n 2, 1) := by decide +kernel
theorem dX2_findCandidates_50 : decode cX2_findCandidates 50 = .ok (.iload_n 2, 1) := by decide +kernel
theorem dX2_findCandidates_51 : decode cX2_findCandidates 51 = .ok (.ifCond .ne 40, 3) := by decide +kernel
theorem dX2_findCandidates_54 : decode cX2_findCandidates 54 = .ok (.aload_n 0, 1) := by decide +kernel
theorem dX2_findCandidates_55 : decode cX2_findCandidates 55 = .ok (.getfield 29, 3) := by decide +kernel
theorem dX2_findCandidates_58 : decode cX2_findCandidates 58 = .ok (.getfield 98, 3) := by decide +kernel
theorem dX2_findCandidates_61 : decode cX2_findCandidates 61 = .ok (.iload_n 1, 1) := by decide +kernel
theorem dX2_findCandidates_62 : decode cX2_findCandidates 62 = .ok (.invokestatic 52, 3) := by decide +kernel
theorem dX2_findCandidates_65 : decode cX2_findCandidates 65 = .ok (.iconst 3, 1) := by decide +kernel
theorem dX2_findCandidates_66 : decode cX2_findCandidates 66 = .ok (.if_icmp .ne 25, 3) := by decide +kernel
theorem dX2_findCandidates_69 : decode cX2_findCandidates 69 = .ok (.aload_n 0, 1) := by decide +kernel
theorem dX2_findCandidates_70 : decode cX2_findCandidates 70 = .ok (.getfield 15, 3) := by decide +kernel
theorem dX2_findCandidates_73 : decode cX2_findCandidates 73 = .ok (.aload_n 0, 1) := by decide +kernel
theorem dX2_findCandidates_74 : decode cX2_findCandidates 74 = .ok (.getfield 58, 3) := by decide +kernel
theorem dX2_findCandidates_77 : decode cX2_findCandidates 77 = .ok (.iload_n 1, 1) := by decide +kernel
theorem dX2_findCandidates_78 : decode cX2_findCandidates 78 = .ok (.invokestatic 101, 3) := by decide +kernel
theorem dX2_findCandidates_81 : decode cX2_findCandidates 81 = .ok (.aload_n 0, 1) := by decide +kernel
theorem dX2_findCandidates_82 : decode cX2_findCandidates 82 = .ok (.dup, 1) := by decide +kernel
theorem dX2_findCandidates_83 : decode cX2_findCandidates 83 = .ok (.getfield 58, 3) := by decide +kernel
theorem dX2_findCandidates_86 : decode cX2_findCandidates 86 = .ok (.iconst 1, 1) := by decide +kernel
theorem dX2_findCandidates_87 : decode cX2_findCandidates 87 = .ok (.iadd, 1) := by decide +kernel
theorem dX2_findCandidates_88 : decode cX2_findCandidates 88 = .ok (.putfield 58, 3) := by decide +kernel
theorem dX2_findCandidates_91 : decode cX2_findCandidates 91 = .ok (.iinc 1 1, 3) := by decide +kernel
theorem dX2_findCandidates_94 : decode cX2_findCandidates 94 = .ok (.goto (-87), 3) := by decide +kernel
theorem dX2_findCandidates_97 : decode cX2_findCandidates 97 = .ok (.return_, 1) := by decide +kernel
theorem dX2_marksOf_0 : decode cX2_marksOf 0 = .ok (.lconst 0, 1) := by decide +kernel
theorem dX2_marksOf_1 : decode cX2_marksOf 1 = .ok (.lstore_n 2, 1) := by decide +kernel
theorem dX2_marksOf_2 : decode cX2_marksOf 2 = .ok (.iconst 0, 1) := by decide +kernel
theorem dX2_marksOf_3 : decode cX2_marksOf 3 = .ok (.istore 4, 2) := by decide +kernel
theorem dX2_marksOf_5 : decode cX2_marksOf 5 = .ok (.iload 4, 2) := by decide +kernel
theorem dX2_marksOf_7 : decode cX2_marksOf 7 = .ok (.aload_n 0, 1) := by decide +kernel
theorem dX2_marksOf_8 : decode cX2_marksOf 8 = .ok (.getfield 58, 3) := by decide +kernel
theorem dX2_marksOf_11 : decode cX2_marksOf 11 = .ok (.if_icmp .ge 32, 3) := by decide +kernel
theorem dX2_marksOf_14 : decode cX2_marksOf 14 = .ok (.iload_n 1, 1) := by decide +kernel
theorem dX2_marksOf_15 : decode cX2_marksOf 15 = .ok (.iload 4, 2) := by decide +kernel
theorem dX2_marksOf_17 : decode cX2_marksOf 17 = .ok (.ishr, 1) := by decide +kernel
theorem dX2_marksOf_18 : decode cX2_marksOf 18 = .ok (.iconst 1, 1) := by decide +kernel
theorem dX2_marksOf_19 : decode cX2_marksOf 19 = .ok (.iand, 1) := by decide +kernel
theorem dX2_marksOf_20 : decode cX2_marksOf 20 = .ok (.ifCond .eq 17, 3) := by decide +kernel
theorem dX2_marksOf_23 : decode cX2_marksOf 23 = .ok (.lload_n 2, 1) := by decide +kernel
theorem dX2_marksOf_24 : decode cX2_marksOf 24 = .ok (.lconst 1, 1) := by decide +kernel
theorem dX2_marksOf_25 : decode cX2_marksOf 25 = .ok (.aload_n 0, 1) := by decide +kernel
theorem dX2_marksOf_26 : decode cX2_marksOf 26 = .ok (.getfield 15, 3) := by decide +kernel
theorem dX2_marksOf_29 : decode cX2_marksOf 29 = .ok (.iload 4, 2) := by decide +kernel
theorem dX2_marksOf_31 : decode cX2_marksOf 31 = .ok (.invokestatic 52, 3) := by decide +kernel
theorem dX2_marksOf_34 : decode cX2_marksOf 34 = .ok (.lshl, 1) := by decide +kernel
theorem dX2_marksOf_35 : decode cX2_marksOf 35 = .ok (.lor, 1) := by decide +kernel
theorem dX2_marksOf_36 : decode cX2_marksOf 36 = .ok (.lstore_n 2, 1) := by decide +kernel
theorem dX2_marksOf_37 : decode cX2_marksOf 37 = .ok (.iinc 4 1, 3) := by decide +kernel
theorem dX2_marksOf_40 : decode cX2_marksOf 40 = .ok (.goto (-35), 3) := by decide +kernel
theorem dX2_marksOf_43 : decode cX2_marksOf 43 = .ok (.lload_n 2, 1) := by decide +kernel
theorem dX2_marksOf_44 : decode cX2_marksOf 44 = .ok (.lreturn, 1) := by decide +kernel
theorem dX2_priceOf_0 : decode cX2_priceOf 0 = .ok (.iconst 0, 1) := by decide +kernel
theorem dX2_priceOf_1 : decode cX2_priceOf 1 = .ok (.istore_n 2, 1) := by decide +kernel
theorem dX2_priceOf_2 : decode cX2_priceOf 2 = .ok (.iconst 0, 1) := by decide +kernel
theorem dX2_priceOf_3 : decode cX2_priceOf 3 = .ok (.istore_n 3, 1) := by decide +kernel
theorem dX2_priceOf_4 : decode cX2_priceOf 4 = .ok (.iload_n 3, 1) := by decide +kernel
theorem dX2_priceOf_5 : decode cX2_priceOf 5 = .ok (.aload_n 0, 1) := by decide +kernel
theorem dX2_priceOf_6 : decode cX2_priceOf 6 = .ok (.getfield 58, 3) := by decide +kernel
theorem dX2_priceOf_9 : decode cX2_priceOf 9 = .ok (.if_icmp .ge 38, 3) := by decide +kernel
theorem dX2_priceOf_12 : decode cX2_priceOf 12 = .ok (.iload_n 1, 1) := by decide +kernel
theorem dX2_priceOf_13 : decode cX2_priceOf 13 = .ok (.iload_n 3, 1) := by decide +kernel
theorem dX2_priceOf_14 : decode cX2_priceOf 14 = .ok (.ishr, 1) := by decide +kernel
theorem dX2_priceOf_15 : decode cX2_priceOf 15 = .ok (.iconst 1, 1) := by decide +kernel
theorem dX2_priceOf_16 : decode cX2_priceOf 16 = .ok (.iand, 1) := by decide +kernel
theorem dX2_priceOf_17 : decode cX2_priceOf 17 = .ok (.ifCond .eq 24, 3) := by decide +kernel
theorem dX2_priceOf_20 : decode cX2_priceOf 20 = .ok (.iload_n 2, 1) := by decide +kernel
theorem dX2_priceOf_21 : decode cX2_priceOf 21 = .ok (.aload_n 0, 1) := by decide +kernel
theorem dX2_priceOf_22 : decode cX2_priceOf 22 = .ok (.getfield 9, 3) := by decide +kernel
theorem dX2_priceOf_25 : decode cX2_priceOf 25 = .ok (.aload_n 0, 1) := by decide +kernel
theorem dX2_priceOf_26 : decode cX2_priceOf 26 = .ok (.getfield 15, 3) := by decide +kernel
theorem dX2_priceOf_29 : decode cX2_priceOf 29 = .ok (.iload_n 3, 1) := by decide +kernel
theorem dX2_priceOf_30 : decode cX2_priceOf 30 = .ok (.invokestatic 52, 3) := by decide +kernel
theorem dX2_priceOf_33 : decode cX2_priceOf 33 = .ok (.invokestatic 105, 3) := by decide +kernel
theorem dX2_priceOf_36 : decode cX2_priceOf 36 = .ok (.invokestatic 52, 3) := by decide +kernel
theorem dX2_priceOf_39 : decode cX2_priceOf 39 = .ok (.iadd, 1) := by decide +kernel
theorem dX2_priceOf_40 : decode cX2_priceOf 40 = .ok (.istore_n 2, 1) := by decide +kernel
theorem dX2_priceOf_41 : decode cX2_priceOf 41 = .ok (.iinc 3 1, 3) := by decide +kernel
theorem dX2_priceOf_44 : decode cX2_priceOf 44 = .ok (.goto (-40), 3) := by decide +kernel
theorem dX2_priceOf_47 : decode cX2_priceOf 47 = .ok (.iload_n 2, 1) := by decide +kernel
theorem dX2_priceOf_48 : decode cX2_priceOf 48 = .ok (.ireturn, 1) := by decide +kernel
theorem dX2_nameHeld_0 : decode cX2_nameHeld 0 = .ok (.aload_n 0, 1) := by decide +kernel
theorem dX2_nameHeld_1 : decode cX2_nameHeld 1 = .ok (.iconst 0, 1) := by decide +kernel
theorem dX2_nameHeld_2 : decode cX2_nameHeld 2 = .ok (.putfield 108, 3) := by decide +kernel
theorem dX2_nameHeld_5 : decode cX2_nameHeld 5 = .ok (.iconst 0, 1) := by decide +kernel
theorem dX2_nameHeld_6 : decode cX2_nameHeld 6 = .ok (.istore_n 1, 1) := by decide +kernel
theorem dX2_nameHeld_7 : decode cX2_nameHeld 7 = .ok (.iload_n 1, 1) := by decide +kernel
theorem dX2_nameHeld_8 : decode cX2_nameHeld 8 = .ok (.aload_n 0, 1) := by decide +kernel
theorem dX2_nameHeld_9 : decode cX2_nameHeld 9 = .ok (.getfield 58, 3) := by decide +kernel
theorem dX2_nameHeld_12 : decode cX2_nameHeld 12 = .ok (.if_icmp .ge 52, 3) := by decide +kernel
theorem dX2_nameHeld_15 : decode cX2_nameHeld 15 = .ok (.aload_n 0, 1) := by decide +kernel
theorem dX2_nameHeld_16 : decode cX2_nameHeld 16 = .ok (.getfield 42, 3) := by decide +kernel
theorem dX2_nameHeld_19 : decode cX2_nameHeld 19 = .ok (.iload_n 1, 1) := by decide +kernel
theorem dX2_nameHeld_20 : decode cX2_nameHeld 20 = .ok (.ishr, 1) := by decide +kernel
theorem dX2_nameHeld_21 : decode cX2_nameHeld 21 = .ok (.iconst 1, 1) := by decide +kernel
theorem dX2_nameHeld_22 : decode cX2_nameHeld 22 = .ok (.iand, 1) := by decide +kernel
theorem dX2_nameHeld_23 : decode cX2_nameHeld 23 = .ok (.ifCond .eq 35, 3) := by decide +kernel
theorem dX2_nameHeld_26 : decode cX2_nameHeld 26 = .ok (.aload_n 0, 1) := by decide +kernel
theorem dX2_nameHeld_27 : decode cX2_nameHeld 27 = .ok (.getfield 18, 3) := by decide +kernel
theorem dX2_nameHeld_30 : decode cX2_nameHeld 30 = .ok (.aload_n 0, 1) := by decide +kernel
theorem dX2_nameHeld_31 : decode cX2_nameHeld 31 = .ok (.getfield 108, 3) := by decide +kernel
theorem dX2_nameHeld_34 : decode cX2_nameHeld 34 = .ok (.aload_n 0, 1) := by decide +kernel
theorem dX2_nameHeld_35 : decode cX2_nameHeld 35 = .ok (.getfield 15, 3) := by decide +kernel
theorem dX2_nameHeld_38 : decode cX2_nameHeld 38 = .ok (.iload_n 1, 1) := by decide +kernel
theorem dX2_nameHeld_39 : decode cX2_nameHeld 39 = .ok (.invokestatic 52, 3) := by decide +kernel
theorem dX2_nameHeld_42 : decode cX2_nameHeld 42 = .ok (.invokestatic 111, 3) := by decide +kernel
theorem dX2_nameHeld_45 : decode cX2_nameHeld 45 = .ok (.invokestatic 101, 3) := by decide +kernel
theorem dX2_nameHeld_48 : decode cX2_nameHeld 48 = .ok (.aload_n 0, 1) := by decide +kernel
theorem dX2_nameHeld_49 : decode cX2_nameHeld 49 = .ok (.dup, 1) := by decide +kernel
theorem dX2_nameHeld_50 : decode cX2_nameHeld 50 = .ok (.getfield 108, 3) := by decide +kernel
theorem dX2_nameHeld_53 : decode cX2_nameHeld 53 = .ok (.iconst 1, 1) := by decide +kernel
theorem dX2_nameHeld_54 : decode cX2_nameHeld 54 = .ok (.iadd, 1) := by decide +kernel
theorem dX2_nameHeld_55 : decode cX2_nameHeld 55 = .ok (.putfield 108, 3) := by decide +kernel
theorem dX2_nameHeld_58 : decode cX2_nameHeld 58 = .ok (.iinc 1 1, 3) := by decide +kernel
theorem dX2_nameHeld_61 : decode cX2_nameHeld 61 = .ok (.goto (-54), 3) := by decide +kernel
theorem dX2_nameHeld_64 : decode cX2_nameHeld 64 = .ok (.return_, 1) := by decide +kernel
theorem dX2_priceKind_0 : decode cX2_priceKind 0 = .ok (.iload_n 0, 1) := by decide +kernel
theorem dX2_priceKind_1 : decode cX2_priceKind 1 = .ok (.bipush 40, 2) := by decide +kernel
theorem dX2_priceKind_3 : decode cX2_priceKind 3 = .ok (.if_icmp .lt 5, 3) := by decide +kernel
theorem dX2_priceKind_6 : decode cX2_priceKind 6 = .ok (.iconst 2, 1) := by decide +kernel
theorem dX2_priceKind_7 : decode cX2_priceKind 7 = .ok (.ireturn, 1) := by decide +kernel
theorem dX2_priceKind_8 : decode cX2_priceKind 8 = .ok (.iload_n 0, 1) := by decide +kernel
theorem dX2_priceKind_9 : decode cX2_priceKind 9 = .ok (.bipush 32, 2) := by decide +kernel
theorem dX2_priceKind_11 : decode cX2_priceKind 11 = .ok (.if_icmp .lt 7, 3) := by decide +kernel
theorem dX2_priceKind_14 : decode cX2_priceKind 14 = .ok (.iconst 1, 1) := by decide +kernel
theorem dX2_priceKind_15 : decode cX2_priceKind 15 = .ok (.goto 4, 3) := by decide +kernel
theorem dX2_priceKind_18 : decode cX2_priceKind 18 = .ok (.iconst 0, 1) := by decide +kernel
theorem dX2_priceKind_19 : decode cX2_priceKind 19 = .ok (.ireturn, 1) := by decide +kernel
theorem dX2_nameOfMark_0 : decode cX2_nameOfMark 0 = .ok (.iload_n 0, 1) := by decide +kernel
theorem dX2_nameOfMark_1 : decode cX2_nameOfMark 1 = .ok (.bipush 40, 2) := by decide +kernel
theorem dX2_nameOfMark_3 : decode cX2_nameOfMark 3 = .ok (.if_icmp .lt 12, 3) := by decide +kernel
theorem dX2_nameOfMark_6 : decode cX2_nameOfMark 6 = .ok (.sipush 200, 3) := by decide +kernel
theorem dX2_nameOfMark_9 : decode cX2_nameOfMark 9 = .ok (.iload_n 0, 1) := by decide +kernel
theorem dX2_nameOfMark_10 : decode cX2_nameOfMark 10 = .ok (.iadd, 1) := by decide +kernel
theorem dX2_nameOfMark_11 : decode cX2_nameOfMark 11 = .ok (.bipush 40, 2) := by decide +kernel
theorem dX2_nameOfMark_13 : decode cX2_nameOfMark 13 = .ok (.isub, 1) := by decide +kernel
theorem dX2_nameOfMark_14 : decode cX2_nameOfMark 14 = .ok (.ireturn, 1) := by decide +kernel
theorem dX2_nameOfMark_15 : decode cX2_nameOfMark 15 = .ok (.iload_n 0, 1) := by decide +kernel
theorem dX2_nameOfMark_16 : decode cX2_nameOfMark 16 = .ok (.bipush 32, 2) := by decide +kernel
theorem dX2_nameOfMark_18 : decode cX2_nameOfMark 18 = .ok (.if_icmp .lt 14, 3) := by decide +kernel
theorem dX2_nameOfMark_21 : decode cX2_nameOfMark 21 = .ok (.bipush 100, 2) := by decide +kernel
theorem dX2_nameOfMark_23 : decode cX2_nameOfMark 23 = .ok (.iload_n 0, 1) := by decide +kernel
theorem dX2_nameOfMark_24 : decode cX2_nameOfMark 24 = .ok (.bipush 32, 2) := by decide +kernel
theorem dX2_nameOfMark_26 : decode cX2_nameOfMark 26 = .ok (.isub, 1) := by decide +kernel
theorem dX2_nameOfMark_27 : decode cX2_nameOfMark 27 = .ok (.bipush 10, 2) := by decide +kernel
theorem dX2_nameOfMark_29 : decode cX2_nameOfMark 29 = .ok (.imul, 1) := by decide +kernel
theorem dX2_nameOfMark_30 : decode cX2_nameOfMark 30 = .ok (.iadd, 1) := by decide +kernel
theorem dX2_nameOfMark_31 : decode cX2_nameOfMark 31 = .ok (.ireturn, 1) := by decide +kernel
theorem dX2_nameOfMark_32 : decode cX2_nameOfMark 32 = .ok (.iload_n 0, 1) := by decide +kernel
theorem dX2_nameOfMark_33 : decode cX2_nameOfMark 33 = .ok (.iconst 4, 1) := by decide +kernel
theorem dX2_nameOfMark_34 : decode cX2_nameOfMark 34 = .ok (.idiv, 1) := by decide +kernel
theorem dX2_nameOfMark_35 : decode cX2_nameOfMark 35 = .ok (.bipush 10, 2) := by decide +kernel
theorem dX2_nameOfMark_37 : decode cX2_nameOfMark 37 = .ok (.imul, 1) := by decide +kernel
theorem dX2_nameOfMark_38 : decode cX2_nameOfMark 38 = .ok (.iload_n 0, 1) := by decide +kernel
theorem dX2_nameOfMark_39 : decode cX2_nameOfMark 39 = .ok (.iconst 4, 1) := by decide +kernel
theorem dX2_nameOfMark_40 : decode cX2_nameOfMark 40 = .ok (.irem, 1) := by decide +kernel
theorem dX2_nameOfMark_41 : decode cX2_nameOfMark 41 = .ok (.iadd, 1) := by decide +kernel
theorem dX2_nameOfMark_42 : decode cX2_nameOfMark 42 = .ok (.ireturn, 1) := by decide +kernel
theorem dX3_clear_0 : decode cX3_clear 0 = .ok (.aload_n 0, 1) := by decide +kernel
theorem dX3_clear_1 : decode cX3_clear 1 = .ok (.getfield 12, 3) := by decide +kernel
theorem dX3_clear_4 : decode cX3_clear 4 = .ok (.iconst 0, 1) := by decide +kernel
theorem dX3_clear_5 : decode cX3_clear 5 = .ok (.putfield 47, 3) := by decide +kernel
theorem dX3_clear_8 : decode cX3_clear 8 = .ok (.aload_n 0, 1) := by decide +kernel
theorem dX3_clear_9 : decode cX3_clear 9 = .ok (.iconst 0, 1) := by decide +kernel
theorem dX3_clear_10 : decode cX3_clear 10 = .ok (.putfield 50, 3) := by decide +kernel
theorem dX3_clear_13 : decode cX3_clear 13 = .ok (.aload_n 0, 1) := by decide +kernel
theorem dX3_clear_14 : decode cX3_clear 14 = .ok (.iconst 0, 1) := by decide +kernel
theorem dX3_clear_15 : decode cX3_clear 15 = .ok (.putfield 53, 3) := by decide +kernel
theorem dX3_clear_18 : decode cX3_clear 18 = .ok (.aload_n 0, 1) := by decide +kernel
theorem dX3_clear_19 : decode cX3_clear 19 = .ok (.iconst 0, 1) := by decide +kernel
theorem dX3_clear_20 : decode cX3_clear 20 = .ok (.putfield 56, 3) := by decide +kernel
theorem dX3_clear_23 : decode cX3_clear 23 = .ok (.aload_n 0, 1) := by decide +kernel
theorem dX3_clear_24 : decode cX3_clear 24 = .ok (.iconst 0, 1) := by decide +kernel
theorem dX3_clear_25 : decode cX3_clear 25 = .ok (.putfield 59, 3) := by decide +kernel
theorem dX3_clear_28 : decode cX3_clear 28 = .ok (.aload_n 0, 1) := by decide +kernel
theorem dX3_clear_29 : decode cX3_clear 29 = .ok (.iconst (-1), 1) := by decide +kernel
theorem dX3_clear_30 : decode cX3_clear 30 = .ok (.putfield 43, 3) := by decide +kernel
theorem dX3_clear_33 : decode cX3_clear 33 = .ok (.return_, 1) := by decide +kernel
theorem dX3_has_0 : decode cX3_has 0 = .ok (.iload_n 1, 1) := by decide +kernel
theorem dX3_has_1 : decode cX3_has 1 = .ok (.ifCond .lt 24, 3) := by decide +kernel
theorem dX3_has_4 : decode cX3_has 4 = .ok (.iload_n 1, 1) := by decide +kernel
theorem dX3_has_5 : decode cX3_has 5 = .ok (.bipush 8, 2) := by decide +kernel
theorem dX3_has_7 : decode cX3_has 7 = .ok (.if_icmp .ge 18, 3) := by decide +kernel
theorem dX3_has_10 : decode cX3_has 10 = .ok (.aload_n 0, 1) := by decide +kernel
theorem dX3_has_11 : decode cX3_has 11 = .ok (.getfield 50, 3) := by decide +kernel
theorem dX3_has_14 : decode cX3_has 14 = .ok (.iload_n 1, 1) := by decide +kernel
theorem dX3_has_15 : decode cX3_has 15 = .ok (.ishr, 1) := by decide +kernel
theorem dX3_has_16 : decode cX3_has 16 = .ok (.iconst 1, 1) := by decide +kernel
theorem dX3_has_17 : decode cX3_has 17 = .ok (.iand, 1) := by decide +kernel
theorem dX3_has_18 : decode cX3_has 18 = .ok (.ifCond .eq 7, 3) := by decide +kernel
theorem dX3_has_21 : decode cX3_has 21 = .ok (.iconst 1, 1) := by decide +kernel
theorem dX3_has_22 : decode cX3_has 22 = .ok (.goto 4, 3) := by decide +kernel
theorem dX3_has_25 : decode cX3_has 25 = .ok (.iconst 0, 1) := by decide +kernel
theorem dX3_has_26 : decode cX3_has 26 = .ok (.ireturn, 1) := by decide +kernel
theorem dX3_addRoutine_0 : decode cX3_addRoutine 0 = .ok (.aload_n 0, 1) := by decide +kernel
theorem dX3_addRoutine_1 : decode cX3_addRoutine 1 = .ok (.getfield 53, 3) := by decide +kernel
theorem dX3_addRoutine_4 : decode cX3_addRoutine 4 = .ok (.ifCond .ne 8, 3) := by decide +kernel
theorem dX3_addRoutine_7 : decode cX3_addRoutine 7 = .ok (.aload_n 0, 1) := by decide +kernel
theorem dX3_addRoutine_8 : decode cX3_addRoutine 8 = .ok (.iload_n 1, 1) := by decide +kernel
