theorem dX3_addRoutine_9 : decode cX3_addRoutine 9 = .ok (.putfield 43, 3) := by decide +kernel
theorem dX3_addRoutine_12 : decode cX3_addRoutine 12 = .ok (.aload_n 0, 1) := by decide +kernel
theorem dX3_addRoutine_13 : decode cX3_addRoutine 13 = .ok (.dup, 1) := by decide +kernel
theorem dX3_addRoutine_14 : decode cX3_addRoutine 14 = .ok (.getfield 53, 3) := by decide +kernel
theorem dX3_addRoutine_17 : decode cX3_addRoutine 17 = .ok (.iconst 1, 1) := by decide +kernel
theorem dX3_addRoutine_18 : decode cX3_addRoutine 18 = .ok (.iadd, 1) := by decide +kernel
theorem dX3_addRoutine_19 : decode cX3_addRoutine 19 = .ok (.putfield 53, 3) := by decide +kernel
theorem dX3_addRoutine_22 : decode cX3_addRoutine 22 = .ok (.aload_n 0, 1) := by decide +kernel
theorem dX3_addRoutine_23 : decode cX3_addRoutine 23 = .ok (.dup, 1) := by decide +kernel
theorem dX3_addRoutine_24 : decode cX3_addRoutine 24 = .ok (.getfield 50, 3) := by decide +kernel
theorem dX3_addRoutine_27 : decode cX3_addRoutine 27 = .ok (.iconst 1, 1) := by decide +kernel
theorem dX3_addRoutine_28 : decode cX3_addRoutine 28 = .ok (.iload_n 1, 1) := by decide +kernel
theorem dX3_addRoutine_29 : decode cX3_addRoutine 29 = .ok (.ishl, 1) := by decide +kernel
theorem dX3_addRoutine_30 : decode cX3_addRoutine 30 = .ok (.ior, 1) := by decide +kernel
theorem dX3_addRoutine_31 : decode cX3_addRoutine 31 = .ok (.putfield 50, 3) := by decide +kernel
theorem dX3_addRoutine_34 : decode cX3_addRoutine 34 = .ok (.aload_n 0, 1) := by decide +kernel
theorem dX3_addRoutine_35 : decode cX3_addRoutine 35 = .ok (.getfield 18, 3) := by decide +kernel
theorem dX3_addRoutine_38 : decode cX3_addRoutine 38 = .ok (.iload_n 1, 1) := by decide +kernel
theorem dX3_addRoutine_39 : decode cX3_addRoutine 39 = .ok (.aload_n 0, 1) := by decide +kernel
theorem dX3_addRoutine_40 : decode cX3_addRoutine 40 = .ok (.getfield 12, 3) := by decide +kernel
theorem dX3_addRoutine_43 : decode cX3_addRoutine 43 = .ok (.getfield 47, 3) := by decide +kernel
theorem dX3_addRoutine_46 : decode cX3_addRoutine 46 = .ok (.invokestatic 62, 3) := by decide +kernel
theorem dX3_addRoutine_49 : decode cX3_addRoutine 49 = .ok (.aload_n 0, 1) := by decide +kernel
theorem dX3_addRoutine_50 : decode cX3_addRoutine 50 = .ok (.getfield 22, 3) := by decide +kernel
theorem dX3_addRoutine_53 : decode cX3_addRoutine 53 = .ok (.iload_n 1, 1) := by decide +kernel
theorem dX3_addRoutine_54 : decode cX3_addRoutine 54 = .ok (.iconst 0, 1) := by decide +kernel
theorem dX3_addRoutine_55 : decode cX3_addRoutine 55 = .ok (.invokestatic 62, 3) := by decide +kernel
theorem dX3_addRoutine_58 : decode cX3_addRoutine 58 = .ok (.return_, 1) := by decide +kernel
theorem dX3_addParameter_0 : decode cX3_addParameter 0 = .ok (.aload_n 0, 1) := by decide +kernel
theorem dX3_addParameter_1 : decode cX3_addParameter 1 = .ok (.getfield 22, 3) := by decide +kernel
theorem dX3_addParameter_4 : decode cX3_addParameter 4 = .ok (.iload_n 1, 1) := by decide +kernel
theorem dX3_addParameter_5 : decode cX3_addParameter 5 = .ok (.invokestatic 68, 3) := by decide +kernel
theorem dX3_addParameter_8 : decode cX3_addParameter 8 = .ok (.istore_n 3, 1) := by decide +kernel
theorem dX3_addParameter_9 : decode cX3_addParameter 9 = .ok (.aload_n 0, 1) := by decide +kernel
theorem dX3_addParameter_10 : decode cX3_addParameter 10 = .ok (.getfield 25, 3) := by decide +kernel
theorem dX3_addParameter_13 : decode cX3_addParameter 13 = .ok (.iload_n 1, 1) := by decide +kernel
theorem dX3_addParameter_14 : decode cX3_addParameter 14 = .ok (.iconst 4, 1) := by decide +kernel
theorem dX3_addParameter_15 : decode cX3_addParameter 15 = .ok (.imul, 1) := by decide +kernel
theorem dX3_addParameter_16 : decode cX3_addParameter 16 = .ok (.iload_n 3, 1) := by decide +kernel
theorem dX3_addParameter_17 : decode cX3_addParameter 17 = .ok (.iadd, 1) := by decide +kernel
theorem dX3_addParameter_18 : decode cX3_addParameter 18 = .ok (.iload_n 2, 1) := by decide +kernel
theorem dX3_addParameter_19 : decode cX3_addParameter 19 = .ok (.invokestatic 62, 3) := by decide +kernel
theorem dX3_addParameter_22 : decode cX3_addParameter 22 = .ok (.aload_n 0, 1) := by decide +kernel
theorem dX3_addParameter_23 : decode cX3_addParameter 23 = .ok (.getfield 22, 3) := by decide +kernel
theorem dX3_addParameter_26 : decode cX3_addParameter 26 = .ok (.iload_n 1, 1) := by decide +kernel
theorem dX3_addParameter_27 : decode cX3_addParameter 27 = .ok (.iload_n 3, 1) := by decide +kernel
theorem dX3_addParameter_28 : decode cX3_addParameter 28 = .ok (.iconst 1, 1) := by decide +kernel
theorem dX3_addParameter_29 : decode cX3_addParameter 29 = .ok (.iadd, 1) := by decide +kernel
theorem dX3_addParameter_30 : decode cX3_addParameter 30 = .ok (.invokestatic 62, 3) := by decide +kernel
theorem dX3_addParameter_33 : decode cX3_addParameter 33 = .ok (.return_, 1) := by decide +kernel
theorem dX3_parameter_0 : decode cX3_parameter 0 = .ok (.aload_n 0, 1) := by decide +kernel
theorem dX3_parameter_1 : decode cX3_parameter 1 = .ok (.getfield 25, 3) := by decide +kernel
theorem dX3_parameter_4 : decode cX3_parameter 4 = .ok (.iload_n 1, 1) := by decide +kernel
theorem dX3_parameter_5 : decode cX3_parameter 5 = .ok (.iconst 4, 1) := by decide +kernel
theorem dX3_parameter_6 : decode cX3_parameter 6 = .ok (.imul, 1) := by decide +kernel
theorem dX3_parameter_7 : decode cX3_parameter 7 = .ok (.iload_n 2, 1) := by decide +kernel
theorem dX3_parameter_8 : decode cX3_parameter 8 = .ok (.iadd, 1) := by decide +kernel
theorem dX3_parameter_9 : decode cX3_parameter 9 = .ok (.invokestatic 68, 3) := by decide +kernel
theorem dX3_parameter_12 : decode cX3_parameter 12 = .ok (.ireturn, 1) := by decide +kernel
theorem dX3_hasParameter_0 : decode cX3_hasParameter 0 = .ok (.iconst 0, 1) := by decide +kernel
theorem dX3_hasParameter_1 : decode cX3_hasParameter 1 = .ok (.istore_n 3, 1) := by decide +kernel
theorem dX3_hasParameter_2 : decode cX3_hasParameter 2 = .ok (.iload_n 3, 1) := by decide +kernel
theorem dX3_hasParameter_3 : decode cX3_hasParameter 3 = .ok (.aload_n 0, 1) := by decide +kernel
theorem dX3_hasParameter_4 : decode cX3_hasParameter 4 = .ok (.getfield 22, 3) := by decide +kernel
theorem dX3_hasParameter_7 : decode cX3_hasParameter 7 = .ok (.iload_n 1, 1) := by decide +kernel
theorem dX3_hasParameter_8 : decode cX3_hasParameter 8 = .ok (.invokestatic 68, 3) := by decide +kernel
theorem dX3_hasParameter_11 : decode cX3_hasParameter 11 = .ok (.if_icmp .ge 26, 3) := by decide +kernel
theorem dX3_hasParameter_14 : decode cX3_hasParameter 14 = .ok (.iload_n 3, 1) := by decide +kernel
theorem dX3_hasParameter_15 : decode cX3_hasParameter 15 = .ok (.iconst 4, 1) := by decide +kernel
theorem dX3_hasParameter_16 : decode cX3_hasParameter 16 = .ok (.if_icmp .ge 21, 3) := by decide +kernel
theorem dX3_hasParameter_19 : decode cX3_hasParameter 19 = .ok (.aload_n 0, 1) := by decide +kernel
theorem dX3_hasParameter_20 : decode cX3_hasParameter 20 = .ok (.iload_n 1, 1) := by decide +kernel
theorem dX3_hasParameter_21 : decode cX3_hasParameter 21 = .ok (.iload_n 3, 1) := by decide +kernel
theorem dX3_hasParameter_22 : decode cX3_hasParameter 22 = .ok (.invokevirtual 72, 3) := by decide +kernel
theorem dX3_hasParameter_25 : decode cX3_hasParameter 25 = .ok (.iload_n 2, 1) := by decide +kernel
theorem dX3_hasParameter_26 : decode cX3_hasParameter 26 = .ok (.if_icmp .ne 5, 3) := by decide +kernel
theorem dX3_hasParameter_29 : decode cX3_hasParameter 29 = .ok (.iconst 1, 1) := by decide +kernel
theorem dX3_hasParameter_30 : decode cX3_hasParameter 30 = .ok (.ireturn, 1) := by decide +kernel
theorem dX3_hasParameter_31 : decode cX3_hasParameter 31 = .ok (.iinc 3 1, 3) := by decide +kernel
theorem dX3_hasParameter_34 : decode cX3_hasParameter 34 = .ok (.goto (-32), 3) := by decide +kernel
theorem dX3_hasParameter_37 : decode cX3_hasParameter 37 = .ok (.iconst 0, 1) := by decide +kernel
theorem dX3_hasParameter_38 : decode cX3_hasParameter 38 = .ok (.ireturn, 1) := by decide +kernel
theorem dX3_addUse_0 : decode cX3_addUse 0 = .ok (.aload_n 0, 1) := by decide +kernel
theorem dX3_addUse_1 : decode cX3_addUse 1 = .ok (.getfield 56, 3) := by decide +kernel
theorem dX3_addUse_4 : decode cX3_addUse 4 = .ok (.istore 4, 2) := by decide +kernel
theorem dX3_addUse_6 : decode cX3_addUse 6 = .ok (.iload 4, 2) := by decide +kernel
theorem dX3_addUse_8 : decode cX3_addUse 8 = .ok (.ifCond .lt 10, 3) := by decide +kernel
theorem dX3_addUse_11 : decode cX3_addUse 11 = .ok (.iload 4, 2) := by decide +kernel
theorem dX3_addUse_13 : decode cX3_addUse 13 = .ok (.bipush 40, 2) := by decide +kernel
theorem dX3_addUse_15 : decode cX3_addUse 15 = .ok (.if_icmp .lt 5, 3) := by decide +kernel
theorem dX3_addUse_18 : decode cX3_addUse 18 = .ok (.iconst (-1), 1) := by decide +kernel
theorem dX3_addUse_19 : decode cX3_addUse 19 = .ok (.ireturn, 1) := by decide +kernel
theorem dX3_addUse_20 : decode cX3_addUse 20 = .ok (.aload_n 0, 1) := by decide +kernel
theorem dX3_addUse_21 : decode cX3_addUse 21 = .ok (.getfield 28, 3) := by decide +kernel
theorem dX3_addUse_24 : decode cX3_addUse 24 = .ok (.iload 4, 2) := by decide +kernel
theorem dX3_addUse_26 : decode cX3_addUse 26 = .ok (.iload_n 1, 1) := by decide +kernel
theorem dX3_addUse_27 : decode cX3_addUse 27 = .ok (.iastore, 1) := by decide +kernel
theorem dX3_addUse_28 : decode cX3_addUse 28 = .ok (.aload_n 0, 1) := by decide +kernel
theorem dX3_addUse_29 : decode cX3_addUse 29 = .ok (.getfield 31, 3) := by decide +kernel
theorem dX3_addUse_32 : decode cX3_addUse 32 = .ok (.iload 4, 2) := by decide +kernel
theorem dX3_addUse_34 : decode cX3_addUse 34 = .ok (.iload_n 2, 1) := by decide +kernel
theorem dX3_addUse_35 : decode cX3_addUse 35 = .ok (.iastore, 1) := by decide +kernel
theorem dX3_addUse_36 : decode cX3_addUse 36 = .ok (.aload_n 0, 1) := by decide +kernel
theorem dX3_addUse_37 : decode cX3_addUse 37 = .ok (.getfield 34, 3) := by decide +kernel
theorem dX3_addUse_40 : decode cX3_addUse 40 = .ok (.iload 4, 2) := by decide +kernel
theorem dX3_addUse_42 : decode cX3_addUse 42 = .ok (.iload_n 3, 1) := by decide +kernel
theorem dX3_addUse_43 : decode cX3_addUse 43 = .ok (.iastore, 1) := by decide +kernel
theorem dX3_addUse_44 : decode cX3_addUse 44 = .ok (.aload_n 0, 1) := by decide +kernel
theorem dX3_addUse_45 : decode cX3_addUse 45 = .ok (.dup, 1) := by decide +kernel
theorem dX3_addUse_46 : decode cX3_addUse 46 = .ok (.getfield 56, 3) := by decide +kernel
theorem dX3_addUse_49 : decode cX3_addUse 49 = .ok (.iconst 1, 1) := by decide +kernel
theorem dX3_addUse_50 : decode cX3_addUse 50 = .ok (.iadd, 1) := by decide +kernel
theorem dX3_addUse_51 : decode cX3_addUse 51 = .ok (.putfield 56, 3) := by decide +kernel
theorem dX3_addUse_54 : decode cX3_addUse 54 = .ok (.iload 4, 2) := by decide +kernel
theorem dX3_addUse_56 : decode cX3_addUse 56 = .ok (.ireturn, 1) := by decide +kernel
theorem dX3_addTest_0 : decode cX3_addTest 0 = .ok (.aload_n 0, 1) := by decide +kernel
theorem dX3_addTest_1 : decode cX3_addTest 1 = .ok (.getfield 59, 3) := by decide +kernel
theorem dX3_addTest_4 : decode cX3_addTest 4 = .ok (.istore_n 3, 1) := by decide +kernel
theorem dX3_addTest_5 : decode cX3_addTest 5 = .ok (.iload_n 3, 1) := by decide +kernel
theorem dX3_addTest_6 : decode cX3_addTest 6 = .ok (.ifCond .lt 9, 3) := by decide +kernel
theorem dX3_addTest_9 : decode cX3_addTest 9 = .ok (.iload_n 3, 1) := by decide +kernel
theorem dX3_addTest_10 : decode cX3_addTest 10 = .ok (.bipush 24, 2) := by decide +kernel
theorem dX3_addTest_12 : decode cX3_addTest 12 = .ok (.if_icmp .lt 5, 3) := by decide +kernel
theorem dX3_addTest_15 : decode cX3_addTest 15 = .ok (.iconst (-1), 1) := by decide +kernel
theorem dX3_addTest_16 : decode cX3_addTest 16 = .ok (.ireturn, 1) := by decide +kernel
theorem dX3_addTest_17 : decode cX3_addTest 17 = .ok (.aload_n 0, 1) := by decide +kernel
theorem dX3_addTest_18 : decode cX3_addTest 18 = .ok (.getfield 37, 3) := by decide +kernel
theorem dX3_addTest_21 : decode cX3_addTest 21 = .ok (.iload_n 3, 1) := by decide +kernel
theorem dX3_addTest_22 : decode cX3_addTest 22 = .ok (.iload_n 1, 1) := by decide +kernel
theorem dX3_addTest_23 : decode cX3_addTest 23 = .ok (.iastore, 1) := by decide +kernel
theorem dX3_addTest_24 : decode cX3_addTest 24 = .ok (.aload_n 0, 1) := by decide +kernel
theorem dX3_addTest_25 : decode cX3_addTest 25 = .ok (.getfield 40, 3) := by decide +kernel
theorem dX3_addTest_28 : decode cX3_addTest 28 = .ok (.iload_n 3, 1) := by decide +kernel
theorem dX3_addTest_29 : decode cX3_addTest 29 = .ok (.iload_n 2, 1) := by decide +kernel
theorem dX3_addTest_30 : decode cX3_addTest 30 = .ok (.iastore, 1) := by decide +kernel
theorem dX3_addTest_31 : decode cX3_addTest 31 = .ok (.aload_n 0, 1) := by decide +kernel
theorem dX3_addTest_32 : decode cX3_addTest 32 = .ok (.dup, 1) := by decide +kernel
theorem dX3_addTest_33 : decode cX3_addTest 33 = .ok (.getfield 59, 3) := by decide +kernel
theorem dX3_addTest_36 : decode cX3_addTest 36 = .ok (.iconst 1, 1) := by decide +kernel
theorem dX3_addTest_37 : decode cX3_addTest 37 = .ok (.iadd, 1) := by decide +kernel
theorem dX3_addTest_38 : decode cX3_addTest 38 = .ok (.putfield 59, 3) := by decide +kernel
theorem dX3_addTest_41 : decode cX3_addTest 41 = .ok (.iload_n 3, 1) := by decide +kernel
theorem dX3_addTest_42 : decode cX3_addTest 42 = .ok (.ireturn, 1) := by decide +kernel
theorem dX4_readInto_0 : decode cX4_readInto 0 = .ok (.aload_n 0, 1) := by decide +kernel
theorem dX4_readInto_1 : decode cX4_readInto 1 = .ok (.aload_n 1, 1) := by decide +kernel
theorem dX4_readInto_2 : decode cX4_readInto 2 = .ok (.putfield 26, 3) := by decide +kernel
theorem dX4_readInto_5 : decode cX4_readInto 5 = .ok (.aload_n 0, 1) := by decide +kernel
theorem dX4_readInto_6 : decode cX4_readInto 6 = .ok (.aload_n 1, 1) := by decide +kernel
theorem dX4_readInto_7 : decode cX4_readInto 7 = .ok (.getfield 30, 3) := by decide +kernel
theorem dX4_readInto_10 : decode cX4_readInto 10 = .ok (.putfield 36, 3) := by decide +kernel
theorem dX4_readInto_13 : decode cX4_readInto 13 = .ok (.aload_n 1, 1) := by decide +kernel
theorem dX4_readInto_14 : decode cX4_readInto 14 = .ok (.invokevirtual 37, 3) := by decide +kernel
theorem dX4_readInto_17 : decode cX4_readInto 17 = .ok (.aload_n 0, 1) := by decide +kernel
theorem dX4_readInto_18 : decode cX4_readInto 18 = .ok (.iconst 0, 1) := by decide +kernel
theorem dX4_readInto_19 : decode cX4_readInto 19 = .ok (.putfield 40, 3) := by decide +kernel
theorem dX4_readInto_22 : decode cX4_readInto 22 = .ok (.aload_n 0, 1) := by decide +kernel
theorem dX4_readInto_23 : decode cX4_readInto 23 = .ok (.iconst 0, 1) := by decide +kernel
theorem dX4_readInto_24 : decode cX4_readInto 24 = .ok (.putfield 43, 3) := by decide +kernel
theorem dX4_readInto_27 : decode cX4_readInto 27 = .ok (.aload_n 0, 1) := by decide +kernel
theorem dX4_readInto_28 : decode cX4_readInto 28 = .ok (.iconst 0, 1) := by decide +kernel
theorem dX4_readInto_29 : decode cX4_readInto 29 = .ok (.putfield 46, 3) := by decide +kernel
theorem dX4_readInto_32 : decode cX4_readInto 32 = .ok (.aload_n 0, 1) := by decide +kernel
theorem dX4_readInto_33 : decode cX4_readInto 33 = .ok (.iconst (-1), 1) := by decide +kernel
theorem dX4_readInto_34 : decode cX4_readInto 34 = .ok (.putfield 18, 3) := by decide +kernel
theorem dX4_readInto_37 : decode cX4_readInto 37 = .ok (.iconst 0, 1) := by decide +kernel
theorem dX4_readInto_38 : decode cX4_readInto 38 = .ok (.istore_n 2, 1) := by decide +kernel
theorem dX4_readInto_39 : decode cX4_readInto 39 = .ok (.iload_n 2, 1) := by decide +kernel
theorem dX4_readInto_40 : decode cX4_readInto 40 = .ok (.sipush 1200, 3) := by decide +kernel
theorem dX4_readInto_43 : decode cX4_readInto 43 = .ok (.if_icmp .gt 67, 3) := by decide +kernel
theorem dX4_readInto_46 : decode cX4_readInto 46 = .ok (.aload_n 0, 1) := by decide +kernel
theorem dX4_readInto_47 : decode cX4_readInto 47 = .ok (.getfield 46, 3) := by decide +kernel
theorem dX4_readInto_50 : decode cX4_readInto 50 = .ok (.ifCond .ne 60, 3) := by decide +kernel
theorem dX4_readInto_53 : decode cX4_readInto 53 = .ok (.aload_n 0, 1) := by decide +kernel
theorem dX4_readInto_54 : decode cX4_readInto 54 = .ok (.getfield 43, 3) := by decide +kernel
theorem dX4_readInto_57 : decode cX4_readInto 57 = .ok (.ifCond .gt 11, 3) := by decide +kernel
theorem dX4_readInto_60 : decode cX4_readInto 60 = .ok (.aload_n 0, 1) := by decide +kernel
theorem dX4_readInto_61 : decode cX4_readInto 61 = .ok (.iconst 0, 1) := by decide +kernel
theorem dX4_readInto_62 : decode cX4_readInto 62 = .ok (.invokevirtual 51, 3) := by decide +kernel
theorem dX4_readInto_65 : decode cX4_readInto 65 = .ok (.ifCond .ne 45, 3) := by decide +kernel
theorem dX4_readInto_68 : decode cX4_readInto 68 = .ok (.aload_n 0, 1) := by decide +kernel
theorem dX4_readInto_69 : decode cX4_readInto 69 = .ok (.getfield 43, 3) := by decide +kernel
theorem dX4_readInto_72 : decode cX4_readInto 72 = .ok (.ifCond .ne 11, 3) := by decide +kernel
theorem dX4_readInto_75 : decode cX4_readInto 75 = .ok (.aload_n 0, 1) := by decide +kernel
theorem dX4_readInto_76 : decode cX4_readInto 76 = .ok (.invokevirtual 55, 3) := by decide +kernel
theorem dX4_readInto_79 : decode cX4_readInto 79 = .ok (.pop, 1) := by decide +kernel
theorem dX4_readInto_80 : decode cX4_readInto 80 = .ok (.goto 24, 3) := by decide +kernel
theorem dX4_readInto_83 : decode cX4_readInto 83 = .ok (.aload_n 0, 1) := by decide +kernel
theorem dX4_readInto_84 : decode cX4_readInto 84 = .ok (.bipush 7, 2) := by decide +kernel
theorem dX4_readInto_86 : decode cX4_readInto 86 = .ok (.invokevirtual 51, 3) := by decide +kernel
theorem dX4_readInto_89 : decode cX4_readInto 89 = .ok (.ifCond .eq 10, 3) := by decide +kernel
theorem dX4_readInto_92 : decode cX4_readInto 92 = .ok (.aload_n 0, 1) := by decide +kernel
theorem dX4_readInto_93 : decode cX4_readInto 93 = .ok (.invokevirtual 59, 3) := by decide +kernel
theorem dX4_readInto_96 : decode cX4_readInto 96 = .ok (.goto 8, 3) := by decide +kernel
theorem dX4_readInto_99 : decode cX4_readInto 99 = .ok (.aload_n 0, 1) := by decide +kernel
theorem dX4_readInto_100 : decode cX4_readInto 100 = .ok (.invokevirtual 62, 3) := by decide +kernel
theorem dX4_readInto_103 : decode cX4_readInto 103 = .ok (.pop, 1) := by decide +kernel
theorem dX4_readInto_104 : decode cX4_readInto 104 = .ok (.iinc 2 1, 3) := by decide +kernel
theorem dX4_readInto_107 : decode cX4_readInto 107 = .ok (.goto (-68), 3) := by decide +kernel
theorem dX4_readInto_110 : decode cX4_readInto 110 = .ok (.aload_n 0, 1) := by decide +kernel
theorem dX4_readInto_111 : decode cX4_readInto 111 = .ok (.getfield 46, 3) := by decide +kernel
theorem dX4_readInto_114 : decode cX4_readInto 114 = .ok (.ifCond .ne 7, 3) := by decide +kernel
theorem dX4_readInto_117 : decode cX4_readInto 117 = .ok (.aload_n 0, 1) := by decide +kernel
theorem dX4_readInto_118 : decode cX4_readInto 118 = .ok (.invokevirtual 65, 3) := by decide +kernel
theorem dX4_readInto_121 : decode cX4_readInto 121 = .ok (.return_, 1) := by decide +kernel
theorem dX4_refuse_0 : decode cX4_refuse 0 = .ok (.aload_n 0, 1) := by decide +kernel
theorem dX4_refuse_1 : decode cX4_refuse 1 = .ok (.iload_n 1, 1) := by decide +kernel
theorem dX4_refuse_2 : decode cX4_refuse 2 = .ok (.putfield 46, 3) := by decide +kernel
theorem dX4_refuse_5 : decode cX4_refuse 5 = .ok (.aload_n 0, 1) := by decide +kernel
theorem dX4_refuse_6 : decode cX4_refuse 6 = .ok (.iload_n 2, 1) := by decide +kernel
theorem dX4_refuse_7 : decode cX4_refuse 7 = .ok (.putfield 18, 3) := by decide +kernel
theorem dX4_refuse_10 : decode cX4_refuse 10 = .ok (.iconst 0, 1) := by decide +kernel
theorem dX4_refuse_11 : decode cX4_refuse 11 = .ok (.ireturn, 1) := by decide +kernel
theorem dX4_seen_0 : decode cX4_seen 0 = .ok (.aload_n 0, 1) := by decide +kernel
theorem dX4_seen_1 : decode cX4_seen 1 = .ok (.getfield 22, 3) := by decide +kernel
theorem dX4_seen_4 : decode cX4_seen 4 = .ok (.aload_n 0, 1) := by decide +kernel
theorem dX4_seen_5 : decode cX4_seen 5 = .ok (.getfield 40, 3) := by decide +kernel
theorem dX4_seen_8 : decode cX4_seen 8 = .ok (.invokevirtual 68, 3) := by decide +kernel
theorem dX4_seen_11 : decode cX4_seen 11 = .ok (.iload_n 1, 1) := by decide +kernel
theorem dX4_seen_12 : decode cX4_seen 12 = .ok (.if_icmp .ne 7, 3) := by decide +kernel
theorem dX4_seen_15 : decode cX4_seen 15 = .ok (.iconst 1, 1) := by decide +kernel
theorem dX4_seen_16 : decode cX4_seen 16 = .ok (.goto 4, 3) := by decide +kernel
theorem dX4_seen_19 : decode cX4_seen 19 = .ok (.iconst 0, 1) := by decide +kernel
theorem dX4_seen_20 : decode cX4_seen 20 = .ok (.ireturn, 1) := by decide +kernel
theorem dX4_take_0 : decode cX4_take 0 = .ok (.aload_n 0, 1) := by decide +kernel
theorem dX4_take_1 : decode cX4_take 1 = .ok (.getfield 22, 3) := by decide +kernel
theorem dX4_take_4 : decode cX4_take 4 = .ok (.aload_n 0, 1) := by decide +kernel
theorem dX4_take_5 : decode cX4_take 5 = .ok (.getfield 40, 3) := by decide +kernel
theorem dX4_take_8 : decode cX4_take 8 = .ok (.invokevirtual 68, 3) := by decide +kernel
theorem dX4_take_11 : decode cX4_take 11 = .ok (.iload_n 1, 1) := by decide +kernel
theorem dX4_take_12 : decode cX4_take 12 = .ok (.if_icmp .eq 20, 3) := by decide +kernel
theorem dX4_take_15 : decode cX4_take 15 = .ok (.aload_n 0, 1) := by decide +kernel
theorem dX4_take_16 : decode cX4_take 16 = .ok (.iconst 1, 1) := by decide +kernel
theorem dX4_take_17 : decode cX4_take 17 = .ok (.aload_n 0, 1) := by decide +kernel
theorem dX4_take_18 : decode cX4_take 18 = .ok (.getfield 22, 3) := by decide +kernel
theorem dX4_take_21 : decode cX4_take 21 = .ok (.aload_n 0, 1) := by decide +kernel
theorem dX4_take_22 : decode cX4_take 22 = .ok (.getfield 40, 3) := by decide +kernel
theorem dX4_take_25 : decode cX4_take 25 = .ok (.invokevirtual 72, 3) := by decide +kernel
theorem dX4_take_28 : decode cX4_take 28 = .ok (.invokevirtual 75, 3) := by decide +kernel
theorem dX4_take_31 : decode cX4_take 31 = .ok (.ireturn, 1) := by decide +kernel
theorem dX4_take_32 : decode cX4_take 32 = .ok (.aload_n 0, 1) := by decide +kernel
theorem dX4_take_33 : decode cX4_take 33 = .ok (.dup, 1) := by decide +kernel
theorem dX4_take_34 : decode cX4_take 34 = .ok (.getfield 40, 3) := by decide +kernel
theorem dX4_take_37 : decode cX4_take 37 = .ok (.iconst 1, 1) := by decide +kernel
theorem dX4_take_38 : decode cX4_take 38 = .ok (.iadd, 1) := by decide +kernel
theorem dX4_take_39 : decode cX4_take 39 = .ok (.putfield 40, 3) := by decide +kernel
theorem dX4_take_42 : decode cX4_take 42 = .ok (.iconst 1, 1) := by decide +kernel
theorem dX4_take_43 : decode cX4_take 43 = .ok (.ireturn, 1) := by decide +kernel
theorem dX4_readHead_0 : decode cX4_readHead 0 = .ok (.aload_n 0, 1) := by decide +kernel
theorem dX4_readHead_1 : decode cX4_readHead 1 = .ok (.getfield 40, 3) := by decide +kernel
theorem dX4_readHead_4 : decode cX4_readHead 4 = .ok (.istore_n 1, 1) := by decide +kernel
theorem dX4_readHead_5 : decode cX4_readHead 5 = .ok (.aload_n 0, 1) := by decide +kernel
theorem dX4_readHead_6 : decode cX4_readHead 6 = .ok (.iconst 3, 1) := by decide +kernel
theorem dX4_readHead_7 : decode cX4_readHead 7 = .ok (.invokevirtual 79, 3) := by decide +kernel
theorem dX4_readHead_10 : decode cX4_readHead 10 = .ok (.ifCond .ne 5, 3) := by decide +kernel
theorem dX4_readHead_13 : decode cX4_readHead 13 = .ok (.iconst 0, 1) := by decide +kernel
theorem dX4_readHead_14 : decode cX4_readHead 14 = .ok (.ireturn, 1) := by decide +kernel
theorem dX4_readHead_15 : decode cX4_readHead 15 = .ok (.aload_n 0, 1) := by decide +kernel
theorem dX4_readHead_16 : decode cX4_readHead 16 = .ok (.aload_n 0, 1) := by decide +kernel
theorem dX4_readHead_17 : decode cX4_readHead 17 = .ok (.getfield 22, 3) := by decide +kernel
theorem dX4_readHead_20 : decode cX4_readHead 20 = .ok (.iload_n 1, 1) := by decide +kernel
theorem dX4_readHead_21 : decode cX4_readHead 21 = .ok (.invokevirtual 82, 3) := by decide +kernel
theorem dX4_readHead_24 : decode cX4_readHead 24 = .ok (.putfield 85, 3) := by decide +kernel
theorem dX4_readHead_27 : decode cX4_readHead 27 = .ok (.aload_n 0, 1) := by decide +kernel
theorem dX4_readHead_28 : decode cX4_readHead 28 = .ok (.getfield 26, 3) := by decide +kernel
theorem dX4_readHead_31 : decode cX4_readHead 31 = .ok (.aload_n 0, 1) := by decide +kernel
theorem dX4_readHead_32 : decode cX4_readHead 32 = .ok (.getfield 85, 3) := by decide +kernel
theorem dX4_readHead_35 : decode cX4_readHead 35 = .ok (.invokevirtual 88, 3) := by decide +kernel
theorem dX4_readHead_38 : decode cX4_readHead 38 = .ok (.ifCond .eq 17, 3) := by decide +kernel
theorem dX4_readHead_41 : decode cX4_readHead 41 = .ok (.aload_n 0, 1) := by decide +kernel
theorem dX4_readHead_42 : decode cX4_readHead 42 = .ok (.iconst 3, 1) := by decide +kernel
theorem dX4_readHead_43 : decode cX4_readHead 43 = .ok (.aload_n 0, 1) := by decide +kernel
theorem dX4_readHead_44 : decode cX4_readHead 44 = .ok (.getfield 22, 3) := by decide +kernel
theorem dX4_readHead_47 : decode cX4_readHead 47 = .ok (.iload_n 1, 1) := by decide +kernel
theorem dX4_readHead_48 : decode cX4_readHead 48 = .ok (.invokevirtual 72, 3) := by decide +kernel
theorem dX4_readHead_51 : decode cX4_readHead 51 = .ok (.invokevirtual 75, 3) := by decide +kernel
theorem dX4_readHead_54 : decode cX4_readHead 54 = .ok (.ireturn, 1) := by decide +kernel
theorem dX4_readHead_55 : decode cX4_readHead 55 = .ok (.aload_n 0, 1) := by decide +kernel
theorem dX4_readHead_56 : decode cX4_readHead 56 = .ok (.getfield 26, 3) := by decide +kernel
theorem dX4_readHead_59 : decode cX4_readHead 59 = .ok (.aload_n 0, 1) := by decide +kernel
theorem dX4_readHead_60 : decode cX4_readHead 60 = .ok (.getfield 85, 3) := by decide +kernel
theorem dX4_readHead_63 : decode cX4_readHead 63 = .ok (.invokevirtual 91, 3) := by decide +kernel
theorem dX4_readHead_66 : decode cX4_readHead 66 = .ok (.aload_n 0, 1) := by decide +kernel
theorem dX4_readHead_67 : decode cX4_readHead 67 = .ok (.iconst 4, 1) := by decide +kernel
theorem dX4_readHead_68 : decode cX4_readHead 68 = .ok (.invokevirtual 79, 3) := by decide +kernel
theorem dX4_readHead_71 : decode cX4_readHead 71 = .ok (.ifCond .eq 23, 3) := by decide +kernel
theorem dX4_readHead_74 : decode cX4_readHead 74 = .ok (.aload_n 0, 1) := by decide +kernel
theorem dX4_readHead_75 : decode cX4_readHead 75 = .ok (.invokevirtual 95, 3) := by decide +kernel
theorem dX4_readHead_78 : decode cX4_readHead 78 = .ok (.ifCond .eq 16, 3) := by decide +kernel
theorem dX4_readHead_81 : decode cX4_readHead 81 = .ok (.aload_n 0, 1) := by decide +kernel
theorem dX4_readHead_82 : decode cX4_readHead 82 = .ok (.iconst 0, 1) := by decide +kernel
theorem dX4_readHead_83 : decode cX4_readHead 83 = .ok (.iconst (-1), 1) := by decide +kernel
theorem dX4_readHead_84 : decode cX4_readHead 84 = .ok (.invokevirtual 98, 3) := by decide +kernel
theorem dX4_readHead_87 : decode cX4_readHead 87 = .ok (.ifCond .eq 7, 3) := by decide +kernel
theorem dX4_readHead_90 : decode cX4_readHead 90 = .ok (.iconst 1, 1) := by decide +kernel
theorem dX4_readHead_91 : decode cX4_readHead 91 = .ok (.goto 4, 3) := by decide +kernel
theorem dX4_readHead_94 : decode cX4_readHead 94 = .ok (.iconst 0, 1) := by decide +kernel
theorem dX4_readHead_95 : decode cX4_readHead 95 = .ok (.ireturn, 1) := by decide +kernel
theorem dX4_readParameters_0 : decode cX4_readParameters 0 = .ok (.aload_n 0, 1) := by decide +kernel
theorem dX4_readParameters_1 : decode cX4_readParameters 1 = .ok (.iconst 5, 1) := by decide +kernel
theorem dX4_readParameters_2 : decode cX4_readParameters 2 = .ok (.invokevirtual 51, 3) := by decide +kernel
theorem dX4_readParameters_5 : decode cX4_readParameters 5 = .ok (.ifCond .eq 9, 3) := by decide +kernel
theorem dX4_readParameters_8 : decode cX4_readParameters 8 = .ok (.aload_n 0, 1) := by decide +kernel
theorem dX4_readParameters_9 : decode cX4_readParameters 9 = .ok (.iconst 5, 1) := by decide +kernel
theorem dX4_readParameters_10 : decode cX4_readParameters 10 = .ok (.invokevirtual 79, 3) := by decide +kernel
theorem dX4_readParameters_13 : decode cX4_readParameters 13 = .ok (.ireturn, 1) := by decide +kernel
theorem dX4_readParameters_14 : decode cX4_readParameters 14 = .ok (.iconst 0, 1) := by decide +kernel
theorem dX4_readParameters_15 : decode cX4_readParameters 15 = .ok (.istore_n 1, 1) := by decide +kernel
theorem dX4_readParameters_16 : decode cX4_readParameters 16 = .ok (.iload_n 1, 1) := by decide +kernel
theorem dX4_readParameters_17 : decode cX4_readParameters 17 = .ok (.iconst 4, 1) := by decide +kernel
theorem dX4_readParameters_18 : decode cX4_readParameters 18 = .ok (.if_icmp .gt 115, 3) := by decide +kernel
theorem dX4_readParameters_21 : decode cX4_readParameters 21 = .ok (.aload_n 0, 1) := by decide +kernel
theorem dX4_readParameters_22 : decode cX4_readParameters 22 = .ok (.getfield 40, 3) := by decide +kernel
theorem dX4_readParameters_25 : decode cX4_readParameters 25 = .ok (.istore_n 2, 1) := by decide +kernel
theorem dX4_readParameters_26 : decode cX4_readParameters 26 = .ok (.aload_n 0, 1) := by decide +kernel
theorem dX4_readParameters_27 : decode cX4_readParameters 27 = .ok (.iconst 2, 1) := by decide +kernel
theorem dX4_readParameters_28 : decode cX4_readParameters 28 = .ok (.invokevirtual 79, 3) := by decide +kernel
theorem dX4_readParameters_31 : decode cX4_readParameters 31 = .ok (.ifCond .ne 5, 3) := by decide +kernel
theorem dX4_readParameters_34 : decode cX4_readParameters 34 = .ok (.iconst 0, 1) := by decide +kernel
theorem dX4_readParameters_35 : decode cX4_readParameters 35 = .ok (.ireturn, 1) := by decide +kernel
theorem dX4_readParameters_36 : decode cX4_readParameters 36 = .ok (.aload_n 0, 1) := by decide +kernel
theorem dX4_readParameters_37 : decode cX4_readParameters 37 = .ok (.getfield 22, 3) := by decide +kernel
theorem dX4_readParameters_40 : decode cX4_readParameters 40 = .ok (.iload_n 2, 1) := by decide +kernel
theorem dX4_readParameters_41 : decode cX4_readParameters 41 = .ok (.invokevirtual 82, 3) := by decide +kernel
theorem dX4_readParameters_44 : decode cX4_readParameters 44 = .ok (.istore_n 3, 1) := by decide +kernel
theorem dX4_readParameters_45 : decode cX4_readParameters 45 = .ok (.iload_n 1, 1) := by decide +kernel
theorem dX4_readParameters_46 : decode cX4_readParameters 46 = .ok (.iconst 4, 1) := by decide +kernel
theorem dX4_readParameters_47 : decode cX4_readParameters 47 = .ok (.if_icmp .ne 17, 3) := by decide +kernel
theorem dX4_readParameters_50 : decode cX4_readParameters 50 = .ok (.aload_n 0, 1) := by decide +kernel
theorem dX4_readParameters_51 : decode cX4_readParameters 51 = .ok (.iconst 2, 1) := by decide +kernel
theorem dX4_readParameters_52 : decode cX4_readParameters 52 = .ok (.aload_n 0, 1) := by decide +kernel
theorem dX4_readParameters_53 : decode cX4_readParameters 53 = .ok (.getfield 22, 3) := by decide +kernel
theorem dX4_readParameters_56 : decode cX4_readParameters 56 = .ok (.iload_n 2, 1) := by decide +kernel
theorem dX4_readParameters_57 : decode cX4_readParameters 57 = .ok (.invokevirtual 72, 3) := by decide +kernel
theorem dX4_readParameters_60 : decode cX4_readParameters 60 = .ok (.invokevirtual 75, 3) := by decide +kernel
theorem dX4_readParameters_63 : decode cX4_readParameters 63 = .ok (.ireturn, 1) := by decide +kernel
theorem dX4_readParameters_64 : decode cX4_readParameters 64 = .ok (.aload_n 0, 1) := by decide +kernel
theorem dX4_readParameters_65 : decode cX4_readParameters 65 = .ok (.getfield 26, 3) := by decide +kernel
theorem dX4_readParameters_68 : decode cX4_readParameters 68 = .ok (.aload_n 0, 1) := by decide +kernel
theorem dX4_readParameters_69 : decode cX4_readParameters 69 = .ok (.getfield 85, 3) := by decide +kernel
theorem dX4_readParameters_72 : decode cX4_readParameters 72 = .ok (.iload_n 3, 1) := by decide +kernel
theorem dX4_readParameters_73 : decode cX4_readParameters 73 = .ok (.invokevirtual 101, 3) := by decide +kernel
theorem dX4_readParameters_76 : decode cX4_readParameters 76 = .ok (.ifCond .eq 17, 3) := by decide +kernel
theorem dX4_readParameters_79 : decode cX4_readParameters 79 = .ok (.aload_n 0, 1) := by decide +kernel
theorem dX4_readParameters_80 : decode cX4_readParameters 80 = .ok (.iconst 3, 1) := by decide +kernel
theorem dX4_readParameters_81 : decode cX4_readParameters 81 = .ok (.aload_n 0, 1) := by decide +kernel
theorem dX4_readParameters_82 : decode cX4_readParameters 82 = .ok (.getfield 22, 3) := by decide +kernel
theorem dX4_readParameters_85 : decode cX4_readParameters 85 = .ok (.iload_n 2, 1) := by decide +kernel
theorem dX4_readParameters_86 : decode cX4_readParameters 86 = .ok (.invokevirtual 72, 3) := by decide +kernel
theorem dX4_readParameters_89 : decode cX4_readParameters 89 = .ok (.invokevirtual 75, 3) := by decide +kernel
theorem dX4_readParameters_92 : decode cX4_readParameters 92 = .ok (.ireturn, 1) := by decide +kernel
theorem dX4_readParameters_93 : decode cX4_readParameters 93 = .ok (.aload_n 0, 1) := by decide +kernel
theorem dX4_readParameters_94 : decode cX4_readParameters 94 = .ok (.getfield 26, 3) := by decide +kernel
theorem dX4_readParameters_97 : decode cX4_readParameters 97 = .ok (.aload_n 0, 1) := by decide +kernel
theorem dX4_readParameters_98 : decode cX4_readParameters 98 = .ok (.getfield 85, 3) := by decide +kernel
theorem dX4_readParameters_101 : decode cX4_readParameters 101 = .ok (.iload_n 3, 1) := by decide +kernel
theorem dX4_readParameters_102 : decode cX4_readParameters 102 = .ok (.invokevirtual 104, 3) := by decide +kernel
theorem dX4_readParameters_105 : decode cX4_readParameters 105 = .ok (.aload_n 0, 1) := by decide +kernel
theorem dX4_readParameters_106 : decode cX4_readParameters 106 = .ok (.bipush 8, 2) := by decide +kernel
theorem dX4_readParameters_108 : decode cX4_readParameters 108 = .ok (.invokevirtual 51, 3) := by decide +kernel
theorem dX4_readParameters_111 : decode cX4_readParameters 111 = .ok (.ifCond .ne 6, 3) := by decide +kernel
theorem dX4_readParameters_114 : decode cX4_readParameters 114 = .ok (.goto 19, 3) := by decide +kernel
theorem dX4_readParameters_117 : decode cX4_readParameters 117 = .ok (.aload_n 0, 1) := by decide +kernel
theorem dX4_readParameters_118 : decode cX4_readParameters 118 = .ok (.dup, 1) := by decide +kernel
theorem dX4_readParameters_119 : decode cX4_readParameters 119 = .ok (.getfield 40, 3) := by decide +kernel
theorem dX4_readParameters_122 : decode cX4_readParameters 122 = .ok (.iconst 1, 1) := by decide +kernel
theorem dX4_readParameters_123 : decode cX4_readParameters 123 = .ok (.iadd, 1) := by decide +kernel
theorem dX4_readParameters_124 : decode cX4_readParameters 124 = .ok (.putfield 40, 3) := by decide +kernel
theorem dX4_readParameters_127 : decode cX4_readParameters 127 = .ok (.iinc 1 1, 3) := by decide +kernel
theorem dX4_readParameters_130 : decode cX4_readParameters 130 = .ok (.goto (-114), 3) := by decide +kernel
theorem dX4_readParameters_133 : decode cX4_readParameters 133 = .ok (.aload_n 0, 1) := by decide +kernel
theorem dX4_readParameters_134 : decode cX4_readParameters 134 = .ok (.iconst 5, 1) := by decide +kernel
theorem dX4_readParameters_135 : decode cX4_readParameters 135 = .ok (.invokevirtual 79, 3) := by decide +kernel
theorem dX4_readParameters_138 : decode cX4_readParameters 138 = .ok (.ireturn, 1) := by decide +kernel
theorem dX4_openBlock_0 : decode cX4_openBlock 0 = .ok (.aload_n 0, 1) := by decide +kernel
theorem dX4_openBlock_1 : decode cX4_openBlock 1 = .ok (.getfield 40, 3) := by decide +kernel
theorem dX4_openBlock_4 : decode cX4_openBlock 4 = .ok (.istore_n 3, 1) := by decide +kernel
theorem dX4_openBlock_5 : decode cX4_openBlock 5 = .ok (.aload_n 0, 1) := by decide +kernel
theorem dX4_openBlock_6 : decode cX4_openBlock 6 = .ok (.bipush 6, 2) := by decide +kernel
theorem dX4_openBlock_8 : decode cX4_openBlock 8 = .ok (.invokevirtual 79, 3) := by decide +kernel
theorem dX4_openBlock_11 : decode cX4_openBlock 11 = .ok (.ifCond .ne 5, 3) := by decide +kernel
theorem dX4_openBlock_14 : decode cX4_openBlock 14 = .ok (.iconst 0, 1) := by decide +kernel
theorem dX4_openBlock_15 : decode cX4_openBlock 15 = .ok (.ireturn, 1) := by decide +kernel
theorem dX4_openBlock_16 : decode cX4_openBlock 16 = .ok (.aload_n 0, 1) := by decide +kernel
theorem dX4_openBlock_17 : decode cX4_openBlock 17 = .ok (.getfield 43, 3) := by decide +kernel
theorem dX4_openBlock_20 : decode cX4_openBlock 20 = .ok (.bipush 6, 2) := by decide +kernel
theorem dX4_openBlock_22 : decode cX4_openBlock 22 = .ok (.if_icmp .lt 17, 3) := by decide +kernel
theorem dX4_openBlock_25 : decode cX4_openBlock 25 = .ok (.aload_n 0, 1) := by decide +kernel
theorem dX4_openBlock_26 : decode cX4_openBlock 26 = .ok (.iconst 2, 1) := by decide +kernel
theorem dX4_openBlock_27 : decode cX4_openBlock 27 = .ok (.aload_n 0, 1) := by decide +kernel
theorem dX4_openBlock_28 : decode cX4_openBlock 28 = .ok (.getfield 22, 3) := by decide +kernel
theorem dX4_openBlock_31 : decode cX4_openBlock 31 = .ok (.iload_n 3, 1) := by decide +kernel
theorem dX4_openBlock_32 : decode cX4_openBlock 32 = .ok (.invokevirtual 72, 3) := by decide +kernel
theorem dX4_openBlock_35 : decode cX4_openBlock 35 = .ok (.invokevirtual 75, 3) := by decide +kernel
theorem dX4_openBlock_38 : decode cX4_openBlock 38 = .ok (.ireturn, 1) := by decide +kernel
theorem dX4_openBlock_39 : decode cX4_openBlock 39 = .ok (.aload_n 0, 1) := by decide +kernel
theorem dX4_openBlock_40 : decode cX4_openBlock 40 = .ok (.getfield 9, 3) := by decide +kernel
theorem dX4_openBlock_43 : decode cX4_openBlock 43 = .ok (.aload_n 0, 1) := by decide +kernel
theorem dX4_openBlock_44 : decode cX4_openBlock 44 = .ok (.getfield 43, 3) := by decide +kernel
theorem dX4_openBlock_47 : decode cX4_openBlock 47 = .ok (.iload_n 1, 1) := by decide +kernel
theorem dX4_openBlock_48 : decode cX4_openBlock 48 = .ok (.invokestatic 108, 3) := by decide +kernel
theorem dX4_openBlock_51 : decode cX4_openBlock 51 = .ok (.aload_n 0, 1) := by decide +kernel
theorem dX4_openBlock_52 : decode cX4_openBlock 52 = .ok (.getfield 15, 3) := by decide +kernel
theorem dX4_openBlock_55 : decode cX4_openBlock 55 = .ok (.aload_n 0, 1) := by decide +kernel
theorem dX4_openBlock_56 : decode cX4_openBlock 56 = .ok (.getfield 43, 3) := by decide +kernel
theorem dX4_openBlock_59 : decode cX4_openBlock 59 = .ok (.iload_n 2, 1) := by decide +kernel
theorem dX4_openBlock_60 : decode cX4_openBlock 60 = .ok (.invokestatic 108, 3) := by decide +kernel
theorem dX4_openBlock_63 : decode cX4_openBlock 63 = .ok (.aload_n 0, 1) := by decide +kernel
theorem dX4_openBlock_64 : decode cX4_openBlock 64 = .ok (.dup, 1) := by decide +kernel
theorem dX4_openBlock_65 : decode cX4_openBlock 65 = .ok (.getfield 43, 3) := by decide +kernel
theorem dX4_openBlock_68 : decode cX4_openBlock 68 = .ok (.iconst 1, 1) := by decide +kernel
theorem dX4_openBlock_69 : decode cX4_openBlock 69 = .ok (.iadd, 1) := by decide +kernel
theorem dX4_openBlock_70 : decode cX4_openBlock 70 = .ok (.putfield 43, 3) := by decide +kernel
theorem dX4_openBlock_73 : decode cX4_openBlock 73 = .ok (.iconst 1, 1) := by decide +kernel
theorem dX4_openBlock_74 : decode cX4_openBlock 74 = .ok (.ireturn, 1) := by decide +kernel
theorem dX4_closeBlock_0 : decode cX4_closeBlock 0 = .ok (.aload_n 0, 1) := by decide +kernel
theorem dX4_closeBlock_1 : decode cX4_closeBlock 1 = .ok (.dup, 1) := by decide +kernel
theorem dX4_closeBlock_2 : decode cX4_closeBlock 2 = .ok (.getfield 40, 3) := by decide +kernel
theorem dX4_closeBlock_5 : decode cX4_closeBlock 5 = .ok (.iconst 1, 1) := by decide +kernel
theorem dX4_closeBlock_6 : decode cX4_closeBlock 6 = .ok (.iadd, 1) := by decide +kernel
theorem dX4_closeBlock_7 : decode cX4_closeBlock 7 = .ok (.putfield 40, 3) := by decide +kernel
theorem dX4_closeBlock_10 : decode cX4_closeBlock 10 = .ok (.aload_n 0, 1) := by decide +kernel
theorem dX4_closeBlock_11 : decode cX4_closeBlock 11 = .ok (.dup, 1) := by decide +kernel
theorem dX4_closeBlock_12 : decode cX4_closeBlock 12 = .ok (.getfield 43, 3) := by decide +kernel
theorem dX4_closeBlock_15 : decode cX4_closeBlock 15 = .ok (.iconst 1, 1) := by decide +kernel
theorem dX4_closeBlock_16 : decode cX4_closeBlock 16 = .ok (.isub, 1) := by decide +kernel
theorem dX4_closeBlock_17 : decode cX4_closeBlock 17 = .ok (.putfield 43, 3) := by decide +kernel
theorem dX4_closeBlock_20 : decode cX4_closeBlock 20 = .ok (.aload_n 0, 1) := by decide +kernel
theorem dX4_closeBlock_21 : decode cX4_closeBlock 21 = .ok (.getfield 15, 3) := by decide +kernel
theorem dX4_closeBlock_24 : decode cX4_closeBlock 24 = .ok (.aload_n 0, 1) := by decide +kernel
theorem dX4_closeBlock_25 : decode cX4_closeBlock 25 = .ok (.getfield 43, 3) := by decide +kernel
theorem dX4_closeBlock_28 : decode cX4_closeBlock 28 = .ok (.invokestatic 114, 3) := by decide +kernel
theorem dX4_closeBlock_31 : decode cX4_closeBlock 31 = .ok (.istore_n 1, 1) := by decide +kernel
theorem dX4_closeBlock_32 : decode cX4_closeBlock 32 = .ok (.aload_n 0, 1) := by decide +kernel
theorem dX4_closeBlock_33 : decode cX4_closeBlock 33 = .ok (.getfield 9, 3) := by decide +kernel
theorem dX4_closeBlock_36 : decode cX4_closeBlock 36 = .ok (.aload_n 0, 1) := by decide +kernel
theorem dX4_closeBlock_37 : decode cX4_closeBlock 37 = .ok (.getfield 43, 3) := by decide +kernel
theorem dX4_closeBlock_40 : decode cX4_closeBlock 40 = .ok (.invokestatic 114, 3) := by decide +kernel
theorem dX4_closeBlock_43 : decode cX4_closeBlock 43 = .ok (.tableswitch 95 0 3 #[29, 87, 95, 45], 29) := by decide +kernel
theorem dX4_closeBlock_72 : decode cX4_closeBlock 72 = .ok (.aload_n 0, 1) := by decide +kernel
theorem dX4_closeBlock_73 : decode cX4_closeBlock 73 = .ok (.getfield 36, 3) := by decide +kernel
theorem dX4_closeBlock_76 : decode cX4_closeBlock 76 = .ok (.iconst 0, 1) := by decide +kernel
theorem dX4_closeBlock_77 : decode cX4_closeBlock 77 = .ok (.aload_n 0, 1) := by decide +kernel
theorem dX4_closeBlock_78 : decode cX4_closeBlock 78 = .ok (.getfield 85, 3) := by decide +kernel
theorem dX4_closeBlock_81 : decode cX4_closeBlock 81 = .ok (.invokevirtual 120, 3) := by decide +kernel
theorem dX4_closeBlock_84 : decode cX4_closeBlock 84 = .ok (.pop, 1) := by decide +kernel
theorem dX4_closeBlock_85 : decode cX4_closeBlock 85 = .ok (.goto 70, 3) := by decide +kernel
theorem dX4_closeBlock_88 : decode cX4_closeBlock 88 = .ok (.aload_n 0, 1) := by decide +kernel
theorem dX4_closeBlock_89 : decode cX4_closeBlock 89 = .ok (.getfield 36, 3) := by decide +kernel
theorem dX4_closeBlock_92 : decode cX4_closeBlock 92 = .ok (.aload_n 0, 1) := by decide +kernel
theorem dX4_closeBlock_93 : decode cX4_closeBlock 93 = .ok (.getfield 36, 3) := by decide +kernel
theorem dX4_closeBlock_96 : decode cX4_closeBlock 96 = .ok (.iconst 1, 1) := by decide +kernel
theorem dX4_closeBlock_97 : decode cX4_closeBlock 97 = .ok (.aload_n 0, 1) := by decide +kernel
theorem dX4_closeBlock_98 : decode cX4_closeBlock 98 = .ok (.getfield 85, 3) := by decide +kernel
theorem dX4_closeBlock_101 : decode cX4_closeBlock 101 = .ok (.invokevirtual 120, 3) := by decide +kernel
theorem dX4_closeBlock_104 : decode cX4_closeBlock 104 = .ok (.bipush 10, 2) := by decide +kernel
theorem dX4_closeBlock_106 : decode cX4_closeBlock 106 = .ok (.iload_n 1, 1) := by decide +kernel
theorem dX4_closeBlock_107 : decode cX4_closeBlock 107 = .ok (.invokevirtual 124, 3) := by decide +kernel
theorem dX4_closeBlock_110 : decode cX4_closeBlock 110 = .ok (.aload_n 0, 1) := by decide +kernel
theorem dX4_closeBlock_111 : decode cX4_closeBlock 111 = .ok (.getfield 36, 3) := by decide +kernel
theorem dX4_closeBlock_114 : decode cX4_closeBlock 114 = .ok (.iload_n 1, 1) := by decide +kernel
theorem dX4_closeBlock_115 : decode cX4_closeBlock 115 = .ok (.bipush 10, 2) := by decide +kernel
theorem dX4_closeBlock_117 : decode cX4_closeBlock 117 = .ok (.aload_n 0, 1) := by decide +kernel
theorem dX4_closeBlock_118 : decode cX4_closeBlock 118 = .ok (.getfield 36, 3) := by decide +kernel
theorem dX4_closeBlock_121 : decode cX4_closeBlock 121 = .ok (.getfield 128, 3) := by decide +kernel
theorem dX4_closeBlock_124 : decode cX4_closeBlock 124 = .ok (.invokevirtual 124, 3) := by decide +kernel
theorem dX4_closeBlock_127 : decode cX4_closeBlock 127 = .ok (.goto 28, 3) := by decide +kernel
theorem dX4_closeBlock_130 : decode cX4_closeBlock 130 = .ok (.aload_n 0, 1) := by decide +kernel
theorem dX4_closeBlock_131 : decode cX4_closeBlock 131 = .ok (.iload_n 1, 1) := by decide +kernel
theorem dX4_closeBlock_132 : decode cX4_closeBlock 132 = .ok (.invokevirtual 131, 3) := by decide +kernel
theorem dX4_closeBlock_135 : decode cX4_closeBlock 135 = .ok (.goto 20, 3) := by decide +kernel
theorem dX4_closeBlock_138 : decode cX4_closeBlock 138 = .ok (.aload_n 0, 1) := by decide +kernel
theorem dX4_closeBlock_139 : decode cX4_closeBlock 139 = .ok (.getfield 36, 3) := by decide +kernel
theorem dX4_closeBlock_142 : decode cX4_closeBlock 142 = .ok (.iload_n 1, 1) := by decide +kernel
theorem dX4_closeBlock_143 : decode cX4_closeBlock 143 = .ok (.bipush 10, 2) := by decide +kernel
theorem dX4_closeBlock_145 : decode cX4_closeBlock 145 = .ok (.aload_n 0, 1) := by decide +kernel
theorem dX4_closeBlock_146 : decode cX4_closeBlock 146 = .ok (.getfield 36, 3) := by decide +kernel
theorem dX4_closeBlock_149 : decode cX4_closeBlock 149 = .ok (.getfield 128, 3) := by decide +kernel
theorem dX4_closeBlock_152 : decode cX4_closeBlock 152 = .ok (.invokevirtual 124, 3) := by decide +kernel
theorem dX4_closeBlock_155 : decode cX4_closeBlock 155 = .ok (.return_, 1) := by decide +kernel
theorem dX4_closeIf_0 : decode cX4_closeIf 0 = .ok (.aload_n 0, 1) := by decide +kernel
theorem dX4_closeIf_1 : decode cX4_closeIf 1 = .ok (.bipush 13, 2) := by decide +kernel
theorem dX4_closeIf_3 : decode cX4_closeIf 3 = .ok (.invokevirtual 51, 3) := by decide +kernel
theorem dX4_closeIf_6 : decode cX4_closeIf 6 = .ok (.ifCond .eq 53, 3) := by decide +kernel
theorem dX4_closeIf_9 : decode cX4_closeIf 9 = .ok (.aload_n 0, 1) := by decide +kernel
theorem dX4_closeIf_10 : decode cX4_closeIf 10 = .ok (.dup, 1) := by decide +kernel
theorem dX4_closeIf_11 : decode cX4_closeIf 11 = .ok (.getfield 40, 3) := by decide +kernel
theorem dX4_closeIf_14 : decode cX4_closeIf 14 = .ok (.iconst 1, 1) := by decide +kernel
theorem dX4_closeIf_15 : decode cX4_closeIf 15 = .ok (.iadd, 1) := by decide +kernel
theorem dX4_closeIf_16 : decode cX4_closeIf 16 = .ok (.putfield 40, 3) := by decide +kernel
theorem dX4_closeIf_19 : decode cX4_closeIf 19 = .ok (.aload_n 0, 1) := by decide +kernel
theorem dX4_closeIf_20 : decode cX4_closeIf 20 = .ok (.getfield 36, 3) := by decide +kernel
theorem dX4_closeIf_23 : decode cX4_closeIf 23 = .ok (.iconst 1, 1) := by decide +kernel
theorem dX4_closeIf_24 : decode cX4_closeIf 24 = .ok (.aload_n 0, 1) := by decide +kernel
theorem dX4_closeIf_25 : decode cX4_closeIf 25 = .ok (.getfield 85, 3) := by decide +kernel
theorem dX4_closeIf_28 : decode cX4_closeIf 28 = .ok (.invokevirtual 120, 3) := by decide +kernel
theorem dX4_closeIf_31 : decode cX4_closeIf 31 = .ok (.istore_n 2, 1) := by decide +kernel
theorem dX4_closeIf_32 : decode cX4_closeIf 32 = .ok (.aload_n 0, 1) := by decide +kernel
theorem dX4_closeIf_33 : decode cX4_closeIf 33 = .ok (.getfield 36, 3) := by decide +kernel
theorem dX4_closeIf_36 : decode cX4_closeIf 36 = .ok (.iload_n 1, 1) := by decide +kernel
theorem dX4_closeIf_37 : decode cX4_closeIf 37 = .ok (.bipush 10, 2) := by decide +kernel
theorem dX4_closeIf_39 : decode cX4_closeIf 39 = .ok (.aload_n 0, 1) := by decide +kernel
theorem dX4_closeIf_40 : decode cX4_closeIf 40 = .ok (.getfield 36, 3) := by decide +kernel
theorem dX4_closeIf_43 : decode cX4_closeIf 43 = .ok (.getfield 128, 3) := by decide +kernel
theorem dX4_closeIf_46 : decode cX4_closeIf 46 = .ok (.invokevirtual 124, 3) := by decide +kernel
theorem dX4_closeIf_49 : decode cX4_closeIf 49 = .ok (.aload_n 0, 1) := by decide +kernel
theorem dX4_closeIf_50 : decode cX4_closeIf 50 = .ok (.iconst 2, 1) := by decide +kernel
theorem dX4_closeIf_51 : decode cX4_closeIf 51 = .ok (.iload_n 2, 1) := by decide +kernel
theorem dX4_closeIf_52 : decode cX4_closeIf 52 = .ok (.invokevirtual 98, 3) := by decide +kernel
theorem dX4_closeIf_55 : decode cX4_closeIf 55 = .ok (.pop, 1) := by decide +kernel
theorem dX4_closeIf_56 : decode cX4_closeIf 56 = .ok (.goto 20, 3) := by decide +kernel
theorem dX4_closeIf_59 : decode cX4_closeIf 59 = .ok (.aload_n 0, 1) := by decide +kernel
theorem dX4_closeIf_60 : decode cX4_closeIf 60 = .ok (.getfield 36, 3) := by decide +kernel
theorem dX4_closeIf_63 : decode cX4_closeIf 63 = .ok (.iload_n 1, 1) := by decide +kernel
theorem dX4_closeIf_64 : decode cX4_closeIf 64 = .ok (.bipush 10, 2) := by decide +kernel
theorem dX4_closeIf_66 : decode cX4_closeIf 66 = .ok (.aload_n 0, 1) := by decide +kernel
theorem dX4_closeIf_67 : decode cX4_closeIf 67 = .ok (.getfield 36, 3) := by decide +kernel
theorem dX4_closeIf_70 : decode cX4_closeIf 70 = .ok (.getfield 128, 3) := by decide +kernel
theorem dX4_closeIf_73 : decode cX4_closeIf 73 = .ok (.invokevirtual 124, 3) := by decide +kernel
theorem dX4_closeIf_76 : decode cX4_closeIf 76 = .ok (.return_, 1) := by decide +kernel
theorem dX4_readStatement_0 : decode cX4_readStatement 0 = .ok (.aload_n 0, 1) := by decide +kernel
theorem dX4_readStatement_1 : decode cX4_readStatement 1 = .ok (.getfield 22, 3) := by decide +kernel
theorem dX4_readStatement_4 : decode cX4_readStatement 4 = .ok (.aload_n 0, 1) := by decide +kernel
theorem dX4_readStatement_5 : decode cX4_readStatement 5 = .ok (.getfield 40, 3) := by decide +kernel
theorem dX4_readStatement_8 : decode cX4_readStatement 8 = .ok (.invokevirtual 68, 3) := by decide +kernel
theorem dX4_readStatement_11 : decode cX4_readStatement 11 = .ok (.lookupswitch 105 #[(2, 49), (3, 54), (12, 93), (14, 99), (20, 88)], 49) := by decide +kernel
theorem dX4_readStatement_60 : decode cX4_readStatement 60 = .ok (.aload_n 0, 1) := by decide +kernel
theorem dX4_readStatement_61 : decode cX4_readStatement 61 = .ok (.invokevirtual 134, 3) := by decide +kernel
theorem dX4_readStatement_64 : decode cX4_readStatement 64 = .ok (.ireturn, 1) := by decide +kernel
theorem dX4_readStatement_65 : decode cX4_readStatement 65 = .ok (.aload_n 0, 1) := by decide +kernel
theorem dX4_readStatement_66 : decode cX4_readStatement 66 = .ok (.aload_n 0, 1) := by decide +kernel
theorem dX4_readStatement_67 : decode cX4_readStatement 67 = .ok (.getfield 36, 3) := by decide +kernel
theorem dX4_readStatement_70 : decode cX4_readStatement 70 = .ok (.iconst 5, 1) := by decide +kernel
theorem dX4_readStatement_71 : decode cX4_readStatement 71 = .ok (.aload_n 0, 1) := by decide +kernel
theorem dX4_readStatement_72 : decode cX4_readStatement 72 = .ok (.getfield 85, 3) := by decide +kernel
theorem dX4_readStatement_75 : decode cX4_readStatement 75 = .ok (.invokevirtual 120, 3) := by decide +kernel
theorem dX4_readStatement_78 : decode cX4_readStatement 78 = .ok (.invokevirtual 137, 3) := by decide +kernel
theorem dX4_readStatement_81 : decode cX4_readStatement 81 = .ok (.ifCond .eq 16, 3) := by decide +kernel
theorem dX4_readStatement_84 : decode cX4_readStatement 84 = .ok (.aload_n 0, 1) := by decide +kernel
theorem dX4_readStatement_85 : decode cX4_readStatement 85 = .ok (.bipush 9, 2) := by decide +kernel
theorem dX4_readStatement_87 : decode cX4_readStatement 87 = .ok (.invokevirtual 79, 3) := by decide +kernel
theorem dX4_readStatement_90 : decode cX4_readStatement 90 = .ok (.ifCond .eq 7, 3) := by decide +kernel
theorem dX4_readStatement_93 : decode cX4_readStatement 93 = .ok (.iconst 1, 1) := by decide +kernel
theorem dX4_readStatement_94 : decode cX4_readStatement 94 = .ok (.goto 4, 3) := by decide +kernel
theorem dX4_readStatement_97 : decode cX4_readStatement 97 = .ok (.iconst 0, 1) := by decide +kernel
theorem dX4_readStatement_98 : decode cX4_readStatement 98 = .ok (.ireturn, 1) := by decide +kernel
theorem dX4_readStatement_99 : decode cX4_readStatement 99 = .ok (.aload_n 0, 1) := by decide +kernel
theorem dX4_readStatement_100 : decode cX4_readStatement 100 = .ok (.invokevirtual 140, 3) := by decide +kernel
theorem dX4_readStatement_103 : decode cX4_readStatement 103 = .ok (.ireturn, 1) := by decide +kernel
theorem dX4_readStatement_104 : decode cX4_readStatement 104 = .ok (.aload_n 0, 1) := by decide +kernel
theorem dX4_readStatement_105 : decode cX4_readStatement 105 = .ok (.iconst 1, 1) := by decide +kernel
theorem dX4_readStatement_106 : decode cX4_readStatement 106 = .ok (.invokevirtual 143, 3) := by decide +kernel
theorem dX4_readStatement_109 : decode cX4_readStatement 109 = .ok (.ireturn, 1) := by decide +kernel
theorem dX4_readStatement_110 : decode cX4_readStatement 110 = .ok (.aload_n 0, 1) := by decide +kernel
theorem dX4_readStatement_111 : decode cX4_readStatement 111 = .ok (.iconst 3, 1) := by decide +kernel
theorem dX4_readStatement_112 : decode cX4_readStatement 112 = .ok (.invokevirtual 143, 3) := by decide +kernel
theorem dX4_readStatement_115 : decode cX4_readStatement 115 = .ok (.ireturn, 1) := by decide +kernel
theorem dX4_readStatement_116 : decode cX4_readStatement 116 = .ok (.aload_n 0, 1) := by decide +kernel
theorem dX4_readStatement_117 : decode cX4_readStatement 117 = .ok (.iconst 1, 1) := by decide +kernel
theorem dX4_readStatement_118 : decode cX4_readStatement 118 = .ok (.aload_n 0, 1) := by decide +kernel
theorem dX4_readStatement_119 : decode cX4_readStatement 119 = .ok (.getfield 22, 3) := by decide +kernel
theorem dX4_readStatement_122 : decode cX4_readStatement 122 = .ok (.aload_n 0, 1) := by decide +kernel
theorem dX4_readStatement_123 : decode cX4_readStatement 123 = .ok (.getfield 40, 3) := by decide +kernel
theorem dX4_readStatement_126 : decode cX4_readStatement 126 = .ok (.invokevirtual 72, 3) := by decide +kernel
theorem dX4_readStatement_129 : decode cX4_readStatement 129 = .ok (.invokevirtual 75, 3) := by decide +kernel
theorem dX4_readStatement_132 : decode cX4_readStatement 132 = .ok (.ireturn, 1) := by decide +kernel
theorem dX4_readPut_0 : decode cX4_readPut 0 = .ok (.aload_n 0, 1) := by decide +kernel
theorem dX4_readPut_1 : decode cX4_readPut 1 = .ok (.getfield 40, 3) := by decide +kernel
theorem dX4_readPut_4 : decode cX4_readPut 4 = .ok (.istore_n 1, 1) := by decide +kernel
theorem dX4_readPut_5 : decode cX4_readPut 5 = .ok (.aload_n 0, 1) := by decide +kernel
theorem dX4_readPut_6 : decode cX4_readPut 6 = .ok (.dup, 1) := by decide +kernel
theorem dX4_readPut_7 : decode cX4_readPut 7 = .ok (.getfield 40, 3) := by decide +kernel
theorem dX4_readPut_10 : decode cX4_readPut 10 = .ok (.iconst 1, 1) := by decide +kernel
theorem dX4_readPut_11 : decode cX4_readPut 11 = .ok (.iadd, 1) := by decide +kernel
theorem dX4_readPut_12 : decode cX4_readPut 12 = .ok (.putfield 40, 3) := by decide +kernel
theorem dX4_readPut_15 : decode cX4_readPut 15 = .ok (.aload_n 0, 1) := by decide +kernel
theorem dX4_readPut_16 : decode cX4_readPut 16 = .ok (.getfield 36, 3) := by decide +kernel
theorem dX4_readPut_19 : decode cX4_readPut 19 = .ok (.aload_n 0, 1) := by decide +kernel
theorem dX4_readPut_20 : decode cX4_readPut 20 = .ok (.bipush 11, 2) := by decide +kernel
theorem dX4_readPut_22 : decode cX4_readPut 22 = .ok (.invokevirtual 51, 3) := by decide +kernel
theorem dX4_readPut_25 : decode cX4_readPut 25 = .ok (.ifCond .eq 7, 3) := by decide +kernel
theorem dX4_readPut_28 : decode cX4_readPut 28 = .ok (.iconst 4, 1) := by decide +kernel
theorem dX4_readPut_29 : decode cX4_readPut 29 = .ok (.goto 4, 3) := by decide +kernel
theorem dX4_readPut_32 : decode cX4_readPut 32 = .ok (.iconst 3, 1) := by decide +kernel
theorem dX4_readPut_33 : decode cX4_readPut 33 = .ok (.aload_n 0, 1) := by decide +kernel
theorem dX4_readPut_34 : decode cX4_readPut 34 = .ok (.getfield 85, 3) := by decide +kernel
theorem dX4_readPut_37 : decode cX4_readPut 37 = .ok (.invokevirtual 120, 3) := by decide +kernel
theorem dX4_readPut_40 : decode cX4_readPut 40 = .ok (.istore_n 2, 1) := by decide +kernel
theorem dX4_readPut_41 : decode cX4_readPut 41 = .ok (.aload_n 0, 1) := by decide +kernel
theorem dX4_readPut_42 : decode cX4_readPut 42 = .ok (.getfield 36, 3) := by decide +kernel
theorem dX4_readPut_45 : decode cX4_readPut 45 = .ok (.iload_n 2, 1) := by decide +kernel
theorem dX4_readPut_46 : decode cX4_readPut 46 = .ok (.iconst 1, 1) := by decide +kernel
theorem dX4_readPut_47 : decode cX4_readPut 47 = .ok (.aload_n 0, 1) := by decide +kernel
theorem dX4_readPut_48 : decode cX4_readPut 48 = .ok (.getfield 22, 3) := by decide +kernel
theorem dX4_readPut_51 : decode cX4_readPut 51 = .ok (.iload_n 1, 1) := by decide +kernel
theorem dX4_readPut_52 : decode cX4_readPut 52 = .ok (.invokevirtual 82, 3) := by decide +kernel
theorem dX4_readPut_55 : decode cX4_readPut 55 = .ok (.invokevirtual 124, 3) := by decide +kernel
theorem dX4_readPut_58 : decode cX4_readPut 58 = .ok (.aload_n 0, 1) := by decide +kernel
theorem dX4_readPut_59 : decode cX4_readPut 59 = .ok (.bipush 11, 2) := by decide +kernel
theorem dX4_readPut_61 : decode cX4_readPut 61 = .ok (.invokevirtual 51, 3) := by decide +kernel
theorem dX4_readPut_64 : decode cX4_readPut 64 = .ok (.ifCond .eq 24, 3) := by decide +kernel
theorem dX4_readPut_67 : decode cX4_readPut 67 = .ok (.aload_n 0, 1) := by decide +kernel
theorem dX4_readPut_68 : decode cX4_readPut 68 = .ok (.iload_n 1, 1) := by decide +kernel
theorem dX4_readPut_69 : decode cX4_readPut 69 = .ok (.iload_n 2, 1) := by decide +kernel
theorem dX4_readPut_70 : decode cX4_readPut 70 = .ok (.iconst 3, 1) := by decide +kernel
theorem dX4_readPut_71 : decode cX4_readPut 71 = .ok (.invokevirtual 146, 3) := by decide +kernel
theorem dX4_readPut_74 : decode cX4_readPut 74 = .ok (.ifCond .eq 12, 3) := by decide +kernel
theorem dX4_readPut_77 : decode cX4_readPut 77 = .ok (.aload_n 0, 1) := by decide +kernel
theorem dX4_readPut_78 : decode cX4_readPut 78 = .ok (.iload_n 2, 1) := by decide +kernel
theorem dX4_readPut_79 : decode cX4_readPut 79 = .ok (.iconst 2, 1) := by decide +kernel
theorem dX4_readPut_80 : decode cX4_readPut 80 = .ok (.invokevirtual 150, 3) := by decide +kernel
theorem dX4_readPut_83 : decode cX4_readPut 83 = .ok (.ifCond .ne 5, 3) := by decide +kernel
theorem dX4_readPut_86 : decode cX4_readPut 86 = .ok (.iconst 0, 1) := by decide +kernel
theorem dX4_readPut_87 : decode cX4_readPut 87 = .ok (.ireturn, 1) := by decide +kernel
theorem dX4_readPut_88 : decode cX4_readPut 88 = .ok (.aload_n 0, 1) := by decide +kernel
theorem dX4_readPut_89 : decode cX4_readPut 89 = .ok (.bipush 10, 2) := by decide +kernel
theorem dX4_readPut_91 : decode cX4_readPut 91 = .ok (.invokevirtual 79, 3) := by decide +kernel
theorem dX4_readPut_94 : decode cX4_readPut 94 = .ok (.ifCond .eq 24, 3) := by decide +kernel
theorem dX4_readPut_97 : decode cX4_readPut 97 = .ok (.aload_n 0, 1) := by decide +kernel
theorem dX4_readPut_98 : decode cX4_readPut 98 = .ok (.iload_n 2, 1) := by decide +kernel
theorem dX4_readPut_99 : decode cX4_readPut 99 = .ok (.invokevirtual 153, 3) := by decide +kernel
theorem dX4_readPut_102 : decode cX4_readPut 102 = .ok (.ifCond .eq 16, 3) := by decide +kernel
theorem dX4_readPut_105 : decode cX4_readPut 105 = .ok (.aload_n 0, 1) := by decide +kernel
theorem dX4_readPut_106 : decode cX4_readPut 106 = .ok (.bipush 9, 2) := by decide +kernel
theorem dX4_readPut_108 : decode cX4_readPut 108 = .ok (.invokevirtual 79, 3) := by decide +kernel
theorem dX4_readPut_111 : decode cX4_readPut 111 = .ok (.ifCond .eq 7, 3) := by decide +kernel
theorem dX4_readPut_114 : decode cX4_readPut 114 = .ok (.iconst 1, 1) := by decide +kernel
theorem dX4_readPut_115 : decode cX4_readPut 115 = .ok (.goto 4, 3) := by decide +kernel
theorem dX4_readPut_118 : decode cX4_readPut 118 = .ok (.iconst 0, 1) := by decide +kernel
theorem dX4_readPut_119 : decode cX4_readPut 119 = .ok (.ireturn, 1) := by decide +kernel
theorem dX4_readUse_0 : decode cX4_readUse 0 = .ok (.aload_n 0, 1) := by decide +kernel
theorem dX4_readUse_1 : decode cX4_readUse 1 = .ok (.getfield 26, 3) := by decide +kernel
theorem dX4_readUse_4 : decode cX4_readUse 4 = .ok (.getfield 156, 3) := by decide +kernel
theorem dX4_readUse_7 : decode cX4_readUse 7 = .ok (.bipush 40, 2) := by decide +kernel
theorem dX4_readUse_9 : decode cX4_readUse 9 = .ok (.if_icmp .lt 17, 3) := by decide +kernel
theorem dX4_readUse_12 : decode cX4_readUse 12 = .ok (.aload_n 0, 1) := by decide +kernel
theorem dX4_readUse_13 : decode cX4_readUse 13 = .ok (.iconst 2, 1) := by decide +kernel
theorem dX4_readUse_14 : decode cX4_readUse 14 = .ok (.aload_n 0, 1) := by decide +kernel
theorem dX4_readUse_15 : decode cX4_readUse 15 = .ok (.getfield 22, 3) := by decide +kernel
theorem dX4_readUse_18 : decode cX4_readUse 18 = .ok (.iload_n 1, 1) := by decide +kernel
theorem dX4_readUse_19 : decode cX4_readUse 19 = .ok (.invokevirtual 72, 3) := by decide +kernel
theorem dX4_readUse_22 : decode cX4_readUse 22 = .ok (.invokevirtual 75, 3) := by decide +kernel
theorem dX4_readUse_25 : decode cX4_readUse 25 = .ok (.ireturn, 1) := by decide +kernel
theorem dX4_readUse_26 : decode cX4_readUse 26 = .ok (.aload_n 0, 1) := by decide +kernel
theorem dX4_readUse_27 : decode cX4_readUse 27 = .ok (.getfield 36, 3) := by decide +kernel
theorem dX4_readUse_30 : decode cX4_readUse 30 = .ok (.iload_n 2, 1) := by decide +kernel
theorem dX4_readUse_31 : decode cX4_readUse 31 = .ok (.iload_n 3, 1) := by decide +kernel
theorem dX4_readUse_32 : decode cX4_readUse 32 = .ok (.aload_n 0, 1) := by decide +kernel
theorem dX4_readUse_33 : decode cX4_readUse 33 = .ok (.getfield 26, 3) := by decide +kernel
theorem dX4_readUse_36 : decode cX4_readUse 36 = .ok (.aload_n 0, 1) := by decide +kernel
theorem dX4_readUse_37 : decode cX4_readUse 37 = .ok (.getfield 85, 3) := by decide +kernel
theorem dX4_readUse_40 : decode cX4_readUse 40 = .ok (.aload_n 0, 1) := by decide +kernel
theorem dX4_readUse_41 : decode cX4_readUse 41 = .ok (.getfield 22, 3) := by decide +kernel
theorem dX4_readUse_44 : decode cX4_readUse 44 = .ok (.iload_n 1, 1) := by decide +kernel
theorem dX4_readUse_45 : decode cX4_readUse 45 = .ok (.invokevirtual 72, 3) := by decide +kernel
theorem dX4_readUse_48 : decode cX4_readUse 48 = .ok (.aload_n 0, 1) := by decide +kernel
theorem dX4_readUse_49 : decode cX4_readUse 49 = .ok (.getfield 22, 3) := by decide +kernel
theorem dX4_readUse_52 : decode cX4_readUse 52 = .ok (.iload_n 1, 1) := by decide +kernel
theorem dX4_readUse_53 : decode cX4_readUse 53 = .ok (.invokevirtual 82, 3) := by decide +kernel
theorem dX4_readUse_56 : decode cX4_readUse 56 = .ok (.invokevirtual 159, 3) := by decide +kernel
theorem dX4_readUse_59 : decode cX4_readUse 59 = .ok (.invokevirtual 124, 3) := by decide +kernel
theorem dX4_readUse_62 : decode cX4_readUse 62 = .ok (.aload_n 0, 1) := by decide +kernel
theorem dX4_readUse_63 : decode cX4_readUse 63 = .ok (.dup, 1) := by decide +kernel
theorem dX4_readUse_64 : decode cX4_readUse 64 = .ok (.getfield 40, 3) := by decide +kernel
theorem dX4_readUse_67 : decode cX4_readUse 67 = .ok (.iconst 1, 1) := by decide +kernel
theorem dX4_readUse_68 : decode cX4_readUse 68 = .ok (.iadd, 1) := by decide +kernel
theorem dX4_readUse_69 : decode cX4_readUse 69 = .ok (.putfield 40, 3) := by decide +kernel
theorem dX4_readUse_72 : decode cX4_readUse 72 = .ok (.iconst 1, 1) := by decide +kernel
theorem dX4_readUse_73 : decode cX4_readUse 73 = .ok (.ireturn, 1) := by decide +kernel
theorem dX4_readField_0 : decode cX4_readField 0 = .ok (.aload_n 0, 1) := by decide +kernel
theorem dX4_readField_1 : decode cX4_readField 1 = .ok (.getfield 22, 3) := by decide +kernel
theorem dX4_readField_4 : decode cX4_readField 4 = .ok (.aload_n 0, 1) := by decide +kernel
theorem dX4_readField_5 : decode cX4_readField 5 = .ok (.getfield 40, 3) := by decide +kernel
theorem dX4_readField_8 : decode cX4_readField 8 = .ok (.invokevirtual 82, 3) := by decide +kernel
theorem dX4_readField_11 : decode cX4_readField 11 = .ok (.istore_n 3, 1) := by decide +kernel
theorem dX4_readField_12 : decode cX4_readField 12 = .ok (.aload_n 0, 1) := by decide +kernel
theorem dX4_readField_13 : decode cX4_readField 13 = .ok (.getfield 22, 3) := by decide +kernel
theorem dX4_readField_16 : decode cX4_readField 16 = .ok (.aload_n 0, 1) := by decide +kernel
theorem dX4_readField_17 : decode cX4_readField 17 = .ok (.getfield 40, 3) := by decide +kernel
theorem dX4_readField_20 : decode cX4_readField 20 = .ok (.invokevirtual 68, 3) := by decide +kernel
theorem dX4_readField_23 : decode cX4_readField 23 = .ok (.iconst 2, 1) := by decide +kernel
theorem dX4_readField_24 : decode cX4_readField 24 = .ok (.if_icmp .ne 15, 3) := by decide +kernel
theorem dX4_readField_27 : decode cX4_readField 27 = .ok (.iload_n 3, 1) := by decide +kernel
theorem dX4_readField_28 : decode cX4_readField 28 = .ok (.bipush 15, 2) := by decide +kernel
theorem dX4_readField_30 : decode cX4_readField 30 = .ok (.if_icmp .eq 26, 3) := by decide +kernel
theorem dX4_readField_33 : decode cX4_readField 33 = .ok (.iload_n 3, 1) := by decide +kernel
theorem dX4_readField_34 : decode cX4_readField 34 = .ok (.bipush 16, 2) := by decide +kernel
theorem dX4_readField_36 : decode cX4_readField 36 = .ok (.if_icmp .eq 20, 3) := by decide +kernel
theorem dX4_readField_39 : decode cX4_readField 39 = .ok (.aload_n 0, 1) := by decide +kernel
theorem dX4_readField_40 : decode cX4_readField 40 = .ok (.iconst 1, 1) := by decide +kernel
theorem dX4_readField_41 : decode cX4_readField 41 = .ok (.aload_n 0, 1) := by decide +kernel
theorem dX4_readField_42 : decode cX4_readField 42 = .ok (.getfield 22, 3) := by decide +kernel
theorem dX4_readField_45 : decode cX4_readField 45 = .ok (.aload_n 0, 1) := by decide +kernel
theorem dX4_readField_46 : decode cX4_readField 46 = .ok (.getfield 40, 3) := by decide +kernel
theorem dX4_readField_49 : decode cX4_readField 49 = .ok (.invokevirtual 72, 3) := by decide +kernel
theorem dX4_readField_52 : decode cX4_readField 52 = .ok (.invokevirtual 75, 3) := by decide +kernel
theorem dX4_readField_55 : decode cX4_readField 55 = .ok (.ireturn, 1) := by decide +kernel
theorem dX4_readField_56 : decode cX4_readField 56 = .ok (.aload_n 0, 1) := by decide +kernel
theorem dX4_readField_57 : decode cX4_readField 57 = .ok (.getfield 36, 3) := by decide +kernel
theorem dX4_readField_60 : decode cX4_readField 60 = .ok (.iload_n 1, 1) := by decide +kernel
theorem dX4_readField_61 : decode cX4_readField 61 = .ok (.iload_n 2, 1) := by decide +kernel
theorem dX4_readField_62 : decode cX4_readField 62 = .ok (.iload_n 3, 1) := by decide +kernel
theorem dX4_readField_63 : decode cX4_readField 63 = .ok (.bipush 15, 2) := by decide +kernel
theorem dX4_readField_65 : decode cX4_readField 65 = .ok (.isub, 1) := by decide +kernel
theorem dX4_readField_66 : decode cX4_readField 66 = .ok (.invokevirtual 124, 3) := by decide +kernel
theorem dX4_readField_69 : decode cX4_readField 69 = .ok (.aload_n 0, 1) := by decide +kernel
theorem dX4_readField_70 : decode cX4_readField 70 = .ok (.dup, 1) := by decide +kernel
theorem dX4_readField_71 : decode cX4_readField 71 = .ok (.getfield 40, 3) := by decide +kernel
theorem dX4_readField_74 : decode cX4_readField 74 = .ok (.iconst 1, 1) := by decide +kernel
theorem dX4_readField_75 : decode cX4_readField 75 = .ok (.iadd, 1) := by decide +kernel
theorem dX4_readField_76 : decode cX4_readField 76 = .ok (.putfield 40, 3) := by decide +kernel
theorem dX4_readField_79 : decode cX4_readField 79 = .ok (.iconst 1, 1) := by decide +kernel
theorem dX4_readField_80 : decode cX4_readField 80 = .ok (.ireturn, 1) := by decide +kernel
theorem dX4_readReturn_0 : decode cX4_readReturn 0 = .ok (.aload_n 0, 1) := by decide +kernel
theorem dX4_readReturn_1 : decode cX4_readReturn 1 = .ok (.dup, 1) := by decide +kernel
theorem dX4_readReturn_2 : decode cX4_readReturn 2 = .ok (.getfield 40, 3) := by decide +kernel
theorem dX4_readReturn_5 : decode cX4_readReturn 5 = .ok (.iconst 1, 1) := by decide +kernel
theorem dX4_readReturn_6 : decode cX4_readReturn 6 = .ok (.iadd, 1) := by decide +kernel
theorem dX4_readReturn_7 : decode cX4_readReturn 7 = .ok (.putfield 40, 3) := by decide +kernel
theorem dX4_readReturn_10 : decode cX4_readReturn 10 = .ok (.aload_n 0, 1) := by decide +kernel
theorem dX4_readReturn_11 : decode cX4_readReturn 11 = .ok (.getfield 36, 3) := by decide +kernel
theorem dX4_readReturn_14 : decode cX4_readReturn 14 = .ok (.bipush 6, 2) := by decide +kernel
theorem dX4_readReturn_16 : decode cX4_readReturn 16 = .ok (.aload_n 0, 1) := by decide +kernel
theorem dX4_readReturn_17 : decode cX4_readReturn 17 = .ok (.getfield 85, 3) := by decide +kernel
theorem dX4_readReturn_20 : decode cX4_readReturn 20 = .ok (.invokevirtual 120, 3) := by decide +kernel
theorem dX4_readReturn_23 : decode cX4_readReturn 23 = .ok (.istore_n 1, 1) := by decide +kernel
theorem dX4_readReturn_24 : decode cX4_readReturn 24 = .ok (.aload_n 0, 1) := by decide +kernel
theorem dX4_readReturn_25 : decode cX4_readReturn 25 = .ok (.bipush 9, 2) := by decide +kernel
theorem dX4_readReturn_27 : decode cX4_readReturn 27 = .ok (.invokevirtual 51, 3) := by decide +kernel
theorem dX4_readReturn_30 : decode cX4_readReturn 30 = .ok (.ifCond .eq 25, 3) := by decide +kernel
theorem dX4_readReturn_33 : decode cX4_readReturn 33 = .ok (.aload_n 0, 1) := by decide +kernel
theorem dX4_readReturn_34 : decode cX4_readReturn 34 = .ok (.getfield 36, 3) := by decide +kernel
theorem dX4_readReturn_37 : decode cX4_readReturn 37 = .ok (.iload_n 1, 1) := by decide +kernel
theorem dX4_readReturn_38 : decode cX4_readReturn 38 = .ok (.iconst 4, 1) := by decide +kernel
theorem dX4_readReturn_39 : decode cX4_readReturn 39 = .ok (.iconst 0, 1) := by decide +kernel
theorem dX4_readReturn_40 : decode cX4_readReturn 40 = .ok (.invokevirtual 124, 3) := by decide +kernel
theorem dX4_readReturn_43 : decode cX4_readReturn 43 = .ok (.aload_n 0, 1) := by decide +kernel
theorem dX4_readReturn_44 : decode cX4_readReturn 44 = .ok (.dup, 1) := by decide +kernel
theorem dX4_readReturn_45 : decode cX4_readReturn 45 = .ok (.getfield 40, 3) := by decide +kernel
theorem dX4_readReturn_48 : decode cX4_readReturn 48 = .ok (.iconst 1, 1) := by decide +kernel
theorem dX4_readReturn_49 : decode cX4_readReturn 49 = .ok (.iadd, 1) := by decide +kernel
theorem dX4_readReturn_50 : decode cX4_readReturn 50 = .ok (.putfield 40, 3) := by decide +kernel
theorem dX4_readReturn_53 : decode cX4_readReturn 53 = .ok (.iconst 1, 1) := by decide +kernel
theorem dX4_readReturn_54 : decode cX4_readReturn 54 = .ok (.ireturn, 1) := by decide +kernel
theorem dX4_readReturn_55 : decode cX4_readReturn 55 = .ok (.aload_n 0, 1) := by decide +kernel
theorem dX4_readReturn_56 : decode cX4_readReturn 56 = .ok (.iload_n 1, 1) := by decide +kernel
theorem dX4_readReturn_57 : decode cX4_readReturn 57 = .ok (.invokevirtual 153, 3) := by decide +kernel
theorem dX4_readReturn_60 : decode cX4_readReturn 60 = .ok (.ifCond .eq 16, 3) := by decide +kernel
theorem dX4_readReturn_63 : decode cX4_readReturn 63 = .ok (.aload_n 0, 1) := by decide +kernel
theorem dX4_readReturn_64 : decode cX4_readReturn 64 = .ok (.bipush 9, 2) := by decide +kernel
theorem dX4_readReturn_66 : decode cX4_readReturn 66 = .ok (.invokevirtual 79, 3) := by decide +kernel
theorem dX4_readReturn_69 : decode cX4_readReturn 69 = .ok (.ifCond .eq 7, 3) := by decide +kernel
theorem dX4_readReturn_72 : decode cX4_readReturn 72 = .ok (.iconst 1, 1) := by decide +kernel
theorem dX4_readReturn_73 : decode cX4_readReturn 73 = .ok (.goto 4, 3) := by decide +kernel
theorem dX4_readReturn_76 : decode cX4_readReturn 76 = .ok (.iconst 0, 1) := by decide +kernel
theorem dX4_readReturn_77 : decode cX4_readReturn 77 = .ok (.ireturn, 1) := by decide +kernel
theorem dX4_readBranch_0 : decode cX4_readBranch 0 = .ok (.aload_n 0, 1) := by decide +kernel
theorem dX4_readBranch_1 : decode cX4_readBranch 1 = .ok (.dup, 1) := by decide +kernel
theorem dX4_readBranch_2 : decode cX4_readBranch 2 = .ok (.getfield 40, 3) := by decide +kernel
theorem dX4_readBranch_5 : decode cX4_readBranch 5 = .ok (.iconst 1, 1) := by decide +kernel
theorem dX4_readBranch_6 : decode cX4_readBranch 6 = .ok (.iadd, 1) := by decide +kernel
theorem dX4_readBranch_7 : decode cX4_readBranch 7 = .ok (.putfield 40, 3) := by decide +kernel
theorem dX4_readBranch_10 : decode cX4_readBranch 10 = .ok (.aload_n 0, 1) := by decide +kernel
theorem dX4_readBranch_11 : decode cX4_readBranch 11 = .ok (.bipush 19, 2) := by decide +kernel
theorem dX4_readBranch_13 : decode cX4_readBranch 13 = .ok (.invokevirtual 51, 3) := by decide +kernel
theorem dX4_readBranch_16 : decode cX4_readBranch 16 = .ok (.istore_n 2, 1) := by decide +kernel
theorem dX4_readBranch_17 : decode cX4_readBranch 17 = .ok (.aload_n 0, 1) := by decide +kernel
theorem dX4_readBranch_18 : decode cX4_readBranch 18 = .ok (.getfield 22, 3) := by decide +kernel
theorem dX4_readBranch_21 : decode cX4_readBranch 21 = .ok (.aload_n 0, 1) := by decide +kernel
theorem dX4_readBranch_22 : decode cX4_readBranch 22 = .ok (.getfield 40, 3) := by decide +kernel
theorem dX4_readBranch_25 : decode cX4_readBranch 25 = .ok (.invokevirtual 72, 3) := by decide +kernel
theorem dX4_readBranch_28 : decode cX4_readBranch 28 = .ok (.istore_n 3, 1) := by decide +kernel
theorem dX4_readBranch_29 : decode cX4_readBranch 29 = .ok (.iload_n 2, 1) := by decide +kernel
theorem dX4_readBranch_30 : decode cX4_readBranch 30 = .ok (.ifCond .ne 18, 3) := by decide +kernel
theorem dX4_readBranch_33 : decode cX4_readBranch 33 = .ok (.aload_n 0, 1) := by decide +kernel
theorem dX4_readBranch_34 : decode cX4_readBranch 34 = .ok (.iconst 2, 1) := by decide +kernel
theorem dX4_readBranch_35 : decode cX4_readBranch 35 = .ok (.invokevirtual 51, 3) := by decide +kernel
theorem dX4_readBranch_38 : decode cX4_readBranch 38 = .ok (.ifCond .ne 10, 3) := by decide +kernel
theorem dX4_readBranch_41 : decode cX4_readBranch 41 = .ok (.aload_n 0, 1) := by decide +kernel
theorem dX4_readBranch_42 : decode cX4_readBranch 42 = .ok (.iconst 1, 1) := by decide +kernel
theorem dX4_readBranch_43 : decode cX4_readBranch 43 = .ok (.iload_n 3, 1) := by decide +kernel
theorem dX4_readBranch_44 : decode cX4_readBranch 44 = .ok (.invokevirtual 75, 3) := by decide +kernel
theorem dX4_readBranch_47 : decode cX4_readBranch 47 = .ok (.ireturn, 1) := by decide +kernel
theorem dX4_readBranch_48 : decode cX4_readBranch 48 = .ok (.aload_n 0, 1) := by decide +kernel
theorem dX4_readBranch_49 : decode cX4_readBranch 49 = .ok (.getfield 26, 3) := by decide +kernel
theorem dX4_readBranch_52 : decode cX4_readBranch 52 = .ok (.getfield 163, 3) := by decide +kernel
theorem dX4_readBranch_55 : decode cX4_readBranch 55 = .ok (.bipush 24, 2) := by decide +kernel
theorem dX4_readBranch_57 : decode cX4_readBranch 57 = .ok (.if_icmp .lt 10, 3) := by decide +kernel
theorem dX4_readBranch_60 : decode cX4_readBranch 60 = .ok (.aload_n 0, 1) := by decide +kernel
theorem dX4_readBranch_61 : decode cX4_readBranch 61 = .ok (.iconst 2, 1) := by decide +kernel
theorem dX4_readBranch_62 : decode cX4_readBranch 62 = .ok (.iload_n 3, 1) := by decide +kernel
theorem dX4_readBranch_63 : decode cX4_readBranch 63 = .ok (.invokevirtual 75, 3) := by decide +kernel
theorem dX4_readBranch_66 : decode cX4_readBranch 66 = .ok (.ireturn, 1) := by decide +kernel
theorem dX4_readBranch_67 : decode cX4_readBranch 67 = .ok (.aload_n 0, 1) := by decide +kernel
theorem dX4_readBranch_68 : decode cX4_readBranch 68 = .ok (.getfield 36, 3) := by decide +kernel
theorem dX4_readBranch_71 : decode cX4_readBranch 71 = .ok (.iconst 2, 1) := by decide +kernel
theorem dX4_readBranch_72 : decode cX4_readBranch 72 = .ok (.aload_n 0, 1) := by decide +kernel
theorem dX4_readBranch_73 : decode cX4_readBranch 73 = .ok (.getfield 85, 3) := by decide +kernel
theorem dX4_readBranch_76 : decode cX4_readBranch 76 = .ok (.invokevirtual 120, 3) := by decide +kernel
theorem dX4_readBranch_79 : decode cX4_readBranch 79 = .ok (.istore 4, 2) := by decide +kernel
theorem dX4_readBranch_81 : decode cX4_readBranch 81 = .ok (.aload_n 0, 1) := by decide +kernel
theorem dX4_readBranch_82 : decode cX4_readBranch 82 = .ok (.getfield 36, 3) := by decide +kernel
theorem dX4_readBranch_85 : decode cX4_readBranch 85 = .ok (.iload 4, 2) := by decide +kernel
theorem dX4_readBranch_87 : decode cX4_readBranch 87 = .ok (.iconst 3, 1) := by decide +kernel
theorem dX4_readBranch_88 : decode cX4_readBranch 88 = .ok (.aload_n 0, 1) := by decide +kernel
theorem dX4_readBranch_89 : decode cX4_readBranch 89 = .ok (.getfield 26, 3) := by decide +kernel
theorem dX4_readBranch_92 : decode cX4_readBranch 92 = .ok (.aload_n 0, 1) := by decide +kernel
theorem dX4_readBranch_93 : decode cX4_readBranch 93 = .ok (.getfield 85, 3) := by decide +kernel
theorem dX4_readBranch_96 : decode cX4_readBranch 96 = .ok (.iload_n 3, 1) := by decide +kernel
theorem dX4_readBranch_97 : decode cX4_readBranch 97 = .ok (.invokevirtual 166, 3) := by decide +kernel
theorem dX4_readBranch_100 : decode cX4_readBranch 100 = .ok (.invokevirtual 124, 3) := by decide +kernel
theorem dX4_readBranch_103 : decode cX4_readBranch 103 = .ok (.aload_n 0, 1) := by decide +kernel
theorem dX4_readBranch_104 : decode cX4_readBranch 104 = .ok (.getfield 36, 3) := by decide +kernel
theorem dX4_readBranch_107 : decode cX4_readBranch 107 = .ok (.iload 4, 2) := by decide +kernel
theorem dX4_readBranch_109 : decode cX4_readBranch 109 = .ok (.iconst 4, 1) := by decide +kernel
theorem dX4_readBranch_110 : decode cX4_readBranch 110 = .ok (.iconst 1, 1) := by decide +kernel
theorem dX4_readBranch_111 : decode cX4_readBranch 111 = .ok (.invokevirtual 124, 3) := by decide +kernel
theorem dX4_readBranch_114 : decode cX4_readBranch 114 = .ok (.aload_n 0, 1) := by decide +kernel
theorem dX4_readBranch_115 : decode cX4_readBranch 115 = .ok (.getfield 36, 3) := by decide +kernel
theorem dX4_readBranch_118 : decode cX4_readBranch 118 = .ok (.iload 4, 2) := by decide +kernel
theorem dX4_readBranch_120 : decode cX4_readBranch 120 = .ok (.iconst 1, 1) := by decide +kernel
theorem dX4_readBranch_121 : decode cX4_readBranch 121 = .ok (.aload_n 0, 1) := by decide +kernel
theorem dX4_readBranch_122 : decode cX4_readBranch 122 = .ok (.getfield 22, 3) := by decide +kernel
theorem dX4_readBranch_125 : decode cX4_readBranch 125 = .ok (.aload_n 0, 1) := by decide +kernel
theorem dX4_readBranch_126 : decode cX4_readBranch 126 = .ok (.getfield 40, 3) := by decide +kernel
theorem dX4_readBranch_129 : decode cX4_readBranch 129 = .ok (.invokevirtual 82, 3) := by decide +kernel
theorem dX4_readBranch_132 : decode cX4_readBranch 132 = .ok (.invokevirtual 124, 3) := by decide +kernel
theorem dX4_readBranch_135 : decode cX4_readBranch 135 = .ok (.aload_n 0, 1) := by decide +kernel
theorem dX4_readBranch_136 : decode cX4_readBranch 136 = .ok (.dup, 1) := by decide +kernel
theorem dX4_readBranch_137 : decode cX4_readBranch 137 = .ok (.getfield 40, 3) := by decide +kernel
theorem dX4_readBranch_140 : decode cX4_readBranch 140 = .ok (.iconst 1, 1) := by decide +kernel
theorem dX4_readBranch_141 : decode cX4_readBranch 141 = .ok (.iadd, 1) := by decide +kernel
theorem dX4_readBranch_142 : decode cX4_readBranch 142 = .ok (.putfield 40, 3) := by decide +kernel
theorem dX4_readBranch_145 : decode cX4_readBranch 145 = .ok (.iload_n 2, 1) := by decide +kernel
theorem dX4_readBranch_146 : decode cX4_readBranch 146 = .ok (.ifCond .ne 12, 3) := by decide +kernel
theorem dX4_readBranch_149 : decode cX4_readBranch 149 = .ok (.aload_n 0, 1) := by decide +kernel
theorem dX4_readBranch_150 : decode cX4_readBranch 150 = .ok (.iload 4, 2) := by decide +kernel
theorem dX4_readBranch_152 : decode cX4_readBranch 152 = .ok (.invokevirtual 169, 3) := by decide +kernel
theorem dX4_readBranch_155 : decode cX4_readBranch 155 = .ok (.ifCond .eq 17, 3) := by decide +kernel
theorem dX4_readBranch_158 : decode cX4_readBranch 158 = .ok (.aload_n 0, 1) := by decide +kernel
theorem dX4_readBranch_159 : decode cX4_readBranch 159 = .ok (.iload_n 1, 1) := by decide +kernel
theorem dX4_readBranch_160 : decode cX4_readBranch 160 = .ok (.iload 4, 2) := by decide +kernel
theorem dX4_readBranch_162 : decode cX4_readBranch 162 = .ok (.invokevirtual 98, 3) := by decide +kernel
theorem dX4_readBranch_165 : decode cX4_readBranch 165 = .ok (.ifCond .eq 7, 3) := by decide +kernel
theorem dX4_readBranch_168 : decode cX4_readBranch 168 = .ok (.iconst 1, 1) := by decide +kernel
theorem dX4_readBranch_169 : decode cX4_readBranch 169 = .ok (.goto 4, 3) := by decide +kernel
theorem dX4_readBranch_172 : decode cX4_readBranch 172 = .ok (.iconst 0, 1) := by decide +kernel
theorem dX4_readBranch_173 : decode cX4_readBranch 173 = .ok (.ireturn, 1) := by decide +kernel
theorem dX4_readComparison_0 : decode cX4_readComparison 0 = .ok (.aload_n 0, 1) := by decide +kernel
theorem dX4_readComparison_1 : decode cX4_readComparison 1 = .ok (.bipush 16, 2) := by decide +kernel
theorem dX4_readComparison_3 : decode cX4_readComparison 3 = .ok (.invokevirtual 51, 3) := by decide +kernel
theorem dX4_readComparison_6 : decode cX4_readComparison 6 = .ok (.istore_n 2, 1) := by decide +kernel
theorem dX4_readComparison_7 : decode cX4_readComparison 7 = .ok (.aload_n 0, 1) := by decide +kernel
theorem dX4_readComparison_8 : decode cX4_readComparison 8 = .ok (.getfield 36, 3) := by decide +kernel
theorem dX4_readComparison_11 : decode cX4_readComparison 11 = .ok (.iload_n 1, 1) := by decide +kernel
theorem dX4_readComparison_12 : decode cX4_readComparison 12 = .ok (.iconst 4, 1) := by decide +kernel
theorem dX4_readComparison_13 : decode cX4_readComparison 13 = .ok (.iload_n 2, 1) := by decide +kernel
theorem dX4_readComparison_14 : decode cX4_readComparison 14 = .ok (.ifCond .eq 8, 3) := by decide +kernel
theorem dX4_readComparison_17 : decode cX4_readComparison 17 = .ok (.bipush 7, 2) := by decide +kernel
theorem dX4_readComparison_19 : decode cX4_readComparison 19 = .ok (.goto 5, 3) := by decide +kernel
theorem dX4_readComparison_22 : decode cX4_readComparison 22 = .ok (.bipush 6, 2) := by decide +kernel
theorem dX4_readComparison_24 : decode cX4_readComparison 24 = .ok (.invokevirtual 124, 3) := by decide +kernel
theorem dX4_readComparison_27 : decode cX4_readComparison 27 = .ok (.aload_n 0, 1) := by decide +kernel
theorem dX4_readComparison_28 : decode cX4_readComparison 28 = .ok (.iload_n 2, 1) := by decide +kernel
theorem dX4_readComparison_29 : decode cX4_readComparison 29 = .ok (.ifCond .eq 8, 3) := by decide +kernel
theorem dX4_readComparison_32 : decode cX4_readComparison 32 = .ok (.bipush 16, 2) := by decide +kernel
theorem dX4_readComparison_34 : decode cX4_readComparison 34 = .ok (.goto 5, 3) := by decide +kernel
theorem dX4_readComparison_37 : decode cX4_readComparison 37 = .ok (.bipush 15, 2) := by decide +kernel
theorem dX4_readComparison_39 : decode cX4_readComparison 39 = .ok (.invokevirtual 79, 3) := by decide +kernel
theorem dX4_readComparison_42 : decode cX4_readComparison 42 = .ok (.ifCond .eq 16, 3) := by decide +kernel
theorem dX4_readComparison_45 : decode cX4_readComparison 45 = .ok (.aload_n 0, 1) := by decide +kernel
theorem dX4_readComparison_46 : decode cX4_readComparison 46 = .ok (.bipush 17, 2) := by decide +kernel
theorem dX4_readComparison_48 : decode cX4_readComparison 48 = .ok (.invokevirtual 79, 3) := by decide +kernel
theorem dX4_readComparison_51 : decode cX4_readComparison 51 = .ok (.ifCond .eq 7, 3) := by decide +kernel
theorem dX4_readComparison_54 : decode cX4_readComparison 54 = .ok (.iconst 1, 1) := by decide +kernel
theorem dX4_readComparison_55 : decode cX4_readComparison 55 = .ok (.goto 4, 3) := by decide +kernel
theorem dX4_readComparison_58 : decode cX4_readComparison 58 = .ok (.iconst 0, 1) := by decide +kernel
theorem dX4_readComparison_59 : decode cX4_readComparison 59 = .ok (.ireturn, 1) := by decide +kernel
theorem dX4_readValue_0 : decode cX4_readValue 0 = .ok (.aload_n 0, 1) := by decide +kernel
theorem dX4_readValue_1 : decode cX4_readValue 1 = .ok (.getfield 22, 3) := by decide +kernel
theorem dX4_readValue_4 : decode cX4_readValue 4 = .ok (.aload_n 0, 1) := by decide +kernel
theorem dX4_readValue_5 : decode cX4_readValue 5 = .ok (.getfield 40, 3) := by decide +kernel
theorem dX4_readValue_8 : decode cX4_readValue 8 = .ok (.invokevirtual 68, 3) := by decide +kernel
theorem dX4_readValue_11 : decode cX4_readValue 11 = .ok (.lookupswitch 150 #[(2, 138), (3, 144), (17, 49), (18, 93), (19, 71)], 49) := by decide +kernel
theorem dX4_readValue_60 : decode cX4_readValue 60 = .ok (.aload_n 0, 1) := by decide +kernel
theorem dX4_readValue_61 : decode cX4_readValue 61 = .ok (.getfield 36, 3) := by decide +kernel
theorem dX4_readValue_64 : decode cX4_readValue 64 = .ok (.iload_n 1, 1) := by decide +kernel
theorem dX4_readValue_65 : decode cX4_readValue 65 = .ok (.iconst 4, 1) := by decide +kernel
theorem dX4_readValue_66 : decode cX4_readValue 66 = .ok (.iconst 0, 1) := by decide +kernel
theorem dX4_readValue_67 : decode cX4_readValue 67 = .ok (.invokevirtual 124, 3) := by decide +kernel
theorem dX4_readValue_70 : decode cX4_readValue 70 = .ok (.aload_n 0, 1) := by decide +kernel
theorem dX4_readValue_71 : decode cX4_readValue 71 = .ok (.dup, 1) := by decide +kernel
theorem dX4_readValue_72 : decode cX4_readValue 72 = .ok (.getfield 40, 3) := by decide +kernel
theorem dX4_readValue_75 : decode cX4_readValue 75 = .ok (.iconst 1, 1) := by decide +kernel
theorem dX4_readValue_76 : decode cX4_readValue 76 = .ok (.iadd, 1) := by decide +kernel
theorem dX4_readValue_77 : decode cX4_readValue 77 = .ok (.putfield 40, 3) := by decide +kernel
theorem dX4_readValue_80 : decode cX4_readValue 80 = .ok (.iconst 1, 1) := by decide +kernel
theorem dX4_readValue_81 : decode cX4_readValue 81 = .ok (.ireturn, 1) := by decide +kernel
theorem dX4_readValue_82 : decode cX4_readValue 82 = .ok (.aload_n 0, 1) := by decide +kernel
theorem dX4_readValue_83 : decode cX4_readValue 83 = .ok (.getfield 36, 3) := by decide +kernel
theorem dX4_readValue_86 : decode cX4_readValue 86 = .ok (.iload_n 1, 1) := by decide +kernel
theorem dX4_readValue_87 : decode cX4_readValue 87 = .ok (.iconst 4, 1) := by decide +kernel
theorem dX4_readValue_88 : decode cX4_readValue 88 = .ok (.iconst 1, 1) := by decide +kernel
theorem dX4_readValue_89 : decode cX4_readValue 89 = .ok (.invokevirtual 124, 3) := by decide +kernel
theorem dX4_readValue_92 : decode cX4_readValue 92 = .ok (.aload_n 0, 1) := by decide +kernel
theorem dX4_readValue_93 : decode cX4_readValue 93 = .ok (.dup, 1) := by decide +kernel
theorem dX4_readValue_94 : decode cX4_readValue 94 = .ok (.getfield 40, 3) := by decide +kernel
theorem dX4_readValue_97 : decode cX4_readValue 97 = .ok (.iconst 1, 1) := by decide +kernel
theorem dX4_readValue_98 : decode cX4_readValue 98 = .ok (.iadd, 1) := by decide +kernel
theorem dX4_readValue_99 : decode cX4_readValue 99 = .ok (.putfield 40, 3) := by decide +kernel
theorem dX4_readValue_102 : decode cX4_readValue 102 = .ok (.iconst 1, 1) := by decide +kernel
theorem dX4_readValue_103 : decode cX4_readValue 103 = .ok (.ireturn, 1) := by decide +kernel
theorem dX4_readValue_104 : decode cX4_readValue 104 = .ok (.aload_n 0, 1) := by decide +kernel
theorem dX4_readValue_105 : decode cX4_readValue 105 = .ok (.getfield 36, 3) := by decide +kernel
theorem dX4_readValue_108 : decode cX4_readValue 108 = .ok (.iload_n 1, 1) := by decide +kernel
theorem dX4_readValue_109 : decode cX4_readValue 109 = .ok (.iconst 4, 1) := by decide +kernel
theorem dX4_readValue_110 : decode cX4_readValue 110 = .ok (.iconst 2, 1) := by decide +kernel
theorem dX4_readValue_111 : decode cX4_readValue 111 = .ok (.invokevirtual 124, 3) := by decide +kernel
theorem dX4_readValue_114 : decode cX4_readValue 114 = .ok (.aload_n 0, 1) := by decide +kernel
theorem dX4_readValue_115 : decode cX4_readValue 115 = .ok (.dup, 1) := by decide +kernel
theorem dX4_readValue_116 : decode cX4_readValue 116 = .ok (.getfield 40, 3) := by decide +kernel
theorem dX4_readValue_119 : decode cX4_readValue 119 = .ok (.iconst 1, 1) := by decide +kernel
theorem dX4_readValue_120 : decode cX4_readValue 120 = .ok (.iadd, 1) := by decide +kernel
theorem dX4_readValue_121 : decode cX4_readValue 121 = .ok (.putfield 40, 3) := by decide +kernel
theorem dX4_readValue_124 : decode cX4_readValue 124 = .ok (.aload_n 0, 1) := by decide +kernel
theorem dX4_readValue_125 : decode cX4_readValue 125 = .ok (.iload_n 1, 1) := by decide +kernel
theorem dX4_readValue_126 : decode cX4_readValue 126 = .ok (.iconst 5, 1) := by decide +kernel
theorem dX4_readValue_127 : decode cX4_readValue 127 = .ok (.invokevirtual 172, 3) := by decide +kernel
theorem dX4_readValue_130 : decode cX4_readValue 130 = .ok (.ifCond .eq 17, 3) := by decide +kernel
theorem dX4_readValue_133 : decode cX4_readValue 133 = .ok (.aload_n 0, 1) := by decide +kernel
theorem dX4_readValue_134 : decode cX4_readValue 134 = .ok (.iload_n 1, 1) := by decide +kernel
theorem dX4_readValue_135 : decode cX4_readValue 135 = .ok (.bipush 6, 2) := by decide +kernel
theorem dX4_readValue_137 : decode cX4_readValue 137 = .ok (.invokevirtual 172, 3) := by decide +kernel
theorem dX4_readValue_140 : decode cX4_readValue 140 = .ok (.ifCond .eq 7, 3) := by decide +kernel
theorem dX4_readValue_143 : decode cX4_readValue 143 = .ok (.iconst 1, 1) := by decide +kernel
theorem dX4_readValue_144 : decode cX4_readValue 144 = .ok (.goto 4, 3) := by decide +kernel
theorem dX4_readValue_147 : decode cX4_readValue 147 = .ok (.iconst 0, 1) := by decide +kernel
theorem dX4_readValue_148 : decode cX4_readValue 148 = .ok (.ireturn, 1) := by decide +kernel
theorem dX4_readValue_149 : decode cX4_readValue 149 = .ok (.aload_n 0, 1) := by decide +kernel
theorem dX4_readValue_150 : decode cX4_readValue 150 = .ok (.iload_n 1, 1) := by decide +kernel
theorem dX4_readValue_151 : decode cX4_readValue 151 = .ok (.invokevirtual 175, 3) := by decide +kernel
theorem dX4_readValue_154 : decode cX4_readValue 154 = .ok (.ireturn, 1) := by decide +kernel
theorem dX4_readValue_155 : decode cX4_readValue 155 = .ok (.aload_n 0, 1) := by decide +kernel
theorem dX4_readValue_156 : decode cX4_readValue 156 = .ok (.iload_n 1, 1) := by decide +kernel
theorem dX4_readValue_157 : decode cX4_readValue 157 = .ok (.invokevirtual 137, 3) := by decide +kernel
theorem dX4_readValue_160 : decode cX4_readValue 160 = .ok (.ireturn, 1) := by decide +kernel
theorem dX4_readValue_161 : decode cX4_readValue 161 = .ok (.aload_n 0, 1) := by decide +kernel
theorem dX4_readValue_162 : decode cX4_readValue 162 = .ok (.iconst 1, 1) := by decide +kernel
theorem dX4_readValue_163 : decode cX4_readValue 163 = .ok (.aload_n 0, 1) := by decide +kernel
theorem dX4_readValue_164 : decode cX4_readValue 164 = .ok (.getfield 22, 3) := by decide +kernel
theorem dX4_readValue_167 : decode cX4_readValue 167 = .ok (.aload_n 0, 1) := by decide +kernel
theorem dX4_readValue_168 : decode cX4_readValue 168 = .ok (.getfield 40, 3) := by decide +kernel
theorem dX4_readValue_171 : decode cX4_readValue 171 = .ok (.invokevirtual 72, 3) := by decide +kernel
theorem dX4_readValue_174 : decode cX4_readValue 174 = .ok (.invokevirtual 75, 3) := by decide +kernel
theorem dX4_readValue_177 : decode cX4_readValue 177 = .ok (.ireturn, 1) := by decide +kernel
theorem dX4_readName_0 : decode cX4_readName 0 = .ok (.aload_n 0, 1) := by decide +kernel
theorem dX4_readName_1 : decode cX4_readName 1 = .ok (.getfield 36, 3) := by decide +kernel
theorem dX4_readName_4 : decode cX4_readName 4 = .ok (.iload_n 1, 1) := by decide +kernel
theorem dX4_readName_5 : decode cX4_readName 5 = .ok (.iload_n 2, 1) := by decide +kernel
theorem dX4_readName_6 : decode cX4_readName 6 = .ok (.aload_n 0, 1) := by decide +kernel
theorem dX4_readName_7 : decode cX4_readName 7 = .ok (.getfield 22, 3) := by decide +kernel
theorem dX4_readName_10 : decode cX4_readName 10 = .ok (.aload_n 0, 1) := by decide +kernel
theorem dX4_readName_11 : decode cX4_readName 11 = .ok (.getfield 40, 3) := by decide +kernel
theorem dX4_readName_14 : decode cX4_readName 14 = .ok (.invokevirtual 82, 3) := by decide +kernel
theorem dX4_readName_17 : decode cX4_readName 17 = .ok (.invokevirtual 124, 3) := by decide +kernel
theorem dX4_readName_20 : decode cX4_readName 20 = .ok (.aload_n 0, 1) := by decide +kernel
theorem dX4_readName_21 : decode cX4_readName 21 = .ok (.iconst 2, 1) := by decide +kernel
theorem dX4_readName_22 : decode cX4_readName 22 = .ok (.invokevirtual 79, 3) := by decide +kernel
theorem dX4_readName_25 : decode cX4_readName 25 = .ok (.ireturn, 1) := by decide +kernel
theorem dX4_readNameOrField_0 : decode cX4_readNameOrField 0 = .ok (.aload_n 0, 1) := by decide +kernel
theorem dX4_readNameOrField_1 : decode cX4_readNameOrField 1 = .ok (.getfield 40, 3) := by decide +kernel
theorem dX4_readNameOrField_4 : decode cX4_readNameOrField 4 = .ok (.istore_n 2, 1) := by decide +kernel
theorem dX4_readNameOrField_5 : decode cX4_readNameOrField 5 = .ok (.aload_n 0, 1) := by decide +kernel
theorem dX4_readNameOrField_6 : decode cX4_readNameOrField 6 = .ok (.getfield 36, 3) := by decide +kernel
theorem dX4_readNameOrField_9 : decode cX4_readNameOrField 9 = .ok (.iload_n 1, 1) := by decide +kernel
theorem dX4_readNameOrField_10 : decode cX4_readNameOrField 10 = .ok (.iconst 5, 1) := by decide +kernel
theorem dX4_readNameOrField_11 : decode cX4_readNameOrField 11 = .ok (.aload_n 0, 1) := by decide +kernel
theorem dX4_readNameOrField_12 : decode cX4_readNameOrField 12 = .ok (.getfield 22, 3) := by decide +kernel
theorem dX4_readNameOrField_15 : decode cX4_readNameOrField 15 = .ok (.iload_n 2, 1) := by decide +kernel
theorem dX4_readNameOrField_16 : decode cX4_readNameOrField 16 = .ok (.invokevirtual 82, 3) := by decide +kernel
theorem dX4_readNameOrField_19 : decode cX4_readNameOrField 19 = .ok (.invokevirtual 124, 3) := by decide +kernel
theorem dX4_readNameOrField_22 : decode cX4_readNameOrField 22 = .ok (.aload_n 0, 1) := by decide +kernel
theorem dX4_readNameOrField_23 : decode cX4_readNameOrField 23 = .ok (.dup, 1) := by decide +kernel
theorem dX4_readNameOrField_24 : decode cX4_readNameOrField 24 = .ok (.getfield 40, 3) := by decide +kernel
theorem dX4_readNameOrField_27 : decode cX4_readNameOrField 27 = .ok (.iconst 1, 1) := by decide +kernel
theorem dX4_readNameOrField_28 : decode cX4_readNameOrField 28 = .ok (.iadd, 1) := by decide +kernel
theorem dX4_readNameOrField_29 : decode cX4_readNameOrField 29 = .ok (.putfield 40, 3) := by decide +kernel
theorem dX4_readNameOrField_32 : decode cX4_readNameOrField 32 = .ok (.aload_n 0, 1) := by decide +kernel
theorem dX4_readNameOrField_33 : decode cX4_readNameOrField 33 = .ok (.bipush 11, 2) := by decide +kernel
theorem dX4_readNameOrField_35 : decode cX4_readNameOrField 35 = .ok (.invokevirtual 51, 3) := by decide +kernel
theorem dX4_readNameOrField_38 : decode cX4_readNameOrField 38 = .ok (.ifCond .ne 15, 3) := by decide +kernel
theorem dX4_readNameOrField_41 : decode cX4_readNameOrField 41 = .ok (.aload_n 0, 1) := by decide +kernel
theorem dX4_readNameOrField_42 : decode cX4_readNameOrField 42 = .ok (.getfield 36, 3) := by decide +kernel
theorem dX4_readNameOrField_45 : decode cX4_readNameOrField 45 = .ok (.iload_n 1, 1) := by decide +kernel
theorem dX4_readNameOrField_46 : decode cX4_readNameOrField 46 = .ok (.iconst 4, 1) := by decide +kernel
theorem dX4_readNameOrField_47 : decode cX4_readNameOrField 47 = .ok (.iconst 3, 1) := by decide +kernel
theorem dX4_readNameOrField_48 : decode cX4_readNameOrField 48 = .ok (.invokevirtual 124, 3) := by decide +kernel
theorem dX4_readNameOrField_51 : decode cX4_readNameOrField 51 = .ok (.iconst 1, 1) := by decide +kernel
theorem dX4_readNameOrField_52 : decode cX4_readNameOrField 52 = .ok (.ireturn, 1) := by decide +kernel
theorem dX4_readNameOrField_53 : decode cX4_readNameOrField 53 = .ok (.aload_n 0, 1) := by decide +kernel
theorem dX4_readNameOrField_54 : decode cX4_readNameOrField 54 = .ok (.getfield 36, 3) := by decide +kernel
theorem dX4_readNameOrField_57 : decode cX4_readNameOrField 57 = .ok (.iload_n 1, 1) := by decide +kernel
theorem dX4_readNameOrField_58 : decode cX4_readNameOrField 58 = .ok (.iconst 4, 1) := by decide +kernel
theorem dX4_readNameOrField_59 : decode cX4_readNameOrField 59 = .ok (.iconst 4, 1) := by decide +kernel
theorem dX4_readNameOrField_60 : decode cX4_readNameOrField 60 = .ok (.invokevirtual 124, 3) := by decide +kernel
theorem dX4_readNameOrField_63 : decode cX4_readNameOrField 63 = .ok (.aload_n 0, 1) := by decide +kernel
theorem dX4_readNameOrField_64 : decode cX4_readNameOrField 64 = .ok (.iload_n 2, 1) := by decide +kernel
theorem dX4_readNameOrField_65 : decode cX4_readNameOrField 65 = .ok (.iload_n 1, 1) := by decide +kernel
theorem dX4_readNameOrField_66 : decode cX4_readNameOrField 66 = .ok (.bipush 7, 2) := by decide +kernel
theorem dX4_readNameOrField_68 : decode cX4_readNameOrField 68 = .ok (.invokevirtual 146, 3) := by decide +kernel
theorem dX4_readNameOrField_71 : decode cX4_readNameOrField 71 = .ok (.ifCond .eq 17, 3) := by decide +kernel
theorem dX4_readNameOrField_74 : decode cX4_readNameOrField 74 = .ok (.aload_n 0, 1) := by decide +kernel
theorem dX4_readNameOrField_75 : decode cX4_readNameOrField 75 = .ok (.iload_n 1, 1) := by decide +kernel
theorem dX4_readNameOrField_76 : decode cX4_readNameOrField 76 = .ok (.bipush 6, 2) := by decide +kernel
theorem dX4_readNameOrField_78 : decode cX4_readNameOrField 78 = .ok (.invokevirtual 150, 3) := by decide +kernel
theorem dX4_readNameOrField_81 : decode cX4_readNameOrField 81 = .ok (.ifCond .eq 7, 3) := by decide +kernel
theorem dX4_readNameOrField_84 : decode cX4_readNameOrField 84 = .ok (.iconst 1, 1) := by decide +kernel
theorem dX4_readNameOrField_85 : decode cX4_readNameOrField 85 = .ok (.goto 4, 3) := by decide +kernel
theorem dX4_readNameOrField_88 : decode cX4_readNameOrField 88 = .ok (.iconst 0, 1) := by decide +kernel
theorem dX4_readNameOrField_89 : decode cX4_readNameOrField 89 = .ok (.ireturn, 1) := by decide +kernel
theorem dX4_readCall_0 : decode cX4_readCall 0 = .ok (.aload_n 0, 1) := by decide +kernel
theorem dX4_readCall_1 : decode cX4_readCall 1 = .ok (.getfield 36, 3) := by decide +kernel
theorem dX4_readCall_4 : decode cX4_readCall 4 = .ok (.iload_n 1, 1) := by decide +kernel
theorem dX4_readCall_5 : decode cX4_readCall 5 = .ok (.iconst 4, 1) := by decide +kernel
theorem dX4_readCall_6 : decode cX4_readCall 6 = .ok (.iconst 5, 1) := by decide +kernel
theorem dX4_readCall_7 : decode cX4_readCall 7 = .ok (.invokevirtual 124, 3) := by decide +kernel
theorem dX4_readCall_10 : decode cX4_readCall 10 = .ok (.aload_n 0, 1) := by decide +kernel
theorem dX4_readCall_11 : decode cX4_readCall 11 = .ok (.getfield 36, 3) := by decide +kernel
theorem dX4_readCall_14 : decode cX4_readCall 14 = .ok (.iload_n 1, 1) := by decide +kernel
theorem dX4_readCall_15 : decode cX4_readCall 15 = .ok (.bipush 6, 2) := by decide +kernel
theorem dX4_readCall_17 : decode cX4_readCall 17 = .ok (.aload_n 0, 1) := by decide +kernel
theorem dX4_readCall_18 : decode cX4_readCall 18 = .ok (.getfield 22, 3) := by decide +kernel
theorem dX4_readCall_21 : decode cX4_readCall 21 = .ok (.aload_n 0, 1) := by decide +kernel
theorem dX4_readCall_22 : decode cX4_readCall 22 = .ok (.getfield 40, 3) := by decide +kernel
theorem dX4_readCall_25 : decode cX4_readCall 25 = .ok (.invokevirtual 82, 3) := by decide +kernel
theorem dX4_readCall_28 : decode cX4_readCall 28 = .ok (.invokevirtual 124, 3) := by decide +kernel
theorem dX4_readCall_31 : decode cX4_readCall 31 = .ok (.aload_n 0, 1) := by decide +kernel
theorem dX4_readCall_32 : decode cX4_readCall 32 = .ok (.getfield 36, 3) := by decide +kernel
theorem dX4_readCall_35 : decode cX4_readCall 35 = .ok (.iload_n 1, 1) := by decide +kernel
theorem dX4_readCall_36 : decode cX4_readCall 36 = .ok (.bipush 9, 2) := by decide +kernel
theorem dX4_readCall_38 : decode cX4_readCall 38 = .ok (.aload_n 0, 1) := by decide +kernel
theorem dX4_readCall_39 : decode cX4_readCall 39 = .ok (.getfield 22, 3) := by decide +kernel
theorem dX4_readCall_42 : decode cX4_readCall 42 = .ok (.aload_n 0, 1) := by decide +kernel
theorem dX4_readCall_43 : decode cX4_readCall 43 = .ok (.getfield 40, 3) := by decide +kernel
theorem dX4_readCall_46 : decode cX4_readCall 46 = .ok (.invokevirtual 72, 3) := by decide +kernel
theorem dX4_readCall_49 : decode cX4_readCall 49 = .ok (.invokevirtual 124, 3) := by decide +kernel
theorem dX4_readCall_52 : decode cX4_readCall 52 = .ok (.aload_n 0, 1) := by decide +kernel
theorem dX4_readCall_53 : decode cX4_readCall 53 = .ok (.dup, 1) := by decide +kernel
theorem dX4_readCall_54 : decode cX4_readCall 54 = .ok (.getfield 40, 3) := by decide +kernel
theorem dX4_readCall_57 : decode cX4_readCall 57 = .ok (.iconst 1, 1) := by decide +kernel
theorem dX4_readCall_58 : decode cX4_readCall 58 = .ok (.iadd, 1) := by decide +kernel
theorem dX4_readCall_59 : decode cX4_readCall 59 = .ok (.putfield 40, 3) := by decide +kernel
theorem dX4_readCall_62 : decode cX4_readCall 62 = .ok (.aload_n 0, 1) := by decide +kernel
theorem dX4_readCall_63 : decode cX4_readCall 63 = .ok (.iconst 4, 1) := by decide +kernel
theorem dX4_readCall_64 : decode cX4_readCall 64 = .ok (.invokevirtual 79, 3) := by decide +kernel
theorem dX4_readCall_67 : decode cX4_readCall 67 = .ok (.ifCond .ne 5, 3) := by decide +kernel
theorem dX4_readCall_70 : decode cX4_readCall 70 = .ok (.iconst 0, 1) := by decide +kernel
theorem dX4_readCall_71 : decode cX4_readCall 71 = .ok (.ireturn, 1) := by decide +kernel
theorem dX4_readCall_72 : decode cX4_readCall 72 = .ok (.aload_n 0, 1) := by decide +kernel
theorem dX4_readCall_73 : decode cX4_readCall 73 = .ok (.iconst 5, 1) := by decide +kernel
theorem dX4_readCall_74 : decode cX4_readCall 74 = .ok (.invokevirtual 51, 3) := by decide +kernel
theorem dX4_readCall_77 : decode cX4_readCall 77 = .ok (.ifCond .eq 9, 3) := by decide +kernel
theorem dX4_readCall_80 : decode cX4_readCall 80 = .ok (.aload_n 0, 1) := by decide +kernel
theorem dX4_readCall_81 : decode cX4_readCall 81 = .ok (.iconst 5, 1) := by decide +kernel
theorem dX4_readCall_82 : decode cX4_readCall 82 = .ok (.invokevirtual 79, 3) := by decide +kernel
theorem dX4_readCall_85 : decode cX4_readCall 85 = .ok (.ireturn, 1) := by decide +kernel
theorem dX4_readCall_86 : decode cX4_readCall 86 = .ok (.iconst 0, 1) := by decide +kernel
theorem dX4_readCall_87 : decode cX4_readCall 87 = .ok (.istore_n 2, 1) := by decide +kernel
theorem dX4_readCall_88 : decode cX4_readCall 88 = .ok (.iload_n 2, 1) := by decide +kernel
theorem dX4_readCall_89 : decode cX4_readCall 89 = .ok (.iconst 4, 1) := by decide +kernel
theorem dX4_readCall_90 : decode cX4_readCall 90 = .ok (.if_icmp .gt 81, 3) := by decide +kernel
theorem dX4_readCall_93 : decode cX4_readCall 93 = .ok (.aload_n 0, 1) := by decide +kernel
theorem dX4_readCall_94 : decode cX4_readCall 94 = .ok (.getfield 40, 3) := by decide +kernel
theorem dX4_readCall_97 : decode cX4_readCall 97 = .ok (.istore_n 3, 1) := by decide +kernel
theorem dX4_readCall_98 : decode cX4_readCall 98 = .ok (.aload_n 0, 1) := by decide +kernel
theorem dX4_readCall_99 : decode cX4_readCall 99 = .ok (.iconst 2, 1) := by decide +kernel
theorem dX4_readCall_100 : decode cX4_readCall 100 = .ok (.invokevirtual 79, 3) := by decide +kernel
theorem dX4_readCall_103 : decode cX4_readCall 103 = .ok (.ifCond .ne 5, 3) := by decide +kernel
theorem dX4_readCall_106 : decode cX4_readCall 106 = .ok (.iconst 0, 1) := by decide +kernel
theorem dX4_readCall_107 : decode cX4_readCall 107 = .ok (.ireturn, 1) := by decide +kernel
theorem dX4_readCall_108 : decode cX4_readCall 108 = .ok (.iload_n 2, 1) := by decide +kernel
theorem dX4_readCall_109 : decode cX4_readCall 109 = .ok (.iconst 4, 1) := by decide +kernel
theorem dX4_readCall_110 : decode cX4_readCall 110 = .ok (.if_icmp .ne 17, 3) := by decide +kernel
theorem dX4_readCall_113 : decode cX4_readCall 113 = .ok (.aload_n 0, 1) := by decide +kernel
theorem dX4_readCall_114 : decode cX4_readCall 114 = .ok (.iconst 2, 1) := by decide +kernel
theorem dX4_readCall_115 : decode cX4_readCall 115 = .ok (.aload_n 0, 1) := by decide +kernel
theorem dX4_readCall_116 : decode cX4_readCall 116 = .ok (.getfield 22, 3) := by decide +kernel
theorem dX4_readCall_119 : decode cX4_readCall 119 = .ok (.iload_n 3, 1) := by decide +kernel
theorem dX4_readCall_120 : decode cX4_readCall 120 = .ok (.invokevirtual 72, 3) := by decide +kernel
theorem dX4_readCall_123 : decode cX4_readCall 123 = .ok (.invokevirtual 75, 3) := by decide +kernel
theorem dX4_readCall_126 : decode cX4_readCall 126 = .ok (.ireturn, 1) := by decide +kernel
theorem dX4_readCall_127 : decode cX4_readCall 127 = .ok (.aload_n 0, 1) := by decide +kernel
theorem dX4_readCall_128 : decode cX4_readCall 128 = .ok (.getfield 36, 3) := by decide +kernel
theorem dX4_readCall_131 : decode cX4_readCall 131 = .ok (.iload_n 1, 1) := by decide +kernel
theorem dX4_readCall_132 : decode cX4_readCall 132 = .ok (.aload_n 0, 1) := by decide +kernel
theorem dX4_readCall_133 : decode cX4_readCall 133 = .ok (.getfield 22, 3) := by decide +kernel
theorem dX4_readCall_136 : decode cX4_readCall 136 = .ok (.iload_n 3, 1) := by decide +kernel
theorem dX4_readCall_137 : decode cX4_readCall 137 = .ok (.invokevirtual 82, 3) := by decide +kernel
theorem dX4_readCall_140 : decode cX4_readCall 140 = .ok (.invokevirtual 178, 3) := by decide +kernel
theorem dX4_readCall_143 : decode cX4_readCall 143 = .ok (.aload_n 0, 1) := by decide +kernel
theorem dX4_readCall_144 : decode cX4_readCall 144 = .ok (.bipush 8, 2) := by decide +kernel
theorem dX4_readCall_146 : decode cX4_readCall 146 = .ok (.invokevirtual 51, 3) := by decide +kernel
theorem dX4_readCall_149 : decode cX4_readCall 149 = .ok (.ifCond .ne 6, 3) := by decide +kernel
theorem dX4_readCall_152 : decode cX4_readCall 152 = .ok (.goto 19, 3) := by decide +kernel
theorem dX4_readCall_155 : decode cX4_readCall 155 = .ok (.aload_n 0, 1) := by decide +kernel
theorem dX4_readCall_156 : decode cX4_readCall 156 = .ok (.dup, 1) := by decide +kernel
theorem dX4_readCall_157 : decode cX4_readCall 157 = .ok (.getfield 40, 3) := by decide +kernel
theorem dX4_readCall_160 : decode cX4_readCall 160 = .ok (.iconst 1, 1) := by decide +kernel
theorem dX4_readCall_161 : decode cX4_readCall 161 = .ok (.iadd, 1) := by decide +kernel
theorem dX4_readCall_162 : decode cX4_readCall 162 = .ok (.putfield 40, 3) := by decide +kernel
theorem dX4_readCall_165 : decode cX4_readCall 165 = .ok (.iinc 2 1, 3) := by decide +kernel
theorem dX4_readCall_168 : decode cX4_readCall 168 = .ok (.goto (-80), 3) := by decide +kernel
theorem dX4_readCall_171 : decode cX4_readCall 171 = .ok (.aload_n 0, 1) := by decide +kernel
theorem dX4_readCall_172 : decode cX4_readCall 172 = .ok (.iconst 5, 1) := by decide +kernel
theorem dX4_readCall_173 : decode cX4_readCall 173 = .ok (.invokevirtual 79, 3) := by decide +kernel
theorem dX4_readCall_176 : decode cX4_readCall 176 = .ok (.ireturn, 1) := by decide +kernel
theorem dX4_checkCalls_0 : decode cX4_checkCalls 0 = .ok (.iconst 0, 1) := by decide +kernel
theorem dX4_checkCalls_1 : decode cX4_checkCalls 1 = .ok (.istore_n 1, 1) := by decide +kernel
theorem dX4_checkCalls_2 : decode cX4_checkCalls 2 = .ok (.iload_n 1, 1) := by decide +kernel
theorem dX4_checkCalls_3 : decode cX4_checkCalls 3 = .ok (.aload_n 0, 1) := by decide +kernel
theorem dX4_checkCalls_4 : decode cX4_checkCalls 4 = .ok (.getfield 36, 3) := by decide +kernel
theorem dX4_checkCalls_7 : decode cX4_checkCalls 7 = .ok (.getfield 128, 3) := by decide +kernel
theorem dX4_checkCalls_10 : decode cX4_checkCalls 10 = .ok (.if_icmp .ge 89, 3) := by decide +kernel
theorem dX4_checkCalls_13 : decode cX4_checkCalls 13 = .ok (.aload_n 0, 1) := by decide +kernel
theorem dX4_checkCalls_14 : decode cX4_checkCalls 14 = .ok (.getfield 46, 3) := by decide +kernel
theorem dX4_checkCalls_17 : decode cX4_checkCalls 17 = .ok (.ifCond .ne 82, 3) := by decide +kernel
theorem dX4_checkCalls_20 : decode cX4_checkCalls 20 = .ok (.aload_n 0, 1) := by decide +kernel
theorem dX4_checkCalls_21 : decode cX4_checkCalls 21 = .ok (.getfield 36, 3) := by decide +kernel
theorem dX4_checkCalls_24 : decode cX4_checkCalls 24 = .ok (.iload_n 1, 1) := by decide +kernel
theorem dX4_checkCalls_25 : decode cX4_checkCalls 25 = .ok (.iconst 4, 1) := by decide +kernel
theorem dX4_checkCalls_26 : decode cX4_checkCalls 26 = .ok (.invokevirtual 181, 3) := by decide +kernel
theorem dX4_checkCalls_29 : decode cX4_checkCalls 29 = .ok (.iconst 5, 1) := by decide +kernel
theorem dX4_checkCalls_30 : decode cX4_checkCalls 30 = .ok (.if_icmp .ne 63, 3) := by decide +kernel
theorem dX4_checkCalls_33 : decode cX4_checkCalls 33 = .ok (.aload_n 0, 1) := by decide +kernel
theorem dX4_checkCalls_34 : decode cX4_checkCalls 34 = .ok (.getfield 36, 3) := by decide +kernel
theorem dX4_checkCalls_37 : decode cX4_checkCalls 37 = .ok (.iload_n 1, 1) := by decide +kernel
theorem dX4_checkCalls_38 : decode cX4_checkCalls 38 = .ok (.bipush 6, 2) := by decide +kernel
theorem dX4_checkCalls_40 : decode cX4_checkCalls 40 = .ok (.invokevirtual 181, 3) := by decide +kernel
theorem dX4_checkCalls_43 : decode cX4_checkCalls 43 = .ok (.istore_n 2, 1) := by decide +kernel
theorem dX4_checkCalls_44 : decode cX4_checkCalls 44 = .ok (.aload_n 0, 1) := by decide +kernel
theorem dX4_checkCalls_45 : decode cX4_checkCalls 45 = .ok (.getfield 26, 3) := by decide +kernel
theorem dX4_checkCalls_48 : decode cX4_checkCalls 48 = .ok (.iload_n 2, 1) := by decide +kernel
theorem dX4_checkCalls_49 : decode cX4_checkCalls 49 = .ok (.invokevirtual 88, 3) := by decide +kernel
theorem dX4_checkCalls_52 : decode cX4_checkCalls 52 = .ok (.ifCond .eq 25, 3) := by decide +kernel
theorem dX4_checkCalls_55 : decode cX4_checkCalls 55 = .ok (.aload_n 0, 1) := by decide +kernel
theorem dX4_checkCalls_56 : decode cX4_checkCalls 56 = .ok (.getfield 26, 3) := by decide +kernel
theorem dX4_checkCalls_59 : decode cX4_checkCalls 59 = .ok (.getfield 184, 3) := by decide +kernel
theorem dX4_checkCalls_62 : decode cX4_checkCalls 62 = .ok (.iload_n 2, 1) := by decide +kernel
theorem dX4_checkCalls_63 : decode cX4_checkCalls 63 = .ok (.invokestatic 114, 3) := by decide +kernel
theorem dX4_checkCalls_66 : decode cX4_checkCalls 66 = .ok (.aload_n 0, 1) := by decide +kernel
theorem dX4_checkCalls_67 : decode cX4_checkCalls 67 = .ok (.getfield 36, 3) := by decide +kernel
theorem dX4_checkCalls_70 : decode cX4_checkCalls 70 = .ok (.iload_n 1, 1) := by decide +kernel
theorem dX4_checkCalls_71 : decode cX4_checkCalls 71 = .ok (.invokevirtual 187, 3) := by decide +kernel
theorem dX4_checkCalls_74 : decode cX4_checkCalls 74 = .ok (.if_icmp .eq 19, 3) := by decide +kernel
theorem dX4_checkCalls_77 : decode cX4_checkCalls 77 = .ok (.aload_n 0, 1) := by decide +kernel
theorem dX4_checkCalls_78 : decode cX4_checkCalls 78 = .ok (.iconst 4, 1) := by decide +kernel
theorem dX4_checkCalls_79 : decode cX4_checkCalls 79 = .ok (.aload_n 0, 1) := by decide +kernel
theorem dX4_checkCalls_80 : decode cX4_checkCalls 80 = .ok (.getfield 36, 3) := by decide +kernel
theorem dX4_checkCalls_83 : decode cX4_checkCalls 83 = .ok (.iload_n 1, 1) := by decide +kernel
theorem dX4_checkCalls_84 : decode cX4_checkCalls 84 = .ok (.bipush 9, 2) := by decide +kernel
theorem dX4_checkCalls_86 : decode cX4_checkCalls 86 = .ok (.invokevirtual 181, 3) := by decide +kernel
theorem dX4_checkCalls_89 : decode cX4_checkCalls 89 = .ok (.invokevirtual 75, 3) := by decide +kernel
theorem dX4_checkCalls_92 : decode cX4_checkCalls 92 = .ok (.pop, 1) := by decide +kernel
theorem dX4_checkCalls_93 : decode cX4_checkCalls 93 = .ok (.iinc 1 1, 3) := by decide +kernel
theorem dX4_checkCalls_96 : decode cX4_checkCalls 96 = .ok (.goto (-94), 3) := by decide +kernel
theorem dX4_checkCalls_99 : decode cX4_checkCalls 99 = .ok (.return_, 1) := by decide +kernel
theorem dX5_at_0 : decode cX5_at 0 = .ok (.iload_n 1, 1) := by decide +kernel
theorem dX5_at_1 : decode cX5_at 1 = .ok (.ifCond .lt 15, 3) := by decide +kernel
theorem dX5_at_4 : decode cX5_at 4 = .ok (.iload_n 1, 1) := by decide +kernel
theorem dX5_at_5 : decode cX5_at 5 = .ok (.aload_n 0, 1) := by decide +kernel
theorem dX5_at_6 : decode cX5_at 6 = .ok (.arraylength, 1) := by decide +kernel
theorem dX5_at_7 : decode cX5_at 7 = .ok (.if_icmp .ge 9, 3) := by decide +kernel
theorem dX5_at_10 : decode cX5_at 10 = .ok (.aload_n 0, 1) := by decide +kernel
theorem dX5_at_11 : decode cX5_at 11 = .ok (.iload_n 1, 1) := by decide +kernel
theorem dX5_at_12 : decode cX5_at 12 = .ok (.iaload, 1) := by decide +kernel
theorem dX5_at_13 : decode cX5_at 13 = .ok (.goto 4, 3) := by decide +kernel
theorem dX5_at_16 : decode cX5_at 16 = .ok (.iconst 0, 1) := by decide +kernel
theorem dX5_at_17 : decode cX5_at 17 = .ok (.ireturn, 1) := by decide +kernel
theorem dX5_put_0 : decode cX5_put 0 = .ok (.iload_n 1, 1) := by decide +kernel
theorem dX5_put_1 : decode cX5_put 1 = .ok (.ifCond .lt 13, 3) := by decide +kernel
theorem dX5_put_4 : decode cX5_put 4 = .ok (.iload_n 1, 1) := by decide +kernel
theorem dX5_put_5 : decode cX5_put 5 = .ok (.aload_n 0, 1) := by decide +kernel
theorem dX5_put_6 : decode cX5_put 6 = .ok (.arraylength, 1) := by decide +kernel
theorem dX5_put_7 : decode cX5_put 7 = .ok (.if_icmp .ge 7, 3) := by decide +kernel
theorem dX5_put_10 : decode cX5_put 10 = .ok (.aload_n 0, 1) := by decide +kernel
theorem dX5_put_11 : decode cX5_put 11 = .ok (.iload_n 1, 1) := by decide +kernel
theorem dX5_put_12 : decode cX5_put 12 = .ok (.iload_n 2, 1) := by decide +kernel
theorem dX5_put_13 : decode cX5_put 13 = .ok (.iastore, 1) := by decide +kernel
theorem dX5_put_14 : decode cX5_put 14 = .ok (.return_, 1) := by decide +kernel
theorem dX6_go_0 : decode cX6_go 0 = .ok (.aload_n 0, 1) := by decide +kernel
theorem dX6_go_1 : decode cX6_go 1 = .ok (.iload_n 1, 1) := by decide +kernel
theorem dX6_go_2 : decode cX6_go 2 = .ok (.iload_n 2, 1) := by decide +kernel
theorem dX6_go_3 : decode cX6_go 3 = .ok (.invokevirtual 39, 3) := by decide +kernel
theorem dX6_go_6 : decode cX6_go 6 = .ok (.iconst 0, 1) := by decide +kernel
theorem dX6_go_7 : decode cX6_go 7 = .ok (.istore_n 3, 1) := by decide +kernel
theorem dX6_go_8 : decode cX6_go 8 = .ok (.iload_n 3, 1) := by decide +kernel
theorem dX6_go_9 : decode cX6_go 9 = .ok (.ldc 43, 2) := by decide +kernel
theorem dX6_go_11 : decode cX6_go 11 = .ok (.if_icmp .ge 35, 3) := by decide +kernel
theorem dX6_go_14 : decode cX6_go 14 = .ok (.aload_n 0, 1) := by decide +kernel
theorem dX6_go_15 : decode cX6_go 15 = .ok (.getfield 44, 3) := by decide +kernel
theorem dX6_go_18 : decode cX6_go 18 = .ok (.iconst (-1), 1) := by decide +kernel
theorem dX6_go_19 : decode cX6_go 19 = .ok (.if_icmp .ne 27, 3) := by decide +kernel
theorem dX6_go_22 : decode cX6_go 22 = .ok (.aload_n 0, 1) := by decide +kernel
theorem dX6_go_23 : decode cX6_go 23 = .ok (.getfield 48, 3) := by decide +kernel
theorem dX6_go_26 : decode cX6_go 26 = .ok (.ifCond .eq 10, 3) := by decide +kernel
theorem dX6_go_29 : decode cX6_go 29 = .ok (.aload_n 0, 1) := by decide +kernel
theorem dX6_go_30 : decode cX6_go 30 = .ok (.invokevirtual 52, 3) := by decide +kernel
theorem dX6_go_33 : decode cX6_go 33 = .ok (.goto 7, 3) := by decide +kernel
theorem dX6_go_36 : decode cX6_go 36 = .ok (.aload_n 0, 1) := by decide +kernel
theorem dX6_go_37 : decode cX6_go 37 = .ok (.invokevirtual 55, 3) := by decide +kernel
theorem dX6_go_40 : decode cX6_go 40 = .ok (.iinc 3 1, 3) := by decide +kernel
theorem dX6_go_43 : decode cX6_go 43 = .ok (.goto (-35), 3) := by decide +kernel
theorem dX6_go_46 : decode cX6_go 46 = .ok (.aload_n 0, 1) := by decide +kernel
theorem dX6_go_47 : decode cX6_go 47 = .ok (.getfield 44, 3) := by decide +kernel
theorem dX6_go_50 : decode cX6_go 50 = .ok (.iconst (-1), 1) := by decide +kernel
theorem dX6_go_51 : decode cX6_go 51 = .ok (.if_icmp .ne 7, 3) := by decide +kernel
theorem dX6_go_54 : decode cX6_go 54 = .ok (.iconst 3, 1) := by decide +kernel
theorem dX6_go_55 : decode cX6_go 55 = .ok (.goto 7, 3) := by decide +kernel
theorem dX6_go_58 : decode cX6_go 58 = .ok (.aload_n 0, 1) := by decide +kernel
theorem dX6_go_59 : decode cX6_go 59 = .ok (.getfield 44, 3) := by decide +kernel
theorem dX6_go_62 : decode cX6_go 62 = .ok (.ireturn, 1) := by decide +kernel
theorem dX6_begin_0 : decode cX6_begin 0 = .ok (.aload_n 0, 1) := by decide +kernel
theorem dX6_begin_1 : decode cX6_begin 1 = .ok (.aload_n 0, 1) := by decide +kernel
theorem dX6_begin_2 : decode cX6_begin 2 = .ok (.getfield 21, 3) := by decide +kernel
theorem dX6_begin_5 : decode cX6_begin 5 = .ok (.getfield 25, 3) := by decide +kernel
theorem dX6_begin_8 : decode cX6_begin 8 = .ok (.putfield 31, 3) := by decide +kernel
theorem dX6_begin_11 : decode cX6_begin 11 = .ok (.aload_n 0, 1) := by decide +kernel
theorem dX6_begin_12 : decode cX6_begin 12 = .ok (.aload_n 0, 1) := by decide +kernel
theorem dX6_begin_13 : decode cX6_begin 13 = .ok (.getfield 31, 3) := by decide +kernel
theorem dX6_begin_16 : decode cX6_begin 16 = .ok (.getfield 32, 3) := by decide +kernel
theorem dX6_begin_19 : decode cX6_begin 19 = .ok (.putfield 38, 3) := by decide +kernel
theorem dX6_begin_22 : decode cX6_begin 22 = .ok (.aload_n 0, 1) := by decide +kernel
theorem dX6_begin_23 : decode cX6_begin 23 = .ok (.iload_n 2, 1) := by decide +kernel
theorem dX6_begin_24 : decode cX6_begin 24 = .ok (.putfield 58, 3) := by decide +kernel
theorem dX6_begin_27 : decode cX6_begin 27 = .ok (.aload_n 0, 1) := by decide +kernel
theorem dX6_begin_28 : decode cX6_begin 28 = .ok (.iconst 0, 1) := by decide +kernel
theorem dX6_begin_29 : decode cX6_begin 29 = .ok (.putfield 61, 3) := by decide +kernel
theorem dX6_begin_32 : decode cX6_begin 32 = .ok (.aload_n 0, 1) := by decide +kernel
theorem dX6_begin_33 : decode cX6_begin 33 = .ok (.iconst 0, 1) := by decide +kernel
theorem dX6_begin_34 : decode cX6_begin 34 = .ok (.putfield 64, 3) := by decide +kernel
theorem dX6_begin_37 : decode cX6_begin 37 = .ok (.aload_n 0, 1) := by decide +kernel
theorem dX6_begin_38 : decode cX6_begin 38 = .ok (.iconst 0, 1) := by decide +kernel
theorem dX6_begin_39 : decode cX6_begin 39 = .ok (.putfield 67, 3) := by decide +kernel
theorem dX6_begin_42 : decode cX6_begin 42 = .ok (.aload_n 0, 1) := by decide +kernel
theorem dX6_begin_43 : decode cX6_begin 43 = .ok (.iconst (-1), 1) := by decide +kernel
theorem dX6_begin_44 : decode cX6_begin 44 = .ok (.putfield 70, 3) := by decide +kernel
theorem dX6_begin_47 : decode cX6_begin 47 = .ok (.aload_n 0, 1) := by decide +kernel
theorem dX6_begin_48 : decode cX6_begin 48 = .ok (.iconst (-1), 1) := by decide +kernel
theorem dX6_begin_49 : decode cX6_begin 49 = .ok (.putfield 44, 3) := by decide +kernel
theorem dX6_begin_52 : decode cX6_begin 52 = .ok (.aload_n 0, 1) := by decide +kernel
theorem dX6_begin_53 : decode cX6_begin 53 = .ok (.iconst 0, 1) := by decide +kernel
theorem dX6_begin_54 : decode cX6_begin 54 = .ok (.putfield 73, 3) := by decide +kernel
theorem dX6_begin_57 : decode cX6_begin 57 = .ok (.aload_n 0, 1) := by decide +kernel
theorem dX6_begin_58 : decode cX6_begin 58 = .ok (.iconst 0, 1) := by decide +kernel
theorem dX6_begin_59 : decode cX6_begin 59 = .ok (.putfield 48, 3) := by decide +kernel
theorem dX6_begin_62 : decode cX6_begin 62 = .ok (.aload_n 0, 1) := by decide +kernel
theorem dX6_begin_63 : decode cX6_begin 63 = .ok (.invokevirtual 76, 3) := by decide +kernel
theorem dX6_begin_66 : decode cX6_begin 66 = .ok (.iconst 0, 1) := by decide +kernel
theorem dX6_begin_67 : decode cX6_begin 67 = .ok (.istore_n 3, 1) := by decide +kernel
theorem dX6_begin_68 : decode cX6_begin 68 = .ok (.iload_n 3, 1) := by decide +kernel
theorem dX6_begin_69 : decode cX6_begin 69 = .ok (.aload_n 0, 1) := by decide +kernel
theorem dX6_begin_70 : decode cX6_begin 70 = .ok (.getfield 21, 3) := by decide +kernel
theorem dX6_begin_73 : decode cX6_begin 73 = .ok (.invokevirtual 79, 3) := by decide +kernel
theorem dX6_begin_76 : decode cX6_begin 76 = .ok (.if_icmp .ge 56, 3) := by decide +kernel
theorem dX6_begin_79 : decode cX6_begin 79 = .ok (.iload_n 1, 1) := by decide +kernel
theorem dX6_begin_80 : decode cX6_begin 80 = .ok (.iload_n 3, 1) := by decide +kernel
theorem dX6_begin_81 : decode cX6_begin 81 = .ok (.ishr, 1) := by decide +kernel
theorem dX6_begin_82 : decode cX6_begin 82 = .ok (.iconst 1, 1) := by decide +kernel
theorem dX6_begin_83 : decode cX6_begin 83 = .ok (.iand, 1) := by decide +kernel
theorem dX6_begin_84 : decode cX6_begin 84 = .ok (.ifCond .eq 7, 3) := by decide +kernel
theorem dX6_begin_87 : decode cX6_begin 87 = .ok (.iconst 1, 1) := by decide +kernel
theorem dX6_begin_88 : decode cX6_begin 88 = .ok (.goto 4, 3) := by decide +kernel
theorem dX6_begin_91 : decode cX6_begin 91 = .ok (.iconst 0, 1) := by decide +kernel
theorem dX6_begin_92 : decode cX6_begin 92 = .ok (.istore 4, 2) := by decide +kernel
theorem dX6_begin_94 : decode cX6_begin 94 = .ok (.aload_n 0, 1) := by decide +kernel
theorem dX6_begin_95 : decode cX6_begin 95 = .ok (.aload_n 0, 1) := by decide +kernel
theorem dX6_begin_96 : decode cX6_begin 96 = .ok (.getfield 31, 3) := by decide +kernel
theorem dX6_begin_99 : decode cX6_begin 99 = .ok (.aload_n 0, 1) := by decide +kernel
theorem dX6_begin_100 : decode cX6_begin 100 = .ok (.getfield 21, 3) := by decide +kernel
theorem dX6_begin_103 : decode cX6_begin 103 = .ok (.getfield 83, 3) := by decide +kernel
theorem dX6_begin_106 : decode cX6_begin 106 = .ok (.iload_n 3, 1) := by decide +kernel
theorem dX6_begin_107 : decode cX6_begin 107 = .ok (.invokevirtual 86, 3) := by decide +kernel
theorem dX6_begin_110 : decode cX6_begin 110 = .ok (.iload 4, 2) := by decide +kernel
theorem dX6_begin_112 : decode cX6_begin 112 = .ok (.ifCond .eq 10, 3) := by decide +kernel
theorem dX6_begin_115 : decode cX6_begin 115 = .ok (.aload_n 0, 1) := by decide +kernel
theorem dX6_begin_116 : decode cX6_begin 116 = .ok (.invokevirtual 90, 3) := by decide +kernel
theorem dX6_begin_119 : decode cX6_begin 119 = .ok (.goto 4, 3) := by decide +kernel
theorem dX6_begin_122 : decode cX6_begin 122 = .ok (.iconst 0, 1) := by decide +kernel
theorem dX6_begin_123 : decode cX6_begin 123 = .ok (.invokevirtual 93, 3) := by decide +kernel
theorem dX6_begin_126 : decode cX6_begin 126 = .ok (.iinc 3 1, 3) := by decide +kernel
theorem dX6_begin_129 : decode cX6_begin 129 = .ok (.goto (-61), 3) := by decide +kernel
theorem dX6_begin_132 : decode cX6_begin 132 = .ok (.aload_n 0, 1) := by decide +kernel
theorem dX6_begin_133 : decode cX6_begin 133 = .ok (.aload_n 0, 1) := by decide +kernel
theorem dX6_begin_134 : decode cX6_begin 134 = .ok (.getfield 31, 3) := by decide +kernel
theorem dX6_begin_137 : decode cX6_begin 137 = .ok (.getfield 96, 3) := by decide +kernel
theorem dX6_begin_140 : decode cX6_begin 140 = .ok (.aload_n 0, 1) := by decide +kernel
theorem dX6_begin_141 : decode cX6_begin 141 = .ok (.getfield 21, 3) := by decide +kernel
theorem dX6_begin_144 : decode cX6_begin 144 = .ok (.getfield 83, 3) := by decide +kernel
theorem dX6_begin_147 : decode cX6_begin 147 = .ok (.invokestatic 99, 3) := by decide +kernel
theorem dX6_begin_150 : decode cX6_begin 150 = .ok (.putfield 105, 3) := by decide +kernel
theorem dX6_begin_153 : decode cX6_begin 153 = .ok (.return_, 1) := by decide +kernel
