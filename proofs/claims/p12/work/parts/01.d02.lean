theorem dX11_use_14 : decode cX11_use 14 = .ok (.iconst 0, 1) := by decide +kernel
theorem dX11_use_15 : decode cX11_use 15 = .ok (.iaload, 1) := by decide +kernel
theorem dX11_use_16 : decode cX11_use 16 = .ok (.if_icmp .lt 5, 3) := by decide +kernel
theorem dX11_use_19 : decode cX11_use 19 = .ok (.iconst (-1), 1) := by decide +kernel
theorem dX11_use_20 : decode cX11_use 20 = .ok (.ireturn, 1) := by decide +kernel
theorem dX11_use_21 : decode cX11_use 21 = .ok (.iload_n 2, 1) := by decide +kernel
theorem dX11_use_22 : decode cX11_use 22 = .ok (.tableswitch 68 0 3 #[30, 47, 54, 61], 30) := by decide +kernel
theorem dX11_use_52 : decode cX11_use 52 = .ok (.aload_n 0, 1) := by decide +kernel
theorem dX11_use_53 : decode cX11_use 53 = .ok (.invokevirtual 299, 3) := by decide +kernel
theorem dX11_use_56 : decode cX11_use 56 = .ok (.aload_n 0, 1) := by decide +kernel
theorem dX11_use_57 : decode cX11_use 57 = .ok (.invokevirtual 302, 3) := by decide +kernel
theorem dX11_use_60 : decode cX11_use 60 = .ok (.aload_n 0, 1) := by decide +kernel
theorem dX11_use_61 : decode cX11_use 61 = .ok (.iload_n 1, 1) := by decide +kernel
theorem dX11_use_62 : decode cX11_use 62 = .ok (.invokevirtual 305, 3) := by decide +kernel
theorem dX11_use_65 : decode cX11_use 65 = .ok (.invokestatic 308, 3) := by decide +kernel
theorem dX11_use_68 : decode cX11_use 68 = .ok (.ireturn, 1) := by decide +kernel
theorem dX11_use_69 : decode cX11_use 69 = .ok (.aload_n 0, 1) := by decide +kernel
theorem dX11_use_70 : decode cX11_use 70 = .ok (.getfield 44, 3) := by decide +kernel
theorem dX11_use_73 : decode cX11_use 73 = .ok (.iload_n 1, 1) := by decide +kernel
theorem dX11_use_74 : decode cX11_use 74 = .ok (.iaload, 1) := by decide +kernel
theorem dX11_use_75 : decode cX11_use 75 = .ok (.ireturn, 1) := by decide +kernel
theorem dX11_use_76 : decode cX11_use 76 = .ok (.aload_n 0, 1) := by decide +kernel
theorem dX11_use_77 : decode cX11_use 77 = .ok (.getfield 47, 3) := by decide +kernel
theorem dX11_use_80 : decode cX11_use 80 = .ok (.iload_n 1, 1) := by decide +kernel
theorem dX11_use_81 : decode cX11_use 81 = .ok (.iaload, 1) := by decide +kernel
theorem dX11_use_82 : decode cX11_use 82 = .ok (.ireturn, 1) := by decide +kernel
theorem dX11_use_83 : decode cX11_use 83 = .ok (.aload_n 0, 1) := by decide +kernel
theorem dX11_use_84 : decode cX11_use 84 = .ok (.getfield 50, 3) := by decide +kernel
theorem dX11_use_87 : decode cX11_use 87 = .ok (.iload_n 1, 1) := by decide +kernel
theorem dX11_use_88 : decode cX11_use 88 = .ok (.iaload, 1) := by decide +kernel
theorem dX11_use_89 : decode cX11_use 89 = .ok (.ireturn, 1) := by decide +kernel
theorem dX11_use_90 : decode cX11_use 90 = .ok (.iconst (-1), 1) := by decide +kernel
theorem dX11_use_91 : decode cX11_use 91 = .ok (.ireturn, 1) := by decide +kernel
theorem dX11_test_0 : decode cX11_test 0 = .ok (.aload_n 0, 1) := by decide +kernel
theorem dX11_test_1 : decode cX11_test 1 = .ok (.iconst 0, 1) := by decide +kernel
theorem dX11_test_2 : decode cX11_test 2 = .ok (.putfield 121, 3) := by decide +kernel
theorem dX11_test_5 : decode cX11_test 5 = .ok (.iload_n 1, 1) := by decide +kernel
theorem dX11_test_6 : decode cX11_test 6 = .ok (.ifCond .lt 13, 3) := by decide +kernel
theorem dX11_test_9 : decode cX11_test 9 = .ok (.iload_n 1, 1) := by decide +kernel
theorem dX11_test_10 : decode cX11_test 10 = .ok (.aload_n 0, 1) := by decide +kernel
theorem dX11_test_11 : decode cX11_test 11 = .ok (.getfield 62, 3) := by decide +kernel
theorem dX11_test_14 : decode cX11_test 14 = .ok (.iconst 0, 1) := by decide +kernel
theorem dX11_test_15 : decode cX11_test 15 = .ok (.iaload, 1) := by decide +kernel
theorem dX11_test_16 : decode cX11_test 16 = .ok (.if_icmp .lt 5, 3) := by decide +kernel
theorem dX11_test_19 : decode cX11_test 19 = .ok (.iconst (-1), 1) := by decide +kernel
theorem dX11_test_20 : decode cX11_test 20 = .ok (.ireturn, 1) := by decide +kernel
theorem dX11_test_21 : decode cX11_test 21 = .ok (.iload_n 2, 1) := by decide +kernel
theorem dX11_test_22 : decode cX11_test 22 = .ok (.tableswitch 92 0 2 #[26, 78, 85], 26) := by decide +kernel
theorem dX11_test_48 : decode cX11_test 48 = .ok (.aload_n 0, 1) := by decide +kernel
theorem dX11_test_49 : decode cX11_test 49 = .ok (.invokevirtual 299, 3) := by decide +kernel
theorem dX11_test_52 : decode cX11_test 52 = .ok (.aload_n 0, 1) := by decide +kernel
theorem dX11_test_53 : decode cX11_test 53 = .ok (.invokevirtual 302, 3) := by decide +kernel
theorem dX11_test_56 : decode cX11_test 56 = .ok (.aload_n 0, 1) := by decide +kernel
theorem dX11_test_57 : decode cX11_test 57 = .ok (.getfield 100, 3) := by decide +kernel
theorem dX11_test_60 : decode cX11_test 60 = .ok (.iload_n 1, 1) := by decide +kernel
theorem dX11_test_61 : decode cX11_test 61 = .ok (.iaload, 1) := by decide +kernel
theorem dX11_test_62 : decode cX11_test 62 = .ok (.iconst 3, 1) := by decide +kernel
theorem dX11_test_63 : decode cX11_test 63 = .ok (.if_icmp .ne 7, 3) := by decide +kernel
theorem dX11_test_66 : decode cX11_test 66 = .ok (.iconst 0, 1) := by decide +kernel
theorem dX11_test_67 : decode cX11_test 67 = .ok (.goto 32, 3) := by decide +kernel
theorem dX11_test_70 : decode cX11_test 70 = .ok (.aload_n 0, 1) := by decide +kernel
theorem dX11_test_71 : decode cX11_test 71 = .ok (.getfield 100, 3) := by decide +kernel
theorem dX11_test_74 : decode cX11_test 74 = .ok (.iload_n 1, 1) := by decide +kernel
theorem dX11_test_75 : decode cX11_test 75 = .ok (.iaload, 1) := by decide +kernel
theorem dX11_test_76 : decode cX11_test 76 = .ok (.iconst 1, 1) := by decide +kernel
theorem dX11_test_77 : decode cX11_test 77 = .ok (.if_icmp .ne 7, 3) := by decide +kernel
theorem dX11_test_80 : decode cX11_test 80 = .ok (.iconst 1, 1) := by decide +kernel
theorem dX11_test_81 : decode cX11_test 81 = .ok (.goto 18, 3) := by decide +kernel
theorem dX11_test_84 : decode cX11_test 84 = .ok (.aload_n 0, 1) := by decide +kernel
theorem dX11_test_85 : decode cX11_test 85 = .ok (.getfield 100, 3) := by decide +kernel
theorem dX11_test_88 : decode cX11_test 88 = .ok (.iload_n 1, 1) := by decide +kernel
theorem dX11_test_89 : decode cX11_test 89 = .ok (.iaload, 1) := by decide +kernel
theorem dX11_test_90 : decode cX11_test 90 = .ok (.iconst 2, 1) := by decide +kernel
theorem dX11_test_91 : decode cX11_test 91 = .ok (.if_icmp .ne 7, 3) := by decide +kernel
theorem dX11_test_94 : decode cX11_test 94 = .ok (.iconst 2, 1) := by decide +kernel
theorem dX11_test_95 : decode cX11_test 95 = .ok (.goto 4, 3) := by decide +kernel
theorem dX11_test_98 : decode cX11_test 98 = .ok (.iconst 3, 1) := by decide +kernel
theorem dX11_test_99 : decode cX11_test 99 = .ok (.ireturn, 1) := by decide +kernel
theorem dX11_test_100 : decode cX11_test 100 = .ok (.aload_n 0, 1) := by decide +kernel
theorem dX11_test_101 : decode cX11_test 101 = .ok (.getfield 56, 3) := by decide +kernel
theorem dX11_test_104 : decode cX11_test 104 = .ok (.iload_n 1, 1) := by decide +kernel
theorem dX11_test_105 : decode cX11_test 105 = .ok (.iaload, 1) := by decide +kernel
theorem dX11_test_106 : decode cX11_test 106 = .ok (.ireturn, 1) := by decide +kernel
theorem dX11_test_107 : decode cX11_test 107 = .ok (.aload_n 0, 1) := by decide +kernel
theorem dX11_test_108 : decode cX11_test 108 = .ok (.getfield 59, 3) := by decide +kernel
theorem dX11_test_111 : decode cX11_test 111 = .ok (.iload_n 1, 1) := by decide +kernel
theorem dX11_test_112 : decode cX11_test 112 = .ok (.iaload, 1) := by decide +kernel
theorem dX11_test_113 : decode cX11_test 113 = .ok (.ireturn, 1) := by decide +kernel
theorem dX11_test_114 : decode cX11_test 114 = .ok (.iconst (-1), 1) := by decide +kernel
theorem dX11_test_115 : decode cX11_test 115 = .ok (.ireturn, 1) := by decide +kernel
theorem dX11_makes_0 : decode cX11_makes 0 = .ok (.aload_n 0, 1) := by decide +kernel
theorem dX11_makes_1 : decode cX11_makes 1 = .ok (.getfield 311, 3) := by decide +kernel
theorem dX11_makes_4 : decode cX11_makes 4 = .ok (.sipush 300, 3) := by decide +kernel
theorem dX11_makes_7 : decode cX11_makes 7 = .ok (.if_icmp .ne 10, 3) := by decide +kernel
theorem dX11_makes_10 : decode cX11_makes 10 = .ok (.aload_n 0, 1) := by decide +kernel
theorem dX11_makes_11 : decode cX11_makes 11 = .ok (.iconst 3, 1) := by decide +kernel
theorem dX11_makes_12 : decode cX11_makes 12 = .ok (.putfield 314, 3) := by decide +kernel
theorem dX11_makes_15 : decode cX11_makes 15 = .ok (.iconst 0, 1) := by decide +kernel
theorem dX11_makes_16 : decode cX11_makes 16 = .ok (.ireturn, 1) := by decide +kernel
theorem dX11_makes_17 : decode cX11_makes 17 = .ok (.aload_n 0, 1) := by decide +kernel
theorem dX11_makes_18 : decode cX11_makes 18 = .ok (.dup, 1) := by decide +kernel
theorem dX11_makes_19 : decode cX11_makes 19 = .ok (.getfield 311, 3) := by decide +kernel
theorem dX11_makes_22 : decode cX11_makes 22 = .ok (.iconst 1, 1) := by decide +kernel
theorem dX11_makes_23 : decode cX11_makes 23 = .ok (.iadd, 1) := by decide +kernel
theorem dX11_makes_24 : decode cX11_makes 24 = .ok (.putfield 311, 3) := by decide +kernel
theorem dX11_makes_27 : decode cX11_makes 27 = .ok (.aload_n 0, 1) := by decide +kernel
theorem dX11_makes_28 : decode cX11_makes 28 = .ok (.getfield 103, 3) := by decide +kernel
theorem dX11_makes_31 : decode cX11_makes 31 = .ok (.iconst 2, 1) := by decide +kernel
theorem dX11_makes_32 : decode cX11_makes 32 = .ok (.aload_n 0, 1) := by decide +kernel
theorem dX11_makes_33 : decode cX11_makes 33 = .ok (.getfield 311, 3) := by decide +kernel
theorem dX11_makes_36 : decode cX11_makes 36 = .ok (.imul, 1) := by decide +kernel
theorem dX11_makes_37 : decode cX11_makes 37 = .ok (.iload_n 1, 1) := by decide +kernel
theorem dX11_makes_38 : decode cX11_makes 38 = .ok (.iconst (-1), 1) := by decide +kernel
theorem dX11_makes_39 : decode cX11_makes 39 = .ok (.if_icmp .ne 10, 3) := by decide +kernel
theorem dX11_makes_42 : decode cX11_makes 42 = .ok (.aload_n 0, 1) := by decide +kernel
theorem dX11_makes_43 : decode cX11_makes 43 = .ok (.getfield 311, 3) := by decide +kernel
theorem dX11_makes_46 : decode cX11_makes 46 = .ok (.goto 4, 3) := by decide +kernel
theorem dX11_makes_49 : decode cX11_makes 49 = .ok (.iload_n 1, 1) := by decide +kernel
theorem dX11_makes_50 : decode cX11_makes 50 = .ok (.iastore, 1) := by decide +kernel
theorem dX11_makes_51 : decode cX11_makes 51 = .ok (.aload_n 0, 1) := by decide +kernel
theorem dX11_makes_52 : decode cX11_makes 52 = .ok (.getfield 103, 3) := by decide +kernel
theorem dX11_makes_55 : decode cX11_makes 55 = .ok (.iconst 2, 1) := by decide +kernel
theorem dX11_makes_56 : decode cX11_makes 56 = .ok (.aload_n 0, 1) := by decide +kernel
theorem dX11_makes_57 : decode cX11_makes 57 = .ok (.getfield 311, 3) := by decide +kernel
theorem dX11_makes_60 : decode cX11_makes 60 = .ok (.imul, 1) := by decide +kernel
theorem dX11_makes_61 : decode cX11_makes 61 = .ok (.iconst 1, 1) := by decide +kernel
theorem dX11_makes_62 : decode cX11_makes 62 = .ok (.iadd, 1) := by decide +kernel
theorem dX11_makes_63 : decode cX11_makes 63 = .ok (.iload_n 2, 1) := by decide +kernel
theorem dX11_makes_64 : decode cX11_makes 64 = .ok (.iconst (-1), 1) := by decide +kernel
theorem dX11_makes_65 : decode cX11_makes 65 = .ok (.if_icmp .ne 10, 3) := by decide +kernel
theorem dX11_makes_68 : decode cX11_makes 68 = .ok (.aload_n 0, 1) := by decide +kernel
theorem dX11_makes_69 : decode cX11_makes 69 = .ok (.getfield 311, 3) := by decide +kernel
theorem dX11_makes_72 : decode cX11_makes 72 = .ok (.goto 4, 3) := by decide +kernel
theorem dX11_makes_75 : decode cX11_makes 75 = .ok (.iload_n 2, 1) := by decide +kernel
theorem dX11_makes_76 : decode cX11_makes 76 = .ok (.iastore, 1) := by decide +kernel
theorem dX11_makes_77 : decode cX11_makes 77 = .ok (.aload_n 0, 1) := by decide +kernel
theorem dX11_makes_78 : decode cX11_makes 78 = .ok (.getfield 311, 3) := by decide +kernel
theorem dX11_makes_81 : decode cX11_makes 81 = .ok (.ireturn, 1) := by decide +kernel
theorem dX11_chooses_0 : decode cX11_chooses 0 = .ok (.iload_n 1, 1) := by decide +kernel
theorem dX11_chooses_1 : decode cX11_chooses 1 = .ok (.aload_n 0, 1) := by decide +kernel
theorem dX11_chooses_2 : decode cX11_chooses 2 = .ok (.getfield 317, 3) := by decide +kernel
theorem dX11_chooses_5 : decode cX11_chooses 5 = .ok (.bipush 8, 2) := by decide +kernel
theorem dX11_chooses_7 : decode cX11_chooses 7 = .ok (.irem, 1) := by decide +kernel
theorem dX11_chooses_8 : decode cX11_chooses 8 = .ok (.ishr, 1) := by decide +kernel
theorem dX11_chooses_9 : decode cX11_chooses 9 = .ok (.iconst 1, 1) := by decide +kernel
theorem dX11_chooses_10 : decode cX11_chooses 10 = .ok (.iand, 1) := by decide +kernel
theorem dX11_chooses_11 : decode cX11_chooses 11 = .ok (.iconst 1, 1) := by decide +kernel
theorem dX11_chooses_12 : decode cX11_chooses 12 = .ok (.if_icmp .ne 7, 3) := by decide +kernel
theorem dX11_chooses_15 : decode cX11_chooses 15 = .ok (.iconst 1, 1) := by decide +kernel
theorem dX11_chooses_16 : decode cX11_chooses 16 = .ok (.goto 4, 3) := by decide +kernel
theorem dX11_chooses_19 : decode cX11_chooses 19 = .ok (.iconst 0, 1) := by decide +kernel
theorem dX11_chooses_20 : decode cX11_chooses 20 = .ok (.istore_n 2, 1) := by decide +kernel
theorem dX11_chooses_21 : decode cX11_chooses 21 = .ok (.aload_n 0, 1) := by decide +kernel
theorem dX11_chooses_22 : decode cX11_chooses 22 = .ok (.dup, 1) := by decide +kernel
theorem dX11_chooses_23 : decode cX11_chooses 23 = .ok (.getfield 317, 3) := by decide +kernel
theorem dX11_chooses_26 : decode cX11_chooses 26 = .ok (.iconst 1, 1) := by decide +kernel
theorem dX11_chooses_27 : decode cX11_chooses 27 = .ok (.iadd, 1) := by decide +kernel
theorem dX11_chooses_28 : decode cX11_chooses 28 = .ok (.putfield 317, 3) := by decide +kernel
theorem dX11_chooses_31 : decode cX11_chooses 31 = .ok (.iload_n 2, 1) := by decide +kernel
theorem dX11_chooses_32 : decode cX11_chooses 32 = .ok (.ireturn, 1) := by decide +kernel
theorem dX11_frame_0 : decode cX11_frame 0 = .ok (.iconst 0, 1) := by decide +kernel
theorem dX11_frame_1 : decode cX11_frame 1 = .ok (.istore_n 2, 1) := by decide +kernel
theorem dX11_frame_2 : decode cX11_frame 2 = .ok (.iload_n 2, 1) := by decide +kernel
theorem dX11_frame_3 : decode cX11_frame 3 = .ok (.bipush 26, 2) := by decide +kernel
theorem dX11_frame_5 : decode cX11_frame 5 = .ok (.if_icmp .ge 24, 3) := by decide +kernel
theorem dX11_frame_8 : decode cX11_frame 8 = .ok (.aload_n 0, 1) := by decide +kernel
theorem dX11_frame_9 : decode cX11_frame 9 = .ok (.getfield 106, 3) := by decide +kernel
theorem dX11_frame_12 : decode cX11_frame 12 = .ok (.bipush 26, 2) := by decide +kernel
theorem dX11_frame_14 : decode cX11_frame 14 = .ok (.aload_n 0, 1) := by decide +kernel
theorem dX11_frame_15 : decode cX11_frame 15 = .ok (.getfield 320, 3) := by decide +kernel
theorem dX11_frame_18 : decode cX11_frame 18 = .ok (.imul, 1) := by decide +kernel
theorem dX11_frame_19 : decode cX11_frame 19 = .ok (.iload_n 2, 1) := by decide +kernel
theorem dX11_frame_20 : decode cX11_frame 20 = .ok (.iadd, 1) := by decide +kernel
theorem dX11_frame_21 : decode cX11_frame 21 = .ok (.iconst 0, 1) := by decide +kernel
theorem dX11_frame_22 : decode cX11_frame 22 = .ok (.iastore, 1) := by decide +kernel
theorem dX11_frame_23 : decode cX11_frame 23 = .ok (.iinc 2 1, 3) := by decide +kernel
theorem dX11_frame_26 : decode cX11_frame 26 = .ok (.goto (-24), 3) := by decide +kernel
theorem dX11_frame_29 : decode cX11_frame 29 = .ok (.aload_n 0, 1) := by decide +kernel
theorem dX11_frame_30 : decode cX11_frame 30 = .ok (.getfield 109, 3) := by decide +kernel
theorem dX11_frame_33 : decode cX11_frame 33 = .ok (.aload_n 0, 1) := by decide +kernel
theorem dX11_frame_34 : decode cX11_frame 34 = .ok (.getfield 320, 3) := by decide +kernel
theorem dX11_frame_37 : decode cX11_frame 37 = .ok (.iload_n 1, 1) := by decide +kernel
theorem dX11_frame_38 : decode cX11_frame 38 = .ok (.iastore, 1) := by decide +kernel
theorem dX11_frame_39 : decode cX11_frame 39 = .ok (.aload_n 0, 1) := by decide +kernel
theorem dX11_frame_40 : decode cX11_frame 40 = .ok (.dup, 1) := by decide +kernel
theorem dX11_frame_41 : decode cX11_frame 41 = .ok (.getfield 320, 3) := by decide +kernel
theorem dX11_frame_44 : decode cX11_frame 44 = .ok (.iconst 1, 1) := by decide +kernel
theorem dX11_frame_45 : decode cX11_frame 45 = .ok (.iadd, 1) := by decide +kernel
theorem dX11_frame_46 : decode cX11_frame 46 = .ok (.putfield 320, 3) := by decide +kernel
theorem dX11_frame_49 : decode cX11_frame 49 = .ok (.return_, 1) := by decide +kernel
theorem dX11_canRun_0 : decode cX11_canRun 0 = .ok (.aload_n 0, 1) := by decide +kernel
theorem dX11_canRun_1 : decode cX11_canRun 1 = .ok (.getfield 83, 3) := by decide +kernel
theorem dX11_canRun_4 : decode cX11_canRun 4 = .ok (.iconst (-1), 1) := by decide +kernel
theorem dX11_canRun_5 : decode cX11_canRun 5 = .ok (.if_icmp .eq 33, 3) := by decide +kernel
theorem dX11_canRun_8 : decode cX11_canRun 8 = .ok (.iload_n 2, 1) := by decide +kernel
theorem dX11_canRun_9 : decode cX11_canRun 9 = .ok (.ifCond .lt 29, 3) := by decide +kernel
theorem dX11_canRun_12 : decode cX11_canRun 12 = .ok (.iload_n 2, 1) := by decide +kernel
theorem dX11_canRun_13 : decode cX11_canRun 13 = .ok (.sipush 255, 3) := by decide +kernel
theorem dX11_canRun_16 : decode cX11_canRun 16 = .ok (.if_icmp .gt 22, 3) := by decide +kernel
theorem dX11_canRun_19 : decode cX11_canRun 19 = .ok (.iload_n 1, 1) := by decide +kernel
theorem dX11_canRun_20 : decode cX11_canRun 20 = .ok (.ifCond .lt 18, 3) := by decide +kernel
theorem dX11_canRun_23 : decode cX11_canRun 23 = .ok (.iload_n 1, 1) := by decide +kernel
theorem dX11_canRun_24 : decode cX11_canRun 24 = .ok (.iconst 1, 1) := by decide +kernel
theorem dX11_canRun_25 : decode cX11_canRun 25 = .ok (.aload_n 0, 1) := by decide +kernel
theorem dX11_canRun_26 : decode cX11_canRun 26 = .ok (.getfield 35, 3) := by decide +kernel
theorem dX11_canRun_29 : decode cX11_canRun 29 = .ok (.aload_n 0, 1) := by decide +kernel
theorem dX11_canRun_30 : decode cX11_canRun 30 = .ok (.getfield 83, 3) := by decide +kernel
theorem dX11_canRun_33 : decode cX11_canRun 33 = .ok (.iaload, 1) := by decide +kernel
theorem dX11_canRun_34 : decode cX11_canRun 34 = .ok (.ishl, 1) := by decide +kernel
theorem dX11_canRun_35 : decode cX11_canRun 35 = .ok (.if_icmp .lt 5, 3) := by decide +kernel
theorem dX11_canRun_38 : decode cX11_canRun 38 = .ok (.iconst 0, 1) := by decide +kernel
theorem dX11_canRun_39 : decode cX11_canRun 39 = .ok (.ireturn, 1) := by decide +kernel
theorem dX11_canRun_40 : decode cX11_canRun 40 = .ok (.iconst 0, 1) := by decide +kernel
theorem dX11_canRun_41 : decode cX11_canRun 41 = .ok (.istore_n 3, 1) := by decide +kernel
theorem dX11_canRun_42 : decode cX11_canRun 42 = .ok (.iload_n 3, 1) := by decide +kernel
theorem dX11_canRun_43 : decode cX11_canRun 43 = .ok (.aload_n 0, 1) := by decide +kernel
theorem dX11_canRun_44 : decode cX11_canRun 44 = .ok (.getfield 35, 3) := by decide +kernel
theorem dX11_canRun_47 : decode cX11_canRun 47 = .ok (.aload_n 0, 1) := by decide +kernel
theorem dX11_canRun_48 : decode cX11_canRun 48 = .ok (.getfield 83, 3) := by decide +kernel
theorem dX11_canRun_51 : decode cX11_canRun 51 = .ok (.iaload, 1) := by decide +kernel
theorem dX11_canRun_52 : decode cX11_canRun 52 = .ok (.if_icmp .ge 28, 3) := by decide +kernel
theorem dX11_canRun_55 : decode cX11_canRun 55 = .ok (.aload_n 0, 1) := by decide +kernel
theorem dX11_canRun_56 : decode cX11_canRun 56 = .ok (.getfield 86, 3) := by decide +kernel
theorem dX11_canRun_59 : decode cX11_canRun 59 = .ok (.iload_n 3, 1) := by decide +kernel
theorem dX11_canRun_60 : decode cX11_canRun 60 = .ok (.iaload, 1) := by decide +kernel
theorem dX11_canRun_61 : decode cX11_canRun 61 = .ok (.iload_n 1, 1) := by decide +kernel
theorem dX11_canRun_62 : decode cX11_canRun 62 = .ok (.iload_n 3, 1) := by decide +kernel
theorem dX11_canRun_63 : decode cX11_canRun 63 = .ok (.ishr, 1) := by decide +kernel
theorem dX11_canRun_64 : decode cX11_canRun 64 = .ok (.iconst 1, 1) := by decide +kernel
theorem dX11_canRun_65 : decode cX11_canRun 65 = .ok (.iand, 1) := by decide +kernel
theorem dX11_canRun_66 : decode cX11_canRun 66 = .ok (.ishr, 1) := by decide +kernel
theorem dX11_canRun_67 : decode cX11_canRun 67 = .ok (.iconst 1, 1) := by decide +kernel
theorem dX11_canRun_68 : decode cX11_canRun 68 = .ok (.iand, 1) := by decide +kernel
theorem dX11_canRun_69 : decode cX11_canRun 69 = .ok (.ifCond .ne 5, 3) := by decide +kernel
theorem dX11_canRun_72 : decode cX11_canRun 72 = .ok (.iconst 0, 1) := by decide +kernel
theorem dX11_canRun_73 : decode cX11_canRun 73 = .ok (.ireturn, 1) := by decide +kernel
theorem dX11_canRun_74 : decode cX11_canRun 74 = .ok (.iinc 3 1, 3) := by decide +kernel
theorem dX11_canRun_77 : decode cX11_canRun 77 = .ok (.goto (-35), 3) := by decide +kernel
theorem dX11_canRun_80 : decode cX11_canRun 80 = .ok (.iconst 1, 1) := by decide +kernel
theorem dX11_canRun_81 : decode cX11_canRun 81 = .ok (.ireturn, 1) := by decide +kernel
theorem dX11_runs_0 : decode cX11_runs 0 = .ok (.aload_n 0, 1) := by decide +kernel
theorem dX11_runs_1 : decode cX11_runs 1 = .ok (.iconst 0, 1) := by decide +kernel
theorem dX11_runs_2 : decode cX11_runs 2 = .ok (.putfield 311, 3) := by decide +kernel
theorem dX11_runs_5 : decode cX11_runs 5 = .ok (.aload_n 0, 1) := by decide +kernel
theorem dX11_runs_6 : decode cX11_runs 6 = .ok (.iconst 0, 1) := by decide +kernel
theorem dX11_runs_7 : decode cX11_runs 7 = .ok (.putfield 320, 3) := by decide +kernel
theorem dX11_runs_10 : decode cX11_runs 10 = .ok (.aload_n 0, 1) := by decide +kernel
theorem dX11_runs_11 : decode cX11_runs 11 = .ok (.iconst 0, 1) := by decide +kernel
theorem dX11_runs_12 : decode cX11_runs 12 = .ok (.putfield 323, 3) := by decide +kernel
theorem dX11_runs_15 : decode cX11_runs 15 = .ok (.aload_n 0, 1) := by decide +kernel
theorem dX11_runs_16 : decode cX11_runs 16 = .ok (.iconst 0, 1) := by decide +kernel
theorem dX11_runs_17 : decode cX11_runs 17 = .ok (.putfield 317, 3) := by decide +kernel
theorem dX11_runs_20 : decode cX11_runs 20 = .ok (.aload_n 0, 1) := by decide +kernel
theorem dX11_runs_21 : decode cX11_runs 21 = .ok (.iconst (-1), 1) := by decide +kernel
theorem dX11_runs_22 : decode cX11_runs 22 = .ok (.putfield 326, 3) := by decide +kernel
theorem dX11_runs_25 : decode cX11_runs 25 = .ok (.aload_n 0, 1) := by decide +kernel
theorem dX11_runs_26 : decode cX11_runs 26 = .ok (.iconst (-1), 1) := by decide +kernel
theorem dX11_runs_27 : decode cX11_runs 27 = .ok (.putfield 314, 3) := by decide +kernel
theorem dX11_runs_30 : decode cX11_runs 30 = .ok (.aload_n 0, 1) := by decide +kernel
theorem dX11_runs_31 : decode cX11_runs 31 = .ok (.iconst 0, 1) := by decide +kernel
theorem dX11_runs_32 : decode cX11_runs 32 = .ok (.putfield 329, 3) := by decide +kernel
theorem dX11_runs_35 : decode cX11_runs 35 = .ok (.aload_n 0, 1) := by decide +kernel
theorem dX11_runs_36 : decode cX11_runs 36 = .ok (.iconst (-1), 1) := by decide +kernel
theorem dX11_runs_37 : decode cX11_runs 37 = .ok (.invokevirtual 332, 3) := by decide +kernel
theorem dX11_runs_40 : decode cX11_runs 40 = .ok (.iconst 0, 1) := by decide +kernel
theorem dX11_runs_41 : decode cX11_runs 41 = .ok (.istore_n 3, 1) := by decide +kernel
theorem dX11_runs_42 : decode cX11_runs 42 = .ok (.iload_n 3, 1) := by decide +kernel
theorem dX11_runs_43 : decode cX11_runs 43 = .ok (.aload_n 0, 1) := by decide +kernel
theorem dX11_runs_44 : decode cX11_runs 44 = .ok (.getfield 35, 3) := by decide +kernel
theorem dX11_runs_47 : decode cX11_runs 47 = .ok (.aload_n 0, 1) := by decide +kernel
theorem dX11_runs_48 : decode cX11_runs 48 = .ok (.getfield 83, 3) := by decide +kernel
theorem dX11_runs_51 : decode cX11_runs 51 = .ok (.iaload, 1) := by decide +kernel
theorem dX11_runs_52 : decode cX11_runs 52 = .ok (.if_icmp .ge 46, 3) := by decide +kernel
theorem dX11_runs_55 : decode cX11_runs 55 = .ok (.aload_n 0, 1) := by decide +kernel
theorem dX11_runs_56 : decode cX11_runs 56 = .ok (.getfield 106, 3) := by decide +kernel
theorem dX11_runs_59 : decode cX11_runs 59 = .ok (.aload_n 0, 1) := by decide +kernel
theorem dX11_runs_60 : decode cX11_runs 60 = .ok (.getfield 38, 3) := by decide +kernel
theorem dX11_runs_63 : decode cX11_runs 63 = .ok (.iconst 4, 1) := by decide +kernel
theorem dX11_runs_64 : decode cX11_runs 64 = .ok (.aload_n 0, 1) := by decide +kernel
theorem dX11_runs_65 : decode cX11_runs 65 = .ok (.getfield 83, 3) := by decide +kernel
theorem dX11_runs_68 : decode cX11_runs 68 = .ok (.imul, 1) := by decide +kernel
theorem dX11_runs_69 : decode cX11_runs 69 = .ok (.iload_n 3, 1) := by decide +kernel
theorem dX11_runs_70 : decode cX11_runs 70 = .ok (.iadd, 1) := by decide +kernel
theorem dX11_runs_71 : decode cX11_runs 71 = .ok (.iaload, 1) := by decide +kernel
theorem dX11_runs_72 : decode cX11_runs 72 = .ok (.iload_n 1, 1) := by decide +kernel
theorem dX11_runs_73 : decode cX11_runs 73 = .ok (.iload_n 3, 1) := by decide +kernel
theorem dX11_runs_74 : decode cX11_runs 74 = .ok (.ishr, 1) := by decide +kernel
theorem dX11_runs_75 : decode cX11_runs 75 = .ok (.iconst 1, 1) := by decide +kernel
theorem dX11_runs_76 : decode cX11_runs 76 = .ok (.iand, 1) := by decide +kernel
theorem dX11_runs_77 : decode cX11_runs 77 = .ok (.iconst 1, 1) := by decide +kernel
theorem dX11_runs_78 : decode cX11_runs 78 = .ok (.if_icmp .ne 12, 3) := by decide +kernel
theorem dX11_runs_81 : decode cX11_runs 81 = .ok (.aload_n 0, 1) := by decide +kernel
theorem dX11_runs_82 : decode cX11_runs 82 = .ok (.iconst (-1), 1) := by decide +kernel
theorem dX11_runs_83 : decode cX11_runs 83 = .ok (.iconst (-1), 1) := by decide +kernel
theorem dX11_runs_84 : decode cX11_runs 84 = .ok (.invokevirtual 335, 3) := by decide +kernel
theorem dX11_runs_87 : decode cX11_runs 87 = .ok (.goto 4, 3) := by decide +kernel
theorem dX11_runs_90 : decode cX11_runs 90 = .ok (.iconst 0, 1) := by decide +kernel
theorem dX11_runs_91 : decode cX11_runs 91 = .ok (.iastore, 1) := by decide +kernel
theorem dX11_runs_92 : decode cX11_runs 92 = .ok (.iinc 3 1, 3) := by decide +kernel
theorem dX11_runs_95 : decode cX11_runs 95 = .ok (.goto (-53), 3) := by decide +kernel
theorem dX11_runs_98 : decode cX11_runs 98 = .ok (.aload_n 0, 1) := by decide +kernel
theorem dX11_runs_99 : decode cX11_runs 99 = .ok (.getfield 32, 3) := by decide +kernel
theorem dX11_runs_102 : decode cX11_runs 102 = .ok (.aload_n 0, 1) := by decide +kernel
theorem dX11_runs_103 : decode cX11_runs 103 = .ok (.getfield 83, 3) := by decide +kernel
theorem dX11_runs_106 : decode cX11_runs 106 = .ok (.iaload, 1) := by decide +kernel
theorem dX11_runs_107 : decode cX11_runs 107 = .ok (.istore_n 3, 1) := by decide +kernel
theorem dX11_runs_108 : decode cX11_runs 108 = .ok (.aload_n 0, 1) := by decide +kernel
theorem dX11_runs_109 : decode cX11_runs 109 = .ok (.getfield 314, 3) := by decide +kernel
theorem dX11_runs_112 : decode cX11_runs 112 = .ok (.iconst (-1), 1) := by decide +kernel
theorem dX11_runs_113 : decode cX11_runs 113 = .ok (.if_icmp .ne 13, 3) := by decide +kernel
theorem dX11_runs_116 : decode cX11_runs 116 = .ok (.aload_n 0, 1) := by decide +kernel
theorem dX11_runs_117 : decode cX11_runs 117 = .ok (.iload_n 3, 1) := by decide +kernel
theorem dX11_runs_118 : decode cX11_runs 118 = .ok (.iload_n 2, 1) := by decide +kernel
theorem dX11_runs_119 : decode cX11_runs 119 = .ok (.invokevirtual 338, 3) := by decide +kernel
theorem dX11_runs_122 : decode cX11_runs 122 = .ok (.istore_n 3, 1) := by decide +kernel
theorem dX11_runs_123 : decode cX11_runs 123 = .ok (.goto (-15), 3) := by decide +kernel
theorem dX11_runs_126 : decode cX11_runs 126 = .ok (.return_, 1) := by decide +kernel
theorem dX11_nameOf_0 : decode cX11_nameOf 0 = .ok (.aload_n 0, 1) := by decide +kernel
theorem dX11_nameOf_1 : decode cX11_nameOf 1 = .ok (.getfield 106, 3) := by decide +kernel
theorem dX11_nameOf_4 : decode cX11_nameOf 4 = .ok (.bipush 26, 2) := by decide +kernel
theorem dX11_nameOf_6 : decode cX11_nameOf 6 = .ok (.aload_n 0, 1) := by decide +kernel
theorem dX11_nameOf_7 : decode cX11_nameOf 7 = .ok (.getfield 320, 3) := by decide +kernel
theorem dX11_nameOf_10 : decode cX11_nameOf 10 = .ok (.iconst 1, 1) := by decide +kernel
theorem dX11_nameOf_11 : decode cX11_nameOf 11 = .ok (.isub, 1) := by decide +kernel
theorem dX11_nameOf_12 : decode cX11_nameOf 12 = .ok (.imul, 1) := by decide +kernel
theorem dX11_nameOf_13 : decode cX11_nameOf 13 = .ok (.iload_n 1, 1) := by decide +kernel
theorem dX11_nameOf_14 : decode cX11_nameOf 14 = .ok (.iadd, 1) := by decide +kernel
theorem dX11_nameOf_15 : decode cX11_nameOf 15 = .ok (.iaload, 1) := by decide +kernel
theorem dX11_nameOf_16 : decode cX11_nameOf 16 = .ok (.ireturn, 1) := by decide +kernel
theorem dX11_step_0 : decode cX11_step 0 = .ok (.aload_n 0, 1) := by decide +kernel
theorem dX11_step_1 : decode cX11_step 1 = .ok (.getfield 323, 3) := by decide +kernel
theorem dX11_step_4 : decode cX11_step 4 = .ok (.sipush 400, 3) := by decide +kernel
theorem dX11_step_7 : decode cX11_step 7 = .ok (.if_icmp .ne 11, 3) := by decide +kernel
theorem dX11_step_10 : decode cX11_step 10 = .ok (.aload_n 0, 1) := by decide +kernel
theorem dX11_step_11 : decode cX11_step 11 = .ok (.iconst 3, 1) := by decide +kernel
theorem dX11_step_12 : decode cX11_step 12 = .ok (.putfield 314, 3) := by decide +kernel
theorem dX11_step_15 : decode cX11_step 15 = .ok (.goto 13, 3) := by decide +kernel
theorem dX11_step_18 : decode cX11_step 18 = .ok (.aload_n 0, 1) := by decide +kernel
theorem dX11_step_19 : decode cX11_step 19 = .ok (.dup, 1) := by decide +kernel
theorem dX11_step_20 : decode cX11_step 20 = .ok (.getfield 323, 3) := by decide +kernel
theorem dX11_step_23 : decode cX11_step 23 = .ok (.iconst 1, 1) := by decide +kernel
theorem dX11_step_24 : decode cX11_step 24 = .ok (.iadd, 1) := by decide +kernel
theorem dX11_step_25 : decode cX11_step 25 = .ok (.putfield 323, 3) := by decide +kernel
theorem dX11_step_28 : decode cX11_step 28 = .ok (.return_, 1) := by decide +kernel
theorem dX11_does_0 : decode cX11_does 0 = .ok (.aload_n 0, 1) := by decide +kernel
theorem dX11_does_1 : decode cX11_does 1 = .ok (.getfield 17, 3) := by decide +kernel
theorem dX11_does_4 : decode cX11_does 4 = .ok (.iload_n 1, 1) := by decide +kernel
theorem dX11_does_5 : decode cX11_does 5 = .ok (.iaload, 1) := by decide +kernel
theorem dX11_does_6 : decode cX11_does 6 = .ok (.tableswitch 370 0 13 #[70, 77, 85, 110, 141, 158, 215, 221, 249, 306, 370, 370, 370, 349], 70) := by decide +kernel
theorem dX11_does_76 : decode cX11_does 76 = .ok (.aload_n 0, 1) := by decide +kernel
theorem dX11_does_77 : decode cX11_does 77 = .ok (.invokevirtual 341, 3) := by decide +kernel
theorem dX11_does_80 : decode cX11_does 80 = .ok (.goto 375, 3) := by decide +kernel
theorem dX11_does_83 : decode cX11_does 83 = .ok (.aload_n 0, 1) := by decide +kernel
theorem dX11_does_84 : decode cX11_does 84 = .ok (.iconst 0, 1) := by decide +kernel
theorem dX11_does_85 : decode cX11_does 85 = .ok (.putfield 329, 3) := by decide +kernel
theorem dX11_does_88 : decode cX11_does 88 = .ok (.goto 367, 3) := by decide +kernel
theorem dX11_does_91 : decode cX11_does 91 = .ok (.aload_n 0, 1) := by decide +kernel
theorem dX11_does_92 : decode cX11_does 92 = .ok (.aload_n 0, 1) := by decide +kernel
theorem dX11_does_93 : decode cX11_does 93 = .ok (.iload_n 2, 1) := by decide +kernel
theorem dX11_does_94 : decode cX11_does 94 = .ok (.invokevirtual 344, 3) := by decide +kernel
theorem dX11_does_97 : decode cX11_does 97 = .ok (.ifCond .eq 12, 3) := by decide +kernel
theorem dX11_does_100 : decode cX11_does 100 = .ok (.aload_n 0, 1) := by decide +kernel
theorem dX11_does_101 : decode cX11_does 101 = .ok (.iconst (-1), 1) := by decide +kernel
theorem dX11_does_102 : decode cX11_does 102 = .ok (.iconst (-1), 1) := by decide +kernel
theorem dX11_does_103 : decode cX11_does 103 = .ok (.invokevirtual 335, 3) := by decide +kernel
theorem dX11_does_106 : decode cX11_does 106 = .ok (.goto 4, 3) := by decide +kernel
theorem dX11_does_109 : decode cX11_does 109 = .ok (.iconst 0, 1) := by decide +kernel
theorem dX11_does_110 : decode cX11_does 110 = .ok (.putfield 329, 3) := by decide +kernel
theorem dX11_does_113 : decode cX11_does 113 = .ok (.goto 342, 3) := by decide +kernel
theorem dX11_does_116 : decode cX11_does 116 = .ok (.aload_n 0, 1) := by decide +kernel
theorem dX11_does_117 : decode cX11_does 117 = .ok (.aload_n 0, 1) := by decide +kernel
theorem dX11_does_118 : decode cX11_does 118 = .ok (.aload_n 0, 1) := by decide +kernel
theorem dX11_does_119 : decode cX11_does 119 = .ok (.aload_n 0, 1) := by decide +kernel
theorem dX11_does_120 : decode cX11_does 120 = .ok (.getfield 20, 3) := by decide +kernel
theorem dX11_does_123 : decode cX11_does 123 = .ok (.iload_n 1, 1) := by decide +kernel
theorem dX11_does_124 : decode cX11_does 124 = .ok (.iaload, 1) := by decide +kernel
theorem dX11_does_125 : decode cX11_does 125 = .ok (.invokevirtual 347, 3) := by decide +kernel
theorem dX11_does_128 : decode cX11_does 128 = .ok (.aload_n 0, 1) := by decide +kernel
theorem dX11_does_129 : decode cX11_does 129 = .ok (.aload_n 0, 1) := by decide +kernel
theorem dX11_does_130 : decode cX11_does 130 = .ok (.getfield 23, 3) := by decide +kernel
theorem dX11_does_133 : decode cX11_does 133 = .ok (.iload_n 1, 1) := by decide +kernel
theorem dX11_does_134 : decode cX11_does 134 = .ok (.iaload, 1) := by decide +kernel
theorem dX11_does_135 : decode cX11_does 135 = .ok (.invokevirtual 347, 3) := by decide +kernel
theorem dX11_does_138 : decode cX11_does 138 = .ok (.invokevirtual 335, 3) := by decide +kernel
theorem dX11_does_141 : decode cX11_does 141 = .ok (.putfield 329, 3) := by decide +kernel
theorem dX11_does_144 : decode cX11_does 144 = .ok (.goto 311, 3) := by decide +kernel
theorem dX11_does_147 : decode cX11_does 147 = .ok (.aload_n 0, 1) := by decide +kernel
theorem dX11_does_148 : decode cX11_does 148 = .ok (.aload_n 0, 1) := by decide +kernel
theorem dX11_does_149 : decode cX11_does 149 = .ok (.aload_n 0, 1) := by decide +kernel
theorem dX11_does_150 : decode cX11_does 150 = .ok (.getfield 20, 3) := by decide +kernel
theorem dX11_does_153 : decode cX11_does 153 = .ok (.iload_n 1, 1) := by decide +kernel
theorem dX11_does_154 : decode cX11_does 154 = .ok (.iaload, 1) := by decide +kernel
theorem dX11_does_155 : decode cX11_does 155 = .ok (.invokevirtual 347, 3) := by decide +kernel
theorem dX11_does_158 : decode cX11_does 158 = .ok (.putfield 329, 3) := by decide +kernel
theorem dX11_does_161 : decode cX11_does 161 = .ok (.goto 294, 3) := by decide +kernel
theorem dX11_does_164 : decode cX11_does 164 = .ok (.aload_n 0, 1) := by decide +kernel
theorem dX11_does_165 : decode cX11_does 165 = .ok (.aload_n 0, 1) := by decide +kernel
theorem dX11_does_166 : decode cX11_does 166 = .ok (.getfield 20, 3) := by decide +kernel
theorem dX11_does_169 : decode cX11_does 169 = .ok (.iload_n 1, 1) := by decide +kernel
theorem dX11_does_170 : decode cX11_does 170 = .ok (.iaload, 1) := by decide +kernel
theorem dX11_does_171 : decode cX11_does 171 = .ok (.invokevirtual 347, 3) := by decide +kernel
theorem dX11_does_174 : decode cX11_does 174 = .ok (.ifCond .ne 16, 3) := by decide +kernel
theorem dX11_does_177 : decode cX11_does 177 = .ok (.aload_n 0, 1) := by decide +kernel
theorem dX11_does_178 : decode cX11_does 178 = .ok (.aload_n 0, 1) := by decide +kernel
theorem dX11_does_179 : decode cX11_does 179 = .ok (.getfield 26, 3) := by decide +kernel
theorem dX11_does_182 : decode cX11_does 182 = .ok (.iload_n 1, 1) := by decide +kernel
theorem dX11_does_183 : decode cX11_does 183 = .ok (.iaload, 1) := by decide +kernel
theorem dX11_does_184 : decode cX11_does 184 = .ok (.invokevirtual 350, 3) := by decide +kernel
theorem dX11_does_187 : decode cX11_does 187 = .ok (.goto 268, 3) := by decide +kernel
theorem dX11_does_190 : decode cX11_does 190 = .ok (.aload_n 0, 1) := by decide +kernel
theorem dX11_does_191 : decode cX11_does 191 = .ok (.aload_n 0, 1) := by decide +kernel
theorem dX11_does_192 : decode cX11_does 192 = .ok (.getfield 103, 3) := by decide +kernel
theorem dX11_does_195 : decode cX11_does 195 = .ok (.iconst 2, 1) := by decide +kernel
theorem dX11_does_196 : decode cX11_does 196 = .ok (.aload_n 0, 1) := by decide +kernel
theorem dX11_does_197 : decode cX11_does 197 = .ok (.aload_n 0, 1) := by decide +kernel
theorem dX11_does_198 : decode cX11_does 198 = .ok (.getfield 20, 3) := by decide +kernel
theorem dX11_does_201 : decode cX11_does 201 = .ok (.iload_n 1, 1) := by decide +kernel
theorem dX11_does_202 : decode cX11_does 202 = .ok (.iaload, 1) := by decide +kernel
theorem dX11_does_203 : decode cX11_does 203 = .ok (.invokevirtual 347, 3) := by decide +kernel
theorem dX11_does_206 : decode cX11_does 206 = .ok (.imul, 1) := by decide +kernel
theorem dX11_does_207 : decode cX11_does 207 = .ok (.aload_n 0, 1) := by decide +kernel
theorem dX11_does_208 : decode cX11_does 208 = .ok (.getfield 23, 3) := by decide +kernel
theorem dX11_does_211 : decode cX11_does 211 = .ok (.iload_n 1, 1) := by decide +kernel
theorem dX11_does_212 : decode cX11_does 212 = .ok (.iaload, 1) := by decide +kernel
theorem dX11_does_213 : decode cX11_does 213 = .ok (.iadd, 1) := by decide +kernel
theorem dX11_does_214 : decode cX11_does 214 = .ok (.iaload, 1) := by decide +kernel
theorem dX11_does_215 : decode cX11_does 215 = .ok (.putfield 329, 3) := by decide +kernel
theorem dX11_does_218 : decode cX11_does 218 = .ok (.goto 237, 3) := by decide +kernel
theorem dX11_does_221 : decode cX11_does 221 = .ok (.aload_n 0, 1) := by decide +kernel
theorem dX11_does_222 : decode cX11_does 222 = .ok (.iload_n 1, 1) := by decide +kernel
theorem dX11_does_223 : decode cX11_does 223 = .ok (.invokevirtual 353, 3) := by decide +kernel
theorem dX11_does_226 : decode cX11_does 226 = .ok (.ireturn, 1) := by decide +kernel
theorem dX11_does_227 : decode cX11_does 227 = .ok (.aload_n 0, 1) := by decide +kernel
theorem dX11_does_228 : decode cX11_does 228 = .ok (.getfield 106, 3) := by decide +kernel
theorem dX11_does_231 : decode cX11_does 231 = .ok (.bipush 26, 2) := by decide +kernel
theorem dX11_does_233 : decode cX11_does 233 = .ok (.aload_n 0, 1) := by decide +kernel
theorem dX11_does_234 : decode cX11_does 234 = .ok (.getfield 320, 3) := by decide +kernel
theorem dX11_does_237 : decode cX11_does 237 = .ok (.iconst 1, 1) := by decide +kernel
theorem dX11_does_238 : decode cX11_does 238 = .ok (.isub, 1) := by decide +kernel
theorem dX11_does_239 : decode cX11_does 239 = .ok (.imul, 1) := by decide +kernel
theorem dX11_does_240 : decode cX11_does 240 = .ok (.aload_n 0, 1) := by decide +kernel
theorem dX11_does_241 : decode cX11_does 241 = .ok (.getfield 20, 3) := by decide +kernel
theorem dX11_does_244 : decode cX11_does 244 = .ok (.iload_n 1, 1) := by decide +kernel
theorem dX11_does_245 : decode cX11_does 245 = .ok (.iaload, 1) := by decide +kernel
theorem dX11_does_246 : decode cX11_does 246 = .ok (.iadd, 1) := by decide +kernel
theorem dX11_does_247 : decode cX11_does 247 = .ok (.aload_n 0, 1) := by decide +kernel
theorem dX11_does_248 : decode cX11_does 248 = .ok (.getfield 329, 3) := by decide +kernel
theorem dX11_does_251 : decode cX11_does 251 = .ok (.iastore, 1) := by decide +kernel
theorem dX11_does_252 : decode cX11_does 252 = .ok (.goto 203, 3) := by decide +kernel
theorem dX11_does_255 : decode cX11_does 255 = .ok (.aload_n 0, 1) := by decide +kernel
theorem dX11_does_256 : decode cX11_does 256 = .ok (.aload_n 0, 1) := by decide +kernel
theorem dX11_does_257 : decode cX11_does 257 = .ok (.getfield 20, 3) := by decide +kernel
theorem dX11_does_260 : decode cX11_does 260 = .ok (.iload_n 1, 1) := by decide +kernel
theorem dX11_does_261 : decode cX11_does 261 = .ok (.iaload, 1) := by decide +kernel
theorem dX11_does_262 : decode cX11_does 262 = .ok (.invokevirtual 347, 3) := by decide +kernel
theorem dX11_does_265 : decode cX11_does 265 = .ok (.ifCond .ne 16, 3) := by decide +kernel
theorem dX11_does_268 : decode cX11_does 268 = .ok (.aload_n 0, 1) := by decide +kernel
theorem dX11_does_269 : decode cX11_does 269 = .ok (.aload_n 0, 1) := by decide +kernel
theorem dX11_does_270 : decode cX11_does 270 = .ok (.getfield 26, 3) := by decide +kernel
theorem dX11_does_273 : decode cX11_does 273 = .ok (.iload_n 1, 1) := by decide +kernel
theorem dX11_does_274 : decode cX11_does 274 = .ok (.iaload, 1) := by decide +kernel
theorem dX11_does_275 : decode cX11_does 275 = .ok (.invokevirtual 350, 3) := by decide +kernel
theorem dX11_does_278 : decode cX11_does 278 = .ok (.goto 177, 3) := by decide +kernel
theorem dX11_does_281 : decode cX11_does 281 = .ok (.aload_n 0, 1) := by decide +kernel
theorem dX11_does_282 : decode cX11_does 282 = .ok (.getfield 103, 3) := by decide +kernel
theorem dX11_does_285 : decode cX11_does 285 = .ok (.iconst 2, 1) := by decide +kernel
theorem dX11_does_286 : decode cX11_does 286 = .ok (.aload_n 0, 1) := by decide +kernel
theorem dX11_does_287 : decode cX11_does 287 = .ok (.aload_n 0, 1) := by decide +kernel
theorem dX11_does_288 : decode cX11_does 288 = .ok (.getfield 20, 3) := by decide +kernel
theorem dX11_does_291 : decode cX11_does 291 = .ok (.iload_n 1, 1) := by decide +kernel
theorem dX11_does_292 : decode cX11_does 292 = .ok (.iaload, 1) := by decide +kernel
theorem dX11_does_293 : decode cX11_does 293 = .ok (.invokevirtual 347, 3) := by decide +kernel
theorem dX11_does_296 : decode cX11_does 296 = .ok (.imul, 1) := by decide +kernel
theorem dX11_does_297 : decode cX11_does 297 = .ok (.aload_n 0, 1) := by decide +kernel
theorem dX11_does_298 : decode cX11_does 298 = .ok (.getfield 23, 3) := by decide +kernel
theorem dX11_does_301 : decode cX11_does 301 = .ok (.iload_n 1, 1) := by decide +kernel
theorem dX11_does_302 : decode cX11_does 302 = .ok (.iaload, 1) := by decide +kernel
theorem dX11_does_303 : decode cX11_does 303 = .ok (.iadd, 1) := by decide +kernel
theorem dX11_does_304 : decode cX11_does 304 = .ok (.aload_n 0, 1) := by decide +kernel
theorem dX11_does_305 : decode cX11_does 305 = .ok (.getfield 329, 3) := by decide +kernel
theorem dX11_does_308 : decode cX11_does 308 = .ok (.iastore, 1) := by decide +kernel
theorem dX11_does_309 : decode cX11_does 309 = .ok (.goto 146, 3) := by decide +kernel
theorem dX11_does_312 : decode cX11_does 312 = .ok (.aload_n 0, 1) := by decide +kernel
theorem dX11_does_313 : decode cX11_does 313 = .ok (.dup, 1) := by decide +kernel
theorem dX11_does_314 : decode cX11_does 314 = .ok (.getfield 320, 3) := by decide +kernel
theorem dX11_does_317 : decode cX11_does 317 = .ok (.iconst 1, 1) := by decide +kernel
theorem dX11_does_318 : decode cX11_does 318 = .ok (.isub, 1) := by decide +kernel
theorem dX11_does_319 : decode cX11_does 319 = .ok (.putfield 320, 3) := by decide +kernel
theorem dX11_does_322 : decode cX11_does 322 = .ok (.aload_n 0, 1) := by decide +kernel
theorem dX11_does_323 : decode cX11_does 323 = .ok (.getfield 320, 3) := by decide +kernel
theorem dX11_does_326 : decode cX11_does 326 = .ok (.ifCond .ne 19, 3) := by decide +kernel
theorem dX11_does_329 : decode cX11_does 329 = .ok (.aload_n 0, 1) := by decide +kernel
theorem dX11_does_330 : decode cX11_does 330 = .ok (.aload_n 0, 1) := by decide +kernel
theorem dX11_does_331 : decode cX11_does 331 = .ok (.getfield 329, 3) := by decide +kernel
theorem dX11_does_334 : decode cX11_does 334 = .ok (.ifCond .ne 7, 3) := by decide +kernel
theorem dX11_does_337 : decode cX11_does 337 = .ok (.iconst 0, 1) := by decide +kernel
theorem dX11_does_338 : decode cX11_does 338 = .ok (.goto 4, 3) := by decide +kernel
theorem dX11_does_341 : decode cX11_does 341 = .ok (.iconst 1, 1) := by decide +kernel
theorem dX11_does_342 : decode cX11_does 342 = .ok (.putfield 314, 3) := by decide +kernel
theorem dX11_does_345 : decode cX11_does 345 = .ok (.aload_n 0, 1) := by decide +kernel
theorem dX11_does_346 : decode cX11_does 346 = .ok (.getfield 109, 3) := by decide +kernel
theorem dX11_does_349 : decode cX11_does 349 = .ok (.aload_n 0, 1) := by decide +kernel
theorem dX11_does_350 : decode cX11_does 350 = .ok (.getfield 320, 3) := by decide +kernel
theorem dX11_does_353 : decode cX11_does 353 = .ok (.iaload, 1) := by decide +kernel
theorem dX11_does_354 : decode cX11_does 354 = .ok (.ireturn, 1) := by decide +kernel
theorem dX11_does_355 : decode cX11_does 355 = .ok (.aload_n 0, 1) := by decide +kernel
theorem dX11_does_356 : decode cX11_does 356 = .ok (.getfield 23, 3) := by decide +kernel
theorem dX11_does_359 : decode cX11_does 359 = .ok (.iload_n 1, 1) := by decide +kernel
theorem dX11_does_360 : decode cX11_does 360 = .ok (.iaload, 1) := by decide +kernel
theorem dX11_does_361 : decode cX11_does 361 = .ok (.iconst 1, 1) := by decide +kernel
theorem dX11_does_362 : decode cX11_does 362 = .ok (.if_icmp .ne 7, 3) := by decide +kernel
theorem dX11_does_365 : decode cX11_does 365 = .ok (.aload_n 0, 1) := by decide +kernel
theorem dX11_does_366 : decode cX11_does 366 = .ok (.invokevirtual 341, 3) := by decide +kernel
theorem dX11_does_369 : decode cX11_does 369 = .ok (.aload_n 0, 1) := by decide +kernel
theorem dX11_does_370 : decode cX11_does 370 = .ok (.getfield 20, 3) := by decide +kernel
theorem dX11_does_373 : decode cX11_does 373 = .ok (.iload_n 1, 1) := by decide +kernel
theorem dX11_does_374 : decode cX11_does 374 = .ok (.iaload, 1) := by decide +kernel
theorem dX11_does_375 : decode cX11_does 375 = .ok (.ireturn, 1) := by decide +kernel
theorem dX11_does_376 : decode cX11_does 376 = .ok (.aload_n 0, 1) := by decide +kernel
theorem dX11_does_377 : decode cX11_does 377 = .ok (.getfield 17, 3) := by decide +kernel
theorem dX11_does_380 : decode cX11_does 380 = .ok (.iload_n 1, 1) := by decide +kernel
theorem dX11_does_381 : decode cX11_does 381 = .ok (.iaload, 1) := by decide +kernel
theorem dX11_does_382 : decode cX11_does 382 = .ok (.bipush 12, 2) := by decide +kernel
theorem dX11_does_384 : decode cX11_does 384 = .ok (.if_icmp .ne 11, 3) := by decide +kernel
theorem dX11_does_387 : decode cX11_does 387 = .ok (.aload_n 0, 1) := by decide +kernel
theorem dX11_does_388 : decode cX11_does 388 = .ok (.iload_n 2, 1) := by decide +kernel
theorem dX11_does_389 : decode cX11_does 389 = .ok (.invokevirtual 344, 3) := by decide +kernel
theorem dX11_does_392 : decode cX11_does 392 = .ok (.goto 45, 3) := by decide +kernel
theorem dX11_does_395 : decode cX11_does 395 = .ok (.aload_n 0, 1) := by decide +kernel
theorem dX11_does_396 : decode cX11_does 396 = .ok (.aload_n 0, 1) := by decide +kernel
theorem dX11_does_397 : decode cX11_does 397 = .ok (.getfield 20, 3) := by decide +kernel
theorem dX11_does_400 : decode cX11_does 400 = .ok (.iload_n 1, 1) := by decide +kernel
theorem dX11_does_401 : decode cX11_does 401 = .ok (.iaload, 1) := by decide +kernel
theorem dX11_does_402 : decode cX11_does 402 = .ok (.invokevirtual 347, 3) := by decide +kernel
theorem dX11_does_405 : decode cX11_does 405 = .ok (.ifCond .ne 7, 3) := by decide +kernel
theorem dX11_does_408 : decode cX11_does 408 = .ok (.iconst 1, 1) := by decide +kernel
theorem dX11_does_409 : decode cX11_does 409 = .ok (.goto 4, 3) := by decide +kernel
theorem dX11_does_412 : decode cX11_does 412 = .ok (.iconst 0, 1) := by decide +kernel
theorem dX11_does_413 : decode cX11_does 413 = .ok (.aload_n 0, 1) := by decide +kernel
theorem dX11_does_414 : decode cX11_does 414 = .ok (.getfield 17, 3) := by decide +kernel
theorem dX11_does_417 : decode cX11_does 417 = .ok (.iload_n 1, 1) := by decide +kernel
theorem dX11_does_418 : decode cX11_does 418 = .ok (.iaload, 1) := by decide +kernel
theorem dX11_does_419 : decode cX11_does 419 = .ok (.bipush 10, 2) := by decide +kernel
theorem dX11_does_421 : decode cX11_does 421 = .ok (.if_icmp .ne 7, 3) := by decide +kernel
theorem dX11_does_424 : decode cX11_does 424 = .ok (.iconst 1, 1) := by decide +kernel
theorem dX11_does_425 : decode cX11_does 425 = .ok (.goto 4, 3) := by decide +kernel
theorem dX11_does_428 : decode cX11_does 428 = .ok (.iconst 0, 1) := by decide +kernel
theorem dX11_does_429 : decode cX11_does 429 = .ok (.if_icmp .ne 7, 3) := by decide +kernel
theorem dX11_does_432 : decode cX11_does 432 = .ok (.iconst 1, 1) := by decide +kernel
theorem dX11_does_433 : decode cX11_does 433 = .ok (.goto 4, 3) := by decide +kernel
theorem dX11_does_436 : decode cX11_does 436 = .ok (.iconst 0, 1) := by decide +kernel
theorem dX11_does_437 : decode cX11_does 437 = .ok (.istore_n 3, 1) := by decide +kernel
theorem dX11_does_438 : decode cX11_does 438 = .ok (.iload_n 3, 1) := by decide +kernel
theorem dX11_does_439 : decode cX11_does 439 = .ok (.ifCond .eq 9, 3) := by decide +kernel
theorem dX11_does_442 : decode cX11_does 442 = .ok (.iload_n 1, 1) := by decide +kernel
theorem dX11_does_443 : decode cX11_does 443 = .ok (.iconst 1, 1) := by decide +kernel
theorem dX11_does_444 : decode cX11_does 444 = .ok (.iadd, 1) := by decide +kernel
theorem dX11_does_445 : decode cX11_does 445 = .ok (.goto 9, 3) := by decide +kernel
theorem dX11_does_448 : decode cX11_does 448 = .ok (.aload_n 0, 1) := by decide +kernel
theorem dX11_does_449 : decode cX11_does 449 = .ok (.getfield 26, 3) := by decide +kernel
theorem dX11_does_452 : decode cX11_does 452 = .ok (.iload_n 1, 1) := by decide +kernel
theorem dX11_does_453 : decode cX11_does 453 = .ok (.iaload, 1) := by decide +kernel
theorem dX11_does_454 : decode cX11_does 454 = .ok (.ireturn, 1) := by decide +kernel
theorem dX11_does_455 : decode cX11_does 455 = .ok (.iload_n 1, 1) := by decide +kernel
theorem dX11_does_456 : decode cX11_does 456 = .ok (.iconst 1, 1) := by decide +kernel
theorem dX11_does_457 : decode cX11_does 457 = .ok (.iadd, 1) := by decide +kernel
theorem dX11_does_458 : decode cX11_does 458 = .ok (.ireturn, 1) := by decide +kernel
theorem dX11_fails_0 : decode cX11_fails 0 = .ok (.aload_n 0, 1) := by decide +kernel
theorem dX11_fails_1 : decode cX11_fails 1 = .ok (.iconst 2, 1) := by decide +kernel
theorem dX11_fails_2 : decode cX11_fails 2 = .ok (.putfield 314, 3) := by decide +kernel
theorem dX11_fails_5 : decode cX11_fails 5 = .ok (.aload_n 0, 1) := by decide +kernel
theorem dX11_fails_6 : decode cX11_fails 6 = .ok (.iload_n 1, 1) := by decide +kernel
theorem dX11_fails_7 : decode cX11_fails 7 = .ok (.putfield 326, 3) := by decide +kernel
theorem dX11_fails_10 : decode cX11_fails 10 = .ok (.return_, 1) := by decide +kernel
theorem dX11_enter_0 : decode cX11_enter 0 = .ok (.aload_n 0, 1) := by decide +kernel
theorem dX11_enter_1 : decode cX11_enter 1 = .ok (.getfield 320, 3) := by decide +kernel
theorem dX11_enter_4 : decode cX11_enter 4 = .ok (.bipush 13, 2) := by decide +kernel
theorem dX11_enter_6 : decode cX11_enter 6 = .ok (.if_icmp .ne 10, 3) := by decide +kernel
theorem dX11_enter_9 : decode cX11_enter 9 = .ok (.aload_n 0, 1) := by decide +kernel
theorem dX11_enter_10 : decode cX11_enter 10 = .ok (.iconst 3, 1) := by decide +kernel
theorem dX11_enter_11 : decode cX11_enter 11 = .ok (.putfield 314, 3) := by decide +kernel
theorem dX11_enter_14 : decode cX11_enter 14 = .ok (.iload_n 1, 1) := by decide +kernel
theorem dX11_enter_15 : decode cX11_enter 15 = .ok (.ireturn, 1) := by decide +kernel
theorem dX11_enter_16 : decode cX11_enter 16 = .ok (.bipush 26, 2) := by decide +kernel
theorem dX11_enter_18 : decode cX11_enter 18 = .ok (.aload_n 0, 1) := by decide +kernel
theorem dX11_enter_19 : decode cX11_enter 19 = .ok (.getfield 320, 3) := by decide +kernel
theorem dX11_enter_22 : decode cX11_enter 22 = .ok (.iconst 1, 1) := by decide +kernel
theorem dX11_enter_23 : decode cX11_enter 23 = .ok (.isub, 1) := by decide +kernel
theorem dX11_enter_24 : decode cX11_enter 24 = .ok (.imul, 1) := by decide +kernel
theorem dX11_enter_25 : decode cX11_enter 25 = .ok (.istore_n 2, 1) := by decide +kernel
theorem dX11_enter_26 : decode cX11_enter 26 = .ok (.aload_n 0, 1) := by decide +kernel
theorem dX11_enter_27 : decode cX11_enter 27 = .ok (.getfield 20, 3) := by decide +kernel
theorem dX11_enter_30 : decode cX11_enter 30 = .ok (.iload_n 1, 1) := by decide +kernel
theorem dX11_enter_31 : decode cX11_enter 31 = .ok (.iaload, 1) := by decide +kernel
theorem dX11_enter_32 : decode cX11_enter 32 = .ok (.istore_n 3, 1) := by decide +kernel
theorem dX11_enter_33 : decode cX11_enter 33 = .ok (.aload_n 0, 1) := by decide +kernel
theorem dX11_enter_34 : decode cX11_enter 34 = .ok (.iload_n 1, 1) := by decide +kernel
theorem dX11_enter_35 : decode cX11_enter 35 = .ok (.iconst 1, 1) := by decide +kernel
theorem dX11_enter_36 : decode cX11_enter 36 = .ok (.iadd, 1) := by decide +kernel
theorem dX11_enter_37 : decode cX11_enter 37 = .ok (.invokevirtual 332, 3) := by decide +kernel
theorem dX11_enter_40 : decode cX11_enter 40 = .ok (.iconst 0, 1) := by decide +kernel
theorem dX11_enter_41 : decode cX11_enter 41 = .ok (.istore 4, 2) := by decide +kernel
theorem dX11_enter_43 : decode cX11_enter 43 = .ok (.iload 4, 2) := by decide +kernel
theorem dX11_enter_45 : decode cX11_enter 45 = .ok (.aload_n 0, 1) := by decide +kernel
theorem dX11_enter_46 : decode cX11_enter 46 = .ok (.getfield 23, 3) := by decide +kernel
theorem dX11_enter_49 : decode cX11_enter 49 = .ok (.iload_n 1, 1) := by decide +kernel
theorem dX11_enter_50 : decode cX11_enter 50 = .ok (.iaload, 1) := by decide +kernel
theorem dX11_enter_51 : decode cX11_enter 51 = .ok (.if_icmp .ge 56, 3) := by decide +kernel
theorem dX11_enter_54 : decode cX11_enter 54 = .ok (.aload_n 0, 1) := by decide +kernel
theorem dX11_enter_55 : decode cX11_enter 55 = .ok (.getfield 106, 3) := by decide +kernel
theorem dX11_enter_58 : decode cX11_enter 58 = .ok (.bipush 26, 2) := by decide +kernel
theorem dX11_enter_60 : decode cX11_enter 60 = .ok (.aload_n 0, 1) := by decide +kernel
theorem dX11_enter_61 : decode cX11_enter 61 = .ok (.getfield 320, 3) := by decide +kernel
theorem dX11_enter_64 : decode cX11_enter 64 = .ok (.iconst 1, 1) := by decide +kernel
theorem dX11_enter_65 : decode cX11_enter 65 = .ok (.isub, 1) := by decide +kernel
theorem dX11_enter_66 : decode cX11_enter 66 = .ok (.imul, 1) := by decide +kernel
theorem dX11_enter_67 : decode cX11_enter 67 = .ok (.aload_n 0, 1) := by decide +kernel
theorem dX11_enter_68 : decode cX11_enter 68 = .ok (.getfield 38, 3) := by decide +kernel
theorem dX11_enter_71 : decode cX11_enter 71 = .ok (.iconst 4, 1) := by decide +kernel
theorem dX11_enter_72 : decode cX11_enter 72 = .ok (.iload_n 3, 1) := by decide +kernel
theorem dX11_enter_73 : decode cX11_enter 73 = .ok (.imul, 1) := by decide +kernel
theorem dX11_enter_74 : decode cX11_enter 74 = .ok (.iload 4, 2) := by decide +kernel
theorem dX11_enter_76 : decode cX11_enter 76 = .ok (.iadd, 1) := by decide +kernel
theorem dX11_enter_77 : decode cX11_enter 77 = .ok (.iaload, 1) := by decide +kernel
theorem dX11_enter_78 : decode cX11_enter 78 = .ok (.iadd, 1) := by decide +kernel
theorem dX11_enter_79 : decode cX11_enter 79 = .ok (.aload_n 0, 1) := by decide +kernel
theorem dX11_enter_80 : decode cX11_enter 80 = .ok (.getfield 106, 3) := by decide +kernel
theorem dX11_enter_83 : decode cX11_enter 83 = .ok (.iload_n 2, 1) := by decide +kernel
theorem dX11_enter_84 : decode cX11_enter 84 = .ok (.aload_n 0, 1) := by decide +kernel
theorem dX11_enter_85 : decode cX11_enter 85 = .ok (.getfield 29, 3) := by decide +kernel
theorem dX11_enter_88 : decode cX11_enter 88 = .ok (.iload_n 1, 1) := by decide +kernel
theorem dX11_enter_89 : decode cX11_enter 89 = .ok (.iaload, 1) := by decide +kernel
theorem dX11_enter_90 : decode cX11_enter 90 = .ok (.iconst 5, 1) := by decide +kernel
theorem dX11_enter_91 : decode cX11_enter 91 = .ok (.iload 4, 2) := by decide +kernel
theorem dX11_enter_93 : decode cX11_enter 93 = .ok (.imul, 1) := by decide +kernel
theorem dX11_enter_94 : decode cX11_enter 94 = .ok (.ishr, 1) := by decide +kernel
theorem dX11_enter_95 : decode cX11_enter 95 = .ok (.bipush 31, 2) := by decide +kernel
theorem dX11_enter_97 : decode cX11_enter 97 = .ok (.iand, 1) := by decide +kernel
theorem dX11_enter_98 : decode cX11_enter 98 = .ok (.iadd, 1) := by decide +kernel
theorem dX11_enter_99 : decode cX11_enter 99 = .ok (.iaload, 1) := by decide +kernel
theorem dX11_enter_100 : decode cX11_enter 100 = .ok (.iastore, 1) := by decide +kernel
theorem dX11_enter_101 : decode cX11_enter 101 = .ok (.iinc 4 1, 3) := by decide +kernel
theorem dX11_enter_104 : decode cX11_enter 104 = .ok (.goto (-61), 3) := by decide +kernel
theorem dX11_enter_107 : decode cX11_enter 107 = .ok (.aload_n 0, 1) := by decide +kernel
theorem dX11_enter_108 : decode cX11_enter 108 = .ok (.getfield 32, 3) := by decide +kernel
theorem dX11_enter_111 : decode cX11_enter 111 = .ok (.iload_n 3, 1) := by decide +kernel
theorem dX11_enter_112 : decode cX11_enter 112 = .ok (.iaload, 1) := by decide +kernel
theorem dX11_enter_113 : decode cX11_enter 113 = .ok (.ireturn, 1) := by decide +kernel
theorem dX11_run_0 : decode cX11_run 0 = .ok (.aload_n 0, 1) := by decide +kernel
theorem dX11_run_1 : decode cX11_run 1 = .ok (.iconst 0, 1) := by decide +kernel
theorem dX11_run_2 : decode cX11_run 2 = .ok (.putfield 121, 3) := by decide +kernel
theorem dX11_run_5 : decode cX11_run 5 = .ok (.aload_n 0, 1) := by decide +kernel
theorem dX11_run_6 : decode cX11_run 6 = .ok (.iload_n 1, 1) := by decide +kernel
theorem dX11_run_7 : decode cX11_run 7 = .ok (.iload_n 2, 1) := by decide +kernel
theorem dX11_run_8 : decode cX11_run 8 = .ok (.invokevirtual 356, 3) := by decide +kernel
theorem dX11_run_11 : decode cX11_run 11 = .ok (.ifCond .ne 5, 3) := by decide +kernel
theorem dX11_run_14 : decode cX11_run 14 = .ok (.iconst (-1), 1) := by decide +kernel
theorem dX11_run_15 : decode cX11_run 15 = .ok (.ireturn, 1) := by decide +kernel
theorem dX11_run_16 : decode cX11_run 16 = .ok (.aload_n 0, 1) := by decide +kernel
theorem dX11_run_17 : decode cX11_run 17 = .ok (.iload_n 1, 1) := by decide +kernel
theorem dX11_run_18 : decode cX11_run 18 = .ok (.iload_n 2, 1) := by decide +kernel
theorem dX11_run_19 : decode cX11_run 19 = .ok (.invokevirtual 360, 3) := by decide +kernel
theorem dX11_run_22 : decode cX11_run 22 = .ok (.aload_n 0, 1) := by decide +kernel
theorem dX11_run_23 : decode cX11_run 23 = .ok (.iconst 1, 1) := by decide +kernel
theorem dX11_run_24 : decode cX11_run 24 = .ok (.putfield 363, 3) := by decide +kernel
theorem dX11_run_27 : decode cX11_run 27 = .ok (.aload_n 0, 1) := by decide +kernel
theorem dX11_run_28 : decode cX11_run 28 = .ok (.aload_n 0, 1) := by decide +kernel
theorem dX11_run_29 : decode cX11_run 29 = .ok (.getfield 323, 3) := by decide +kernel
theorem dX11_run_32 : decode cX11_run 32 = .ok (.putfield 366, 3) := by decide +kernel
theorem dX11_run_35 : decode cX11_run 35 = .ok (.aload_n 0, 1) := by decide +kernel
theorem dX11_run_36 : decode cX11_run 36 = .ok (.aload_n 0, 1) := by decide +kernel
theorem dX11_run_37 : decode cX11_run 37 = .ok (.getfield 326, 3) := by decide +kernel
theorem dX11_run_40 : decode cX11_run 40 = .ok (.putfield 369, 3) := by decide +kernel
theorem dX11_run_43 : decode cX11_run 43 = .ok (.aload_n 0, 1) := by decide +kernel
theorem dX11_run_44 : decode cX11_run 44 = .ok (.aload_n 0, 1) := by decide +kernel
theorem dX11_run_45 : decode cX11_run 45 = .ok (.getfield 311, 3) := by decide +kernel
theorem dX11_run_48 : decode cX11_run 48 = .ok (.putfield 372, 3) := by decide +kernel
theorem dX11_run_51 : decode cX11_run 51 = .ok (.aload_n 0, 1) := by decide +kernel
theorem dX11_run_52 : decode cX11_run 52 = .ok (.aload_n 0, 1) := by decide +kernel
theorem dX11_run_53 : decode cX11_run 53 = .ok (.getfield 317, 3) := by decide +kernel
theorem dX11_run_56 : decode cX11_run 56 = .ok (.putfield 375, 3) := by decide +kernel
theorem dX11_run_59 : decode cX11_run 59 = .ok (.aload_n 0, 1) := by decide +kernel
theorem dX11_run_60 : decode cX11_run 60 = .ok (.getfield 314, 3) := by decide +kernel
theorem dX11_run_63 : decode cX11_run 63 = .ok (.ireturn, 1) := by decide +kernel
theorem dX11_ran_0 : decode cX11_ran 0 = .ok (.aload_n 0, 1) := by decide +kernel
theorem dX11_ran_1 : decode cX11_ran 1 = .ok (.iconst 0, 1) := by decide +kernel
theorem dX11_ran_2 : decode cX11_ran 2 = .ok (.putfield 121, 3) := by decide +kernel
theorem dX11_ran_5 : decode cX11_ran 5 = .ok (.aload_n 0, 1) := by decide +kernel
theorem dX11_ran_6 : decode cX11_ran 6 = .ok (.getfield 363, 3) := by decide +kernel
theorem dX11_ran_9 : decode cX11_ran 9 = .ok (.ifCond .ne 5, 3) := by decide +kernel
theorem dX11_ran_12 : decode cX11_ran 12 = .ok (.iconst (-1), 1) := by decide +kernel
theorem dX11_ran_13 : decode cX11_ran 13 = .ok (.ireturn, 1) := by decide +kernel
theorem dX11_ran_14 : decode cX11_ran 14 = .ok (.iload_n 1, 1) := by decide +kernel
theorem dX11_ran_15 : decode cX11_ran 15 = .ok (.tableswitch 49 0 3 #[29, 34, 39, 44], 29) := by decide +kernel
theorem dX11_ran_44 : decode cX11_ran 44 = .ok (.aload_n 0, 1) := by decide +kernel
theorem dX11_ran_45 : decode cX11_ran 45 = .ok (.getfield 366, 3) := by decide +kernel
theorem dX11_ran_48 : decode cX11_ran 48 = .ok (.ireturn, 1) := by decide +kernel
theorem dX11_ran_49 : decode cX11_ran 49 = .ok (.aload_n 0, 1) := by decide +kernel
theorem dX11_ran_50 : decode cX11_ran 50 = .ok (.getfield 369, 3) := by decide +kernel
theorem dX11_ran_53 : decode cX11_ran 53 = .ok (.ireturn, 1) := by decide +kernel
theorem dX11_ran_54 : decode cX11_ran 54 = .ok (.aload_n 0, 1) := by decide +kernel
theorem dX11_ran_55 : decode cX11_ran 55 = .ok (.getfield 372, 3) := by decide +kernel
theorem dX11_ran_58 : decode cX11_ran 58 = .ok (.ireturn, 1) := by decide +kernel
theorem dX11_ran_59 : decode cX11_ran 59 = .ok (.aload_n 0, 1) := by decide +kernel
theorem dX11_ran_60 : decode cX11_ran 60 = .ok (.getfield 375, 3) := by decide +kernel
theorem dX11_ran_63 : decode cX11_ran 63 = .ok (.ireturn, 1) := by decide +kernel
theorem dX11_ran_64 : decode cX11_ran 64 = .ok (.iconst (-1), 1) := by decide +kernel
theorem dX11_ran_65 : decode cX11_ran 65 = .ok (.ireturn, 1) := by decide +kernel
theorem dX11_tries_0 : decode cX11_tries 0 = .ok (.aload_n 0, 1) := by decide +kernel
theorem dX11_tries_1 : decode cX11_tries 1 = .ok (.iconst 0, 1) := by decide +kernel
theorem dX11_tries_2 : decode cX11_tries 2 = .ok (.putfield 121, 3) := by decide +kernel
theorem dX11_tries_5 : decode cX11_tries 5 = .ok (.iload_n 1, 1) := by decide +kernel
theorem dX11_tries_6 : decode cX11_tries 6 = .ok (.ifCond .lt 13, 3) := by decide +kernel
theorem dX11_tries_9 : decode cX11_tries 9 = .ok (.iload_n 1, 1) := by decide +kernel
theorem dX11_tries_10 : decode cX11_tries 10 = .ok (.aload_n 0, 1) := by decide +kernel
theorem dX11_tries_11 : decode cX11_tries 11 = .ok (.getfield 53, 3) := by decide +kernel
theorem dX11_tries_14 : decode cX11_tries 14 = .ok (.iconst 0, 1) := by decide +kernel
theorem dX11_tries_15 : decode cX11_tries 15 = .ok (.iaload, 1) := by decide +kernel
theorem dX11_tries_16 : decode cX11_tries 16 = .ok (.if_icmp .lt 5, 3) := by decide +kernel
theorem dX11_tries_19 : decode cX11_tries 19 = .ok (.iconst (-1), 1) := by decide +kernel
theorem dX11_tries_20 : decode cX11_tries 20 = .ok (.ireturn, 1) := by decide +kernel
theorem dX11_tries_21 : decode cX11_tries 21 = .ok (.iconst 0, 1) := by decide +kernel
theorem dX11_tries_22 : decode cX11_tries 22 = .ok (.istore_n 2, 1) := by decide +kernel
theorem dX11_tries_23 : decode cX11_tries 23 = .ok (.iload_n 2, 1) := by decide +kernel
theorem dX11_tries_24 : decode cX11_tries 24 = .ok (.iconst 1, 1) := by decide +kernel
theorem dX11_tries_25 : decode cX11_tries 25 = .ok (.aload_n 0, 1) := by decide +kernel
theorem dX11_tries_26 : decode cX11_tries 26 = .ok (.getfield 35, 3) := by decide +kernel
theorem dX11_tries_29 : decode cX11_tries 29 = .ok (.aload_n 0, 1) := by decide +kernel
theorem dX11_tries_30 : decode cX11_tries 30 = .ok (.getfield 83, 3) := by decide +kernel
theorem dX11_tries_33 : decode cX11_tries 33 = .ok (.iaload, 1) := by decide +kernel
theorem dX11_tries_34 : decode cX11_tries 34 = .ok (.ishl, 1) := by decide +kernel
theorem dX11_tries_35 : decode cX11_tries 35 = .ok (.if_icmp .ge 66, 3) := by decide +kernel
theorem dX11_tries_38 : decode cX11_tries 38 = .ok (.iconst 0, 1) := by decide +kernel
theorem dX11_tries_39 : decode cX11_tries 39 = .ok (.istore_n 3, 1) := by decide +kernel
theorem dX11_tries_40 : decode cX11_tries 40 = .ok (.iload_n 3, 1) := by decide +kernel
theorem dX11_tries_41 : decode cX11_tries 41 = .ok (.sipush 256, 3) := by decide +kernel
theorem dX11_tries_44 : decode cX11_tries 44 = .ok (.if_icmp .ge 51, 3) := by decide +kernel
theorem dX11_tries_47 : decode cX11_tries 47 = .ok (.aload_n 0, 1) := by decide +kernel
theorem dX11_tries_48 : decode cX11_tries 48 = .ok (.iload_n 2, 1) := by decide +kernel
theorem dX11_tries_49 : decode cX11_tries 49 = .ok (.iload_n 3, 1) := by decide +kernel
theorem dX11_tries_50 : decode cX11_tries 50 = .ok (.invokevirtual 356, 3) := by decide +kernel
theorem dX11_tries_53 : decode cX11_tries 53 = .ok (.ifCond .ne 6, 3) := by decide +kernel
theorem dX11_tries_56 : decode cX11_tries 56 = .ok (.goto 33, 3) := by decide +kernel
theorem dX11_tries_59 : decode cX11_tries 59 = .ok (.aload_n 0, 1) := by decide +kernel
theorem dX11_tries_60 : decode cX11_tries 60 = .ok (.iload_n 2, 1) := by decide +kernel
theorem dX11_tries_61 : decode cX11_tries 61 = .ok (.iload_n 3, 1) := by decide +kernel
theorem dX11_tries_62 : decode cX11_tries 62 = .ok (.invokevirtual 360, 3) := by decide +kernel
theorem dX11_tries_65 : decode cX11_tries 65 = .ok (.aload_n 0, 1) := by decide +kernel
theorem dX11_tries_66 : decode cX11_tries 66 = .ok (.getfield 314, 3) := by decide +kernel
theorem dX11_tries_69 : decode cX11_tries 69 = .ok (.iconst 2, 1) := by decide +kernel
theorem dX11_tries_70 : decode cX11_tries 70 = .ok (.if_icmp .ne 19, 3) := by decide +kernel
theorem dX11_tries_73 : decode cX11_tries 73 = .ok (.aload_n 0, 1) := by decide +kernel
theorem dX11_tries_74 : decode cX11_tries 74 = .ok (.getfield 326, 3) := by decide +kernel
theorem dX11_tries_77 : decode cX11_tries 77 = .ok (.iload_n 1, 1) := by decide +kernel
theorem dX11_tries_78 : decode cX11_tries 78 = .ok (.if_icmp .ne 11, 3) := by decide +kernel
theorem dX11_tries_81 : decode cX11_tries 81 = .ok (.sipush 256, 3) := by decide +kernel
theorem dX11_tries_84 : decode cX11_tries 84 = .ok (.iload_n 2, 1) := by decide +kernel
theorem dX11_tries_85 : decode cX11_tries 85 = .ok (.imul, 1) := by decide +kernel
theorem dX11_tries_86 : decode cX11_tries 86 = .ok (.iload_n 3, 1) := by decide +kernel
theorem dX11_tries_87 : decode cX11_tries 87 = .ok (.iadd, 1) := by decide +kernel
theorem dX11_tries_88 : decode cX11_tries 88 = .ok (.ireturn, 1) := by decide +kernel
theorem dX11_tries_89 : decode cX11_tries 89 = .ok (.iinc 3 1, 3) := by decide +kernel
theorem dX11_tries_92 : decode cX11_tries 92 = .ok (.goto (-52), 3) := by decide +kernel
theorem dX11_tries_95 : decode cX11_tries 95 = .ok (.iinc 2 1, 3) := by decide +kernel
theorem dX11_tries_98 : decode cX11_tries 98 = .ok (.goto (-75), 3) := by decide +kernel
theorem dX11_tries_101 : decode cX11_tries 101 = .ok (.iconst (-1), 1) := by decide +kernel
theorem dX11_tries_102 : decode cX11_tries 102 = .ok (.ireturn, 1) := by decide +kernel
theorem dX11_price_0 : decode cX11_price 0 = .ok (.aload_n 0, 1) := by decide +kernel
theorem dX11_price_1 : decode cX11_price 1 = .ok (.iconst 0, 1) := by decide +kernel
theorem dX11_price_2 : decode cX11_price 2 = .ok (.putfield 121, 3) := by decide +kernel
theorem dX11_price_5 : decode cX11_price 5 = .ok (.iload_n 1, 1) := by decide +kernel
theorem dX11_price_6 : decode cX11_price 6 = .ok (.ifCond .lt 19, 3) := by decide +kernel
theorem dX11_price_9 : decode cX11_price 9 = .ok (.iload_n 1, 1) := by decide +kernel
theorem dX11_price_10 : decode cX11_price 10 = .ok (.iconst 3, 1) := by decide +kernel
theorem dX11_price_11 : decode cX11_price 11 = .ok (.if_icmp .gt 14, 3) := by decide +kernel
theorem dX11_price_14 : decode cX11_price 14 = .ok (.iload_n 2, 1) := by decide +kernel
theorem dX11_price_15 : decode cX11_price 15 = .ok (.iconst 1, 1) := by decide +kernel
theorem dX11_price_16 : decode cX11_price 16 = .ok (.if_icmp .lt 9, 3) := by decide +kernel
theorem dX11_price_19 : decode cX11_price 19 = .ok (.iload_n 2, 1) := by decide +kernel
theorem dX11_price_20 : decode cX11_price 20 = .ok (.bipush 99, 2) := by decide +kernel
theorem dX11_price_22 : decode cX11_price 22 = .ok (.if_icmp .le 5, 3) := by decide +kernel
theorem dX11_price_25 : decode cX11_price 25 = .ok (.iconst 0, 1) := by decide +kernel
theorem dX11_price_26 : decode cX11_price 26 = .ok (.ireturn, 1) := by decide +kernel
theorem dX11_price_27 : decode cX11_price 27 = .ok (.aload_n 0, 1) := by decide +kernel
theorem dX11_price_28 : decode cX11_price 28 = .ok (.getfield 112, 3) := by decide +kernel
theorem dX11_price_31 : decode cX11_price 31 = .ok (.iload_n 1, 1) := by decide +kernel
theorem dX11_price_32 : decode cX11_price 32 = .ok (.iload_n 2, 1) := by decide +kernel
theorem dX11_price_33 : decode cX11_price 33 = .ok (.iastore, 1) := by decide +kernel
theorem dX11_price_34 : decode cX11_price 34 = .ok (.iconst 1, 1) := by decide +kernel
theorem dX11_price_35 : decode cX11_price 35 = .ok (.ireturn, 1) := by decide +kernel
theorem dX11_guards_0 : decode cX11_guards 0 = .ok (.iconst 0, 1) := by decide +kernel
theorem dX11_guards_1 : decode cX11_guards 1 = .ok (.istore_n 1, 1) := by decide +kernel
theorem dX11_guards_2 : decode cX11_guards 2 = .ok (.iconst 0, 1) := by decide +kernel
theorem dX11_guards_3 : decode cX11_guards 3 = .ok (.istore_n 2, 1) := by decide +kernel
theorem dX11_guards_4 : decode cX11_guards 4 = .ok (.iload_n 2, 1) := by decide +kernel
theorem dX11_guards_5 : decode cX11_guards 5 = .ok (.aload_n 0, 1) := by decide +kernel
theorem dX11_guards_6 : decode cX11_guards 6 = .ok (.getfield 53, 3) := by decide +kernel
theorem dX11_guards_9 : decode cX11_guards 9 = .ok (.iconst 0, 1) := by decide +kernel
theorem dX11_guards_10 : decode cX11_guards 10 = .ok (.iaload, 1) := by decide +kernel
theorem dX11_guards_11 : decode cX11_guards 11 = .ok (.if_icmp .ge 27, 3) := by decide +kernel
theorem dX11_guards_14 : decode cX11_guards 14 = .ok (.iload_n 1, 1) := by decide +kernel
theorem dX11_guards_15 : decode cX11_guards 15 = .ok (.aload_n 0, 1) := by decide +kernel
theorem dX11_guards_16 : decode cX11_guards 16 = .ok (.iload_n 2, 1) := by decide +kernel
theorem dX11_guards_17 : decode cX11_guards 17 = .ok (.invokevirtual 305, 3) := by decide +kernel
theorem dX11_guards_20 : decode cX11_guards 20 = .ok (.iconst 1, 1) := by decide +kernel
theorem dX11_guards_21 : decode cX11_guards 21 = .ok (.iand, 1) := by decide +kernel
theorem dX11_guards_22 : decode cX11_guards 22 = .ok (.ifCond .eq 7, 3) := by decide +kernel
theorem dX11_guards_25 : decode cX11_guards 25 = .ok (.iconst 1, 1) := by decide +kernel
theorem dX11_guards_26 : decode cX11_guards 26 = .ok (.goto 4, 3) := by decide +kernel
theorem dX11_guards_29 : decode cX11_guards 29 = .ok (.iconst 0, 1) := by decide +kernel
theorem dX11_guards_30 : decode cX11_guards 30 = .ok (.iadd, 1) := by decide +kernel
theorem dX11_guards_31 : decode cX11_guards 31 = .ok (.istore_n 1, 1) := by decide +kernel
theorem dX11_guards_32 : decode cX11_guards 32 = .ok (.iinc 2 1, 3) := by decide +kernel
theorem dX11_guards_35 : decode cX11_guards 35 = .ok (.goto (-31), 3) := by decide +kernel
theorem dX11_guards_38 : decode cX11_guards 38 = .ok (.iload_n 1, 1) := by decide +kernel
theorem dX11_guards_39 : decode cX11_guards 39 = .ok (.ireturn, 1) := by decide +kernel
theorem dX11_kindOf_0 : decode cX11_kindOf 0 = .ok (.iload_n 0, 1) := by decide +kernel
theorem dX11_kindOf_1 : decode cX11_kindOf 1 = .ok (.bipush 32, 2) := by decide +kernel
theorem dX11_kindOf_3 : decode cX11_kindOf 3 = .ok (.if_icmp .ge 7, 3) := by decide +kernel
theorem dX11_kindOf_6 : decode cX11_kindOf 6 = .ok (.iconst 0, 1) := by decide +kernel
theorem dX11_kindOf_7 : decode cX11_kindOf 7 = .ok (.goto 14, 3) := by decide +kernel
theorem dX11_kindOf_10 : decode cX11_kindOf 10 = .ok (.iload_n 0, 1) := by decide +kernel
theorem dX11_kindOf_11 : decode cX11_kindOf 11 = .ok (.bipush 40, 2) := by decide +kernel
theorem dX11_kindOf_13 : decode cX11_kindOf 13 = .ok (.if_icmp .ge 7, 3) := by decide +kernel
theorem dX11_kindOf_16 : decode cX11_kindOf 16 = .ok (.iconst 1, 1) := by decide +kernel
theorem dX11_kindOf_17 : decode cX11_kindOf 17 = .ok (.goto 4, 3) := by decide +kernel
theorem dX11_kindOf_20 : decode cX11_kindOf 20 = .ok (.iconst 2, 1) := by decide +kernel
theorem dX11_kindOf_21 : decode cX11_kindOf 21 = .ok (.ireturn, 1) := by decide +kernel
theorem dX11_mend_0 : decode cX11_mend 0 = .ok (.aload_n 0, 1) := by decide +kernel
theorem dX11_mend_1 : decode cX11_mend 1 = .ok (.iconst 0, 1) := by decide +kernel
theorem dX11_mend_2 : decode cX11_mend 2 = .ok (.putfield 121, 3) := by decide +kernel
theorem dX11_mend_5 : decode cX11_mend 5 = .ok (.aload_n 0, 1) := by decide +kernel
theorem dX11_mend_6 : decode cX11_mend 6 = .ok (.getfield 83, 3) := by decide +kernel
theorem dX11_mend_9 : decode cX11_mend 9 = .ok (.iconst (-1), 1) := by decide +kernel
theorem dX11_mend_10 : decode cX11_mend 10 = .ok (.if_icmp .ne 5, 3) := by decide +kernel
theorem dX11_mend_13 : decode cX11_mend 13 = .ok (.iconst (-1), 1) := by decide +kernel
theorem dX11_mend_14 : decode cX11_mend 14 = .ok (.ireturn, 1) := by decide +kernel
theorem dX11_mend_15 : decode cX11_mend 15 = .ok (.aload_n 0, 1) := by decide +kernel
theorem dX11_mend_16 : decode cX11_mend 16 = .ok (.invokevirtual 299, 3) := by decide +kernel
theorem dX11_mend_19 : decode cX11_mend 19 = .ok (.aload_n 0, 1) := by decide +kernel
theorem dX11_mend_20 : decode cX11_mend 20 = .ok (.invokevirtual 302, 3) := by decide +kernel
theorem dX11_mend_23 : decode cX11_mend 23 = .ok (.aload_n 0, 1) := by decide +kernel
theorem dX11_mend_24 : decode cX11_mend 24 = .ok (.iconst 0, 1) := by decide +kernel
theorem dX11_mend_25 : decode cX11_mend 25 = .ok (.putfield 378, 3) := by decide +kernel
theorem dX11_mend_28 : decode cX11_mend 28 = .ok (.iconst 0, 1) := by decide +kernel
theorem dX11_mend_29 : decode cX11_mend 29 = .ok (.istore_n 1, 1) := by decide +kernel
theorem dX11_mend_30 : decode cX11_mend 30 = .ok (.iload_n 1, 1) := by decide +kernel
theorem dX11_mend_31 : decode cX11_mend 31 = .ok (.bipush 42, 2) := by decide +kernel
theorem dX11_mend_33 : decode cX11_mend 33 = .ok (.if_icmp .ge 67, 3) := by decide +kernel
theorem dX11_mend_36 : decode cX11_mend 36 = .ok (.aload_n 0, 1) := by decide +kernel
theorem dX11_mend_37 : decode cX11_mend 37 = .ok (.getfield 378, 3) := by decide +kernel
theorem dX11_mend_40 : decode cX11_mend 40 = .ok (.bipush 10, 2) := by decide +kernel
theorem dX11_mend_42 : decode cX11_mend 42 = .ok (.if_icmp .ge 58, 3) := by decide +kernel
theorem dX11_mend_45 : decode cX11_mend 45 = .ok (.aload_n 0, 1) := by decide +kernel
theorem dX11_mend_46 : decode cX11_mend 46 = .ok (.getfield 93, 3) := by decide +kernel
theorem dX11_mend_49 : decode cX11_mend 49 = .ok (.iload_n 1, 1) := by decide +kernel
theorem dX11_mend_50 : decode cX11_mend 50 = .ok (.iaload, 1) := by decide +kernel
theorem dX11_mend_51 : decode cX11_mend 51 = .ok (.iconst 3, 1) := by decide +kernel
theorem dX11_mend_52 : decode cX11_mend 52 = .ok (.if_icmp .ne 42, 3) := by decide +kernel
theorem dX11_mend_55 : decode cX11_mend 55 = .ok (.iload_n 1, 1) := by decide +kernel
theorem dX11_mend_56 : decode cX11_mend 56 = .ok (.bipush 32, 2) := by decide +kernel
theorem dX11_mend_58 : decode cX11_mend 58 = .ok (.if_icmp .ge 16, 3) := by decide +kernel
theorem dX11_mend_61 : decode cX11_mend 61 = .ok (.iload_n 1, 1) := by decide +kernel
theorem dX11_mend_62 : decode cX11_mend 62 = .ok (.iconst 4, 1) := by decide +kernel
theorem dX11_mend_63 : decode cX11_mend 63 = .ok (.idiv, 1) := by decide +kernel
theorem dX11_mend_64 : decode cX11_mend 64 = .ok (.aload_n 0, 1) := by decide +kernel
theorem dX11_mend_65 : decode cX11_mend 65 = .ok (.getfield 83, 3) := by decide +kernel
theorem dX11_mend_68 : decode cX11_mend 68 = .ok (.if_icmp .ne 6, 3) := by decide +kernel
theorem dX11_mend_71 : decode cX11_mend 71 = .ok (.goto 23, 3) := by decide +kernel
theorem dX11_mend_74 : decode cX11_mend 74 = .ok (.aload_n 0, 1) := by decide +kernel
theorem dX11_mend_75 : decode cX11_mend 75 = .ok (.getfield 115, 3) := by decide +kernel
theorem dX11_mend_78 : decode cX11_mend 78 = .ok (.aload_n 0, 1) := by decide +kernel
theorem dX11_mend_79 : decode cX11_mend 79 = .ok (.getfield 378, 3) := by decide +kernel
theorem dX11_mend_82 : decode cX11_mend 82 = .ok (.iload_n 1, 1) := by decide +kernel
theorem dX11_mend_83 : decode cX11_mend 83 = .ok (.iastore, 1) := by decide +kernel
theorem dX11_mend_84 : decode cX11_mend 84 = .ok (.aload_n 0, 1) := by decide +kernel
theorem dX11_mend_85 : decode cX11_mend 85 = .ok (.dup, 1) := by decide +kernel
theorem dX11_mend_86 : decode cX11_mend 86 = .ok (.getfield 378, 3) := by decide +kernel
theorem dX11_mend_89 : decode cX11_mend 89 = .ok (.iconst 1, 1) := by decide +kernel
theorem dX11_mend_90 : decode cX11_mend 90 = .ok (.iadd, 1) := by decide +kernel
theorem dX11_mend_91 : decode cX11_mend 91 = .ok (.putfield 378, 3) := by decide +kernel
theorem dX11_mend_94 : decode cX11_mend 94 = .ok (.iinc 1 1, 3) := by decide +kernel
theorem dX11_mend_97 : decode cX11_mend 97 = .ok (.goto (-67), 3) := by decide +kernel
theorem dX11_mend_100 : decode cX11_mend 100 = .ok (.iconst (-1), 1) := by decide +kernel
theorem dX11_mend_101 : decode cX11_mend 101 = .ok (.istore_n 1, 1) := by decide +kernel
theorem dX11_mend_102 : decode cX11_mend 102 = .ok (.iconst 0, 1) := by decide +kernel
theorem dX11_mend_103 : decode cX11_mend 103 = .ok (.istore_n 2, 1) := by decide +kernel
theorem dX11_mend_104 : decode cX11_mend 104 = .ok (.iconst 0, 1) := by decide +kernel
theorem dX11_mend_105 : decode cX11_mend 105 = .ok (.istore_n 3, 1) := by decide +kernel
theorem dX11_mend_106 : decode cX11_mend 106 = .ok (.iload_n 3, 1) := by decide +kernel
theorem dX11_mend_107 : decode cX11_mend 107 = .ok (.iconst 1, 1) := by decide +kernel
theorem dX11_mend_108 : decode cX11_mend 108 = .ok (.aload_n 0, 1) := by decide +kernel
theorem dX11_mend_109 : decode cX11_mend 109 = .ok (.getfield 378, 3) := by decide +kernel
theorem dX11_mend_112 : decode cX11_mend 112 = .ok (.ishl, 1) := by decide +kernel
theorem dX11_mend_113 : decode cX11_mend 113 = .ok (.if_icmp .ge 140, 3) := by decide +kernel
theorem dX11_mend_116 : decode cX11_mend 116 = .ok (.aload_n 0, 1) := by decide +kernel
theorem dX11_mend_117 : decode cX11_mend 117 = .ok (.invokevirtual 299, 3) := by decide +kernel
theorem dX11_mend_120 : decode cX11_mend 120 = .ok (.iconst 0, 1) := by decide +kernel
theorem dX11_mend_121 : decode cX11_mend 121 = .ok (.istore 4, 2) := by decide +kernel
theorem dX11_mend_123 : decode cX11_mend 123 = .ok (.iconst 0, 1) := by decide +kernel
theorem dX11_mend_124 : decode cX11_mend 124 = .ok (.istore 5, 2) := by decide +kernel
theorem dX11_mend_126 : decode cX11_mend 126 = .ok (.iload 5, 2) := by decide +kernel
theorem dX11_mend_128 : decode cX11_mend 128 = .ok (.aload_n 0, 1) := by decide +kernel
theorem dX11_mend_129 : decode cX11_mend 129 = .ok (.getfield 378, 3) := by decide +kernel
theorem dX11_mend_132 : decode cX11_mend 132 = .ok (.if_icmp .ge 54, 3) := by decide +kernel
theorem dX11_mend_135 : decode cX11_mend 135 = .ok (.iload_n 3, 1) := by decide +kernel
theorem dX11_mend_136 : decode cX11_mend 136 = .ok (.iload 5, 2) := by decide +kernel
theorem dX11_mend_138 : decode cX11_mend 138 = .ok (.ishr, 1) := by decide +kernel
theorem dX11_mend_139 : decode cX11_mend 139 = .ok (.iconst 1, 1) := by decide +kernel
theorem dX11_mend_140 : decode cX11_mend 140 = .ok (.iand, 1) := by decide +kernel
theorem dX11_mend_141 : decode cX11_mend 141 = .ok (.ifCond .ne 6, 3) := by decide +kernel
theorem dX11_mend_144 : decode cX11_mend 144 = .ok (.goto 36, 3) := by decide +kernel
theorem dX11_mend_147 : decode cX11_mend 147 = .ok (.aload_n 0, 1) := by decide +kernel
theorem dX11_mend_148 : decode cX11_mend 148 = .ok (.getfield 96, 3) := by decide +kernel
theorem dX11_mend_151 : decode cX11_mend 151 = .ok (.aload_n 0, 1) := by decide +kernel
theorem dX11_mend_152 : decode cX11_mend 152 = .ok (.getfield 115, 3) := by decide +kernel
theorem dX11_mend_155 : decode cX11_mend 155 = .ok (.iload 5, 2) := by decide +kernel
theorem dX11_mend_157 : decode cX11_mend 157 = .ok (.iaload, 1) := by decide +kernel
theorem dX11_mend_158 : decode cX11_mend 158 = .ok (.iconst 1, 1) := by decide +kernel
theorem dX11_mend_159 : decode cX11_mend 159 = .ok (.bastore, 1) := by decide +kernel
theorem dX11_mend_160 : decode cX11_mend 160 = .ok (.iload 4, 2) := by decide +kernel
theorem dX11_mend_162 : decode cX11_mend 162 = .ok (.aload_n 0, 1) := by decide +kernel
theorem dX11_mend_163 : decode cX11_mend 163 = .ok (.getfield 112, 3) := by decide +kernel
theorem dX11_mend_166 : decode cX11_mend 166 = .ok (.aload_n 0, 1) := by decide +kernel
theorem dX11_mend_167 : decode cX11_mend 167 = .ok (.getfield 115, 3) := by decide +kernel
theorem dX11_mend_170 : decode cX11_mend 170 = .ok (.iload 5, 2) := by decide +kernel
theorem dX11_mend_172 : decode cX11_mend 172 = .ok (.iaload, 1) := by decide +kernel
theorem dX11_mend_173 : decode cX11_mend 173 = .ok (.invokestatic 381, 3) := by decide +kernel
theorem dX11_mend_176 : decode cX11_mend 176 = .ok (.iaload, 1) := by decide +kernel
theorem dX11_mend_177 : decode cX11_mend 177 = .ok (.iadd, 1) := by decide +kernel
theorem dX11_mend_178 : decode cX11_mend 178 = .ok (.istore 4, 2) := by decide +kernel
theorem dX11_mend_180 : decode cX11_mend 180 = .ok (.iinc 5 1, 3) := by decide +kernel
theorem dX11_mend_183 : decode cX11_mend 183 = .ok (.goto (-57), 3) := by decide +kernel
theorem dX11_mend_186 : decode cX11_mend 186 = .ok (.iload_n 1, 1) := by decide +kernel
theorem dX11_mend_187 : decode cX11_mend 187 = .ok (.iconst (-1), 1) := by decide +kernel
theorem dX11_mend_188 : decode cX11_mend 188 = .ok (.if_icmp .eq 12, 3) := by decide +kernel
theorem dX11_mend_191 : decode cX11_mend 191 = .ok (.iload 4, 2) := by decide +kernel
theorem dX11_mend_193 : decode cX11_mend 193 = .ok (.iload_n 1, 1) := by decide +kernel
theorem dX11_mend_194 : decode cX11_mend 194 = .ok (.if_icmp .lt 6, 3) := by decide +kernel
theorem dX11_mend_197 : decode cX11_mend 197 = .ok (.goto 50, 3) := by decide +kernel
theorem dX11_mend_200 : decode cX11_mend 200 = .ok (.aload_n 0, 1) := by decide +kernel
theorem dX11_mend_201 : decode cX11_mend 201 = .ok (.invokevirtual 302, 3) := by decide +kernel
theorem dX11_mend_204 : decode cX11_mend 204 = .ok (.iload 4, 2) := by decide +kernel
theorem dX11_mend_206 : decode cX11_mend 206 = .ok (.aload_n 0, 1) := by decide +kernel
theorem dX11_mend_207 : decode cX11_mend 207 = .ok (.getfield 112, 3) := by decide +kernel
theorem dX11_mend_210 : decode cX11_mend 210 = .ok (.iconst 3, 1) := by decide +kernel
theorem dX11_mend_211 : decode cX11_mend 211 = .ok (.iaload, 1) := by decide +kernel
theorem dX11_mend_212 : decode cX11_mend 212 = .ok (.aload_n 0, 1) := by decide +kernel
theorem dX11_mend_213 : decode cX11_mend 213 = .ok (.invokevirtual 384, 3) := by decide +kernel
theorem dX11_mend_216 : decode cX11_mend 216 = .ok (.imul, 1) := by decide +kernel
theorem dX11_mend_217 : decode cX11_mend 217 = .ok (.iadd, 1) := by decide +kernel
theorem dX11_mend_218 : decode cX11_mend 218 = .ok (.istore 4, 2) := by decide +kernel
theorem dX11_mend_220 : decode cX11_mend 220 = .ok (.iload_n 1, 1) := by decide +kernel
theorem dX11_mend_221 : decode cX11_mend 221 = .ok (.iconst (-1), 1) := by decide +kernel
theorem dX11_mend_222 : decode cX11_mend 222 = .ok (.if_icmp .eq 12, 3) := by decide +kernel
theorem dX11_mend_225 : decode cX11_mend 225 = .ok (.iload 4, 2) := by decide +kernel
theorem dX11_mend_227 : decode cX11_mend 227 = .ok (.iload_n 1, 1) := by decide +kernel
theorem dX11_mend_228 : decode cX11_mend 228 = .ok (.if_icmp .lt 6, 3) := by decide +kernel
theorem dX11_mend_231 : decode cX11_mend 231 = .ok (.goto 16, 3) := by decide +kernel
theorem dX11_mend_234 : decode cX11_mend 234 = .ok (.iload 4, 2) := by decide +kernel
theorem dX11_mend_236 : decode cX11_mend 236 = .ok (.istore_n 1, 1) := by decide +kernel
theorem dX11_mend_237 : decode cX11_mend 237 = .ok (.iload_n 3, 1) := by decide +kernel
theorem dX11_mend_238 : decode cX11_mend 238 = .ok (.istore_n 2, 1) := by decide +kernel
theorem dX11_mend_239 : decode cX11_mend 239 = .ok (.aload_n 0, 1) := by decide +kernel
theorem dX11_mend_240 : decode cX11_mend 240 = .ok (.aload_n 0, 1) := by decide +kernel
theorem dX11_mend_241 : decode cX11_mend 241 = .ok (.invokevirtual 384, 3) := by decide +kernel
theorem dX11_mend_244 : decode cX11_mend 244 = .ok (.putfield 387, 3) := by decide +kernel
theorem dX11_mend_247 : decode cX11_mend 247 = .ok (.iinc 3 1, 3) := by decide +kernel
theorem dX11_mend_250 : decode cX11_mend 250 = .ok (.goto (-144), 3) := by decide +kernel
theorem dX11_mend_253 : decode cX11_mend 253 = .ok (.aload_n 0, 1) := by decide +kernel
theorem dX11_mend_254 : decode cX11_mend 254 = .ok (.iconst 0, 1) := by decide +kernel
theorem dX11_mend_255 : decode cX11_mend 255 = .ok (.putfield 390, 3) := by decide +kernel
theorem dX11_mend_258 : decode cX11_mend 258 = .ok (.iconst 0, 1) := by decide +kernel
theorem dX11_mend_259 : decode cX11_mend 259 = .ok (.istore_n 3, 1) := by decide +kernel
theorem dX11_mend_260 : decode cX11_mend 260 = .ok (.iload_n 3, 1) := by decide +kernel
theorem dX11_mend_261 : decode cX11_mend 261 = .ok (.aload_n 0, 1) := by decide +kernel
theorem dX11_mend_262 : decode cX11_mend 262 = .ok (.getfield 378, 3) := by decide +kernel
theorem dX11_mend_265 : decode cX11_mend 265 = .ok (.if_icmp .ge 45, 3) := by decide +kernel
theorem dX11_mend_268 : decode cX11_mend 268 = .ok (.iload_n 2, 1) := by decide +kernel
theorem dX11_mend_269 : decode cX11_mend 269 = .ok (.iload_n 3, 1) := by decide +kernel
theorem dX11_mend_270 : decode cX11_mend 270 = .ok (.ishr, 1) := by decide +kernel
theorem dX11_mend_271 : decode cX11_mend 271 = .ok (.iconst 1, 1) := by decide +kernel
theorem dX11_mend_272 : decode cX11_mend 272 = .ok (.iand, 1) := by decide +kernel
theorem dX11_mend_273 : decode cX11_mend 273 = .ok (.ifCond .ne 6, 3) := by decide +kernel
theorem dX11_mend_276 : decode cX11_mend 276 = .ok (.goto 28, 3) := by decide +kernel
theorem dX11_mend_279 : decode cX11_mend 279 = .ok (.aload_n 0, 1) := by decide +kernel
theorem dX11_mend_280 : decode cX11_mend 280 = .ok (.getfield 118, 3) := by decide +kernel
theorem dX11_mend_283 : decode cX11_mend 283 = .ok (.aload_n 0, 1) := by decide +kernel
theorem dX11_mend_284 : decode cX11_mend 284 = .ok (.getfield 390, 3) := by decide +kernel
theorem dX11_mend_287 : decode cX11_mend 287 = .ok (.aload_n 0, 1) := by decide +kernel
theorem dX11_mend_288 : decode cX11_mend 288 = .ok (.getfield 115, 3) := by decide +kernel
theorem dX11_mend_291 : decode cX11_mend 291 = .ok (.iload_n 3, 1) := by decide +kernel
theorem dX11_mend_292 : decode cX11_mend 292 = .ok (.iaload, 1) := by decide +kernel
theorem dX11_mend_293 : decode cX11_mend 293 = .ok (.iastore, 1) := by decide +kernel
theorem dX11_mend_294 : decode cX11_mend 294 = .ok (.aload_n 0, 1) := by decide +kernel
theorem dX11_mend_295 : decode cX11_mend 295 = .ok (.dup, 1) := by decide +kernel
theorem dX11_mend_296 : decode cX11_mend 296 = .ok (.getfield 390, 3) := by decide +kernel
theorem dX11_mend_299 : decode cX11_mend 299 = .ok (.iconst 1, 1) := by decide +kernel
theorem dX11_mend_300 : decode cX11_mend 300 = .ok (.iadd, 1) := by decide +kernel
theorem dX11_mend_301 : decode cX11_mend 301 = .ok (.putfield 390, 3) := by decide +kernel
theorem dX11_mend_304 : decode cX11_mend 304 = .ok (.iinc 3 1, 3) := by decide +kernel
theorem dX11_mend_307 : decode cX11_mend 307 = .ok (.goto (-47), 3) := by decide +kernel
theorem dX11_mend_310 : decode cX11_mend 310 = .ok (.aload_n 0, 1) := by decide +kernel
theorem dX11_mend_311 : decode cX11_mend 311 = .ok (.iconst 1, 1) := by decide +kernel
theorem dX11_mend_312 : decode cX11_mend 312 = .ok (.putfield 393, 3) := by decide +kernel
theorem dX11_mend_315 : decode cX11_mend 315 = .ok (.iload_n 1, 1) := by decide +kernel
theorem dX11_mend_316 : decode cX11_mend 316 = .ok (.ireturn, 1) := by decide +kernel
theorem dX11_mended_0 : decode cX11_mended 0 = .ok (.aload_n 0, 1) := by decide +kernel
theorem dX11_mended_1 : decode cX11_mended 1 = .ok (.iconst 0, 1) := by decide +kernel
theorem dX11_mended_2 : decode cX11_mended 2 = .ok (.putfield 121, 3) := by decide +kernel
theorem dX11_mended_5 : decode cX11_mended 5 = .ok (.aload_n 0, 1) := by decide +kernel
theorem dX11_mended_6 : decode cX11_mended 6 = .ok (.getfield 393, 3) := by decide +kernel
theorem dX11_mended_9 : decode cX11_mended 9 = .ok (.ifCond .eq 17, 3) := by decide +kernel
theorem dX11_mended_12 : decode cX11_mended 12 = .ok (.iload_n 1, 1) := by decide +kernel
theorem dX11_mended_13 : decode cX11_mended 13 = .ok (.ifCond .lt 13, 3) := by decide +kernel
theorem dX11_mended_16 : decode cX11_mended 16 = .ok (.iload_n 1, 1) := by decide +kernel
theorem dX11_mended_17 : decode cX11_mended 17 = .ok (.iconst 2, 1) := by decide +kernel
theorem dX11_mended_18 : decode cX11_mended 18 = .ok (.aload_n 0, 1) := by decide +kernel
theorem dX11_mended_19 : decode cX11_mended 19 = .ok (.getfield 390, 3) := by decide +kernel
theorem dX11_mended_22 : decode cX11_mended 22 = .ok (.iadd, 1) := by decide +kernel
theorem dX11_mended_23 : decode cX11_mended 23 = .ok (.if_icmp .lt 5, 3) := by decide +kernel
theorem dX11_mended_26 : decode cX11_mended 26 = .ok (.iconst (-1), 1) := by decide +kernel
theorem dX11_mended_27 : decode cX11_mended 27 = .ok (.ireturn, 1) := by decide +kernel
theorem dX11_mended_28 : decode cX11_mended 28 = .ok (.iload_n 1, 1) := by decide +kernel
theorem dX11_mended_29 : decode cX11_mended 29 = .ok (.iconst 2, 1) := by decide +kernel
theorem dX11_mended_30 : decode cX11_mended 30 = .ok (.if_icmp .ge 19, 3) := by decide +kernel
theorem dX11_mended_33 : decode cX11_mended 33 = .ok (.iload_n 1, 1) := by decide +kernel
theorem dX11_mended_34 : decode cX11_mended 34 = .ok (.ifCond .ne 10, 3) := by decide +kernel
theorem dX11_mended_37 : decode cX11_mended 37 = .ok (.aload_n 0, 1) := by decide +kernel
theorem dX11_mended_38 : decode cX11_mended 38 = .ok (.getfield 390, 3) := by decide +kernel
theorem dX11_mended_41 : decode cX11_mended 41 = .ok (.goto 7, 3) := by decide +kernel
theorem dX11_mended_44 : decode cX11_mended 44 = .ok (.aload_n 0, 1) := by decide +kernel
theorem dX11_mended_45 : decode cX11_mended 45 = .ok (.getfield 387, 3) := by decide +kernel
theorem dX11_mended_48 : decode cX11_mended 48 = .ok (.ireturn, 1) := by decide +kernel
theorem dX11_mended_49 : decode cX11_mended 49 = .ok (.aload_n 0, 1) := by decide +kernel
theorem dX11_mended_50 : decode cX11_mended 50 = .ok (.getfield 118, 3) := by decide +kernel
theorem dX11_mended_53 : decode cX11_mended 53 = .ok (.iload_n 1, 1) := by decide +kernel
theorem dX11_mended_54 : decode cX11_mended 54 = .ok (.iconst 2, 1) := by decide +kernel
theorem dX11_mended_55 : decode cX11_mended 55 = .ok (.isub, 1) := by decide +kernel
theorem dX11_mended_56 : decode cX11_mended 56 = .ok (.iaload, 1) := by decide +kernel
theorem dX11_mended_57 : decode cX11_mended 57 = .ok (.istore_n 2, 1) := by decide +kernel
theorem dX11_mended_58 : decode cX11_mended 58 = .ok (.iload_n 2, 1) := by decide +kernel
theorem dX11_mended_59 : decode cX11_mended 59 = .ok (.bipush 32, 2) := by decide +kernel
theorem dX11_mended_61 : decode cX11_mended 61 = .ok (.if_icmp .ge 16, 3) := by decide +kernel
theorem dX11_mended_64 : decode cX11_mended 64 = .ok (.bipush 10, 2) := by decide +kernel
theorem dX11_mended_66 : decode cX11_mended 66 = .ok (.iload_n 2, 1) := by decide +kernel
theorem dX11_mended_67 : decode cX11_mended 67 = .ok (.iconst 4, 1) := by decide +kernel
theorem dX11_mended_68 : decode cX11_mended 68 = .ok (.idiv, 1) := by decide +kernel
theorem dX11_mended_69 : decode cX11_mended 69 = .ok (.imul, 1) := by decide +kernel
theorem dX11_mended_70 : decode cX11_mended 70 = .ok (.iload_n 2, 1) := by decide +kernel
theorem dX11_mended_71 : decode cX11_mended 71 = .ok (.iconst 4, 1) := by decide +kernel
theorem dX11_mended_72 : decode cX11_mended 72 = .ok (.irem, 1) := by decide +kernel
theorem dX11_mended_73 : decode cX11_mended 73 = .ok (.iadd, 1) := by decide +kernel
theorem dX11_mended_74 : decode cX11_mended 74 = .ok (.goto 30, 3) := by decide +kernel
theorem dX11_mended_77 : decode cX11_mended 77 = .ok (.iload_n 2, 1) := by decide +kernel
theorem dX11_mended_78 : decode cX11_mended 78 = .ok (.bipush 40, 2) := by decide +kernel
theorem dX11_mended_80 : decode cX11_mended 80 = .ok (.if_icmp .ge 16, 3) := by decide +kernel
theorem dX11_mended_83 : decode cX11_mended 83 = .ok (.bipush 100, 2) := by decide +kernel
theorem dX11_mended_85 : decode cX11_mended 85 = .ok (.bipush 10, 2) := by decide +kernel
theorem dX11_mended_87 : decode cX11_mended 87 = .ok (.iload_n 2, 1) := by decide +kernel
theorem dX11_mended_88 : decode cX11_mended 88 = .ok (.bipush 32, 2) := by decide +kernel
theorem dX11_mended_90 : decode cX11_mended 90 = .ok (.isub, 1) := by decide +kernel
theorem dX11_mended_91 : decode cX11_mended 91 = .ok (.imul, 1) := by decide +kernel
theorem dX11_mended_92 : decode cX11_mended 92 = .ok (.iadd, 1) := by decide +kernel
theorem dX11_mended_93 : decode cX11_mended 93 = .ok (.goto 11, 3) := by decide +kernel
theorem dX11_mended_96 : decode cX11_mended 96 = .ok (.sipush 200, 3) := by decide +kernel
theorem dX11_mended_99 : decode cX11_mended 99 = .ok (.iload_n 2, 1) := by decide +kernel
theorem dX11_mended_100 : decode cX11_mended 100 = .ok (.iadd, 1) := by decide +kernel
theorem dX11_mended_101 : decode cX11_mended 101 = .ok (.bipush 40, 2) := by decide +kernel
theorem dX11_mended_103 : decode cX11_mended 103 = .ok (.isub, 1) := by decide +kernel
theorem dX11_mended_104 : decode cX11_mended 104 = .ok (.ireturn, 1) := by decide +kernel
theorem dX11_count_0 : decode cX11_count 0 = .ok (.aload_n 0, 1) := by decide +kernel
theorem dX11_count_1 : decode cX11_count 1 = .ok (.iconst 0, 1) := by decide +kernel
theorem dX11_count_2 : decode cX11_count 2 = .ok (.putfield 121, 3) := by decide +kernel
theorem dX11_count_5 : decode cX11_count 5 = .ok (.iconst 0, 1) := by decide +kernel
theorem dX11_count_6 : decode cX11_count 6 = .ok (.istore_n 2, 1) := by decide +kernel
theorem dX11_count_7 : decode cX11_count 7 = .ok (.iconst 0, 1) := by decide +kernel
theorem dX11_count_8 : decode cX11_count 8 = .ok (.istore_n 3, 1) := by decide +kernel
theorem dX11_count_9 : decode cX11_count 9 = .ok (.iload_n 1, 1) := by decide +kernel
theorem dX11_count_10 : decode cX11_count 10 = .ok (.iconst 4, 1) := by decide +kernel
theorem dX11_count_11 : decode cX11_count 11 = .ok (.if_icmp .eq 8, 3) := by decide +kernel
theorem dX11_count_14 : decode cX11_count 14 = .ok (.iload_n 1, 1) := by decide +kernel
theorem dX11_count_15 : decode cX11_count 15 = .ok (.iconst 5, 1) := by decide +kernel
theorem dX11_count_16 : decode cX11_count 16 = .ok (.if_icmp .ne 67, 3) := by decide +kernel
theorem dX11_count_19 : decode cX11_count 19 = .ok (.aload_n 0, 1) := by decide +kernel
theorem dX11_count_20 : decode cX11_count 20 = .ok (.invokevirtual 299, 3) := by decide +kernel
theorem dX11_count_23 : decode cX11_count 23 = .ok (.aload_n 0, 1) := by decide +kernel
theorem dX11_count_24 : decode cX11_count 24 = .ok (.invokevirtual 302, 3) := by decide +kernel
theorem dX11_count_27 : decode cX11_count 27 = .ok (.iconst 0, 1) := by decide +kernel
theorem dX11_count_28 : decode cX11_count 28 = .ok (.istore 4, 2) := by decide +kernel
theorem dX11_count_30 : decode cX11_count 30 = .ok (.iload 4, 2) := by decide +kernel
theorem dX11_count_32 : decode cX11_count 32 = .ok (.aload_n 0, 1) := by decide +kernel
theorem dX11_count_33 : decode cX11_count 33 = .ok (.getfield 53, 3) := by decide +kernel
theorem dX11_count_36 : decode cX11_count 36 = .ok (.iconst 0, 1) := by decide +kernel
theorem dX11_count_37 : decode cX11_count 37 = .ok (.iaload, 1) := by decide +kernel
theorem dX11_count_38 : decode cX11_count 38 = .ok (.if_icmp .ge 45, 3) := by decide +kernel
theorem dX11_count_41 : decode cX11_count 41 = .ok (.iload_n 2, 1) := by decide +kernel
theorem dX11_count_42 : decode cX11_count 42 = .ok (.aload_n 0, 1) := by decide +kernel
theorem dX11_count_43 : decode cX11_count 43 = .ok (.iload 4, 2) := by decide +kernel
theorem dX11_count_45 : decode cX11_count 45 = .ok (.invokevirtual 305, 3) := by decide +kernel
theorem dX11_count_48 : decode cX11_count 48 = .ok (.iconst 3, 1) := by decide +kernel
theorem dX11_count_49 : decode cX11_count 49 = .ok (.if_icmp .ne 7, 3) := by decide +kernel
theorem dX11_count_52 : decode cX11_count 52 = .ok (.iconst 1, 1) := by decide +kernel
theorem dX11_count_53 : decode cX11_count 53 = .ok (.goto 4, 3) := by decide +kernel
theorem dX11_count_56 : decode cX11_count 56 = .ok (.iconst 0, 1) := by decide +kernel
theorem dX11_count_57 : decode cX11_count 57 = .ok (.iadd, 1) := by decide +kernel
theorem dX11_count_58 : decode cX11_count 58 = .ok (.istore_n 2, 1) := by decide +kernel
theorem dX11_count_59 : decode cX11_count 59 = .ok (.iload_n 3, 1) := by decide +kernel
theorem dX11_count_60 : decode cX11_count 60 = .ok (.aload_n 0, 1) := by decide +kernel
theorem dX11_count_61 : decode cX11_count 61 = .ok (.iload 4, 2) := by decide +kernel
theorem dX11_count_63 : decode cX11_count 63 = .ok (.invokevirtual 305, 3) := by decide +kernel
theorem dX11_count_66 : decode cX11_count 66 = .ok (.iconst 1, 1) := by decide +kernel
theorem dX11_count_67 : decode cX11_count 67 = .ok (.if_icmp .ne 7, 3) := by decide +kernel
theorem dX11_count_70 : decode cX11_count 70 = .ok (.iconst 1, 1) := by decide +kernel
theorem dX11_count_71 : decode cX11_count 71 = .ok (.goto 4, 3) := by decide +kernel
theorem dX11_count_74 : decode cX11_count 74 = .ok (.iconst 0, 1) := by decide +kernel
theorem dX11_count_75 : decode cX11_count 75 = .ok (.iadd, 1) := by decide +kernel
theorem dX11_count_76 : decode cX11_count 76 = .ok (.istore_n 3, 1) := by decide +kernel
theorem dX11_count_77 : decode cX11_count 77 = .ok (.iinc 4 1, 3) := by decide +kernel
theorem dX11_count_80 : decode cX11_count 80 = .ok (.goto (-50), 3) := by decide +kernel
theorem dX11_count_83 : decode cX11_count 83 = .ok (.iload_n 1, 1) := by decide +kernel
theorem dX11_count_84 : decode cX11_count 84 = .ok (.tableswitch 68 0 5 #[40, 45, 52, 59, 64, 66], 40) := by decide +kernel
theorem dX11_count_124 : decode cX11_count 124 = .ok (.aload_n 0, 1) := by decide +kernel
theorem dX11_count_125 : decode cX11_count 125 = .ok (.invokevirtual 248, 3) := by decide +kernel
theorem dX11_count_128 : decode cX11_count 128 = .ok (.ireturn, 1) := by decide +kernel
theorem dX11_count_129 : decode cX11_count 129 = .ok (.aload_n 0, 1) := by decide +kernel
theorem dX11_count_130 : decode cX11_count 130 = .ok (.getfield 53, 3) := by decide +kernel
theorem dX11_count_133 : decode cX11_count 133 = .ok (.iconst 0, 1) := by decide +kernel
theorem dX11_count_134 : decode cX11_count 134 = .ok (.iaload, 1) := by decide +kernel
theorem dX11_count_135 : decode cX11_count 135 = .ok (.ireturn, 1) := by decide +kernel
theorem dX11_count_136 : decode cX11_count 136 = .ok (.aload_n 0, 1) := by decide +kernel
theorem dX11_count_137 : decode cX11_count 137 = .ok (.getfield 62, 3) := by decide +kernel
theorem dX11_count_140 : decode cX11_count 140 = .ok (.iconst 0, 1) := by decide +kernel
theorem dX11_count_141 : decode cX11_count 141 = .ok (.iaload, 1) := by decide +kernel
theorem dX11_count_142 : decode cX11_count 142 = .ok (.ireturn, 1) := by decide +kernel
theorem dX11_count_143 : decode cX11_count 143 = .ok (.aload_n 0, 1) := by decide +kernel
theorem dX11_count_144 : decode cX11_count 144 = .ok (.getfield 83, 3) := by decide +kernel
theorem dX11_count_147 : decode cX11_count 147 = .ok (.ireturn, 1) := by decide +kernel
theorem dX11_count_148 : decode cX11_count 148 = .ok (.iload_n 2, 1) := by decide +kernel
theorem dX11_count_149 : decode cX11_count 149 = .ok (.ireturn, 1) := by decide +kernel
theorem dX11_count_150 : decode cX11_count 150 = .ok (.iload_n 3, 1) := by decide +kernel
theorem dX11_count_151 : decode cX11_count 151 = .ok (.ireturn, 1) := by decide +kernel
theorem dX11_count_152 : decode cX11_count 152 = .ok (.iconst (-1), 1) := by decide +kernel
theorem dX11_count_153 : decode cX11_count 153 = .ok (.ireturn, 1) := by decide +kernel
theorem dJ9_floorMod_7cf53_0 : decode cJ9_floorMod_7cf53 0 = .ok (.iload_n 0, 1) := by decide +kernel
theorem dJ9_floorMod_7cf53_1 : decode cJ9_floorMod_7cf53 1 = .ok (.iload_n 1, 1) := by decide +kernel
theorem dJ9_floorMod_7cf53_2 : decode cJ9_floorMod_7cf53 2 = .ok (.irem, 1) := by decide +kernel
theorem dJ9_floorMod_7cf53_3 : decode cJ9_floorMod_7cf53 3 = .ok (.istore_n 2, 1) := by decide +kernel
theorem dJ9_floorMod_7cf53_4 : decode cJ9_floorMod_7cf53 4 = .ok (.iload_n 0, 1) := by decide +kernel
theorem dJ9_floorMod_7cf53_5 : decode cJ9_floorMod_7cf53 5 = .ok (.iload_n 1, 1) := by decide +kernel
theorem dJ9_floorMod_7cf53_6 : decode cJ9_floorMod_7cf53 6 = .ok (.ixor, 1) := by decide +kernel
theorem dJ9_floorMod_7cf53_7 : decode cJ9_floorMod_7cf53 7 = .ok (.ifCond .ge 11, 3) := by decide +kernel
theorem dJ9_floorMod_7cf53_10 : decode cJ9_floorMod_7cf53 10 = .ok (.iload_n 2, 1) := by decide +kernel
theorem dJ9_floorMod_7cf53_11 : decode cJ9_floorMod_7cf53 11 = .ok (.ifCond .eq 7, 3) := by decide +kernel
theorem dJ9_floorMod_7cf53_14 : decode cJ9_floorMod_7cf53 14 = .ok (.iload_n 2, 1) := by decide +kernel
theorem dJ9_floorMod_7cf53_15 : decode cJ9_floorMod_7cf53 15 = .ok (.iload_n 1, 1) := by decide +kernel
theorem dJ9_floorMod_7cf53_16 : decode cJ9_floorMod_7cf53 16 = .ok (.iadd, 1) := by decide +kernel
theorem dJ9_floorMod_7cf53_17 : decode cJ9_floorMod_7cf53 17 = .ok (.ireturn, 1) := by decide +kernel
theorem dJ9_floorMod_7cf53_18 : decode cJ9_floorMod_7cf53 18 = .ok (.iload_n 2, 1) := by decide +kernel
theorem dJ9_floorMod_7cf53_19 : decode cJ9_floorMod_7cf53 19 = .ok (.ireturn, 1) := by decide +kernel
theorem dJ9_max_7cf53_0 : decode cJ9_max_7cf53 0 = .ok (.iload_n 0, 1) := by decide +kernel
theorem dJ9_max_7cf53_1 : decode cJ9_max_7cf53 1 = .ok (.iload_n 1, 1) := by decide +kernel
theorem dJ9_max_7cf53_2 : decode cJ9_max_7cf53 2 = .ok (.if_icmp .lt 7, 3) := by decide +kernel
theorem dJ9_max_7cf53_5 : decode cJ9_max_7cf53 5 = .ok (.iload_n 0, 1) := by decide +kernel
theorem dJ9_max_7cf53_6 : decode cJ9_max_7cf53 6 = .ok (.goto 4, 3) := by decide +kernel
theorem dJ9_max_7cf53_9 : decode cJ9_max_7cf53 9 = .ok (.iload_n 1, 1) := by decide +kernel
theorem dJ9_max_7cf53_10 : decode cJ9_max_7cf53 10 = .ok (.ireturn, 1) := by decide +kernel
theorem dJ9_min_7cf53_0 : decode cJ9_min_7cf53 0 = .ok (.iload_n 0, 1) := by decide +kernel
theorem dJ9_min_7cf53_1 : decode cJ9_min_7cf53 1 = .ok (.iload_n 1, 1) := by decide +kernel
theorem dJ9_min_7cf53_2 : decode cJ9_min_7cf53 2 = .ok (.if_icmp .gt 7, 3) := by decide +kernel
theorem dJ9_min_7cf53_5 : decode cJ9_min_7cf53 5 = .ok (.iload_n 0, 1) := by decide +kernel
theorem dJ9_min_7cf53_6 : decode cJ9_min_7cf53 6 = .ok (.goto 4, 3) := by decide +kernel
theorem dJ9_min_7cf53_9 : decode cJ9_min_7cf53 9 = .ok (.iload_n 1, 1) := by decide +kernel
theorem dJ9_min_7cf53_10 : decode cJ9_min_7cf53 10 = .ok (.ireturn, 1) := by decide +kernel
theorem dJ0_length_8abf5_0 : decode cJ0_length_8abf5 0 = .ok (.aload_n 0, 1) := by decide +kernel
theorem dJ0_length_8abf5_1 : decode cJ0_length_8abf5 1 = .ok (.getfield 9, 3) := by decide +kernel
theorem dJ0_length_8abf5_4 : decode cJ0_length_8abf5 4 = .ok (.arraylength, 1) := by decide +kernel
theorem dJ0_length_8abf5_5 : decode cJ0_length_8abf5 5 = .ok (.aload_n 0, 1) := by decide +kernel
theorem dJ0_length_8abf5_6 : decode cJ0_length_8abf5 6 = .ok (.invokevirtual 335, 3) := by decide +kernel
theorem dJ0_length_8abf5_9 : decode cJ0_length_8abf5 9 = .ok (.ishr, 1) := by decide +kernel
theorem dJ0_length_8abf5_10 : decode cJ0_length_8abf5 10 = .ok (.ireturn, 1) := by decide +kernel
theorem dJ0_charAt_5068e_0 : decode cJ0_charAt_5068e 0 = .ok (.aload_n 0, 1) := by decide +kernel
theorem dJ0_charAt_5068e_1 : decode cJ0_charAt_5068e 1 = .ok (.invokevirtual 492, 3) := by decide +kernel
theorem dJ0_charAt_5068e_4 : decode cJ0_charAt_5068e 4 = .ok (.ifCond .eq 12, 3) := by decide +kernel
theorem dJ0_charAt_5068e_7 : decode cJ0_charAt_5068e 7 = .ok (.aload_n 0, 1) := by decide +kernel
theorem dJ0_charAt_5068e_8 : decode cJ0_charAt_5068e 8 = .ok (.getfield 9, 3) := by decide +kernel
theorem dJ0_charAt_5068e_11 : decode cJ0_charAt_5068e 11 = .ok (.iload_n 1, 1) := by decide +kernel
theorem dJ0_charAt_5068e_12 : decode cJ0_charAt_5068e 12 = .ok (.invokestatic 495, 3) := by decide +kernel
theorem dJ0_charAt_5068e_15 : decode cJ0_charAt_5068e 15 = .ok (.ireturn, 1) := by decide +kernel
theorem dJ0_charAt_5068e_16 : decode cJ0_charAt_5068e 16 = .ok (.aload_n 0, 1) := by decide +kernel
theorem dJ0_charAt_5068e_17 : decode cJ0_charAt_5068e 17 = .ok (.getfield 9, 3) := by decide +kernel
theorem dJ0_charAt_5068e_20 : decode cJ0_charAt_5068e 20 = .ok (.iload_n 1, 1) := by decide +kernel
theorem dJ0_charAt_5068e_21 : decode cJ0_charAt_5068e 21 = .ok (.invokestatic 498, 3) := by decide +kernel
theorem dJ0_charAt_5068e_24 : decode cJ0_charAt_5068e 24 = .ok (.ireturn, 1) := by decide +kernel
theorem dJ0_coder_7d493_0 : decode cJ0_coder_7d493 0 = .ok (.getstatic 38, 3) := by decide +kernel
theorem dJ0_coder_7d493_3 : decode cJ0_coder_7d493 3 = .ok (.ifCond .eq 10, 3) := by decide +kernel
theorem dJ0_coder_7d493_6 : decode cJ0_coder_7d493 6 = .ok (.aload_n 0, 1) := by decide +kernel
theorem dJ0_coder_7d493_7 : decode cJ0_coder_7d493 7 = .ok (.getfield 15, 3) := by decide +kernel
theorem dJ0_coder_7d493_10 : decode cJ0_coder_7d493 10 = .ok (.goto 4, 3) := by decide +kernel
theorem dJ0_coder_7d493_13 : decode cJ0_coder_7d493 13 = .ok (.iconst 1, 1) := by decide +kernel
theorem dJ0_coder_7d493_14 : decode cJ0_coder_7d493 14 = .ok (.ireturn, 1) := by decide +kernel
theorem dJ0_isLatin1_aae02_0 : decode cJ0_isLatin1_aae02 0 = .ok (.getstatic 38, 3) := by decide +kernel
theorem dJ0_isLatin1_aae02_3 : decode cJ0_isLatin1_aae02 3 = .ok (.ifCond .eq 14, 3) := by decide +kernel
theorem dJ0_isLatin1_aae02_6 : decode cJ0_isLatin1_aae02 6 = .ok (.aload_n 0, 1) := by decide +kernel
theorem dJ0_isLatin1_aae02_7 : decode cJ0_isLatin1_aae02 7 = .ok (.getfield 15, 3) := by decide +kernel
theorem dJ0_isLatin1_aae02_10 : decode cJ0_isLatin1_aae02 10 = .ok (.ifCond .ne 7, 3) := by decide +kernel
theorem dJ0_isLatin1_aae02_13 : decode cJ0_isLatin1_aae02 13 = .ok (.iconst 1, 1) := by decide +kernel
theorem dJ0_isLatin1_aae02_14 : decode cJ0_isLatin1_aae02 14 = .ok (.goto 4, 3) := by decide +kernel
theorem dJ0_isLatin1_aae02_17 : decode cJ0_isLatin1_aae02 17 = .ok (.iconst 0, 1) := by decide +kernel
theorem dJ0_isLatin1_aae02_18 : decode cJ0_isLatin1_aae02 18 = .ok (.ireturn, 1) := by decide +kernel
theorem dJ0_checkIndex_df160_0 : decode cJ0_checkIndex_df160 0 = .ok (.iload_n 0, 1) := by decide +kernel
theorem dJ0_checkIndex_df160_1 : decode cJ0_checkIndex_df160 1 = .ok (.iload_n 1, 1) := by decide +kernel
theorem dJ0_checkIndex_df160_2 : decode cJ0_checkIndex_df160 2 = .ok (.getstatic 1053, 3) := by decide +kernel
theorem dJ0_checkIndex_df160_5 : decode cJ0_checkIndex_df160 5 = .ok (.invokestatic 1059, 3) := by decide +kernel
theorem dJ0_checkIndex_df160_8 : decode cJ0_checkIndex_df160 8 = .ok (.pop, 1) := by decide +kernel
theorem dJ0_checkIndex_df160_9 : decode cJ0_checkIndex_df160 9 = .ok (.return_, 1) := by decide +kernel
theorem dJ1_charAt_3b067_0 : decode cJ1_charAt_3b067 0 = .ok (.iload_n 1, 1) := by decide +kernel
theorem dJ1_charAt_3b067_1 : decode cJ1_charAt_3b067 1 = .ok (.aload_n 0, 1) := by decide +kernel
theorem dJ1_charAt_3b067_2 : decode cJ1_charAt_3b067 2 = .ok (.arraylength, 1) := by decide +kernel
theorem dJ1_charAt_3b067_3 : decode cJ1_charAt_3b067 3 = .ok (.invokestatic 9, 3) := by decide +kernel
theorem dJ1_charAt_3b067_6 : decode cJ1_charAt_3b067 6 = .ok (.aload_n 0, 1) := by decide +kernel
theorem dJ1_charAt_3b067_7 : decode cJ1_charAt_3b067 7 = .ok (.iload_n 1, 1) := by decide +kernel
theorem dJ1_charAt_3b067_8 : decode cJ1_charAt_3b067 8 = .ok (.baload, 1) := by decide +kernel
theorem dJ1_charAt_3b067_9 : decode cJ1_charAt_3b067 9 = .ok (.sipush 255, 3) := by decide +kernel
theorem dJ1_charAt_3b067_12 : decode cJ1_charAt_3b067 12 = .ok (.iand, 1) := by decide +kernel
theorem dJ1_charAt_3b067_13 : decode cJ1_charAt_3b067 13 = .ok (.i2c, 1) := by decide +kernel
theorem dJ1_charAt_3b067_14 : decode cJ1_charAt_3b067 14 = .ok (.ireturn, 1) := by decide +kernel
theorem dJ7_fill_d0a16_0 : decode cJ7_fill_d0a16 0 = .ok (.iconst 0, 1) := by decide +kernel
theorem dJ7_fill_d0a16_1 : decode cJ7_fill_d0a16 1 = .ok (.istore_n 3, 1) := by decide +kernel
theorem dJ7_fill_d0a16_2 : decode cJ7_fill_d0a16 2 = .ok (.aload_n 0, 1) := by decide +kernel
theorem dJ7_fill_d0a16_3 : decode cJ7_fill_d0a16 3 = .ok (.arraylength, 1) := by decide +kernel
theorem dJ7_fill_d0a16_4 : decode cJ7_fill_d0a16 4 = .ok (.istore 4, 2) := by decide +kernel
theorem dJ7_fill_d0a16_6 : decode cJ7_fill_d0a16 6 = .ok (.iload_n 3, 1) := by decide +kernel
theorem dJ7_fill_d0a16_7 : decode cJ7_fill_d0a16 7 = .ok (.iload 4, 2) := by decide +kernel
theorem dJ7_fill_d0a16_9 : decode cJ7_fill_d0a16 9 = .ok (.if_icmp .ge 13, 3) := by decide +kernel
theorem dJ7_fill_d0a16_12 : decode cJ7_fill_d0a16 12 = .ok (.aload_n 0, 1) := by decide +kernel
theorem dJ7_fill_d0a16_13 : decode cJ7_fill_d0a16 13 = .ok (.iload_n 3, 1) := by decide +kernel
theorem dJ7_fill_d0a16_14 : decode cJ7_fill_d0a16 14 = .ok (.lload_n 1, 1) := by decide +kernel
theorem dJ7_fill_d0a16_15 : decode cJ7_fill_d0a16 15 = .ok (.lastore, 1) := by decide +kernel
theorem dJ7_fill_d0a16_16 : decode cJ7_fill_d0a16 16 = .ok (.iinc 3 1, 3) := by decide +kernel
theorem dJ7_fill_d0a16_19 : decode cJ7_fill_d0a16 19 = .ok (.goto (-13), 3) := by decide +kernel
theorem dJ7_fill_d0a16_22 : decode cJ7_fill_d0a16 22 = .ok (.return_, 1) := by decide +kernel
theorem dJ7_fill_53178_0 : decode cJ7_fill_53178 0 = .ok (.iconst 0, 1) := by decide +kernel
theorem dJ7_fill_53178_1 : decode cJ7_fill_53178 1 = .ok (.istore_n 2, 1) := by decide +kernel
theorem dJ7_fill_53178_2 : decode cJ7_fill_53178 2 = .ok (.aload_n 0, 1) := by decide +kernel
theorem dJ7_fill_53178_3 : decode cJ7_fill_53178 3 = .ok (.arraylength, 1) := by decide +kernel
theorem dJ7_fill_53178_4 : decode cJ7_fill_53178 4 = .ok (.istore_n 3, 1) := by decide +kernel
theorem dJ7_fill_53178_5 : decode cJ7_fill_53178 5 = .ok (.iload_n 2, 1) := by decide +kernel
theorem dJ7_fill_53178_6 : decode cJ7_fill_53178 6 = .ok (.iload_n 3, 1) := by decide +kernel
theorem dJ7_fill_53178_7 : decode cJ7_fill_53178 7 = .ok (.if_icmp .ge 13, 3) := by decide +kernel
theorem dJ7_fill_53178_10 : decode cJ7_fill_53178 10 = .ok (.aload_n 0, 1) := by decide +kernel
theorem dJ7_fill_53178_11 : decode cJ7_fill_53178 11 = .ok (.iload_n 2, 1) := by decide +kernel
theorem dJ7_fill_53178_12 : decode cJ7_fill_53178 12 = .ok (.iload_n 1, 1) := by decide +kernel
theorem dJ7_fill_53178_13 : decode cJ7_fill_53178 13 = .ok (.iastore, 1) := by decide +kernel
theorem dJ7_fill_53178_14 : decode cJ7_fill_53178 14 = .ok (.iinc 2 1, 3) := by decide +kernel
theorem dJ7_fill_53178_17 : decode cJ7_fill_53178 17 = .ok (.goto (-12), 3) := by decide +kernel
theorem dJ7_fill_53178_20 : decode cJ7_fill_53178 20 = .ok (.return_, 1) := by decide +kernel
theorem dJ3_checkIndex_8e157_0 : decode cJ3_checkIndex_8e157 0 = .ok (.iload_n 0, 1) := by decide +kernel
theorem dJ3_checkIndex_8e157_1 : decode cJ3_checkIndex_8e157 1 = .ok (.ifCond .lt 8, 3) := by decide +kernel
theorem dJ3_checkIndex_8e157_4 : decode cJ3_checkIndex_8e157 4 = .ok (.iload_n 0, 1) := by decide +kernel
theorem dJ3_checkIndex_8e157_5 : decode cJ3_checkIndex_8e157 5 = .ok (.iload_n 1, 1) := by decide +kernel
theorem dJ3_checkIndex_8e157_6 : decode cJ3_checkIndex_8e157 6 = .ok (.if_icmp .lt 10, 3) := by decide +kernel
theorem dJ3_checkIndex_8e157_9 : decode cJ3_checkIndex_8e157 9 = .ok (.aload_n 2, 1) := by decide +kernel
theorem dJ3_checkIndex_8e157_10 : decode cJ3_checkIndex_8e157 10 = .ok (.iload_n 0, 1) := by decide +kernel
theorem dJ3_checkIndex_8e157_11 : decode cJ3_checkIndex_8e157 11 = .ok (.iload_n 1, 1) := by decide +kernel
theorem dJ3_checkIndex_8e157_12 : decode cJ3_checkIndex_8e157 12 = .ok (.invokestatic 95, 3) := by decide +kernel
theorem dJ3_checkIndex_8e157_15 : decode cJ3_checkIndex_8e157 15 = .ok (.athrow, 1) := by decide +kernel
theorem dJ3_checkIndex_8e157_16 : decode cJ3_checkIndex_8e157 16 = .ok (.iload_n 0, 1) := by decide +kernel
theorem dJ3_checkIndex_8e157_17 : decode cJ3_checkIndex_8e157 17 = .ok (.ireturn, 1) := by decide +kernel
