theorem dX10_tries_0 : decode cX10_tries 0 = .ok (.iload_n 1, 1) := by decide +kernel
theorem dX10_tries_1 : decode cX10_tries 1 = .ok (.ifCond .lt 17, 3) := by decide +kernel
theorem dX10_tries_4 : decode cX10_tries 4 = .ok (.iload_n 1, 1) := by decide +kernel
theorem dX10_tries_5 : decode cX10_tries 5 = .ok (.aload_n 0, 1) := by decide +kernel
theorem dX10_tries_6 : decode cX10_tries 6 = .ok (.getfield 45, 3) := by decide +kernel
theorem dX10_tries_9 : decode cX10_tries 9 = .ok (.getfield 110, 3) := by decide +kernel
theorem dX10_tries_12 : decode cX10_tries 12 = .ok (.getfield 157, 3) := by decide +kernel
theorem dX10_tries_15 : decode cX10_tries 15 = .ok (.if_icmp .lt 5, 3) := by decide +kernel
theorem dX10_tries_18 : decode cX10_tries 18 = .ok (.iconst (-1), 1) := by decide +kernel
theorem dX10_tries_19 : decode cX10_tries 19 = .ok (.ireturn, 1) := by decide +kernel
theorem dX10_tries_20 : decode cX10_tries 20 = .ok (.aload_n 0, 1) := by decide +kernel
theorem dX10_tries_21 : decode cX10_tries 21 = .ok (.getfield 54, 3) := by decide +kernel
theorem dX10_tries_24 : decode cX10_tries 24 = .ok (.lconst 0, 1) := by decide +kernel
theorem dX10_tries_25 : decode cX10_tries 25 = .ok (.invokevirtual 146, 3) := by decide +kernel
theorem dX10_tries_28 : decode cX10_tries 28 = .ok (.aload_n 0, 1) := by decide +kernel
theorem dX10_tries_29 : decode cX10_tries 29 = .ok (.getfield 70, 3) := by decide +kernel
theorem dX10_tries_32 : decode cX10_tries 32 = .ok (.aload_n 0, 1) := by decide +kernel
theorem dX10_tries_33 : decode cX10_tries 33 = .ok (.getfield 54, 3) := by decide +kernel
theorem dX10_tries_36 : decode cX10_tries 36 = .ok (.invokevirtual 210, 3) := by decide +kernel
theorem dX10_tries_39 : decode cX10_tries 39 = .ok (.invokevirtual 213, 3) := by decide +kernel
theorem dX10_tries_42 : decode cX10_tries 42 = .ok (.aload_n 0, 1) := by decide +kernel
theorem dX10_tries_43 : decode cX10_tries 43 = .ok (.getfield 70, 3) := by decide +kernel
theorem dX10_tries_46 : decode cX10_tries 46 = .ok (.getfield 216, 3) := by decide +kernel
theorem dX10_tries_49 : decode cX10_tries 49 = .ok (.iload_n 1, 1) := by decide +kernel
theorem dX10_tries_50 : decode cX10_tries 50 = .ok (.invokestatic 153, 3) := by decide +kernel
theorem dX10_tries_53 : decode cX10_tries 53 = .ok (.ireturn, 1) := by decide +kernel
theorem dX10_price_0 : decode cX10_price 0 = .ok (.iload_n 1, 1) := by decide +kernel
theorem dX10_price_1 : decode cX10_price 1 = .ok (.ifCond .lt 19, 3) := by decide +kernel
theorem dX10_price_4 : decode cX10_price 4 = .ok (.iload_n 1, 1) := by decide +kernel
theorem dX10_price_5 : decode cX10_price 5 = .ok (.iconst 3, 1) := by decide +kernel
theorem dX10_price_6 : decode cX10_price 6 = .ok (.if_icmp .gt 14, 3) := by decide +kernel
theorem dX10_price_9 : decode cX10_price 9 = .ok (.iload_n 2, 1) := by decide +kernel
theorem dX10_price_10 : decode cX10_price 10 = .ok (.iconst 1, 1) := by decide +kernel
theorem dX10_price_11 : decode cX10_price 11 = .ok (.if_icmp .lt 9, 3) := by decide +kernel
theorem dX10_price_14 : decode cX10_price 14 = .ok (.iload_n 2, 1) := by decide +kernel
theorem dX10_price_15 : decode cX10_price 15 = .ok (.bipush 99, 2) := by decide +kernel
theorem dX10_price_17 : decode cX10_price 17 = .ok (.if_icmp .le 5, 3) := by decide +kernel
theorem dX10_price_20 : decode cX10_price 20 = .ok (.iconst 0, 1) := by decide +kernel
theorem dX10_price_21 : decode cX10_price 21 = .ok (.ireturn, 1) := by decide +kernel
theorem dX10_price_22 : decode cX10_price 22 = .ok (.aload_n 0, 1) := by decide +kernel
theorem dX10_price_23 : decode cX10_price 23 = .ok (.getfield 79, 3) := by decide +kernel
theorem dX10_price_26 : decode cX10_price 26 = .ok (.getfield 218, 3) := by decide +kernel
theorem dX10_price_29 : decode cX10_price 29 = .ok (.iload_n 1, 1) := by decide +kernel
theorem dX10_price_30 : decode cX10_price 30 = .ok (.iload_n 2, 1) := by decide +kernel
theorem dX10_price_31 : decode cX10_price 31 = .ok (.invokestatic 136, 3) := by decide +kernel
theorem dX10_price_34 : decode cX10_price 34 = .ok (.aload_n 0, 1) := by decide +kernel
theorem dX10_price_35 : decode cX10_price 35 = .ok (.getfield 79, 3) := by decide +kernel
theorem dX10_price_38 : decode cX10_price 38 = .ok (.iconst 1, 1) := by decide +kernel
theorem dX10_price_39 : decode cX10_price 39 = .ok (.putfield 221, 3) := by decide +kernel
theorem dX10_price_42 : decode cX10_price 42 = .ok (.iconst 1, 1) := by decide +kernel
theorem dX10_price_43 : decode cX10_price 43 = .ok (.ireturn, 1) := by decide +kernel
theorem dX10_mend_0 : decode cX10_mend 0 = .ok (.aload_n 0, 1) := by decide +kernel
theorem dX10_mend_1 : decode cX10_mend 1 = .ok (.getfield 45, 3) := by decide +kernel
theorem dX10_mend_4 : decode cX10_mend 4 = .ok (.getfield 110, 3) := by decide +kernel
theorem dX10_mend_7 : decode cX10_mend 7 = .ok (.getfield 122, 3) := by decide +kernel
theorem dX10_mend_10 : decode cX10_mend 10 = .ok (.ifCond .ne 5, 3) := by decide +kernel
theorem dX10_mend_13 : decode cX10_mend 13 = .ok (.iconst (-1), 1) := by decide +kernel
theorem dX10_mend_14 : decode cX10_mend 14 = .ok (.ireturn, 1) := by decide +kernel
theorem dX10_mend_15 : decode cX10_mend 15 = .ok (.aload_n 0, 1) := by decide +kernel
theorem dX10_mend_16 : decode cX10_mend 16 = .ok (.getfield 79, 3) := by decide +kernel
theorem dX10_mend_19 : decode cX10_mend 19 = .ok (.invokevirtual 225, 3) := by decide +kernel
theorem dX10_mend_22 : decode cX10_mend 22 = .ok (.aload_n 0, 1) := by decide +kernel
theorem dX10_mend_23 : decode cX10_mend 23 = .ok (.getfield 79, 3) := by decide +kernel
theorem dX10_mend_26 : decode cX10_mend 26 = .ok (.getfield 228, 3) := by decide +kernel
theorem dX10_mend_29 : decode cX10_mend 29 = .ok (.ireturn, 1) := by decide +kernel
theorem dX10_mended_0 : decode cX10_mended 0 = .ok (.aload_n 0, 1) := by decide +kernel
theorem dX10_mended_1 : decode cX10_mended 1 = .ok (.getfield 79, 3) := by decide +kernel
theorem dX10_mended_4 : decode cX10_mended 4 = .ok (.getfield 228, 3) := by decide +kernel
theorem dX10_mended_7 : decode cX10_mended 7 = .ok (.iconst (-1), 1) := by decide +kernel
theorem dX10_mended_8 : decode cX10_mended 8 = .ok (.if_icmp .ne 5, 3) := by decide +kernel
theorem dX10_mended_11 : decode cX10_mended 11 = .ok (.iconst (-1), 1) := by decide +kernel
theorem dX10_mended_12 : decode cX10_mended 12 = .ok (.ireturn, 1) := by decide +kernel
theorem dX10_mended_13 : decode cX10_mended 13 = .ok (.iload_n 1, 1) := by decide +kernel
theorem dX10_mended_14 : decode cX10_mended 14 = .ok (.ifCond .ne 11, 3) := by decide +kernel
theorem dX10_mended_17 : decode cX10_mended 17 = .ok (.aload_n 0, 1) := by decide +kernel
theorem dX10_mended_18 : decode cX10_mended 18 = .ok (.getfield 79, 3) := by decide +kernel
theorem dX10_mended_21 : decode cX10_mended 21 = .ok (.getfield 231, 3) := by decide +kernel
theorem dX10_mended_24 : decode cX10_mended 24 = .ok (.ireturn, 1) := by decide +kernel
theorem dX10_mended_25 : decode cX10_mended 25 = .ok (.iload_n 1, 1) := by decide +kernel
theorem dX10_mended_26 : decode cX10_mended 26 = .ok (.iconst 1, 1) := by decide +kernel
theorem dX10_mended_27 : decode cX10_mended 27 = .ok (.if_icmp .ne 11, 3) := by decide +kernel
theorem dX10_mended_30 : decode cX10_mended 30 = .ok (.aload_n 0, 1) := by decide +kernel
theorem dX10_mended_31 : decode cX10_mended 31 = .ok (.getfield 79, 3) := by decide +kernel
theorem dX10_mended_34 : decode cX10_mended 34 = .ok (.getfield 234, 3) := by decide +kernel
theorem dX10_mended_37 : decode cX10_mended 37 = .ok (.ireturn, 1) := by decide +kernel
theorem dX10_mended_38 : decode cX10_mended 38 = .ok (.iload_n 1, 1) := by decide +kernel
theorem dX10_mended_39 : decode cX10_mended 39 = .ok (.iconst 2, 1) := by decide +kernel
theorem dX10_mended_40 : decode cX10_mended 40 = .ok (.if_icmp .lt 16, 3) := by decide +kernel
theorem dX10_mended_43 : decode cX10_mended 43 = .ok (.iload_n 1, 1) := by decide +kernel
theorem dX10_mended_44 : decode cX10_mended 44 = .ok (.iconst 2, 1) := by decide +kernel
theorem dX10_mended_45 : decode cX10_mended 45 = .ok (.isub, 1) := by decide +kernel
theorem dX10_mended_46 : decode cX10_mended 46 = .ok (.aload_n 0, 1) := by decide +kernel
theorem dX10_mended_47 : decode cX10_mended 47 = .ok (.getfield 79, 3) := by decide +kernel
theorem dX10_mended_50 : decode cX10_mended 50 = .ok (.getfield 231, 3) := by decide +kernel
theorem dX10_mended_53 : decode cX10_mended 53 = .ok (.if_icmp .lt 7, 3) := by decide +kernel
theorem dX10_mended_56 : decode cX10_mended 56 = .ok (.iconst (-1), 1) := by decide +kernel
theorem dX10_mended_57 : decode cX10_mended 57 = .ok (.goto 16, 3) := by decide +kernel
theorem dX10_mended_60 : decode cX10_mended 60 = .ok (.aload_n 0, 1) := by decide +kernel
theorem dX10_mended_61 : decode cX10_mended 61 = .ok (.getfield 79, 3) := by decide +kernel
theorem dX10_mended_64 : decode cX10_mended 64 = .ok (.getfield 237, 3) := by decide +kernel
theorem dX10_mended_67 : decode cX10_mended 67 = .ok (.iload_n 1, 1) := by decide +kernel
theorem dX10_mended_68 : decode cX10_mended 68 = .ok (.iconst 2, 1) := by decide +kernel
theorem dX10_mended_69 : decode cX10_mended 69 = .ok (.isub, 1) := by decide +kernel
theorem dX10_mended_70 : decode cX10_mended 70 = .ok (.invokestatic 153, 3) := by decide +kernel
theorem dX10_mended_73 : decode cX10_mended 73 = .ok (.ireturn, 1) := by decide +kernel
theorem dX10_count_0 : decode cX10_count 0 = .ok (.iload_n 1, 1) := by decide +kernel
theorem dX10_count_1 : decode cX10_count 1 = .ok (.tableswitch 92 0 5 #[39, 50, 61, 72, 80, 86], 39) := by decide +kernel
theorem dX10_count_40 : decode cX10_count 40 = .ok (.aload_n 0, 1) := by decide +kernel
theorem dX10_count_41 : decode cX10_count 41 = .ok (.getfield 45, 3) := by decide +kernel
theorem dX10_count_44 : decode cX10_count 44 = .ok (.getfield 110, 3) := by decide +kernel
theorem dX10_count_47 : decode cX10_count 47 = .ok (.getfield 122, 3) := by decide +kernel
theorem dX10_count_50 : decode cX10_count 50 = .ok (.ireturn, 1) := by decide +kernel
theorem dX10_count_51 : decode cX10_count 51 = .ok (.aload_n 0, 1) := by decide +kernel
theorem dX10_count_52 : decode cX10_count 52 = .ok (.getfield 45, 3) := by decide +kernel
theorem dX10_count_55 : decode cX10_count 55 = .ok (.getfield 110, 3) := by decide +kernel
theorem dX10_count_58 : decode cX10_count 58 = .ok (.getfield 157, 3) := by decide +kernel
theorem dX10_count_61 : decode cX10_count 61 = .ok (.ireturn, 1) := by decide +kernel
theorem dX10_count_62 : decode cX10_count 62 = .ok (.aload_n 0, 1) := by decide +kernel
theorem dX10_count_63 : decode cX10_count 63 = .ok (.getfield 45, 3) := by decide +kernel
theorem dX10_count_66 : decode cX10_count 66 = .ok (.getfield 110, 3) := by decide +kernel
theorem dX10_count_69 : decode cX10_count 69 = .ok (.getfield 176, 3) := by decide +kernel
theorem dX10_count_72 : decode cX10_count 72 = .ok (.ireturn, 1) := by decide +kernel
theorem dX10_count_73 : decode cX10_count 73 = .ok (.aload_n 0, 1) := by decide +kernel
theorem dX10_count_74 : decode cX10_count 74 = .ok (.getfield 45, 3) := by decide +kernel
theorem dX10_count_77 : decode cX10_count 77 = .ok (.getfield 240, 3) := by decide +kernel
theorem dX10_count_80 : decode cX10_count 80 = .ok (.ireturn, 1) := by decide +kernel
theorem dX10_count_81 : decode cX10_count 81 = .ok (.aload_n 0, 1) := by decide +kernel
theorem dX10_count_82 : decode cX10_count 82 = .ok (.iconst 3, 1) := by decide +kernel
theorem dX10_count_83 : decode cX10_count 83 = .ok (.invokevirtual 243, 3) := by decide +kernel
theorem dX10_count_86 : decode cX10_count 86 = .ok (.ireturn, 1) := by decide +kernel
theorem dX10_count_87 : decode cX10_count 87 = .ok (.aload_n 0, 1) := by decide +kernel
theorem dX10_count_88 : decode cX10_count 88 = .ok (.iconst 1, 1) := by decide +kernel
theorem dX10_count_89 : decode cX10_count 89 = .ok (.invokevirtual 243, 3) := by decide +kernel
theorem dX10_count_92 : decode cX10_count 92 = .ok (.ireturn, 1) := by decide +kernel
theorem dX10_count_93 : decode cX10_count 93 = .ok (.iconst (-1), 1) := by decide +kernel
theorem dX10_count_94 : decode cX10_count 94 = .ok (.ireturn, 1) := by decide +kernel
theorem dX10_putNumber_0 : decode cX10_putNumber 0 = .ok (.bipush 24, 2) := by decide +kernel
theorem dX10_putNumber_2 : decode cX10_putNumber 2 = .ok (.istore_n 2, 1) := by decide +kernel
theorem dX10_putNumber_3 : decode cX10_putNumber 3 = .ok (.iload_n 2, 1) := by decide +kernel
theorem dX10_putNumber_4 : decode cX10_putNumber 4 = .ok (.ifCond .lt 51, 3) := by decide +kernel
theorem dX10_putNumber_7 : decode cX10_putNumber 7 = .ok (.aload_n 0, 1) := by decide +kernel
theorem dX10_putNumber_8 : decode cX10_putNumber 8 = .ok (.getfield 87, 3) := by decide +kernel
theorem dX10_putNumber_11 : decode cX10_putNumber 11 = .ok (.ifCond .lt 38, 3) := by decide +kernel
theorem dX10_putNumber_14 : decode cX10_putNumber 14 = .ok (.aload_n 0, 1) := by decide +kernel
theorem dX10_putNumber_15 : decode cX10_putNumber 15 = .ok (.getfield 87, 3) := by decide +kernel
theorem dX10_putNumber_18 : decode cX10_putNumber 18 = .ok (.aload_n 0, 1) := by decide +kernel
theorem dX10_putNumber_19 : decode cX10_putNumber 19 = .ok (.getfield 9, 3) := by decide +kernel
theorem dX10_putNumber_22 : decode cX10_putNumber 22 = .ok (.arraylength, 1) := by decide +kernel
theorem dX10_putNumber_23 : decode cX10_putNumber 23 = .ok (.if_icmp .ge 26, 3) := by decide +kernel
theorem dX10_putNumber_26 : decode cX10_putNumber 26 = .ok (.aload_n 0, 1) := by decide +kernel
theorem dX10_putNumber_27 : decode cX10_putNumber 27 = .ok (.getfield 9, 3) := by decide +kernel
theorem dX10_putNumber_30 : decode cX10_putNumber 30 = .ok (.aload_n 0, 1) := by decide +kernel
theorem dX10_putNumber_31 : decode cX10_putNumber 31 = .ok (.getfield 87, 3) := by decide +kernel
theorem dX10_putNumber_34 : decode cX10_putNumber 34 = .ok (.iload_n 1, 1) := by decide +kernel
theorem dX10_putNumber_35 : decode cX10_putNumber 35 = .ok (.iload_n 2, 1) := by decide +kernel
theorem dX10_putNumber_36 : decode cX10_putNumber 36 = .ok (.ishr, 1) := by decide +kernel
theorem dX10_putNumber_37 : decode cX10_putNumber 37 = .ok (.i2b, 1) := by decide +kernel
theorem dX10_putNumber_38 : decode cX10_putNumber 38 = .ok (.bastore, 1) := by decide +kernel
theorem dX10_putNumber_39 : decode cX10_putNumber 39 = .ok (.aload_n 0, 1) := by decide +kernel
theorem dX10_putNumber_40 : decode cX10_putNumber 40 = .ok (.dup, 1) := by decide +kernel
theorem dX10_putNumber_41 : decode cX10_putNumber 41 = .ok (.getfield 87, 3) := by decide +kernel
theorem dX10_putNumber_44 : decode cX10_putNumber 44 = .ok (.iconst 1, 1) := by decide +kernel
theorem dX10_putNumber_45 : decode cX10_putNumber 45 = .ok (.iadd, 1) := by decide +kernel
theorem dX10_putNumber_46 : decode cX10_putNumber 46 = .ok (.putfield 87, 3) := by decide +kernel
theorem dX10_putNumber_49 : decode cX10_putNumber 49 = .ok (.iinc 2 (-8), 3) := by decide +kernel
theorem dX10_putNumber_52 : decode cX10_putNumber 52 = .ok (.goto (-49), 3) := by decide +kernel
theorem dX10_putNumber_55 : decode cX10_putNumber 55 = .ok (.return_, 1) := by decide +kernel
theorem dX10_forget_0 : decode cX10_forget 0 = .ok (.aload_n 0, 1) := by decide +kernel
theorem dX10_forget_1 : decode cX10_forget 1 = .ok (.getfield 54, 3) := by decide +kernel
theorem dX10_forget_4 : decode cX10_forget 4 = .ok (.iconst 1, 1) := by decide +kernel
theorem dX10_forget_5 : decode cX10_forget 5 = .ok (.putfield 246, 3) := by decide +kernel
theorem dX10_forget_8 : decode cX10_forget 8 = .ok (.aload_n 0, 1) := by decide +kernel
theorem dX10_forget_9 : decode cX10_forget 9 = .ok (.getfield 70, 3) := by decide +kernel
theorem dX10_forget_12 : decode cX10_forget 12 = .ok (.iconst 1, 1) := by decide +kernel
theorem dX10_forget_13 : decode cX10_forget 13 = .ok (.putfield 247, 3) := by decide +kernel
theorem dX10_forget_16 : decode cX10_forget 16 = .ok (.aload_n 0, 1) := by decide +kernel
theorem dX10_forget_17 : decode cX10_forget 17 = .ok (.getfield 79, 3) := by decide +kernel
theorem dX10_forget_20 : decode cX10_forget 20 = .ok (.iconst 1, 1) := by decide +kernel
theorem dX10_forget_21 : decode cX10_forget 21 = .ok (.putfield 221, 3) := by decide +kernel
theorem dX10_forget_24 : decode cX10_forget 24 = .ok (.return_, 1) := by decide +kernel
theorem dX10_markIndex_0 : decode cX10_markIndex 0 = .ok (.iload_n 1, 1) := by decide +kernel
theorem dX10_markIndex_1 : decode cX10_markIndex 1 = .ok (.iconst 2, 1) := by decide +kernel
theorem dX10_markIndex_2 : decode cX10_markIndex 2 = .ok (.if_icmp .ne 21, 3) := by decide +kernel
theorem dX10_markIndex_5 : decode cX10_markIndex 5 = .ok (.iload_n 3, 1) := by decide +kernel
theorem dX10_markIndex_6 : decode cX10_markIndex 6 = .ok (.ifCond .eq 8, 3) := by decide +kernel
theorem dX10_markIndex_9 : decode cX10_markIndex 9 = .ok (.iload_n 3, 1) := by decide +kernel
theorem dX10_markIndex_10 : decode cX10_markIndex 10 = .ok (.iconst 1, 1) := by decide +kernel
theorem dX10_markIndex_11 : decode cX10_markIndex 11 = .ok (.if_icmp .ne 10, 3) := by decide +kernel
theorem dX10_markIndex_14 : decode cX10_markIndex 14 = .ok (.bipush 40, 2) := by decide +kernel
theorem dX10_markIndex_16 : decode cX10_markIndex 16 = .ok (.iload_n 3, 1) := by decide +kernel
theorem dX10_markIndex_17 : decode cX10_markIndex 17 = .ok (.iadd, 1) := by decide +kernel
theorem dX10_markIndex_18 : decode cX10_markIndex 18 = .ok (.goto 4, 3) := by decide +kernel
theorem dX10_markIndex_21 : decode cX10_markIndex 21 = .ok (.iconst (-1), 1) := by decide +kernel
theorem dX10_markIndex_22 : decode cX10_markIndex 22 = .ok (.ireturn, 1) := by decide +kernel
theorem dX10_markIndex_23 : decode cX10_markIndex 23 = .ok (.aload_n 0, 1) := by decide +kernel
theorem dX10_markIndex_24 : decode cX10_markIndex 24 = .ok (.getfield 45, 3) := by decide +kernel
theorem dX10_markIndex_27 : decode cX10_markIndex 27 = .ok (.getfield 110, 3) := by decide +kernel
theorem dX10_markIndex_30 : decode cX10_markIndex 30 = .ok (.iload_n 2, 1) := by decide +kernel
theorem dX10_markIndex_31 : decode cX10_markIndex 31 = .ok (.invokevirtual 125, 3) := by decide +kernel
theorem dX10_markIndex_34 : decode cX10_markIndex 34 = .ok (.ifCond .ne 5, 3) := by decide +kernel
theorem dX10_markIndex_37 : decode cX10_markIndex 37 = .ok (.iconst (-1), 1) := by decide +kernel
theorem dX10_markIndex_38 : decode cX10_markIndex 38 = .ok (.ireturn, 1) := by decide +kernel
theorem dX10_markIndex_39 : decode cX10_markIndex 39 = .ok (.iload_n 1, 1) := by decide +kernel
theorem dX10_markIndex_40 : decode cX10_markIndex 40 = .ok (.iconst 1, 1) := by decide +kernel
theorem dX10_markIndex_41 : decode cX10_markIndex 41 = .ok (.if_icmp .ne 8, 3) := by decide +kernel
theorem dX10_markIndex_44 : decode cX10_markIndex 44 = .ok (.bipush 32, 2) := by decide +kernel
theorem dX10_markIndex_46 : decode cX10_markIndex 46 = .ok (.iload_n 2, 1) := by decide +kernel
theorem dX10_markIndex_47 : decode cX10_markIndex 47 = .ok (.iadd, 1) := by decide +kernel
theorem dX10_markIndex_48 : decode cX10_markIndex 48 = .ok (.ireturn, 1) := by decide +kernel
theorem dX10_markIndex_49 : decode cX10_markIndex 49 = .ok (.iload_n 1, 1) := by decide +kernel
theorem dX10_markIndex_50 : decode cX10_markIndex 50 = .ok (.ifCond .ne 29, 3) := by decide +kernel
theorem dX10_markIndex_53 : decode cX10_markIndex 53 = .ok (.iload_n 3, 1) := by decide +kernel
theorem dX10_markIndex_54 : decode cX10_markIndex 54 = .ok (.ifCond .lt 25, 3) := by decide +kernel
theorem dX10_markIndex_57 : decode cX10_markIndex 57 = .ok (.iload_n 3, 1) := by decide +kernel
theorem dX10_markIndex_58 : decode cX10_markIndex 58 = .ok (.aload_n 0, 1) := by decide +kernel
theorem dX10_markIndex_59 : decode cX10_markIndex 59 = .ok (.getfield 45, 3) := by decide +kernel
theorem dX10_markIndex_62 : decode cX10_markIndex 62 = .ok (.getfield 110, 3) := by decide +kernel
theorem dX10_markIndex_65 : decode cX10_markIndex 65 = .ok (.getfield 248, 3) := by decide +kernel
theorem dX10_markIndex_68 : decode cX10_markIndex 68 = .ok (.iload_n 2, 1) := by decide +kernel
theorem dX10_markIndex_69 : decode cX10_markIndex 69 = .ok (.invokestatic 153, 3) := by decide +kernel
theorem dX10_markIndex_72 : decode cX10_markIndex 72 = .ok (.if_icmp .ge 7, 3) := by decide +kernel
theorem dX10_markIndex_75 : decode cX10_markIndex 75 = .ok (.iconst 1, 1) := by decide +kernel
theorem dX10_markIndex_76 : decode cX10_markIndex 76 = .ok (.goto 4, 3) := by decide +kernel
theorem dX10_markIndex_79 : decode cX10_markIndex 79 = .ok (.iconst 0, 1) := by decide +kernel
theorem dX10_markIndex_80 : decode cX10_markIndex 80 = .ok (.istore 4, 2) := by decide +kernel
theorem dX10_markIndex_82 : decode cX10_markIndex 82 = .ok (.iload 4, 2) := by decide +kernel
theorem dX10_markIndex_84 : decode cX10_markIndex 84 = .ok (.ifCond .eq 11, 3) := by decide +kernel
theorem dX10_markIndex_87 : decode cX10_markIndex 87 = .ok (.iload_n 2, 1) := by decide +kernel
theorem dX10_markIndex_88 : decode cX10_markIndex 88 = .ok (.iconst 4, 1) := by decide +kernel
theorem dX10_markIndex_89 : decode cX10_markIndex 89 = .ok (.imul, 1) := by decide +kernel
theorem dX10_markIndex_90 : decode cX10_markIndex 90 = .ok (.iload_n 3, 1) := by decide +kernel
theorem dX10_markIndex_91 : decode cX10_markIndex 91 = .ok (.iadd, 1) := by decide +kernel
theorem dX10_markIndex_92 : decode cX10_markIndex 92 = .ok (.goto 4, 3) := by decide +kernel
theorem dX10_markIndex_95 : decode cX10_markIndex 95 = .ok (.iconst (-1), 1) := by decide +kernel
theorem dX10_markIndex_96 : decode cX10_markIndex 96 = .ok (.ireturn, 1) := by decide +kernel
theorem dX10_usesOfFact_0 : decode cX10_usesOfFact 0 = .ok (.aload_n 0, 1) := by decide +kernel
theorem dX10_usesOfFact_1 : decode cX10_usesOfFact 1 = .ok (.getfield 54, 3) := by decide +kernel
theorem dX10_usesOfFact_4 : decode cX10_usesOfFact 4 = .ok (.lconst 0, 1) := by decide +kernel
theorem dX10_usesOfFact_5 : decode cX10_usesOfFact 5 = .ok (.invokevirtual 146, 3) := by decide +kernel
theorem dX10_usesOfFact_8 : decode cX10_usesOfFact 8 = .ok (.iconst 0, 1) := by decide +kernel
theorem dX10_usesOfFact_9 : decode cX10_usesOfFact 9 = .ok (.istore_n 2, 1) := by decide +kernel
theorem dX10_usesOfFact_10 : decode cX10_usesOfFact 10 = .ok (.iconst 0, 1) := by decide +kernel
theorem dX10_usesOfFact_11 : decode cX10_usesOfFact 11 = .ok (.istore_n 3, 1) := by decide +kernel
theorem dX10_usesOfFact_12 : decode cX10_usesOfFact 12 = .ok (.iload_n 3, 1) := by decide +kernel
theorem dX10_usesOfFact_13 : decode cX10_usesOfFact 13 = .ok (.aload_n 0, 1) := by decide +kernel
theorem dX10_usesOfFact_14 : decode cX10_usesOfFact 14 = .ok (.getfield 45, 3) := by decide +kernel
theorem dX10_usesOfFact_17 : decode cX10_usesOfFact 17 = .ok (.getfield 110, 3) := by decide +kernel
theorem dX10_usesOfFact_20 : decode cX10_usesOfFact 20 = .ok (.getfield 157, 3) := by decide +kernel
theorem dX10_usesOfFact_23 : decode cX10_usesOfFact 23 = .ok (.if_icmp .ge 27, 3) := by decide +kernel
theorem dX10_usesOfFact_26 : decode cX10_usesOfFact 26 = .ok (.aload_n 0, 1) := by decide +kernel
theorem dX10_usesOfFact_27 : decode cX10_usesOfFact 27 = .ok (.getfield 54, 3) := by decide +kernel
theorem dX10_usesOfFact_30 : decode cX10_usesOfFact 30 = .ok (.getfield 160, 3) := by decide +kernel
theorem dX10_usesOfFact_33 : decode cX10_usesOfFact 33 = .ok (.iload_n 3, 1) := by decide +kernel
theorem dX10_usesOfFact_34 : decode cX10_usesOfFact 34 = .ok (.invokestatic 153, 3) := by decide +kernel
theorem dX10_usesOfFact_37 : decode cX10_usesOfFact 37 = .ok (.iload_n 1, 1) := by decide +kernel
theorem dX10_usesOfFact_38 : decode cX10_usesOfFact 38 = .ok (.if_icmp .ne 6, 3) := by decide +kernel
theorem dX10_usesOfFact_41 : decode cX10_usesOfFact 41 = .ok (.iinc 2 1, 3) := by decide +kernel
theorem dX10_usesOfFact_44 : decode cX10_usesOfFact 44 = .ok (.iinc 3 1, 3) := by decide +kernel
theorem dX10_usesOfFact_47 : decode cX10_usesOfFact 47 = .ok (.goto (-35), 3) := by decide +kernel
theorem dX10_usesOfFact_50 : decode cX10_usesOfFact 50 = .ok (.iload_n 2, 1) := by decide +kernel
theorem dX10_usesOfFact_51 : decode cX10_usesOfFact 51 = .ok (.ireturn, 1) := by decide +kernel
theorem dX10_verdictOfUse_0 : decode cX10_verdictOfUse 0 = .ok (.iload_n 0, 1) := by decide +kernel
theorem dX10_verdictOfUse_1 : decode cX10_verdictOfUse 1 = .ok (.tableswitch 33 1 3 #[31, 27, 29], 27) := by decide +kernel
theorem dX10_verdictOfUse_28 : decode cX10_verdictOfUse 28 = .ok (.iconst 1, 1) := by decide +kernel
theorem dX10_verdictOfUse_29 : decode cX10_verdictOfUse 29 = .ok (.ireturn, 1) := by decide +kernel
theorem dX10_verdictOfUse_30 : decode cX10_verdictOfUse 30 = .ok (.iconst 2, 1) := by decide +kernel
theorem dX10_verdictOfUse_31 : decode cX10_verdictOfUse 31 = .ok (.ireturn, 1) := by decide +kernel
theorem dX10_verdictOfUse_32 : decode cX10_verdictOfUse 32 = .ok (.iconst 3, 1) := by decide +kernel
theorem dX10_verdictOfUse_33 : decode cX10_verdictOfUse 33 = .ok (.ireturn, 1) := by decide +kernel
theorem dX10_verdictOfUse_34 : decode cX10_verdictOfUse 34 = .ok (.iconst 0, 1) := by decide +kernel
theorem dX10_verdictOfUse_35 : decode cX10_verdictOfUse 35 = .ok (.ireturn, 1) := by decide +kernel
theorem dX10_verdictOfTest_0 : decode cX10_verdictOfTest 0 = .ok (.iload_n 0, 1) := by decide +kernel
theorem dX10_verdictOfTest_1 : decode cX10_verdictOfTest 1 = .ok (.tableswitch 33 0 2 #[31, 27, 29], 27) := by decide +kernel
theorem dX10_verdictOfTest_28 : decode cX10_verdictOfTest 28 = .ok (.iconst 1, 1) := by decide +kernel
theorem dX10_verdictOfTest_29 : decode cX10_verdictOfTest 29 = .ok (.ireturn, 1) := by decide +kernel
theorem dX10_verdictOfTest_30 : decode cX10_verdictOfTest 30 = .ok (.iconst 2, 1) := by decide +kernel
theorem dX10_verdictOfTest_31 : decode cX10_verdictOfTest 31 = .ok (.ireturn, 1) := by decide +kernel
theorem dX10_verdictOfTest_32 : decode cX10_verdictOfTest 32 = .ok (.iconst 3, 1) := by decide +kernel
theorem dX10_verdictOfTest_33 : decode cX10_verdictOfTest 33 = .ok (.ireturn, 1) := by decide +kernel
theorem dX10_verdictOfTest_34 : decode cX10_verdictOfTest 34 = .ok (.iconst 0, 1) := by decide +kernel
theorem dX10_verdictOfTest_35 : decode cX10_verdictOfTest 35 = .ok (.ireturn, 1) := by decide +kernel
