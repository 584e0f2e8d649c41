theorem dJ6_numberOfTrailingZeros_0f7a4_0 : decode cJ6_numberOfTrailingZeros_0f7a4 0 = .ok (.iload_n 0, 1) := by decide +kernel
theorem dJ6_numberOfTrailingZeros_0f7a4_1 : decode cJ6_numberOfTrailingZeros_0f7a4 1 = .ok (.iconst (-1), 1) := by decide +kernel
theorem dJ6_numberOfTrailingZeros_0f7a4_2 : decode cJ6_numberOfTrailingZeros_0f7a4 2 = .ok (.ixor, 1) := by decide +kernel
theorem dJ6_numberOfTrailingZeros_0f7a4_3 : decode cJ6_numberOfTrailingZeros_0f7a4 3 = .ok (.iload_n 0, 1) := by decide +kernel
theorem dJ6_numberOfTrailingZeros_0f7a4_4 : decode cJ6_numberOfTrailingZeros_0f7a4 4 = .ok (.iconst 1, 1) := by decide +kernel
theorem dJ6_numberOfTrailingZeros_0f7a4_5 : decode cJ6_numberOfTrailingZeros_0f7a4 5 = .ok (.isub, 1) := by decide +kernel
theorem dJ6_numberOfTrailingZeros_0f7a4_6 : decode cJ6_numberOfTrailingZeros_0f7a4 6 = .ok (.iand, 1) := by decide +kernel
theorem dJ6_numberOfTrailingZeros_0f7a4_7 : decode cJ6_numberOfTrailingZeros_0f7a4 7 = .ok (.istore_n 0, 1) := by decide +kernel
theorem dJ6_numberOfTrailingZeros_0f7a4_8 : decode cJ6_numberOfTrailingZeros_0f7a4 8 = .ok (.iload_n 0, 1) := by decide +kernel
theorem dJ6_numberOfTrailingZeros_0f7a4_9 : decode cJ6_numberOfTrailingZeros_0f7a4 9 = .ok (.ifCond .gt 8, 3) := by decide +kernel
theorem dJ6_numberOfTrailingZeros_0f7a4_12 : decode cJ6_numberOfTrailingZeros_0f7a4 12 = .ok (.iload_n 0, 1) := by decide +kernel
theorem dJ6_numberOfTrailingZeros_0f7a4_13 : decode cJ6_numberOfTrailingZeros_0f7a4 13 = .ok (.bipush 32, 2) := by decide +kernel
theorem dJ6_numberOfTrailingZeros_0f7a4_15 : decode cJ6_numberOfTrailingZeros_0f7a4 15 = .ok (.iand, 1) := by decide +kernel
theorem dJ6_numberOfTrailingZeros_0f7a4_16 : decode cJ6_numberOfTrailingZeros_0f7a4 16 = .ok (.ireturn, 1) := by decide +kernel
theorem dJ6_numberOfTrailingZeros_0f7a4_17 : decode cJ6_numberOfTrailingZeros_0f7a4 17 = .ok (.iconst 1, 1) := by decide +kernel
theorem dJ6_numberOfTrailingZeros_0f7a4_18 : decode cJ6_numberOfTrailingZeros_0f7a4 18 = .ok (.istore_n 1, 1) := by decide +kernel
theorem dJ6_numberOfTrailingZeros_0f7a4_19 : decode cJ6_numberOfTrailingZeros_0f7a4 19 = .ok (.iload_n 0, 1) := by decide +kernel
theorem dJ6_numberOfTrailingZeros_0f7a4_20 : decode cJ6_numberOfTrailingZeros_0f7a4 20 = .ok (.ldc_w 264, 3) := by decide +kernel
theorem dJ6_numberOfTrailingZeros_0f7a4_23 : decode cJ6_numberOfTrailingZeros_0f7a4 23 = .ok (.if_icmp .le 11, 3) := by decide +kernel
theorem dJ6_numberOfTrailingZeros_0f7a4_26 : decode cJ6_numberOfTrailingZeros_0f7a4 26 = .ok (.iinc 1 16, 3) := by decide +kernel
theorem dJ6_numberOfTrailingZeros_0f7a4_29 : decode cJ6_numberOfTrailingZeros_0f7a4 29 = .ok (.iload_n 0, 1) := by decide +kernel
theorem dJ6_numberOfTrailingZeros_0f7a4_30 : decode cJ6_numberOfTrailingZeros_0f7a4 30 = .ok (.bipush 16, 2) := by decide +kernel
theorem dJ6_numberOfTrailingZeros_0f7a4_32 : decode cJ6_numberOfTrailingZeros_0f7a4 32 = .ok (.iushr, 1) := by decide +kernel
theorem dJ6_numberOfTrailingZeros_0f7a4_33 : decode cJ6_numberOfTrailingZeros_0f7a4 33 = .ok (.istore_n 0, 1) := by decide +kernel
theorem dJ6_numberOfTrailingZeros_0f7a4_34 : decode cJ6_numberOfTrailingZeros_0f7a4 34 = .ok (.iload_n 0, 1) := by decide +kernel
theorem dJ6_numberOfTrailingZeros_0f7a4_35 : decode cJ6_numberOfTrailingZeros_0f7a4 35 = .ok (.sipush 256, 3) := by decide +kernel
theorem dJ6_numberOfTrailingZeros_0f7a4_38 : decode cJ6_numberOfTrailingZeros_0f7a4 38 = .ok (.if_icmp .le 11, 3) := by decide +kernel
theorem dJ6_numberOfTrailingZeros_0f7a4_41 : decode cJ6_numberOfTrailingZeros_0f7a4 41 = .ok (.iinc 1 8, 3) := by decide +kernel
theorem dJ6_numberOfTrailingZeros_0f7a4_44 : decode cJ6_numberOfTrailingZeros_0f7a4 44 = .ok (.iload_n 0, 1) := by decide +kernel
theorem dJ6_numberOfTrailingZeros_0f7a4_45 : decode cJ6_numberOfTrailingZeros_0f7a4 45 = .ok (.bipush 8, 2) := by decide +kernel
theorem dJ6_numberOfTrailingZeros_0f7a4_47 : decode cJ6_numberOfTrailingZeros_0f7a4 47 = .ok (.iushr, 1) := by decide +kernel
theorem dJ6_numberOfTrailingZeros_0f7a4_48 : decode cJ6_numberOfTrailingZeros_0f7a4 48 = .ok (.istore_n 0, 1) := by decide +kernel
theorem dJ6_numberOfTrailingZeros_0f7a4_49 : decode cJ6_numberOfTrailingZeros_0f7a4 49 = .ok (.iload_n 0, 1) := by decide +kernel
theorem dJ6_numberOfTrailingZeros_0f7a4_50 : decode cJ6_numberOfTrailingZeros_0f7a4 50 = .ok (.bipush 16, 2) := by decide +kernel
theorem dJ6_numberOfTrailingZeros_0f7a4_52 : decode cJ6_numberOfTrailingZeros_0f7a4 52 = .ok (.if_icmp .le 10, 3) := by decide +kernel
theorem dJ6_numberOfTrailingZeros_0f7a4_55 : decode cJ6_numberOfTrailingZeros_0f7a4 55 = .ok (.iinc 1 4, 3) := by decide +kernel
theorem dJ6_numberOfTrailingZeros_0f7a4_58 : decode cJ6_numberOfTrailingZeros_0f7a4 58 = .ok (.iload_n 0, 1) := by decide +kernel
theorem dJ6_numberOfTrailingZeros_0f7a4_59 : decode cJ6_numberOfTrailingZeros_0f7a4 59 = .ok (.iconst 4, 1) := by decide +kernel
theorem dJ6_numberOfTrailingZeros_0f7a4_60 : decode cJ6_numberOfTrailingZeros_0f7a4 60 = .ok (.iushr, 1) := by decide +kernel
theorem dJ6_numberOfTrailingZeros_0f7a4_61 : decode cJ6_numberOfTrailingZeros_0f7a4 61 = .ok (.istore_n 0, 1) := by decide +kernel
theorem dJ6_numberOfTrailingZeros_0f7a4_62 : decode cJ6_numberOfTrailingZeros_0f7a4 62 = .ok (.iload_n 0, 1) := by decide +kernel
theorem dJ6_numberOfTrailingZeros_0f7a4_63 : decode cJ6_numberOfTrailingZeros_0f7a4 63 = .ok (.iconst 4, 1) := by decide +kernel
theorem dJ6_numberOfTrailingZeros_0f7a4_64 : decode cJ6_numberOfTrailingZeros_0f7a4 64 = .ok (.if_icmp .le 10, 3) := by decide +kernel
theorem dJ6_numberOfTrailingZeros_0f7a4_67 : decode cJ6_numberOfTrailingZeros_0f7a4 67 = .ok (.iinc 1 2, 3) := by decide +kernel
theorem dJ6_numberOfTrailingZeros_0f7a4_70 : decode cJ6_numberOfTrailingZeros_0f7a4 70 = .ok (.iload_n 0, 1) := by decide +kernel
theorem dJ6_numberOfTrailingZeros_0f7a4_71 : decode cJ6_numberOfTrailingZeros_0f7a4 71 = .ok (.iconst 2, 1) := by decide +kernel
theorem dJ6_numberOfTrailingZeros_0f7a4_72 : decode cJ6_numberOfTrailingZeros_0f7a4 72 = .ok (.iushr, 1) := by decide +kernel
theorem dJ6_numberOfTrailingZeros_0f7a4_73 : decode cJ6_numberOfTrailingZeros_0f7a4 73 = .ok (.istore_n 0, 1) := by decide +kernel
theorem dJ6_numberOfTrailingZeros_0f7a4_74 : decode cJ6_numberOfTrailingZeros_0f7a4 74 = .ok (.iload_n 1, 1) := by decide +kernel
theorem dJ6_numberOfTrailingZeros_0f7a4_75 : decode cJ6_numberOfTrailingZeros_0f7a4 75 = .ok (.iload_n 0, 1) := by decide +kernel
theorem dJ6_numberOfTrailingZeros_0f7a4_76 : decode cJ6_numberOfTrailingZeros_0f7a4 76 = .ok (.iconst 1, 1) := by decide +kernel
theorem dJ6_numberOfTrailingZeros_0f7a4_77 : decode cJ6_numberOfTrailingZeros_0f7a4 77 = .ok (.iushr, 1) := by decide +kernel
theorem dJ6_numberOfTrailingZeros_0f7a4_78 : decode cJ6_numberOfTrailingZeros_0f7a4 78 = .ok (.iadd, 1) := by decide +kernel
theorem dJ6_numberOfTrailingZeros_0f7a4_79 : decode cJ6_numberOfTrailingZeros_0f7a4 79 = .ok (.ireturn, 1) := by decide +kernel
theorem dJ6_bitCount_0f7a4_0 : decode cJ6_bitCount_0f7a4 0 = .ok (.iload_n 0, 1) := by decide +kernel
theorem dJ6_bitCount_0f7a4_1 : decode cJ6_bitCount_0f7a4 1 = .ok (.iload_n 0, 1) := by decide +kernel
theorem dJ6_bitCount_0f7a4_2 : decode cJ6_bitCount_0f7a4 2 = .ok (.iconst 1, 1) := by decide +kernel
theorem dJ6_bitCount_0f7a4_3 : decode cJ6_bitCount_0f7a4 3 = .ok (.iushr, 1) := by decide +kernel
theorem dJ6_bitCount_0f7a4_4 : decode cJ6_bitCount_0f7a4 4 = .ok (.ldc_w 265, 3) := by decide +kernel
theorem dJ6_bitCount_0f7a4_7 : decode cJ6_bitCount_0f7a4 7 = .ok (.iand, 1) := by decide +kernel
theorem dJ6_bitCount_0f7a4_8 : decode cJ6_bitCount_0f7a4 8 = .ok (.isub, 1) := by decide +kernel
theorem dJ6_bitCount_0f7a4_9 : decode cJ6_bitCount_0f7a4 9 = .ok (.istore_n 0, 1) := by decide +kernel
theorem dJ6_bitCount_0f7a4_10 : decode cJ6_bitCount_0f7a4 10 = .ok (.iload_n 0, 1) := by decide +kernel
theorem dJ6_bitCount_0f7a4_11 : decode cJ6_bitCount_0f7a4 11 = .ok (.ldc_w 266, 3) := by decide +kernel
theorem dJ6_bitCount_0f7a4_14 : decode cJ6_bitCount_0f7a4 14 = .ok (.iand, 1) := by decide +kernel
theorem dJ6_bitCount_0f7a4_15 : decode cJ6_bitCount_0f7a4 15 = .ok (.iload_n 0, 1) := by decide +kernel
theorem dJ6_bitCount_0f7a4_16 : decode cJ6_bitCount_0f7a4 16 = .ok (.iconst 2, 1) := by decide +kernel
theorem dJ6_bitCount_0f7a4_17 : decode cJ6_bitCount_0f7a4 17 = .ok (.iushr, 1) := by decide +kernel
theorem dJ6_bitCount_0f7a4_18 : decode cJ6_bitCount_0f7a4 18 = .ok (.ldc_w 266, 3) := by decide +kernel
theorem dJ6_bitCount_0f7a4_21 : decode cJ6_bitCount_0f7a4 21 = .ok (.iand, 1) := by decide +kernel
theorem dJ6_bitCount_0f7a4_22 : decode cJ6_bitCount_0f7a4 22 = .ok (.iadd, 1) := by decide +kernel
theorem dJ6_bitCount_0f7a4_23 : decode cJ6_bitCount_0f7a4 23 = .ok (.istore_n 0, 1) := by decide +kernel
theorem dJ6_bitCount_0f7a4_24 : decode cJ6_bitCount_0f7a4 24 = .ok (.iload_n 0, 1) := by decide +kernel
theorem dJ6_bitCount_0f7a4_25 : decode cJ6_bitCount_0f7a4 25 = .ok (.iload_n 0, 1) := by decide +kernel
theorem dJ6_bitCount_0f7a4_26 : decode cJ6_bitCount_0f7a4 26 = .ok (.iconst 4, 1) := by decide +kernel
theorem dJ6_bitCount_0f7a4_27 : decode cJ6_bitCount_0f7a4 27 = .ok (.iushr, 1) := by decide +kernel
theorem dJ6_bitCount_0f7a4_28 : decode cJ6_bitCount_0f7a4 28 = .ok (.iadd, 1) := by decide +kernel
theorem dJ6_bitCount_0f7a4_29 : decode cJ6_bitCount_0f7a4 29 = .ok (.ldc_w 267, 3) := by decide +kernel
theorem dJ6_bitCount_0f7a4_32 : decode cJ6_bitCount_0f7a4 32 = .ok (.iand, 1) := by decide +kernel
theorem dJ6_bitCount_0f7a4_33 : decode cJ6_bitCount_0f7a4 33 = .ok (.istore_n 0, 1) := by decide +kernel
theorem dJ6_bitCount_0f7a4_34 : decode cJ6_bitCount_0f7a4 34 = .ok (.iload_n 0, 1) := by decide +kernel
theorem dJ6_bitCount_0f7a4_35 : decode cJ6_bitCount_0f7a4 35 = .ok (.iload_n 0, 1) := by decide +kernel
theorem dJ6_bitCount_0f7a4_36 : decode cJ6_bitCount_0f7a4 36 = .ok (.bipush 8, 2) := by decide +kernel
theorem dJ6_bitCount_0f7a4_38 : decode cJ6_bitCount_0f7a4 38 = .ok (.iushr, 1) := by decide +kernel
theorem dJ6_bitCount_0f7a4_39 : decode cJ6_bitCount_0f7a4 39 = .ok (.iadd, 1) := by decide +kernel
theorem dJ6_bitCount_0f7a4_40 : decode cJ6_bitCount_0f7a4 40 = .ok (.istore_n 0, 1) := by decide +kernel
theorem dJ6_bitCount_0f7a4_41 : decode cJ6_bitCount_0f7a4 41 = .ok (.iload_n 0, 1) := by decide +kernel
theorem dJ6_bitCount_0f7a4_42 : decode cJ6_bitCount_0f7a4 42 = .ok (.iload_n 0, 1) := by decide +kernel
theorem dJ6_bitCount_0f7a4_43 : decode cJ6_bitCount_0f7a4 43 = .ok (.bipush 16, 2) := by decide +kernel
theorem dJ6_bitCount_0f7a4_45 : decode cJ6_bitCount_0f7a4 45 = .ok (.iushr, 1) := by decide +kernel
theorem dJ6_bitCount_0f7a4_46 : decode cJ6_bitCount_0f7a4 46 = .ok (.iadd, 1) := by decide +kernel
theorem dJ6_bitCount_0f7a4_47 : decode cJ6_bitCount_0f7a4 47 = .ok (.istore_n 0, 1) := by decide +kernel
theorem dJ6_bitCount_0f7a4_48 : decode cJ6_bitCount_0f7a4 48 = .ok (.iload_n 0, 1) := by decide +kernel
theorem dJ6_bitCount_0f7a4_49 : decode cJ6_bitCount_0f7a4 49 = .ok (.bipush 63, 2) := by decide +kernel
theorem dJ6_bitCount_0f7a4_51 : decode cJ6_bitCount_0f7a4 51 = .ok (.iand, 1) := by decide +kernel
theorem dJ6_bitCount_0f7a4_52 : decode cJ6_bitCount_0f7a4 52 = .ok (.ireturn, 1) := by decide +kernel
theorem dJ7_fill_53178_0 : decode cJ7_fill_53178 0 = .ok (.iconst 0, 1) := by decide +kernel
theorem dJ7_fill_53178_1 : decode cJ7_fill_53178 1 = .ok (.istore_n 2, 1) := by decide +kernel
theorem dJ7_fill_53178_2 : decode cJ7_fill_53178 2 = .ok (.aload_n 0, 1) := by decide +kernel
theorem dJ7_fill_53178_3 : decode cJ7_fill_53178 3 = .ok (.arraylength, 1) := by decide +kernel
theorem dJ7_fill_53178_4 : decode cJ7_fill_53178 4 = .ok (.istore_n 3, 1) := by decide +kernel
theorem dJ7_fill_53178_5 : decode cJ7_fill_53178 5 = .ok (.iload_n 2, 1) := by decide +kernel
theorem dJ7_fill_53178_6 : decode cJ7_fill_53178 6 = .ok (.iload_n 3, 1) := by decide +kernel
theorem dJ7_fill_53178_7 : decode cJ7_fill_53178 7 = .ok (.if_icmp .ge 13, 3) := by decide +kernel
theorem dJ7_fill_53178_10 : decode cJ7_fill_53178 10 = .ok (.aload_n 0, 1) := by decide +kernel
theorem dJ7_fill_53178_11 : decode cJ7_fill_53178 11 = .ok (.iload_n 2, 1) := by decide +kernel
theorem dJ7_fill_53178_12 : decode cJ7_fill_53178 12 = .ok (.iload_n 1, 1) := by decide +kernel
theorem dJ7_fill_53178_13 : decode cJ7_fill_53178 13 = .ok (.iastore, 1) := by decide +kernel
theorem dJ7_fill_53178_14 : decode cJ7_fill_53178 14 = .ok (.iinc 2 1, 3) := by decide +kernel
theorem dJ7_fill_53178_17 : decode cJ7_fill_53178 17 = .ok (.goto (-12), 3) := by decide +kernel
theorem dJ7_fill_53178_20 : decode cJ7_fill_53178 20 = .ok (.return_, 1) := by decide +kernel
theorem dJ9_floorMod_7cf53_0 : decode cJ9_floorMod_7cf53 0 = .ok (.iload_n 0, 1) := by decide +kernel
theorem dJ9_floorMod_7cf53_1 : decode cJ9_floorMod_7cf53 1 = .ok (.iload_n 1, 1) := by decide +kernel
theorem dJ9_floorMod_7cf53_2 : decode cJ9_floorMod_7cf53 2 = .ok (.irem, 1) := by decide +kernel
theorem dJ9_floorMod_7cf53_3 : decode cJ9_floorMod_7cf53 3 = .ok (.istore_n 2, 1) := by decide +kernel
theorem dJ9_floorMod_7cf53_4 : decode cJ9_floorMod_7cf53 4 = .ok (.iload_n 0, 1) := by decide +kernel
theorem dJ9_floorMod_7cf53_5 : decode cJ9_floorMod_7cf53 5 = .ok (.iload_n 1, 1) := by decide +kernel
theorem dJ9_floorMod_7cf53_6 : decode cJ9_floorMod_7cf53 6 = .ok (.ixor, 1) := by decide +kernel
theorem dJ9_floorMod_7cf53_7 : decode cJ9_floorMod_7cf53 7 = .ok (.ifCond .ge 11, 3) := by decide +kernel
theorem dJ9_floorMod_7cf53_10 : decode cJ9_floorMod_7cf53 10 = .ok (.iload_n 2, 1) := by decide +kernel
theorem dJ9_floorMod_7cf53_11 : decode cJ9_floorMod_7cf53 11 = .ok (.ifCond .eq 7, 3) := by decide +kernel
theorem dJ9_floorMod_7cf53_14 : decode cJ9_floorMod_7cf53 14 = .ok (.iload_n 2, 1) := by decide +kernel
theorem dJ9_floorMod_7cf53_15 : decode cJ9_floorMod_7cf53 15 = .ok (.iload_n 1, 1) := by decide +kernel
theorem dJ9_floorMod_7cf53_16 : decode cJ9_floorMod_7cf53 16 = .ok (.iadd, 1) := by decide +kernel
theorem dJ9_floorMod_7cf53_17 : decode cJ9_floorMod_7cf53 17 = .ok (.ireturn, 1) := by decide +kernel
theorem dJ9_floorMod_7cf53_18 : decode cJ9_floorMod_7cf53 18 = .ok (.iload_n 2, 1) := by decide +kernel
theorem dJ9_floorMod_7cf53_19 : decode cJ9_floorMod_7cf53 19 = .ok (.ireturn, 1) := by decide +kernel
theorem dJ9_max_7cf53_0 : decode cJ9_max_7cf53 0 = .ok (.iload_n 0, 1) := by decide +kernel
theorem dJ9_max_7cf53_1 : decode cJ9_max_7cf53 1 = .ok (.iload_n 1, 1) := by decide +kernel
theorem dJ9_max_7cf53_2 : decode cJ9_max_7cf53 2 = .ok (.if_icmp .lt 7, 3) := by decide +kernel
theorem dJ9_max_7cf53_5 : decode cJ9_max_7cf53 5 = .ok (.iload_n 0, 1) := by decide +kernel
theorem dJ9_max_7cf53_6 : decode cJ9_max_7cf53 6 = .ok (.goto 4, 3) := by decide +kernel
theorem dJ9_max_7cf53_9 : decode cJ9_max_7cf53 9 = .ok (.iload_n 1, 1) := by decide +kernel
theorem dJ9_max_7cf53_10 : decode cJ9_max_7cf53 10 = .ok (.ireturn, 1) := by decide +kernel
theorem dJ9_min_7cf53_0 : decode cJ9_min_7cf53 0 = .ok (.iload_n 0, 1) := by decide +kernel
theorem dJ9_min_7cf53_1 : decode cJ9_min_7cf53 1 = .ok (.iload_n 1, 1) := by decide +kernel
theorem dJ9_min_7cf53_2 : decode cJ9_min_7cf53 2 = .ok (.if_icmp .gt 7, 3) := by decide +kernel
theorem dJ9_min_7cf53_5 : decode cJ9_min_7cf53 5 = .ok (.iload_n 0, 1) := by decide +kernel
theorem dJ9_min_7cf53_6 : decode cJ9_min_7cf53 6 = .ok (.goto 4, 3) := by decide +kernel
theorem dJ9_min_7cf53_9 : decode cJ9_min_7cf53 9 = .ok (.iload_n 1, 1) := by decide +kernel
theorem dJ9_min_7cf53_10 : decode cJ9_min_7cf53 10 = .ok (.ireturn, 1) := by decide +kernel
theorem dX0_init_0 : decode cX0_init 0 = .ok (.aload_n 0, 1) := by decide +kernel
theorem dX0_init_1 : decode cX0_init 1 = .ok (.invokespecial 3, 3) := by decide +kernel
theorem dX0_init_4 : decode cX0_init 4 = .ok (.aload_n 0, 1) := by decide +kernel
theorem dX0_init_5 : decode cX0_init 5 = .ok (.sipush 4096, 3) := by decide +kernel
theorem dX0_init_8 : decode cX0_init 8 = .ok (.newarray .int, 2) := by decide +kernel
theorem dX0_init_10 : decode cX0_init 10 = .ok (.putfield 9, 3) := by decide +kernel
theorem dX0_init_13 : decode cX0_init 13 = .ok (.aload_n 0, 1) := by decide +kernel
theorem dX0_init_14 : decode cX0_init 14 = .ok (.bipush 12, 2) := by decide +kernel
theorem dX0_init_16 : decode cX0_init 16 = .ok (.newarray .int, 2) := by decide +kernel
theorem dX0_init_18 : decode cX0_init 18 = .ok (.putfield 15, 3) := by decide +kernel
theorem dX0_init_21 : decode cX0_init 21 = .ok (.aload_n 0, 1) := by decide +kernel
theorem dX0_init_22 : decode cX0_init 22 = .ok (.bipush 12, 2) := by decide +kernel
theorem dX0_init_24 : decode cX0_init 24 = .ok (.newarray .int, 2) := by decide +kernel
theorem dX0_init_26 : decode cX0_init 26 = .ok (.putfield 18, 3) := by decide +kernel
theorem dX0_init_29 : decode cX0_init 29 = .ok (.aload_n 0, 1) := by decide +kernel
theorem dX0_init_30 : decode cX0_init 30 = .ok (.iconst 0, 1) := by decide +kernel
theorem dX0_init_31 : decode cX0_init 31 = .ok (.putfield 21, 3) := by decide +kernel
theorem dX0_init_34 : decode cX0_init 34 = .ok (.aload_n 0, 1) := by decide +kernel
theorem dX0_init_35 : decode cX0_init 35 = .ok (.iconst 0, 1) := by decide +kernel
theorem dX0_init_36 : decode cX0_init 36 = .ok (.putfield 25, 3) := by decide +kernel
theorem dX0_init_39 : decode cX0_init 39 = .ok (.aload_n 0, 1) := by decide +kernel
theorem dX0_init_40 : decode cX0_init 40 = .ok (.iconst 0, 1) := by decide +kernel
theorem dX0_init_41 : decode cX0_init 41 = .ok (.putfield 28, 3) := by decide +kernel
theorem dX0_init_44 : decode cX0_init 44 = .ok (.aload_n 0, 1) := by decide +kernel
theorem dX0_init_45 : decode cX0_init 45 = .ok (.sipush 256, 3) := by decide +kernel
theorem dX0_init_48 : decode cX0_init 48 = .ok (.newarray .int, 2) := by decide +kernel
theorem dX0_init_50 : decode cX0_init 50 = .ok (.putfield 32, 3) := by decide +kernel
theorem dX0_init_53 : decode cX0_init 53 = .ok (.aload_n 0, 1) := by decide +kernel
theorem dX0_init_54 : decode cX0_init 54 = .ok (.bipush 16, 2) := by decide +kernel
theorem dX0_init_56 : decode cX0_init 56 = .ok (.newarray .int, 2) := by decide +kernel
theorem dX0_init_58 : decode cX0_init 58 = .ok (.putfield 35, 3) := by decide +kernel
theorem dX0_init_61 : decode cX0_init 61 = .ok (.return_, 1) := by decide +kernel
theorem dX0_prepare_0 : decode cX0_prepare 0 = .ok (.aload_n 0, 1) := by decide +kernel
theorem dX0_prepare_1 : decode cX0_prepare 1 = .ok (.iload 4, 2) := by decide +kernel
theorem dX0_prepare_3 : decode cX0_prepare 3 = .ok (.putfield 28, 3) := by decide +kernel
theorem dX0_prepare_6 : decode cX0_prepare 6 = .ok (.aload_n 0, 1) := by decide +kernel
theorem dX0_prepare_7 : decode cX0_prepare 7 = .ok (.aload_n 2, 1) := by decide +kernel
theorem dX0_prepare_8 : decode cX0_prepare 8 = .ok (.getfield 38, 3) := by decide +kernel
theorem dX0_prepare_11 : decode cX0_prepare 11 = .ok (.putfield 25, 3) := by decide +kernel
theorem dX0_prepare_14 : decode cX0_prepare 14 = .ok (.aload_n 0, 1) := by decide +kernel
theorem dX0_prepare_15 : decode cX0_prepare 15 = .ok (.iload_n 1, 1) := by decide +kernel
theorem dX0_prepare_16 : decode cX0_prepare 16 = .ok (.aload_n 2, 1) := by decide +kernel
theorem dX0_prepare_17 : decode cX0_prepare 17 = .ok (.aload_n 3, 1) := by decide +kernel
theorem dX0_prepare_18 : decode cX0_prepare 18 = .ok (.invokevirtual 43, 3) := by decide +kernel
theorem dX0_prepare_21 : decode cX0_prepare 21 = .ok (.iconst 0, 1) := by decide +kernel
theorem dX0_prepare_22 : decode cX0_prepare 22 = .ok (.istore 5, 2) := by decide +kernel
theorem dX0_prepare_24 : decode cX0_prepare 24 = .ok (.iload 5, 2) := by decide +kernel
theorem dX0_prepare_26 : decode cX0_prepare 26 = .ok (.aload_n 0, 1) := by decide +kernel
theorem dX0_prepare_27 : decode cX0_prepare 27 = .ok (.getfield 25, 3) := by decide +kernel
theorem dX0_prepare_30 : decode cX0_prepare 30 = .ok (.if_icmp .ge 16, 3) := by decide +kernel
theorem dX0_prepare_33 : decode cX0_prepare 33 = .ok (.aload_n 0, 1) := by decide +kernel
theorem dX0_prepare_34 : decode cX0_prepare 34 = .ok (.iload 5, 2) := by decide +kernel
theorem dX0_prepare_36 : decode cX0_prepare 36 = .ok (.aload_n 3, 1) := by decide +kernel
theorem dX0_prepare_37 : decode cX0_prepare 37 = .ok (.invokevirtual 47, 3) := by decide +kernel
theorem dX0_prepare_40 : decode cX0_prepare 40 = .ok (.iinc 5 1, 3) := by decide +kernel
theorem dX0_prepare_43 : decode cX0_prepare 43 = .ok (.goto (-19), 3) := by decide +kernel
theorem dX0_prepare_46 : decode cX0_prepare 46 = .ok (.iconst 1, 1) := by decide +kernel
theorem dX0_prepare_47 : decode cX0_prepare 47 = .ok (.aload_n 0, 1) := by decide +kernel
theorem dX0_prepare_48 : decode cX0_prepare 48 = .ok (.getfield 21, 3) := by decide +kernel
theorem dX0_prepare_51 : decode cX0_prepare 51 = .ok (.ishl, 1) := by decide +kernel
theorem dX0_prepare_52 : decode cX0_prepare 52 = .ok (.istore 5, 2) := by decide +kernel
theorem dX0_prepare_54 : decode cX0_prepare 54 = .ok (.iconst 0, 1) := by decide +kernel
theorem dX0_prepare_55 : decode cX0_prepare 55 = .ok (.istore 6, 2) := by decide +kernel
theorem dX0_prepare_57 : decode cX0_prepare 57 = .ok (.iload 6, 2) := by decide +kernel
theorem dX0_prepare_59 : decode cX0_prepare 59 = .ok (.iload 5, 2) := by decide +kernel
theorem dX0_prepare_61 : decode cX0_prepare 61 = .ok (.if_icmp .ge 17, 3) := by decide +kernel
theorem dX0_prepare_64 : decode cX0_prepare 64 = .ok (.aload_n 0, 1) := by decide +kernel
theorem dX0_prepare_65 : decode cX0_prepare 65 = .ok (.getfield 9, 3) := by decide +kernel
theorem dX0_prepare_68 : decode cX0_prepare 68 = .ok (.iload 6, 2) := by decide +kernel
theorem dX0_prepare_70 : decode cX0_prepare 70 = .ok (.iconst (-1), 1) := by decide +kernel
theorem dX0_prepare_71 : decode cX0_prepare 71 = .ok (.iastore, 1) := by decide +kernel
theorem dX0_prepare_72 : decode cX0_prepare 72 = .ok (.iinc 6 1, 3) := by decide +kernel
theorem dX0_prepare_75 : decode cX0_prepare 75 = .ok (.goto (-18), 3) := by decide +kernel
theorem dX0_prepare_78 : decode cX0_prepare 78 = .ok (.return_, 1) := by decide +kernel
theorem dX0_findPlaces_0 : decode cX0_findPlaces 0 = .ok (.aload_n 0, 1) := by decide +kernel
theorem dX0_findPlaces_1 : decode cX0_findPlaces 1 = .ok (.iconst 0, 1) := by decide +kernel
theorem dX0_findPlaces_2 : decode cX0_findPlaces 2 = .ok (.putfield 21, 3) := by decide +kernel
theorem dX0_findPlaces_5 : decode cX0_findPlaces 5 = .ok (.iconst 0, 1) := by decide +kernel
theorem dX0_findPlaces_6 : decode cX0_findPlaces 6 = .ok (.istore 4, 2) := by decide +kernel
theorem dX0_findPlaces_8 : decode cX0_findPlaces 8 = .ok (.iload 4, 2) := by decide +kernel
theorem dX0_findPlaces_10 : decode cX0_findPlaces 10 = .ok (.aload_n 2, 1) := by decide +kernel
theorem dX0_findPlaces_11 : decode cX0_findPlaces 11 = .ok (.getfield 38, 3) := by decide +kernel
theorem dX0_findPlaces_14 : decode cX0_findPlaces 14 = .ok (.if_icmp .ge 99, 3) := by decide +kernel
theorem dX0_findPlaces_17 : decode cX0_findPlaces 17 = .ok (.iload_n 1, 1) := by decide +kernel
theorem dX0_findPlaces_18 : decode cX0_findPlaces 18 = .ok (.iload 4, 2) := by decide +kernel
theorem dX0_findPlaces_20 : decode cX0_findPlaces 20 = .ok (.ishr, 1) := by decide +kernel
theorem dX0_findPlaces_21 : decode cX0_findPlaces 21 = .ok (.iconst 1, 1) := by decide +kernel
theorem dX0_findPlaces_22 : decode cX0_findPlaces 22 = .ok (.iand, 1) := by decide +kernel
theorem dX0_findPlaces_23 : decode cX0_findPlaces 23 = .ok (.iconst 1, 1) := by decide +kernel
theorem dX0_findPlaces_24 : decode cX0_findPlaces 24 = .ok (.if_icmp .ne 83, 3) := by decide +kernel
theorem dX0_findPlaces_27 : decode cX0_findPlaces 27 = .ok (.aload_n 0, 1) := by decide +kernel
theorem dX0_findPlaces_28 : decode cX0_findPlaces 28 = .ok (.iload 4, 2) := by decide +kernel
theorem dX0_findPlaces_30 : decode cX0_findPlaces 30 = .ok (.aload_n 3, 1) := by decide +kernel
theorem dX0_findPlaces_31 : decode cX0_findPlaces 31 = .ok (.invokevirtual 51, 3) := by decide +kernel
theorem dX0_findPlaces_34 : decode cX0_findPlaces 34 = .ok (.istore 5, 2) := by decide +kernel
theorem dX0_findPlaces_36 : decode cX0_findPlaces 36 = .ok (.iload 5, 2) := by decide +kernel
theorem dX0_findPlaces_38 : decode cX0_findPlaces 38 = .ok (.aload_n 0, 1) := by decide +kernel
theorem dX0_findPlaces_39 : decode cX0_findPlaces 39 = .ok (.getfield 21, 3) := by decide +kernel
theorem dX0_findPlaces_42 : decode cX0_findPlaces 42 = .ok (.if_icmp .ne 39, 3) := by decide +kernel
theorem dX0_findPlaces_45 : decode cX0_findPlaces 45 = .ok (.aload_n 0, 1) := by decide +kernel
theorem dX0_findPlaces_46 : decode cX0_findPlaces 46 = .ok (.getfield 21, 3) := by decide +kernel
theorem dX0_findPlaces_49 : decode cX0_findPlaces 49 = .ok (.bipush 12, 2) := by decide +kernel
theorem dX0_findPlaces_51 : decode cX0_findPlaces 51 = .ok (.if_icmp .ge 30, 3) := by decide +kernel
theorem dX0_findPlaces_54 : decode cX0_findPlaces 54 = .ok (.aload_n 0, 1) := by decide +kernel
theorem dX0_findPlaces_55 : decode cX0_findPlaces 55 = .ok (.getfield 15, 3) := by decide +kernel
theorem dX0_findPlaces_58 : decode cX0_findPlaces 58 = .ok (.iload 5, 2) := by decide +kernel
theorem dX0_findPlaces_60 : decode cX0_findPlaces 60 = .ok (.iload 4, 2) := by decide +kernel
theorem dX0_findPlaces_62 : decode cX0_findPlaces 62 = .ok (.iastore, 1) := by decide +kernel
theorem dX0_findPlaces_63 : decode cX0_findPlaces 63 = .ok (.aload_n 0, 1) := by decide +kernel
theorem dX0_findPlaces_64 : decode cX0_findPlaces 64 = .ok (.getfield 18, 3) := by decide +kernel
theorem dX0_findPlaces_67 : decode cX0_findPlaces 67 = .ok (.iload 5, 2) := by decide +kernel
theorem dX0_findPlaces_69 : decode cX0_findPlaces 69 = .ok (.iconst 0, 1) := by decide +kernel
theorem dX0_findPlaces_70 : decode cX0_findPlaces 70 = .ok (.iastore, 1) := by decide +kernel
theorem dX0_findPlaces_71 : decode cX0_findPlaces 71 = .ok (.aload_n 0, 1) := by decide +kernel
theorem dX0_findPlaces_72 : decode cX0_findPlaces 72 = .ok (.dup, 1) := by decide +kernel
theorem dX0_findPlaces_73 : decode cX0_findPlaces 73 = .ok (.getfield 21, 3) := by decide +kernel
theorem dX0_findPlaces_76 : decode cX0_findPlaces 76 = .ok (.iconst 1, 1) := by decide +kernel
theorem dX0_findPlaces_77 : decode cX0_findPlaces 77 = .ok (.iadd, 1) := by decide +kernel
theorem dX0_findPlaces_78 : decode cX0_findPlaces 78 = .ok (.putfield 21, 3) := by decide +kernel
theorem dX0_findPlaces_81 : decode cX0_findPlaces 81 = .ok (.iload 5, 2) := by decide +kernel
theorem dX0_findPlaces_83 : decode cX0_findPlaces 83 = .ok (.aload_n 0, 1) := by decide +kernel
theorem dX0_findPlaces_84 : decode cX0_findPlaces 84 = .ok (.getfield 21, 3) := by decide +kernel
theorem dX0_findPlaces_87 : decode cX0_findPlaces 87 = .ok (.if_icmp .ge 20, 3) := by decide +kernel
theorem dX0_findPlaces_90 : decode cX0_findPlaces 90 = .ok (.aload_n 0, 1) := by decide +kernel
theorem dX0_findPlaces_91 : decode cX0_findPlaces 91 = .ok (.getfield 18, 3) := by decide +kernel
theorem dX0_findPlaces_94 : decode cX0_findPlaces 94 = .ok (.iload 5, 2) := by decide +kernel
theorem dX0_findPlaces_96 : decode cX0_findPlaces 96 = .ok (.dup2, 1) := by decide +kernel
theorem dX0_findPlaces_97 : decode cX0_findPlaces 97 = .ok (.iaload, 1) := by decide +kernel
theorem dX0_findPlaces_98 : decode cX0_findPlaces 98 = .ok (.aload_n 2, 1) := by decide +kernel
theorem dX0_findPlaces_99 : decode cX0_findPlaces 99 = .ok (.getfield 55, 3) := by decide +kernel
theorem dX0_findPlaces_102 : decode cX0_findPlaces 102 = .ok (.iload 4, 2) := by decide +kernel
theorem dX0_findPlaces_104 : decode cX0_findPlaces 104 = .ok (.iaload, 1) := by decide +kernel
theorem dX0_findPlaces_105 : decode cX0_findPlaces 105 = .ok (.iadd, 1) := by decide +kernel
theorem dX0_findPlaces_106 : decode cX0_findPlaces 106 = .ok (.iastore, 1) := by decide +kernel
theorem dX0_findPlaces_107 : decode cX0_findPlaces 107 = .ok (.iinc 4 1, 3) := by decide +kernel
theorem dX0_findPlaces_110 : decode cX0_findPlaces 110 = .ok (.goto (-102), 3) := by decide +kernel
theorem dX0_findPlaces_113 : decode cX0_findPlaces 113 = .ok (.return_, 1) := by decide +kernel
theorem dX0_placeOf_0 : decode cX0_placeOf 0 = .ok (.iconst 0, 1) := by decide +kernel
theorem dX0_placeOf_1 : decode cX0_placeOf 1 = .ok (.istore_n 3, 1) := by decide +kernel
theorem dX0_placeOf_2 : decode cX0_placeOf 2 = .ok (.iload_n 3, 1) := by decide +kernel
theorem dX0_placeOf_3 : decode cX0_placeOf 3 = .ok (.aload_n 0, 1) := by decide +kernel
theorem dX0_placeOf_4 : decode cX0_placeOf 4 = .ok (.getfield 21, 3) := by decide +kernel
theorem dX0_placeOf_7 : decode cX0_placeOf 7 = .ok (.if_icmp .ge 25, 3) := by decide +kernel
theorem dX0_placeOf_10 : decode cX0_placeOf 10 = .ok (.aload_n 2, 1) := by decide +kernel
theorem dX0_placeOf_11 : decode cX0_placeOf 11 = .ok (.aload_n 0, 1) := by decide +kernel
theorem dX0_placeOf_12 : decode cX0_placeOf 12 = .ok (.getfield 15, 3) := by decide +kernel
theorem dX0_placeOf_15 : decode cX0_placeOf 15 = .ok (.iload_n 3, 1) := by decide +kernel
theorem dX0_placeOf_16 : decode cX0_placeOf 16 = .ok (.iaload, 1) := by decide +kernel
theorem dX0_placeOf_17 : decode cX0_placeOf 17 = .ok (.iload_n 1, 1) := by decide +kernel
theorem dX0_placeOf_18 : decode cX0_placeOf 18 = .ok (.invokevirtual 56, 3) := by decide +kernel
theorem dX0_placeOf_21 : decode cX0_placeOf 21 = .ok (.ifCond .eq 5, 3) := by decide +kernel
theorem dX0_placeOf_24 : decode cX0_placeOf 24 = .ok (.iload_n 3, 1) := by decide +kernel
theorem dX0_placeOf_25 : decode cX0_placeOf 25 = .ok (.ireturn, 1) := by decide +kernel
theorem dX0_placeOf_26 : decode cX0_placeOf 26 = .ok (.iinc 3 1, 3) := by decide +kernel
theorem dX0_placeOf_29 : decode cX0_placeOf 29 = .ok (.goto (-27), 3) := by decide +kernel
theorem dX0_placeOf_32 : decode cX0_placeOf 32 = .ok (.aload_n 0, 1) := by decide +kernel
theorem dX0_placeOf_33 : decode cX0_placeOf 33 = .ok (.getfield 21, 3) := by decide +kernel
theorem dX0_placeOf_36 : decode cX0_placeOf 36 = .ok (.ireturn, 1) := by decide +kernel
theorem dX0_groupPlaces_0 : decode cX0_groupPlaces 0 = .ok (.iconst 0, 1) := by decide +kernel
theorem dX0_groupPlaces_1 : decode cX0_groupPlaces 1 = .ok (.istore_n 3, 1) := by decide +kernel
theorem dX0_groupPlaces_2 : decode cX0_groupPlaces 2 = .ok (.iconst 0, 1) := by decide +kernel
theorem dX0_groupPlaces_3 : decode cX0_groupPlaces 3 = .ok (.istore 4, 2) := by decide +kernel
theorem dX0_groupPlaces_5 : decode cX0_groupPlaces 5 = .ok (.iload 4, 2) := by decide +kernel
theorem dX0_groupPlaces_7 : decode cX0_groupPlaces 7 = .ok (.aload_n 2, 1) := by decide +kernel
theorem dX0_groupPlaces_8 : decode cX0_groupPlaces 8 = .ok (.getfield 62, 3) := by decide +kernel
theorem dX0_groupPlaces_11 : decode cX0_groupPlaces 11 = .ok (.iload_n 1, 1) := by decide +kernel
theorem dX0_groupPlaces_12 : decode cX0_groupPlaces 12 = .ok (.iaload, 1) := by decide +kernel
theorem dX0_groupPlaces_13 : decode cX0_groupPlaces 13 = .ok (.if_icmp .ge 85, 3) := by decide +kernel
theorem dX0_groupPlaces_16 : decode cX0_groupPlaces 16 = .ok (.aload_n 2, 1) := by decide +kernel
theorem dX0_groupPlaces_17 : decode cX0_groupPlaces 17 = .ok (.getfield 63, 3) := by decide +kernel
theorem dX0_groupPlaces_20 : decode cX0_groupPlaces 20 = .ok (.bipush 16, 2) := by decide +kernel
theorem dX0_groupPlaces_22 : decode cX0_groupPlaces 22 = .ok (.iload_n 1, 1) := by decide +kernel
theorem dX0_groupPlaces_23 : decode cX0_groupPlaces 23 = .ok (.imul, 1) := by decide +kernel
theorem dX0_groupPlaces_24 : decode cX0_groupPlaces 24 = .ok (.iload 4, 2) := by decide +kernel
theorem dX0_groupPlaces_26 : decode cX0_groupPlaces 26 = .ok (.iadd, 1) := by decide +kernel
theorem dX0_groupPlaces_27 : decode cX0_groupPlaces 27 = .ok (.iaload, 1) := by decide +kernel
theorem dX0_groupPlaces_28 : decode cX0_groupPlaces 28 = .ok (.istore 5, 2) := by decide +kernel
theorem dX0_groupPlaces_30 : decode cX0_groupPlaces 30 = .ok (.iconst 0, 1) := by decide +kernel
theorem dX0_groupPlaces_31 : decode cX0_groupPlaces 31 = .ok (.istore 6, 2) := by decide +kernel
theorem dX0_groupPlaces_33 : decode cX0_groupPlaces 33 = .ok (.iconst 0, 1) := by decide +kernel
theorem dX0_groupPlaces_34 : decode cX0_groupPlaces 34 = .ok (.istore 7, 2) := by decide +kernel
theorem dX0_groupPlaces_36 : decode cX0_groupPlaces 36 = .ok (.iload 7, 2) := by decide +kernel
theorem dX0_groupPlaces_38 : decode cX0_groupPlaces 38 = .ok (.aload_n 0, 1) := by decide +kernel
theorem dX0_groupPlaces_39 : decode cX0_groupPlaces 39 = .ok (.getfield 21, 3) := by decide +kernel
theorem dX0_groupPlaces_42 : decode cX0_groupPlaces 42 = .ok (.if_icmp .ge 29, 3) := by decide +kernel
theorem dX0_groupPlaces_45 : decode cX0_groupPlaces 45 = .ok (.iload 6, 2) := by decide +kernel
theorem dX0_groupPlaces_47 : decode cX0_groupPlaces 47 = .ok (.iload 5, 2) := by decide +kernel
theorem dX0_groupPlaces_49 : decode cX0_groupPlaces 49 = .ok (.aload_n 0, 1) := by decide +kernel
theorem dX0_groupPlaces_50 : decode cX0_groupPlaces 50 = .ok (.getfield 15, 3) := by decide +kernel
theorem dX0_groupPlaces_53 : decode cX0_groupPlaces 53 = .ok (.iload 7, 2) := by decide +kernel
theorem dX0_groupPlaces_55 : decode cX0_groupPlaces 55 = .ok (.iaload, 1) := by decide +kernel
theorem dX0_groupPlaces_56 : decode cX0_groupPlaces 56 = .ok (.ishr, 1) := by decide +kernel
theorem dX0_groupPlaces_57 : decode cX0_groupPlaces 57 = .ok (.iconst 1, 1) := by decide +kernel
theorem dX0_groupPlaces_58 : decode cX0_groupPlaces 58 = .ok (.iand, 1) := by decide +kernel
theorem dX0_groupPlaces_59 : decode cX0_groupPlaces 59 = .ok (.iload 7, 2) := by decide +kernel
theorem dX0_groupPlaces_61 : decode cX0_groupPlaces 61 = .ok (.ishl, 1) := by decide +kernel
theorem dX0_groupPlaces_62 : decode cX0_groupPlaces 62 = .ok (.ior, 1) := by decide +kernel
theorem dX0_groupPlaces_63 : decode cX0_groupPlaces 63 = .ok (.istore 6, 2) := by decide +kernel
theorem dX0_groupPlaces_65 : decode cX0_groupPlaces 65 = .ok (.iinc 7 1, 3) := by decide +kernel
theorem dX0_groupPlaces_68 : decode cX0_groupPlaces 68 = .ok (.goto (-32), 3) := by decide +kernel
theorem dX0_groupPlaces_71 : decode cX0_groupPlaces 71 = .ok (.iload 6, 2) := by decide +kernel
theorem dX0_groupPlaces_73 : decode cX0_groupPlaces 73 = .ok (.ifCond .eq 19, 3) := by decide +kernel
theorem dX0_groupPlaces_76 : decode cX0_groupPlaces 76 = .ok (.aload_n 0, 1) := by decide +kernel
theorem dX0_groupPlaces_77 : decode cX0_groupPlaces 77 = .ok (.getfield 32, 3) := by decide +kernel
theorem dX0_groupPlaces_80 : decode cX0_groupPlaces 80 = .ok (.bipush 16, 2) := by decide +kernel
theorem dX0_groupPlaces_82 : decode cX0_groupPlaces 82 = .ok (.iload_n 1, 1) := by decide +kernel
theorem dX0_groupPlaces_83 : decode cX0_groupPlaces 83 = .ok (.imul, 1) := by decide +kernel
theorem dX0_groupPlaces_84 : decode cX0_groupPlaces 84 = .ok (.iload_n 3, 1) := by decide +kernel
theorem dX0_groupPlaces_85 : decode cX0_groupPlaces 85 = .ok (.iadd, 1) := by decide +kernel
theorem dX0_groupPlaces_86 : decode cX0_groupPlaces 86 = .ok (.iload 6, 2) := by decide +kernel
theorem dX0_groupPlaces_88 : decode cX0_groupPlaces 88 = .ok (.iastore, 1) := by decide +kernel
theorem dX0_groupPlaces_89 : decode cX0_groupPlaces 89 = .ok (.iinc 3 1, 3) := by decide +kernel
theorem dX0_groupPlaces_92 : decode cX0_groupPlaces 92 = .ok (.iinc 4 1, 3) := by decide +kernel
theorem dX0_groupPlaces_95 : decode cX0_groupPlaces 95 = .ok (.goto (-90), 3) := by decide +kernel
theorem dX0_groupPlaces_98 : decode cX0_groupPlaces 98 = .ok (.aload_n 0, 1) := by decide +kernel
theorem dX0_groupPlaces_99 : decode cX0_groupPlaces 99 = .ok (.getfield 35, 3) := by decide +kernel
theorem dX0_groupPlaces_102 : decode cX0_groupPlaces 102 = .ok (.iload_n 1, 1) := by decide +kernel
theorem dX0_groupPlaces_103 : decode cX0_groupPlaces 103 = .ok (.iload_n 3, 1) := by decide +kernel
theorem dX0_groupPlaces_104 : decode cX0_groupPlaces 104 = .ok (.iastore, 1) := by decide +kernel
theorem dX0_groupPlaces_105 : decode cX0_groupPlaces 105 = .ok (.return_, 1) := by decide +kernel
theorem dX0_leastCost_0 : decode cX0_leastCost 0 = .ok (.aload_n 0, 1) := by decide +kernel
theorem dX0_leastCost_1 : decode cX0_leastCost 1 = .ok (.iconst 1, 1) := by decide +kernel
theorem dX0_leastCost_2 : decode cX0_leastCost 2 = .ok (.aload_n 0, 1) := by decide +kernel
theorem dX0_leastCost_3 : decode cX0_leastCost 3 = .ok (.getfield 21, 3) := by decide +kernel
theorem dX0_leastCost_6 : decode cX0_leastCost 6 = .ok (.ishl, 1) := by decide +kernel
theorem dX0_leastCost_7 : decode cX0_leastCost 7 = .ok (.iconst 1, 1) := by decide +kernel
theorem dX0_leastCost_8 : decode cX0_leastCost 8 = .ok (.isub, 1) := by decide +kernel
theorem dX0_leastCost_9 : decode cX0_leastCost 9 = .ok (.iconst 0, 1) := by decide +kernel
theorem dX0_leastCost_10 : decode cX0_leastCost 10 = .ok (.invokevirtual 64, 3) := by decide +kernel
theorem dX0_leastCost_13 : decode cX0_leastCost 13 = .ok (.istore_n 1, 1) := by decide +kernel
theorem dX0_leastCost_14 : decode cX0_leastCost 14 = .ok (.iload_n 1, 1) := by decide +kernel
theorem dX0_leastCost_15 : decode cX0_leastCost 15 = .ok (.ldc 68, 2) := by decide +kernel
theorem dX0_leastCost_17 : decode cX0_leastCost 17 = .ok (.if_icmp .ne 8, 3) := by decide +kernel
theorem dX0_leastCost_20 : decode cX0_leastCost 20 = .ok (.bipush (-2), 2) := by decide +kernel
theorem dX0_leastCost_22 : decode cX0_leastCost 22 = .ok (.goto 4, 3) := by decide +kernel
theorem dX0_leastCost_25 : decode cX0_leastCost 25 = .ok (.iload_n 1, 1) := by decide +kernel
theorem dX0_leastCost_26 : decode cX0_leastCost 26 = .ok (.ireturn, 1) := by decide +kernel
theorem dX0_firstMark_0 : decode cX0_firstMark 0 = .ok (.iconst 1, 1) := by decide +kernel
theorem dX0_firstMark_1 : decode cX0_firstMark 1 = .ok (.aload_n 0, 1) := by decide +kernel
theorem dX0_firstMark_2 : decode cX0_firstMark 2 = .ok (.getfield 21, 3) := by decide +kernel
theorem dX0_firstMark_5 : decode cX0_firstMark 5 = .ok (.ishl, 1) := by decide +kernel
theorem dX0_firstMark_6 : decode cX0_firstMark 6 = .ok (.iconst 1, 1) := by decide +kernel
theorem dX0_firstMark_7 : decode cX0_firstMark 7 = .ok (.isub, 1) := by decide +kernel
theorem dX0_firstMark_8 : decode cX0_firstMark 8 = .ok (.istore_n 1, 1) := by decide +kernel
theorem dX0_firstMark_9 : decode cX0_firstMark 9 = .ok (.aload_n 0, 1) := by decide +kernel
theorem dX0_firstMark_10 : decode cX0_firstMark 10 = .ok (.iload_n 1, 1) := by decide +kernel
theorem dX0_firstMark_11 : decode cX0_firstMark 11 = .ok (.iconst 0, 1) := by decide +kernel
theorem dX0_firstMark_12 : decode cX0_firstMark 12 = .ok (.invokevirtual 64, 3) := by decide +kernel
theorem dX0_firstMark_15 : decode cX0_firstMark 15 = .ok (.istore_n 2, 1) := by decide +kernel
theorem dX0_firstMark_16 : decode cX0_firstMark 16 = .ok (.aload_n 0, 1) := by decide +kernel
theorem dX0_firstMark_17 : decode cX0_firstMark 17 = .ok (.getfield 21, 3) := by decide +kernel
theorem dX0_firstMark_20 : decode cX0_firstMark 20 = .ok (.iconst 2, 1) := by decide +kernel
theorem dX0_firstMark_21 : decode cX0_firstMark 21 = .ok (.if_icmp .lt 9, 3) := by decide +kernel
theorem dX0_firstMark_24 : decode cX0_firstMark 24 = .ok (.iload_n 2, 1) := by decide +kernel
theorem dX0_firstMark_25 : decode cX0_firstMark 25 = .ok (.ldc 68, 2) := by decide +kernel
theorem dX0_firstMark_27 : decode cX0_firstMark 27 = .ok (.if_icmp .ne 5, 3) := by decide +kernel
theorem dX0_firstMark_30 : decode cX0_firstMark 30 = .ok (.iconst (-1), 1) := by decide +kernel
theorem dX0_firstMark_31 : decode cX0_firstMark 31 = .ok (.ireturn, 1) := by decide +kernel
theorem dX0_firstMark_32 : decode cX0_firstMark 32 = .ok (.iconst 0, 1) := by decide +kernel
theorem dX0_firstMark_33 : decode cX0_firstMark 33 = .ok (.istore_n 3, 1) := by decide +kernel
theorem dX0_firstMark_34 : decode cX0_firstMark 34 = .ok (.iload_n 3, 1) := by decide +kernel
theorem dX0_firstMark_35 : decode cX0_firstMark 35 = .ok (.aload_n 0, 1) := by decide +kernel
theorem dX0_firstMark_36 : decode cX0_firstMark 36 = .ok (.getfield 25, 3) := by decide +kernel
theorem dX0_firstMark_39 : decode cX0_firstMark 39 = .ok (.if_icmp .ge 22, 3) := by decide +kernel
theorem dX0_firstMark_42 : decode cX0_firstMark 42 = .ok (.aload_n 0, 1) := by decide +kernel
theorem dX0_firstMark_43 : decode cX0_firstMark 43 = .ok (.iload_n 3, 1) := by decide +kernel
theorem dX0_firstMark_44 : decode cX0_firstMark 44 = .ok (.iload_n 1, 1) := by decide +kernel
theorem dX0_firstMark_45 : decode cX0_firstMark 45 = .ok (.iconst 0, 1) := by decide +kernel
theorem dX0_firstMark_46 : decode cX0_firstMark 46 = .ok (.invokevirtual 69, 3) := by decide +kernel
theorem dX0_firstMark_49 : decode cX0_firstMark 49 = .ok (.iload_n 2, 1) := by decide +kernel
theorem dX0_firstMark_50 : decode cX0_firstMark 50 = .ok (.if_icmp .ne 5, 3) := by decide +kernel
theorem dX0_firstMark_53 : decode cX0_firstMark 53 = .ok (.iload_n 3, 1) := by decide +kernel
theorem dX0_firstMark_54 : decode cX0_firstMark 54 = .ok (.ireturn, 1) := by decide +kernel
theorem dX0_firstMark_55 : decode cX0_firstMark 55 = .ok (.iinc 3 1, 3) := by decide +kernel
theorem dX0_firstMark_58 : decode cX0_firstMark 58 = .ok (.goto (-24), 3) := by decide +kernel
theorem dX0_firstMark_61 : decode cX0_firstMark 61 = .ok (.iconst (-1), 1) := by decide +kernel
theorem dX0_firstMark_62 : decode cX0_firstMark 62 = .ok (.ireturn, 1) := by decide +kernel
theorem dX0_costOf_0 : decode cX0_costOf 0 = .ok (.iload_n 1, 1) := by decide +kernel
theorem dX0_costOf_1 : decode cX0_costOf 1 = .ok (.iload_n 1, 1) := by decide +kernel
theorem dX0_costOf_2 : decode cX0_costOf 2 = .ok (.iconst 1, 1) := by decide +kernel
theorem dX0_costOf_3 : decode cX0_costOf 3 = .ok (.isub, 1) := by decide +kernel
theorem dX0_costOf_4 : decode cX0_costOf 4 = .ok (.iand, 1) := by decide +kernel
theorem dX0_costOf_5 : decode cX0_costOf 5 = .ok (.ifCond .ne 5, 3) := by decide +kernel
theorem dX0_costOf_8 : decode cX0_costOf 8 = .ok (.iconst 0, 1) := by decide +kernel
theorem dX0_costOf_9 : decode cX0_costOf 9 = .ok (.ireturn, 1) := by decide +kernel
theorem dX0_costOf_10 : decode cX0_costOf 10 = .ok (.iload_n 2, 1) := by decide +kernel
theorem dX0_costOf_11 : decode cX0_costOf 11 = .ok (.bipush 12, 2) := by decide +kernel
theorem dX0_costOf_13 : decode cX0_costOf 13 = .ok (.if_icmp .le 6, 3) := by decide +kernel
theorem dX0_costOf_16 : decode cX0_costOf 16 = .ok (.ldc 68, 2) := by decide +kernel
theorem dX0_costOf_18 : decode cX0_costOf 18 = .ok (.ireturn, 1) := by decide +kernel
theorem dX0_costOf_19 : decode cX0_costOf 19 = .ok (.aload_n 0, 1) := by decide +kernel
theorem dX0_costOf_20 : decode cX0_costOf 20 = .ok (.getfield 9, 3) := by decide +kernel
theorem dX0_costOf_23 : decode cX0_costOf 23 = .ok (.iload_n 1, 1) := by decide +kernel
theorem dX0_costOf_24 : decode cX0_costOf 24 = .ok (.iaload, 1) := by decide +kernel
theorem dX0_costOf_25 : decode cX0_costOf 25 = .ok (.iconst (-1), 1) := by decide +kernel
theorem dX0_costOf_26 : decode cX0_costOf 26 = .ok (.if_icmp .ne 44, 3) := by decide +kernel
theorem dX0_costOf_29 : decode cX0_costOf 29 = .ok (.ldc 68, 2) := by decide +kernel
theorem dX0_costOf_31 : decode cX0_costOf 31 = .ok (.istore_n 3, 1) := by decide +kernel
theorem dX0_costOf_32 : decode cX0_costOf 32 = .ok (.iconst 0, 1) := by decide +kernel
theorem dX0_costOf_33 : decode cX0_costOf 33 = .ok (.istore 4, 2) := by decide +kernel
theorem dX0_costOf_35 : decode cX0_costOf 35 = .ok (.iload 4, 2) := by decide +kernel
theorem dX0_costOf_37 : decode cX0_costOf 37 = .ok (.aload_n 0, 1) := by decide +kernel
theorem dX0_costOf_38 : decode cX0_costOf 38 = .ok (.getfield 25, 3) := by decide +kernel
theorem dX0_costOf_41 : decode cX0_costOf 41 = .ok (.if_icmp .ge 22, 3) := by decide +kernel
theorem dX0_costOf_44 : decode cX0_costOf 44 = .ok (.iload_n 3, 1) := by decide +kernel
theorem dX0_costOf_45 : decode cX0_costOf 45 = .ok (.aload_n 0, 1) := by decide +kernel
theorem dX0_costOf_46 : decode cX0_costOf 46 = .ok (.iload 4, 2) := by decide +kernel
theorem dX0_costOf_48 : decode cX0_costOf 48 = .ok (.iload_n 1, 1) := by decide +kernel
theorem dX0_costOf_49 : decode cX0_costOf 49 = .ok (.iload_n 2, 1) := by decide +kernel
theorem dX0_costOf_50 : decode cX0_costOf 50 = .ok (.invokevirtual 69, 3) := by decide +kernel
theorem dX0_costOf_53 : decode cX0_costOf 53 = .ok (.invokestatic 73, 3) := by decide +kernel
theorem dX0_costOf_56 : decode cX0_costOf 56 = .ok (.istore_n 3, 1) := by decide +kernel
theorem dX0_costOf_57 : decode cX0_costOf 57 = .ok (.iinc 4 1, 3) := by decide +kernel
theorem dX0_costOf_60 : decode cX0_costOf 60 = .ok (.goto (-25), 3) := by decide +kernel
theorem dX0_costOf_63 : decode cX0_costOf 63 = .ok (.aload_n 0, 1) := by decide +kernel
theorem dX0_costOf_64 : decode cX0_costOf 64 = .ok (.getfield 9, 3) := by decide +kernel
theorem dX0_costOf_67 : decode cX0_costOf 67 = .ok (.iload_n 1, 1) := by decide +kernel
theorem dX0_costOf_68 : decode cX0_costOf 68 = .ok (.iload_n 3, 1) := by decide +kernel
theorem dX0_costOf_69 : decode cX0_costOf 69 = .ok (.iastore, 1) := by decide +kernel
theorem dX0_costOf_70 : decode cX0_costOf 70 = .ok (.aload_n 0, 1) := by decide +kernel
theorem dX0_costOf_71 : decode cX0_costOf 71 = .ok (.getfield 9, 3) := by decide +kernel
theorem dX0_costOf_74 : decode cX0_costOf 74 = .ok (.iload_n 1, 1) := by decide +kernel
theorem dX0_costOf_75 : decode cX0_costOf 75 = .ok (.iaload, 1) := by decide +kernel
theorem dX0_costOf_76 : decode cX0_costOf 76 = .ok (.ireturn, 1) := by decide +kernel
theorem dX0_costOfAsking_0 : decode cX0_costOfAsking 0 = .ok (.iconst 0, 1) := by decide +kernel
theorem dX0_costOfAsking_1 : decode cX0_costOfAsking 1 = .ok (.istore 4, 2) := by decide +kernel
theorem dX0_costOfAsking_3 : decode cX0_costOfAsking 3 = .ok (.iconst 0, 1) := by decide +kernel
theorem dX0_costOfAsking_4 : decode cX0_costOfAsking 4 = .ok (.istore 5, 2) := by decide +kernel
theorem dX0_costOfAsking_6 : decode cX0_costOfAsking 6 = .ok (.iload 5, 2) := by decide +kernel
theorem dX0_costOfAsking_8 : decode cX0_costOfAsking 8 = .ok (.aload_n 0, 1) := by decide +kernel
theorem dX0_costOfAsking_9 : decode cX0_costOfAsking 9 = .ok (.getfield 35, 3) := by decide +kernel
theorem dX0_costOfAsking_12 : decode cX0_costOfAsking 12 = .ok (.iload_n 1, 1) := by decide +kernel
theorem dX0_costOfAsking_13 : decode cX0_costOfAsking 13 = .ok (.iaload, 1) := by decide +kernel
theorem dX0_costOfAsking_14 : decode cX0_costOfAsking 14 = .ok (.if_icmp .ge 79, 3) := by decide +kernel
theorem dX0_costOfAsking_17 : decode cX0_costOfAsking 17 = .ok (.iload_n 2, 1) := by decide +kernel
theorem dX0_costOfAsking_18 : decode cX0_costOfAsking 18 = .ok (.aload_n 0, 1) := by decide +kernel
theorem dX0_costOfAsking_19 : decode cX0_costOfAsking 19 = .ok (.getfield 32, 3) := by decide +kernel
theorem dX0_costOfAsking_22 : decode cX0_costOfAsking 22 = .ok (.bipush 16, 2) := by decide +kernel
theorem dX0_costOfAsking_24 : decode cX0_costOfAsking 24 = .ok (.iload_n 1, 1) := by decide +kernel
theorem dX0_costOfAsking_25 : decode cX0_costOfAsking 25 = .ok (.imul, 1) := by decide +kernel
theorem dX0_costOfAsking_26 : decode cX0_costOfAsking 26 = .ok (.iload 5, 2) := by decide +kernel
theorem dX0_costOfAsking_28 : decode cX0_costOfAsking 28 = .ok (.iadd, 1) := by decide +kernel
theorem dX0_costOfAsking_29 : decode cX0_costOfAsking 29 = .ok (.iaload, 1) := by decide +kernel
theorem dX0_costOfAsking_30 : decode cX0_costOfAsking 30 = .ok (.iand, 1) := by decide +kernel
theorem dX0_costOfAsking_31 : decode cX0_costOfAsking 31 = .ok (.istore 6, 2) := by decide +kernel
theorem dX0_costOfAsking_33 : decode cX0_costOfAsking 33 = .ok (.iload 6, 2) := by decide +kernel
theorem dX0_costOfAsking_35 : decode cX0_costOfAsking 35 = .ok (.iload_n 2, 1) := by decide +kernel
theorem dX0_costOfAsking_36 : decode cX0_costOfAsking 36 = .ok (.if_icmp .ne 6, 3) := by decide +kernel
theorem dX0_costOfAsking_39 : decode cX0_costOfAsking 39 = .ok (.ldc 68, 2) := by decide +kernel
theorem dX0_costOfAsking_41 : decode cX0_costOfAsking 41 = .ok (.ireturn, 1) := by decide +kernel
theorem dX0_costOfAsking_42 : decode cX0_costOfAsking 42 = .ok (.aload_n 0, 1) := by decide +kernel
theorem dX0_costOfAsking_43 : decode cX0_costOfAsking 43 = .ok (.iload 6, 2) := by decide +kernel
theorem dX0_costOfAsking_45 : decode cX0_costOfAsking 45 = .ok (.iload_n 3, 1) := by decide +kernel
theorem dX0_costOfAsking_46 : decode cX0_costOfAsking 46 = .ok (.iconst 1, 1) := by decide +kernel
theorem dX0_costOfAsking_47 : decode cX0_costOfAsking 47 = .ok (.iadd, 1) := by decide +kernel
theorem dX0_costOfAsking_48 : decode cX0_costOfAsking 48 = .ok (.invokevirtual 64, 3) := by decide +kernel
theorem dX0_costOfAsking_51 : decode cX0_costOfAsking 51 = .ok (.istore 7, 2) := by decide +kernel
theorem dX0_costOfAsking_53 : decode cX0_costOfAsking 53 = .ok (.iload 7, 2) := by decide +kernel
theorem dX0_costOfAsking_55 : decode cX0_costOfAsking 55 = .ok (.ldc 68, 2) := by decide +kernel
theorem dX0_costOfAsking_57 : decode cX0_costOfAsking 57 = .ok (.if_icmp .ne 6, 3) := by decide +kernel
theorem dX0_costOfAsking_60 : decode cX0_costOfAsking 60 = .ok (.ldc 68, 2) := by decide +kernel
theorem dX0_costOfAsking_62 : decode cX0_costOfAsking 62 = .ok (.ireturn, 1) := by decide +kernel
theorem dX0_costOfAsking_63 : decode cX0_costOfAsking 63 = .ok (.aload_n 0, 1) := by decide +kernel
theorem dX0_costOfAsking_64 : decode cX0_costOfAsking 64 = .ok (.getfield 28, 3) := by decide +kernel
theorem dX0_costOfAsking_67 : decode cX0_costOfAsking 67 = .ok (.ifCond .eq 11, 3) := by decide +kernel
theorem dX0_costOfAsking_70 : decode cX0_costOfAsking 70 = .ok (.iload 4, 2) := by decide +kernel
theorem dX0_costOfAsking_72 : decode cX0_costOfAsking 72 = .ok (.iload 7, 2) := by decide +kernel
theorem dX0_costOfAsking_74 : decode cX0_costOfAsking 74 = .ok (.iadd, 1) := by decide +kernel
theorem dX0_costOfAsking_75 : decode cX0_costOfAsking 75 = .ok (.goto 10, 3) := by decide +kernel
theorem dX0_costOfAsking_78 : decode cX0_costOfAsking 78 = .ok (.iload 4, 2) := by decide +kernel
theorem dX0_costOfAsking_80 : decode cX0_costOfAsking 80 = .ok (.iload 7, 2) := by decide +kernel
theorem dX0_costOfAsking_82 : decode cX0_costOfAsking 82 = .ok (.invokestatic 78, 3) := by decide +kernel
theorem dX0_costOfAsking_85 : decode cX0_costOfAsking 85 = .ok (.istore 4, 2) := by decide +kernel
theorem dX0_costOfAsking_87 : decode cX0_costOfAsking 87 = .ok (.iinc 5 1, 3) := by decide +kernel
theorem dX0_costOfAsking_90 : decode cX0_costOfAsking 90 = .ok (.goto (-84), 3) := by decide +kernel
theorem dX0_costOfAsking_93 : decode cX0_costOfAsking 93 = .ok (.iload 4, 2) := by decide +kernel
theorem dX0_costOfAsking_95 : decode cX0_costOfAsking 95 = .ok (.aload_n 0, 1) := by decide +kernel
theorem dX0_costOfAsking_96 : decode cX0_costOfAsking 96 = .ok (.getfield 28, 3) := by decide +kernel
theorem dX0_costOfAsking_99 : decode cX0_costOfAsking 99 = .ok (.ifCond .eq 11, 3) := by decide +kernel
theorem dX0_costOfAsking_102 : decode cX0_costOfAsking 102 = .ok (.aload_n 0, 1) := by decide +kernel
theorem dX0_costOfAsking_103 : decode cX0_costOfAsking 103 = .ok (.iload_n 2, 1) := by decide +kernel
theorem dX0_costOfAsking_104 : decode cX0_costOfAsking 104 = .ok (.invokevirtual 81, 3) := by decide +kernel
theorem dX0_costOfAsking_107 : decode cX0_costOfAsking 107 = .ok (.goto 4, 3) := by decide +kernel
theorem dX0_costOfAsking_110 : decode cX0_costOfAsking 110 = .ok (.iconst 1, 1) := by decide +kernel
theorem dX0_costOfAsking_111 : decode cX0_costOfAsking 111 = .ok (.iadd, 1) := by decide +kernel
theorem dX0_costOfAsking_112 : decode cX0_costOfAsking 112 = .ok (.ireturn, 1) := by decide +kernel
theorem dX0_chanceOf_0 : decode cX0_chanceOf 0 = .ok (.iconst 0, 1) := by decide +kernel
theorem dX0_chanceOf_1 : decode cX0_chanceOf 1 = .ok (.istore_n 2, 1) := by decide +kernel
theorem dX0_chanceOf_2 : decode cX0_chanceOf 2 = .ok (.iconst 0, 1) := by decide +kernel
theorem dX0_chanceOf_3 : decode cX0_chanceOf 3 = .ok (.istore_n 3, 1) := by decide +kernel
theorem dX0_chanceOf_4 : decode cX0_chanceOf 4 = .ok (.iload_n 3, 1) := by decide +kernel
theorem dX0_chanceOf_5 : decode cX0_chanceOf 5 = .ok (.aload_n 0, 1) := by decide +kernel
theorem dX0_chanceOf_6 : decode cX0_chanceOf 6 = .ok (.getfield 21, 3) := by decide +kernel
theorem dX0_chanceOf_9 : decode cX0_chanceOf 9 = .ok (.if_icmp .ge 24, 3) := by decide +kernel
theorem dX0_chanceOf_12 : decode cX0_chanceOf 12 = .ok (.iload_n 2, 1) := by decide +kernel
theorem dX0_chanceOf_13 : decode cX0_chanceOf 13 = .ok (.iload_n 1, 1) := by decide +kernel
theorem dX0_chanceOf_14 : decode cX0_chanceOf 14 = .ok (.iload_n 3, 1) := by decide +kernel
theorem dX0_chanceOf_15 : decode cX0_chanceOf 15 = .ok (.ishr, 1) := by decide +kernel
theorem dX0_chanceOf_16 : decode cX0_chanceOf 16 = .ok (.iconst 1, 1) := by decide +kernel
theorem dX0_chanceOf_17 : decode cX0_chanceOf 17 = .ok (.iand, 1) := by decide +kernel
theorem dX0_chanceOf_18 : decode cX0_chanceOf 18 = .ok (.aload_n 0, 1) := by decide +kernel
theorem dX0_chanceOf_19 : decode cX0_chanceOf 19 = .ok (.getfield 18, 3) := by decide +kernel
theorem dX0_chanceOf_22 : decode cX0_chanceOf 22 = .ok (.iload_n 3, 1) := by decide +kernel
theorem dX0_chanceOf_23 : decode cX0_chanceOf 23 = .ok (.iaload, 1) := by decide +kernel
theorem dX0_chanceOf_24 : decode cX0_chanceOf 24 = .ok (.imul, 1) := by decide +kernel
theorem dX0_chanceOf_25 : decode cX0_chanceOf 25 = .ok (.iadd, 1) := by decide +kernel
theorem dX0_chanceOf_26 : decode cX0_chanceOf 26 = .ok (.istore_n 2, 1) := by decide +kernel
theorem dX0_chanceOf_27 : decode cX0_chanceOf 27 = .ok (.iinc 3 1, 3) := by decide +kernel
theorem dX0_chanceOf_30 : decode cX0_chanceOf 30 = .ok (.goto (-26), 3) := by decide +kernel
theorem dX0_chanceOf_33 : decode cX0_chanceOf 33 = .ok (.iload_n 2, 1) := by decide +kernel
theorem dX0_chanceOf_34 : decode cX0_chanceOf 34 = .ok (.ireturn, 1) := by decide +kernel
theorem dX1_init_0 : decode cX1_init 0 = .ok (.aload_n 0, 1) := by decide +kernel
theorem dX1_init_1 : decode cX1_init 1 = .ok (.invokespecial 3, 3) := by decide +kernel
theorem dX1_init_4 : decode cX1_init 4 = .ok (.aload_n 0, 1) := by decide +kernel
theorem dX1_init_5 : decode cX1_init 5 = .ok (.sipush 256, 3) := by decide +kernel
theorem dX1_init_8 : decode cX1_init 8 = .ok (.newarray .int, 2) := by decide +kernel
theorem dX1_init_10 : decode cX1_init 10 = .ok (.putfield 9, 3) := by decide +kernel
theorem dX1_init_13 : decode cX1_init 13 = .ok (.aload_n 0, 1) := by decide +kernel
theorem dX1_init_14 : decode cX1_init 14 = .ok (.iconst 0, 1) := by decide +kernel
theorem dX1_init_15 : decode cX1_init 15 = .ok (.putfield 15, 3) := by decide +kernel
theorem dX1_init_18 : decode cX1_init 18 = .ok (.aload_n 0, 1) := by decide +kernel
theorem dX1_init_19 : decode cX1_init 19 = .ok (.iconst 1, 1) := by decide +kernel
theorem dX1_init_20 : decode cX1_init 20 = .ok (.putfield 19, 3) := by decide +kernel
theorem dX1_init_23 : decode cX1_init 23 = .ok (.aload_n 0, 1) := by decide +kernel
theorem dX1_init_24 : decode cX1_init 24 = .ok (.bipush 16, 2) := by decide +kernel
theorem dX1_init_26 : decode cX1_init 26 = .ok (.newarray .int, 2) := by decide +kernel
theorem dX1_init_28 : decode cX1_init 28 = .ok (.putfield 22, 3) := by decide +kernel
theorem dX1_init_31 : decode cX1_init 31 = .ok (.aload_n 0, 1) := by decide +kernel
theorem dX1_init_32 : decode cX1_init 32 = .ok (.iconst 1, 1) := by decide +kernel
theorem dX1_init_33 : decode cX1_init 33 = .ok (.putfield 25, 3) := by decide +kernel
theorem dX1_init_36 : decode cX1_init 36 = .ok (.aload_n 0, 1) := by decide +kernel
theorem dX1_init_37 : decode cX1_init 37 = .ok (.iconst 0, 1) := by decide +kernel
theorem dX1_init_38 : decode cX1_init 38 = .ok (.putfield 28, 3) := by decide +kernel
theorem dX1_init_41 : decode cX1_init 41 = .ok (.aload_n 0, 1) := by decide +kernel
theorem dX1_init_42 : decode cX1_init 42 = .ok (.iconst 0, 1) := by decide +kernel
theorem dX1_init_43 : decode cX1_init 43 = .ok (.putfield 31, 3) := by decide +kernel
theorem dX1_init_46 : decode cX1_init 46 = .ok (.aload_n 0, 1) := by decide +kernel
theorem dX1_init_47 : decode cX1_init 47 = .ok (.iconst 0, 1) := by decide +kernel
theorem dX1_init_48 : decode cX1_init 48 = .ok (.putfield 34, 3) := by decide +kernel
theorem dX1_init_51 : decode cX1_init 51 = .ok (.aload_n 0, 1) := by decide +kernel
theorem dX1_init_52 : decode cX1_init 52 = .ok (.iconst 0, 1) := by decide +kernel
theorem dX1_init_53 : decode cX1_init 53 = .ok (.putfield 37, 3) := by decide +kernel
theorem dX1_init_56 : decode cX1_init 56 = .ok (.aload_n 0, 1) := by decide +kernel
theorem dX1_init_57 : decode cX1_init 57 = .ok (.iconst 0, 1) := by decide +kernel
theorem dX1_init_58 : decode cX1_init 58 = .ok (.putfield 40, 3) := by decide +kernel
theorem dX1_init_61 : decode cX1_init 61 = .ok (.return_, 1) := by decide +kernel
theorem dX1_search_0 : decode cX1_search 0 = .ok (.aload_n 0, 1) := by decide +kernel
theorem dX1_search_1 : decode cX1_search 1 = .ok (.aload_n 1, 1) := by decide +kernel
theorem dX1_search_2 : decode cX1_search 2 = .ok (.invokevirtual 43, 3) := by decide +kernel
theorem dX1_search_5 : decode cX1_search 5 = .ok (.putfield 19, 3) := by decide +kernel
theorem dX1_search_8 : decode cX1_search 8 = .ok (.aload_n 0, 1) := by decide +kernel
theorem dX1_search_9 : decode cX1_search 9 = .ok (.sipush 1000, 3) := by decide +kernel
theorem dX1_search_12 : decode cX1_search 12 = .ok (.putfield 25, 3) := by decide +kernel
theorem dX1_search_15 : decode cX1_search 15 = .ok (.iconst 0, 1) := by decide +kernel
theorem dX1_search_16 : decode cX1_search 16 = .ok (.istore 4, 2) := by decide +kernel
theorem dX1_search_18 : decode cX1_search 18 = .ok (.iload 4, 2) := by decide +kernel
theorem dX1_search_20 : decode cX1_search 20 = .ok (.aload_n 1, 1) := by decide +kernel
theorem dX1_search_21 : decode cX1_search 21 = .ok (.getfield 48, 3) := by decide +kernel
theorem dX1_search_24 : decode cX1_search 24 = .ok (.if_icmp .ge 49, 3) := by decide +kernel
theorem dX1_search_27 : decode cX1_search 27 = .ok (.aload_n 0, 1) := by decide +kernel
theorem dX1_search_28 : decode cX1_search 28 = .ok (.getfield 22, 3) := by decide +kernel
theorem dX1_search_31 : decode cX1_search 31 = .ok (.iload 4, 2) := by decide +kernel
theorem dX1_search_33 : decode cX1_search 33 = .ok (.iload_n 3, 1) := by decide +kernel
theorem dX1_search_34 : decode cX1_search 34 = .ok (.ifCond .eq 13, 3) := by decide +kernel
theorem dX1_search_37 : decode cX1_search 37 = .ok (.aload_n 1, 1) := by decide +kernel
theorem dX1_search_38 : decode cX1_search 38 = .ok (.getfield 51, 3) := by decide +kernel
theorem dX1_search_41 : decode cX1_search 41 = .ok (.iload 4, 2) := by decide +kernel
theorem dX1_search_43 : decode cX1_search 43 = .ok (.iaload, 1) := by decide +kernel
theorem dX1_search_44 : decode cX1_search 44 = .ok (.goto 4, 3) := by decide +kernel
theorem dX1_search_47 : decode cX1_search 47 = .ok (.iconst 1, 1) := by decide +kernel
theorem dX1_search_48 : decode cX1_search 48 = .ok (.iastore, 1) := by decide +kernel
theorem dX1_search_49 : decode cX1_search 49 = .ok (.aload_n 0, 1) := by decide +kernel
theorem dX1_search_50 : decode cX1_search 50 = .ok (.aload_n 0, 1) := by decide +kernel
theorem dX1_search_51 : decode cX1_search 51 = .ok (.getfield 25, 3) := by decide +kernel
theorem dX1_search_54 : decode cX1_search 54 = .ok (.aload_n 0, 1) := by decide +kernel
theorem dX1_search_55 : decode cX1_search 55 = .ok (.getfield 22, 3) := by decide +kernel
theorem dX1_search_58 : decode cX1_search 58 = .ok (.iload 4, 2) := by decide +kernel
theorem dX1_search_60 : decode cX1_search 60 = .ok (.iaload, 1) := by decide +kernel
theorem dX1_search_61 : decode cX1_search 61 = .ok (.invokestatic 54, 3) := by decide +kernel
theorem dX1_search_64 : decode cX1_search 64 = .ok (.putfield 25, 3) := by decide +kernel
theorem dX1_search_67 : decode cX1_search 67 = .ok (.iinc 4 1, 3) := by decide +kernel
theorem dX1_search_70 : decode cX1_search 70 = .ok (.goto (-52), 3) := by decide +kernel
theorem dX1_search_73 : decode cX1_search 73 = .ok (.aload_n 0, 1) := by decide +kernel
theorem dX1_search_74 : decode cX1_search 74 = .ok (.aload_n 1, 1) := by decide +kernel
theorem dX1_search_75 : decode cX1_search 75 = .ok (.aload_n 2, 1) := by decide +kernel
theorem dX1_search_76 : decode cX1_search 76 = .ok (.invokevirtual 60, 3) := by decide +kernel
theorem dX1_search_79 : decode cX1_search 79 = .ok (.aload_n 0, 1) := by decide +kernel
theorem dX1_search_80 : decode cX1_search 80 = .ok (.ldc 64, 2) := by decide +kernel
theorem dX1_search_82 : decode cX1_search 82 = .ok (.putfield 34, 3) := by decide +kernel
theorem dX1_search_85 : decode cX1_search 85 = .ok (.aload_n 0, 1) := by decide +kernel
theorem dX1_search_86 : decode cX1_search 86 = .ok (.iconst 0, 1) := by decide +kernel
theorem dX1_search_87 : decode cX1_search 87 = .ok (.putfield 37, 3) := by decide +kernel
theorem dX1_search_90 : decode cX1_search 90 = .ok (.aload_n 0, 1) := by decide +kernel
theorem dX1_search_91 : decode cX1_search 91 = .ok (.iconst 0, 1) := by decide +kernel
theorem dX1_search_92 : decode cX1_search 92 = .ok (.putfield 40, 3) := by decide +kernel
theorem dX1_search_95 : decode cX1_search 95 = .ok (.aload_n 0, 1) := by decide +kernel
theorem dX1_search_96 : decode cX1_search 96 = .ok (.iconst 0, 1) := by decide +kernel
theorem dX1_search_97 : decode cX1_search 97 = .ok (.iconst 1, 1) := by decide +kernel
theorem dX1_search_98 : decode cX1_search 98 = .ok (.aload_n 1, 1) := by decide +kernel
theorem dX1_search_99 : decode cX1_search 99 = .ok (.getfield 48, 3) := by decide +kernel
theorem dX1_search_102 : decode cX1_search 102 = .ok (.ishl, 1) := by decide +kernel
theorem dX1_search_103 : decode cX1_search 103 = .ok (.iconst 1, 1) := by decide +kernel
theorem dX1_search_104 : decode cX1_search 104 = .ok (.isub, 1) := by decide +kernel
theorem dX1_search_105 : decode cX1_search 105 = .ok (.iconst 0, 1) := by decide +kernel
theorem dX1_search_106 : decode cX1_search 106 = .ok (.iconst 0, 1) := by decide +kernel
theorem dX1_search_107 : decode cX1_search 107 = .ok (.invokevirtual 65, 3) := by decide +kernel
theorem dX1_search_110 : decode cX1_search 110 = .ok (.return_, 1) := by decide +kernel
theorem dX1_gatherDemands_0 : decode cX1_gatherDemands 0 = .ok (.aload_n 0, 1) := by decide +kernel
theorem dX1_gatherDemands_1 : decode cX1_gatherDemands 1 = .ok (.iconst 0, 1) := by decide +kernel
theorem dX1_gatherDemands_2 : decode cX1_gatherDemands 2 = .ok (.putfield 15, 3) := by decide +kernel
theorem dX1_gatherDemands_5 : decode cX1_gatherDemands 5 = .ok (.iconst 0, 1) := by decide +kernel
theorem dX1_gatherDemands_6 : decode cX1_gatherDemands 6 = .ok (.istore_n 3, 1) := by decide +kernel
theorem dX1_gatherDemands_7 : decode cX1_gatherDemands 7 = .ok (.iload_n 3, 1) := by decide +kernel
theorem dX1_gatherDemands_8 : decode cX1_gatherDemands 8 = .ok (.aload_n 1, 1) := by decide +kernel
theorem dX1_gatherDemands_9 : decode cX1_gatherDemands 9 = .ok (.getfield 48, 3) := by decide +kernel
theorem dX1_gatherDemands_12 : decode cX1_gatherDemands 12 = .ok (.if_icmp .ge 72, 3) := by decide +kernel
theorem dX1_gatherDemands_15 : decode cX1_gatherDemands 15 = .ok (.iload_n 3, 1) := by decide +kernel
theorem dX1_gatherDemands_16 : decode cX1_gatherDemands 16 = .ok (.iconst 1, 1) := by decide +kernel
theorem dX1_gatherDemands_17 : decode cX1_gatherDemands 17 = .ok (.iadd, 1) := by decide +kernel
theorem dX1_gatherDemands_18 : decode cX1_gatherDemands 18 = .ok (.istore 4, 2) := by decide +kernel
theorem dX1_gatherDemands_20 : decode cX1_gatherDemands 20 = .ok (.iload 4, 2) := by decide +kernel
theorem dX1_gatherDemands_22 : decode cX1_gatherDemands 22 = .ok (.aload_n 1, 1) := by decide +kernel
theorem dX1_gatherDemands_23 : decode cX1_gatherDemands 23 = .ok (.getfield 48, 3) := by decide +kernel
theorem dX1_gatherDemands_26 : decode cX1_gatherDemands 26 = .ok (.if_icmp .ge 35, 3) := by decide +kernel
theorem dX1_gatherDemands_29 : decode cX1_gatherDemands 29 = .ok (.aload_n 2, 1) := by decide +kernel
theorem dX1_gatherDemands_30 : decode cX1_gatherDemands 30 = .ok (.iload_n 3, 1) := by decide +kernel
theorem dX1_gatherDemands_31 : decode cX1_gatherDemands 31 = .ok (.iload 4, 2) := by decide +kernel
theorem dX1_gatherDemands_33 : decode cX1_gatherDemands 33 = .ok (.invokevirtual 69, 3) := by decide +kernel
theorem dX1_gatherDemands_36 : decode cX1_gatherDemands 36 = .ok (.ifCond .ne 19, 3) := by decide +kernel
theorem dX1_gatherDemands_39 : decode cX1_gatherDemands 39 = .ok (.aload_n 0, 1) := by decide +kernel
theorem dX1_gatherDemands_40 : decode cX1_gatherDemands 40 = .ok (.aload_n 2, 1) := by decide +kernel
theorem dX1_gatherDemands_41 : decode cX1_gatherDemands 41 = .ok (.getfield 75, 3) := by decide +kernel
theorem dX1_gatherDemands_44 : decode cX1_gatherDemands 44 = .ok (.bipush 16, 2) := by decide +kernel
theorem dX1_gatherDemands_46 : decode cX1_gatherDemands 46 = .ok (.iload_n 3, 1) := by decide +kernel
theorem dX1_gatherDemands_47 : decode cX1_gatherDemands 47 = .ok (.imul, 1) := by decide +kernel
theorem dX1_gatherDemands_48 : decode cX1_gatherDemands 48 = .ok (.iload 4, 2) := by decide +kernel
theorem dX1_gatherDemands_50 : decode cX1_gatherDemands 50 = .ok (.iadd, 1) := by decide +kernel
theorem dX1_gatherDemands_51 : decode cX1_gatherDemands 51 = .ok (.iaload, 1) := by decide +kernel
theorem dX1_gatherDemands_52 : decode cX1_gatherDemands 52 = .ok (.invokevirtual 78, 3) := by decide +kernel
theorem dX1_gatherDemands_55 : decode cX1_gatherDemands 55 = .ok (.iinc 4 1, 3) := by decide +kernel
theorem dX1_gatherDemands_58 : decode cX1_gatherDemands 58 = .ok (.goto (-38), 3) := by decide +kernel
theorem dX1_gatherDemands_61 : decode cX1_gatherDemands 61 = .ok (.aload_n 1, 1) := by decide +kernel
theorem dX1_gatherDemands_62 : decode cX1_gatherDemands 62 = .ok (.getfield 82, 3) := by decide +kernel
theorem dX1_gatherDemands_65 : decode cX1_gatherDemands 65 = .ok (.ifCond .eq 13, 3) := by decide +kernel
theorem dX1_gatherDemands_68 : decode cX1_gatherDemands 68 = .ok (.aload_n 0, 1) := by decide +kernel
theorem dX1_gatherDemands_69 : decode cX1_gatherDemands 69 = .ok (.aload_n 2, 1) := by decide +kernel
theorem dX1_gatherDemands_70 : decode cX1_gatherDemands 70 = .ok (.getfield 86, 3) := by decide +kernel
theorem dX1_gatherDemands_73 : decode cX1_gatherDemands 73 = .ok (.iload_n 3, 1) := by decide +kernel
theorem dX1_gatherDemands_74 : decode cX1_gatherDemands 74 = .ok (.iaload, 1) := by decide +kernel
theorem dX1_gatherDemands_75 : decode cX1_gatherDemands 75 = .ok (.invokevirtual 78, 3) := by decide +kernel
theorem dX1_gatherDemands_78 : decode cX1_gatherDemands 78 = .ok (.iinc 3 1, 3) := by decide +kernel
theorem dX1_gatherDemands_81 : decode cX1_gatherDemands 81 = .ok (.goto (-74), 3) := by decide +kernel
theorem dX1_gatherDemands_84 : decode cX1_gatherDemands 84 = .ok (.return_, 1) := by decide +kernel
theorem dX1_demand_0 : decode cX1_demand 0 = .ok (.iconst 0, 1) := by decide +kernel
theorem dX1_demand_1 : decode cX1_demand 1 = .ok (.istore_n 2, 1) := by decide +kernel
theorem dX1_demand_2 : decode cX1_demand 2 = .ok (.iload_n 2, 1) := by decide +kernel
theorem dX1_demand_3 : decode cX1_demand 3 = .ok (.aload_n 0, 1) := by decide +kernel
theorem dX1_demand_4 : decode cX1_demand 4 = .ok (.getfield 15, 3) := by decide +kernel
theorem dX1_demand_7 : decode cX1_demand 7 = .ok (.if_icmp .ge 24, 3) := by decide +kernel
theorem dX1_demand_10 : decode cX1_demand 10 = .ok (.aload_n 0, 1) := by decide +kernel
theorem dX1_demand_11 : decode cX1_demand 11 = .ok (.getfield 9, 3) := by decide +kernel
theorem dX1_demand_14 : decode cX1_demand 14 = .ok (.iload_n 2, 1) := by decide +kernel
theorem dX1_demand_15 : decode cX1_demand 15 = .ok (.iaload, 1) := by decide +kernel
theorem dX1_demand_16 : decode cX1_demand 16 = .ok (.istore_n 3, 1) := by decide +kernel
theorem dX1_demand_17 : decode cX1_demand 17 = .ok (.iload_n 3, 1) := by decide +kernel
theorem dX1_demand_18 : decode cX1_demand 18 = .ok (.iload_n 1, 1) := by decide +kernel
theorem dX1_demand_19 : decode cX1_demand 19 = .ok (.iand, 1) := by decide +kernel
theorem dX1_demand_20 : decode cX1_demand 20 = .ok (.iload_n 3, 1) := by decide +kernel
theorem dX1_demand_21 : decode cX1_demand 21 = .ok (.if_icmp .ne 4, 3) := by decide +kernel
theorem dX1_demand_24 : decode cX1_demand 24 = .ok (.return_, 1) := by decide +kernel
theorem dX1_demand_25 : decode cX1_demand 25 = .ok (.iinc 2 1, 3) := by decide +kernel
theorem dX1_demand_28 : decode cX1_demand 28 = .ok (.goto (-26), 3) := by decide +kernel
theorem dX1_demand_31 : decode cX1_demand 31 = .ok (.iconst 0, 1) := by decide +kernel
theorem dX1_demand_32 : decode cX1_demand 32 = .ok (.istore_n 2, 1) := by decide +kernel
theorem dX1_demand_33 : decode cX1_demand 33 = .ok (.iconst 0, 1) := by decide +kernel
theorem dX1_demand_34 : decode cX1_demand 34 = .ok (.istore_n 3, 1) := by decide +kernel
theorem dX1_demand_35 : decode cX1_demand 35 = .ok (.iload_n 3, 1) := by decide +kernel
theorem dX1_demand_36 : decode cX1_demand 36 = .ok (.aload_n 0, 1) := by decide +kernel
theorem dX1_demand_37 : decode cX1_demand 37 = .ok (.getfield 15, 3) := by decide +kernel
theorem dX1_demand_40 : decode cX1_demand 40 = .ok (.if_icmp .ge 36, 3) := by decide +kernel
theorem dX1_demand_43 : decode cX1_demand 43 = .ok (.aload_n 0, 1) := by decide +kernel
theorem dX1_demand_44 : decode cX1_demand 44 = .ok (.getfield 9, 3) := by decide +kernel
theorem dX1_demand_47 : decode cX1_demand 47 = .ok (.iload_n 3, 1) := by decide +kernel
theorem dX1_demand_48 : decode cX1_demand 48 = .ok (.iaload, 1) := by decide +kernel
theorem dX1_demand_49 : decode cX1_demand 49 = .ok (.istore 4, 2) := by decide +kernel
theorem dX1_demand_51 : decode cX1_demand 51 = .ok (.iload 4, 2) := by decide +kernel
theorem dX1_demand_53 : decode cX1_demand 53 = .ok (.iload_n 1, 1) := by decide +kernel
theorem dX1_demand_54 : decode cX1_demand 54 = .ok (.iand, 1) := by decide +kernel
theorem dX1_demand_55 : decode cX1_demand 55 = .ok (.iload_n 1, 1) := by decide +kernel
theorem dX1_demand_56 : decode cX1_demand 56 = .ok (.if_icmp .eq 14, 3) := by decide +kernel
theorem dX1_demand_59 : decode cX1_demand 59 = .ok (.aload_n 0, 1) := by decide +kernel
theorem dX1_demand_60 : decode cX1_demand 60 = .ok (.getfield 9, 3) := by decide +kernel
theorem dX1_demand_63 : decode cX1_demand 63 = .ok (.iload_n 2, 1) := by decide +kernel
theorem dX1_demand_64 : decode cX1_demand 64 = .ok (.iload 4, 2) := by decide +kernel
theorem dX1_demand_66 : decode cX1_demand 66 = .ok (.iastore, 1) := by decide +kernel
theorem dX1_demand_67 : decode cX1_demand 67 = .ok (.iinc 2 1, 3) := by decide +kernel
theorem dX1_demand_70 : decode cX1_demand 70 = .ok (.iinc 3 1, 3) := by decide +kernel
theorem dX1_demand_73 : decode cX1_demand 73 = .ok (.goto (-38), 3) := by decide +kernel
theorem dX1_demand_76 : decode cX1_demand 76 = .ok (.iload_n 2, 1) := by decide +kernel
theorem dX1_demand_77 : decode cX1_demand 77 = .ok (.sipush 256, 3) := by decide +kernel
theorem dX1_demand_80 : decode cX1_demand 80 = .ok (.if_icmp .ge 17, 3) := by decide +kernel
theorem dX1_demand_83 : decode cX1_demand 83 = .ok (.aload_n 0, 1) := by decide +kernel
theorem dX1_demand_84 : decode cX1_demand 84 = .ok (.getfield 9, 3) := by decide +kernel
theorem dX1_demand_87 : decode cX1_demand 87 = .ok (.iload_n 2, 1) := by decide +kernel
theorem dX1_demand_88 : decode cX1_demand 88 = .ok (.iload_n 1, 1) := by decide +kernel
theorem dX1_demand_89 : decode cX1_demand 89 = .ok (.iastore, 1) := by decide +kernel
theorem dX1_demand_90 : decode cX1_demand 90 = .ok (.aload_n 0, 1) := by decide +kernel
theorem dX1_demand_91 : decode cX1_demand 91 = .ok (.iload_n 2, 1) := by decide +kernel
theorem dX1_demand_92 : decode cX1_demand 92 = .ok (.iconst 1, 1) := by decide +kernel
theorem dX1_demand_93 : decode cX1_demand 93 = .ok (.iadd, 1) := by decide +kernel
theorem dX1_demand_94 : decode cX1_demand 94 = .ok (.putfield 15, 3) := by decide +kernel
theorem dX1_demand_97 : decode cX1_demand 97 = .ok (.return_, 1) := by decide +kernel
theorem dX1_decide_0 : decode cX1_decide 0 = .ok (.iload 4, 2) := by decide +kernel
theorem dX1_decide_2 : decode cX1_decide 2 = .ok (.bipush 16, 2) := by decide +kernel
theorem dX1_decide_4 : decode cX1_decide 4 = .ok (.if_icmp .gt 12, 3) := by decide +kernel
theorem dX1_decide_7 : decode cX1_decide 7 = .ok (.aload_n 0, 1) := by decide +kernel
theorem dX1_decide_8 : decode cX1_decide 8 = .ok (.iload_n 1, 1) := by decide +kernel
theorem dX1_decide_9 : decode cX1_decide 9 = .ok (.iload_n 2, 1) := by decide +kernel
theorem dX1_decide_10 : decode cX1_decide 10 = .ok (.invokevirtual 89, 3) := by decide +kernel
theorem dX1_decide_13 : decode cX1_decide 13 = .ok (.ifCond .ne 4, 3) := by decide +kernel
theorem dX1_decide_16 : decode cX1_decide 16 = .ok (.return_, 1) := by decide +kernel
theorem dX1_decide_17 : decode cX1_decide 17 = .ok (.iload_n 3, 1) := by decide +kernel
theorem dX1_decide_18 : decode cX1_decide 18 = .ok (.aload_n 0, 1) := by decide +kernel
theorem dX1_decide_19 : decode cX1_decide 19 = .ok (.getfield 31, 3) := by decide +kernel
theorem dX1_decide_22 : decode cX1_decide 22 = .ok (.aload_n 0, 1) := by decide +kernel
theorem dX1_decide_23 : decode cX1_decide 23 = .ok (.getfield 25, 3) := by decide +kernel
theorem dX1_decide_26 : decode cX1_decide 26 = .ok (.imul, 1) := by decide +kernel
theorem dX1_decide_27 : decode cX1_decide 27 = .ok (.iadd, 1) := by decide +kernel
theorem dX1_decide_28 : decode cX1_decide 28 = .ok (.aload_n 0, 1) := by decide +kernel
theorem dX1_decide_29 : decode cX1_decide 29 = .ok (.getfield 34, 3) := by decide +kernel
theorem dX1_decide_32 : decode cX1_decide 32 = .ok (.if_icmp .le 4, 3) := by decide +kernel
theorem dX1_decide_35 : decode cX1_decide 35 = .ok (.return_, 1) := by decide +kernel
theorem dX1_decide_36 : decode cX1_decide 36 = .ok (.aload_n 0, 1) := by decide +kernel
theorem dX1_decide_37 : decode cX1_decide 37 = .ok (.getfield 28, 3) := by decide +kernel
theorem dX1_decide_40 : decode cX1_decide 40 = .ok (.ifCond .ne 10, 3) := by decide +kernel
theorem dX1_decide_43 : decode cX1_decide 43 = .ok (.aload_n 0, 1) := by decide +kernel
theorem dX1_decide_44 : decode cX1_decide 44 = .ok (.iload_n 1, 1) := by decide +kernel
theorem dX1_decide_45 : decode cX1_decide 45 = .ok (.iload_n 3, 1) := by decide +kernel
theorem dX1_decide_46 : decode cX1_decide 46 = .ok (.invokevirtual 92, 3) := by decide +kernel
theorem dX1_decide_49 : decode cX1_decide 49 = .ok (.return_, 1) := by decide +kernel
theorem dX1_decide_50 : decode cX1_decide 50 = .ok (.aload_n 0, 1) := by decide +kernel
theorem dX1_decide_51 : decode cX1_decide 51 = .ok (.getfield 28, 3) := by decide +kernel
theorem dX1_decide_54 : decode cX1_decide 54 = .ok (.invokestatic 96, 3) := by decide +kernel
theorem dX1_decide_57 : decode cX1_decide 57 = .ok (.istore 5, 2) := by decide +kernel
theorem dX1_decide_59 : decode cX1_decide 59 = .ok (.iload 5, 2) := by decide +kernel
theorem dX1_decide_61 : decode cX1_decide 61 = .ok (.bipush 16, 2) := by decide +kernel
theorem dX1_decide_63 : decode cX1_decide 63 = .ok (.if_icmp .ge 50, 3) := by decide +kernel
theorem dX1_decide_66 : decode cX1_decide 66 = .ok (.iload_n 2, 1) := by decide +kernel
theorem dX1_decide_67 : decode cX1_decide 67 = .ok (.iconst 1, 1) := by decide +kernel
theorem dX1_decide_68 : decode cX1_decide 68 = .ok (.iload 5, 2) := by decide +kernel
theorem dX1_decide_70 : decode cX1_decide 70 = .ok (.ishl, 1) := by decide +kernel
theorem dX1_decide_71 : decode cX1_decide 71 = .ok (.iconst (-1), 1) := by decide +kernel
theorem dX1_decide_72 : decode cX1_decide 72 = .ok (.ixor, 1) := by decide +kernel
theorem dX1_decide_73 : decode cX1_decide 73 = .ok (.iand, 1) := by decide +kernel
theorem dX1_decide_74 : decode cX1_decide 74 = .ok (.istore 6, 2) := by decide +kernel
theorem dX1_decide_76 : decode cX1_decide 76 = .ok (.aload_n 0, 1) := by decide +kernel
theorem dX1_decide_77 : decode cX1_decide 77 = .ok (.iload_n 1, 1) := by decide +kernel
theorem dX1_decide_78 : decode cX1_decide 78 = .ok (.iconst 1, 1) := by decide +kernel
theorem dX1_decide_79 : decode cX1_decide 79 = .ok (.iload 5, 2) := by decide +kernel
theorem dX1_decide_81 : decode cX1_decide 81 = .ok (.ishl, 1) := by decide +kernel
theorem dX1_decide_82 : decode cX1_decide 82 = .ok (.ior, 1) := by decide +kernel
theorem dX1_decide_83 : decode cX1_decide 83 = .ok (.iload 6, 2) := by decide +kernel
theorem dX1_decide_85 : decode cX1_decide 85 = .ok (.iload_n 3, 1) := by decide +kernel
theorem dX1_decide_86 : decode cX1_decide 86 = .ok (.aload_n 0, 1) := by decide +kernel
theorem dX1_decide_87 : decode cX1_decide 87 = .ok (.getfield 22, 3) := by decide +kernel
theorem dX1_decide_90 : decode cX1_decide 90 = .ok (.iload 5, 2) := by decide +kernel
theorem dX1_decide_92 : decode cX1_decide 92 = .ok (.iaload, 1) := by decide +kernel
theorem dX1_decide_93 : decode cX1_decide 93 = .ok (.iadd, 1) := by decide +kernel
theorem dX1_decide_94 : decode cX1_decide 94 = .ok (.iload 4, 2) := by decide +kernel
theorem dX1_decide_96 : decode cX1_decide 96 = .ok (.iconst 1, 1) := by decide +kernel
theorem dX1_decide_97 : decode cX1_decide 97 = .ok (.iadd, 1) := by decide +kernel
theorem dX1_decide_98 : decode cX1_decide 98 = .ok (.invokevirtual 65, 3) := by decide +kernel
theorem dX1_decide_101 : decode cX1_decide 101 = .ok (.aload_n 0, 1) := by decide +kernel
theorem dX1_decide_102 : decode cX1_decide 102 = .ok (.iload_n 1, 1) := by decide +kernel
theorem dX1_decide_103 : decode cX1_decide 103 = .ok (.iload 6, 2) := by decide +kernel
theorem dX1_decide_105 : decode cX1_decide 105 = .ok (.iload_n 3, 1) := by decide +kernel
theorem dX1_decide_106 : decode cX1_decide 106 = .ok (.iload 4, 2) := by decide +kernel
theorem dX1_decide_108 : decode cX1_decide 108 = .ok (.iconst 1, 1) := by decide +kernel
theorem dX1_decide_109 : decode cX1_decide 109 = .ok (.iadd, 1) := by decide +kernel
theorem dX1_decide_110 : decode cX1_decide 110 = .ok (.invokevirtual 65, 3) := by decide +kernel
theorem dX1_decide_113 : decode cX1_decide 113 = .ok (.return_, 1) := by decide +kernel
theorem dX1_canBeMet_0 : decode cX1_canBeMet 0 = .ok (.bipush 16, 2) := by decide +kernel
theorem dX1_canBeMet_2 : decode cX1_canBeMet 2 = .ok (.istore_n 3, 1) := by decide +kernel
theorem dX1_canBeMet_3 : decode cX1_canBeMet 3 = .ok (.iconst 0, 1) := by decide +kernel
theorem dX1_canBeMet_4 : decode cX1_canBeMet 4 = .ok (.istore 4, 2) := by decide +kernel
theorem dX1_canBeMet_6 : decode cX1_canBeMet 6 = .ok (.aload_n 0, 1) := by decide +kernel
theorem dX1_canBeMet_7 : decode cX1_canBeMet 7 = .ok (.iconst 0, 1) := by decide +kernel
theorem dX1_canBeMet_8 : decode cX1_canBeMet 8 = .ok (.putfield 28, 3) := by decide +kernel
theorem dX1_canBeMet_11 : decode cX1_canBeMet 11 = .ok (.aload_n 0, 1) := by decide +kernel
theorem dX1_canBeMet_12 : decode cX1_canBeMet 12 = .ok (.iconst 0, 1) := by decide +kernel
theorem dX1_canBeMet_13 : decode cX1_canBeMet 13 = .ok (.putfield 31, 3) := by decide +kernel
theorem dX1_canBeMet_16 : decode cX1_canBeMet 16 = .ok (.iconst 0, 1) := by decide +kernel
theorem dX1_canBeMet_17 : decode cX1_canBeMet 17 = .ok (.istore 5, 2) := by decide +kernel
theorem dX1_canBeMet_19 : decode cX1_canBeMet 19 = .ok (.iload 5, 2) := by decide +kernel
theorem dX1_canBeMet_21 : decode cX1_canBeMet 21 = .ok (.aload_n 0, 1) := by decide +kernel
theorem dX1_canBeMet_22 : decode cX1_canBeMet 22 = .ok (.getfield 15, 3) := by decide +kernel
theorem dX1_canBeMet_25 : decode cX1_canBeMet 25 = .ok (.if_icmp .ge 102, 3) := by decide +kernel
theorem dX1_canBeMet_28 : decode cX1_canBeMet 28 = .ok (.aload_n 0, 1) := by decide +kernel
theorem dX1_canBeMet_29 : decode cX1_canBeMet 29 = .ok (.getfield 19, 3) := by decide +kernel
theorem dX1_canBeMet_32 : decode cX1_canBeMet 32 = .ok (.iload_n 1, 1) := by decide +kernel
theorem dX1_canBeMet_33 : decode cX1_canBeMet 33 = .ok (.aload_n 0, 1) := by decide +kernel
theorem dX1_canBeMet_34 : decode cX1_canBeMet 34 = .ok (.getfield 9, 3) := by decide +kernel
theorem dX1_canBeMet_37 : decode cX1_canBeMet 37 = .ok (.iload 5, 2) := by decide +kernel
theorem dX1_canBeMet_39 : decode cX1_canBeMet 39 = .ok (.iaload, 1) := by decide +kernel
theorem dX1_canBeMet_40 : decode cX1_canBeMet 40 = .ok (.iand, 1) := by decide +kernel
theorem dX1_canBeMet_41 : decode cX1_canBeMet 41 = .ok (.invokestatic 102, 3) := by decide +kernel
theorem dX1_canBeMet_44 : decode cX1_canBeMet 44 = .ok (.isub, 1) := by decide +kernel
theorem dX1_canBeMet_45 : decode cX1_canBeMet 45 = .ok (.istore 6, 2) := by decide +kernel
theorem dX1_canBeMet_47 : decode cX1_canBeMet 47 = .ok (.iload 6, 2) := by decide +kernel
theorem dX1_canBeMet_49 : decode cX1_canBeMet 49 = .ok (.ifCond .le 72, 3) := by decide +kernel
theorem dX1_canBeMet_52 : decode cX1_canBeMet 52 = .ok (.iload_n 2, 1) := by decide +kernel
theorem dX1_canBeMet_53 : decode cX1_canBeMet 53 = .ok (.aload_n 0, 1) := by decide +kernel
theorem dX1_canBeMet_54 : decode cX1_canBeMet 54 = .ok (.getfield 9, 3) := by decide +kernel
theorem dX1_canBeMet_57 : decode cX1_canBeMet 57 = .ok (.iload 5, 2) := by decide +kernel
theorem dX1_canBeMet_59 : decode cX1_canBeMet 59 = .ok (.iaload, 1) := by decide +kernel
theorem dX1_canBeMet_60 : decode cX1_canBeMet 60 = .ok (.iand, 1) := by decide +kernel
theorem dX1_canBeMet_61 : decode cX1_canBeMet 61 = .ok (.istore 7, 2) := by decide +kernel
theorem dX1_canBeMet_63 : decode cX1_canBeMet 63 = .ok (.iload 7, 2) := by decide +kernel
theorem dX1_canBeMet_65 : decode cX1_canBeMet 65 = .ok (.invokestatic 102, 3) := by decide +kernel
theorem dX1_canBeMet_68 : decode cX1_canBeMet 68 = .ok (.iload 6, 2) := by decide +kernel
theorem dX1_canBeMet_70 : decode cX1_canBeMet 70 = .ok (.isub, 1) := by decide +kernel
theorem dX1_canBeMet_71 : decode cX1_canBeMet 71 = .ok (.istore 8, 2) := by decide +kernel
theorem dX1_canBeMet_73 : decode cX1_canBeMet 73 = .ok (.iload 8, 2) := by decide +kernel
theorem dX1_canBeMet_75 : decode cX1_canBeMet 75 = .ok (.ifCond .ge 5, 3) := by decide +kernel
theorem dX1_canBeMet_78 : decode cX1_canBeMet 78 = .ok (.iconst 0, 1) := by decide +kernel
theorem dX1_canBeMet_79 : decode cX1_canBeMet 79 = .ok (.ireturn, 1) := by decide +kernel
theorem dX1_canBeMet_80 : decode cX1_canBeMet 80 = .ok (.iload 8, 2) := by decide +kernel
theorem dX1_canBeMet_82 : decode cX1_canBeMet 82 = .ok (.iload_n 3, 1) := by decide +kernel
theorem dX1_canBeMet_83 : decode cX1_canBeMet 83 = .ok (.if_icmp .ge 12, 3) := by decide +kernel
theorem dX1_canBeMet_86 : decode cX1_canBeMet 86 = .ok (.iload 8, 2) := by decide +kernel
theorem dX1_canBeMet_88 : decode cX1_canBeMet 88 = .ok (.istore_n 3, 1) := by decide +kernel
theorem dX1_canBeMet_89 : decode cX1_canBeMet 89 = .ok (.aload_n 0, 1) := by decide +kernel
theorem dX1_canBeMet_90 : decode cX1_canBeMet 90 = .ok (.iload 7, 2) := by decide +kernel
theorem dX1_canBeMet_92 : decode cX1_canBeMet 92 = .ok (.putfield 28, 3) := by decide +kernel
theorem dX1_canBeMet_95 : decode cX1_canBeMet 95 = .ok (.iload 7, 2) := by decide +kernel
theorem dX1_canBeMet_97 : decode cX1_canBeMet 97 = .ok (.iload 4, 2) := by decide +kernel
theorem dX1_canBeMet_99 : decode cX1_canBeMet 99 = .ok (.iand, 1) := by decide +kernel
theorem dX1_canBeMet_100 : decode cX1_canBeMet 100 = .ok (.ifCond .ne 21, 3) := by decide +kernel
theorem dX1_canBeMet_103 : decode cX1_canBeMet 103 = .ok (.iload 4, 2) := by decide +kernel
theorem dX1_canBeMet_105 : decode cX1_canBeMet 105 = .ok (.iload 7, 2) := by decide +kernel
theorem dX1_canBeMet_107 : decode cX1_canBeMet 107 = .ok (.ior, 1) := by decide +kernel
theorem dX1_canBeMet_108 : decode cX1_canBeMet 108 = .ok (.istore 4, 2) := by decide +kernel
theorem dX1_canBeMet_110 : decode cX1_canBeMet 110 = .ok (.aload_n 0, 1) := by decide +kernel
theorem dX1_canBeMet_111 : decode cX1_canBeMet 111 = .ok (.dup, 1) := by decide +kernel
theorem dX1_canBeMet_112 : decode cX1_canBeMet 112 = .ok (.getfield 31, 3) := by decide +kernel
theorem dX1_canBeMet_115 : decode cX1_canBeMet 115 = .ok (.iload 6, 2) := by decide +kernel
theorem dX1_canBeMet_117 : decode cX1_canBeMet 117 = .ok (.iadd, 1) := by decide +kernel
theorem dX1_canBeMet_118 : decode cX1_canBeMet 118 = .ok (.putfield 31, 3) := by decide +kernel
theorem dX1_canBeMet_121 : decode cX1_canBeMet 121 = .ok (.iinc 5 1, 3) := by decide +kernel
theorem dX1_canBeMet_124 : decode cX1_canBeMet 124 = .ok (.goto (-105), 3) := by decide +kernel
theorem dX1_canBeMet_127 : decode cX1_canBeMet 127 = .ok (.iconst 1, 1) := by decide +kernel
theorem dX1_canBeMet_128 : decode cX1_canBeMet 128 = .ok (.ireturn, 1) := by decide +kernel
theorem dX1_takeIfBest_0 : decode cX1_takeIfBest 0 = .ok (.iload_n 2, 1) := by decide +kernel
theorem dX1_takeIfBest_1 : decode cX1_takeIfBest 1 = .ok (.aload_n 0, 1) := by decide +kernel
theorem dX1_takeIfBest_2 : decode cX1_takeIfBest 2 = .ok (.getfield 34, 3) := by decide +kernel
theorem dX1_takeIfBest_5 : decode cX1_takeIfBest 5 = .ok (.if_icmp .ge 21, 3) := by decide +kernel
theorem dX1_takeIfBest_8 : decode cX1_takeIfBest 8 = .ok (.aload_n 0, 1) := by decide +kernel
theorem dX1_takeIfBest_9 : decode cX1_takeIfBest 9 = .ok (.iload_n 2, 1) := by decide +kernel
theorem dX1_takeIfBest_10 : decode cX1_takeIfBest 10 = .ok (.putfield 34, 3) := by decide +kernel
theorem dX1_takeIfBest_13 : decode cX1_takeIfBest 13 = .ok (.aload_n 0, 1) := by decide +kernel
theorem dX1_takeIfBest_14 : decode cX1_takeIfBest 14 = .ok (.iload_n 1, 1) := by decide +kernel
theorem dX1_takeIfBest_15 : decode cX1_takeIfBest 15 = .ok (.putfield 37, 3) := by decide +kernel
theorem dX1_takeIfBest_18 : decode cX1_takeIfBest 18 = .ok (.aload_n 0, 1) := by decide +kernel
theorem dX1_takeIfBest_19 : decode cX1_takeIfBest 19 = .ok (.iconst 1, 1) := by decide +kernel
theorem dX1_takeIfBest_20 : decode cX1_takeIfBest 20 = .ok (.putfield 40, 3) := by decide +kernel
theorem dX1_takeIfBest_23 : decode cX1_takeIfBest 23 = .ok (.goto 33, 3) := by decide +kernel
theorem dX1_takeIfBest_26 : decode cX1_takeIfBest 26 = .ok (.iload_n 2, 1) := by decide +kernel
theorem dX1_takeIfBest_27 : decode cX1_takeIfBest 27 = .ok (.aload_n 0, 1) := by decide +kernel
theorem dX1_takeIfBest_28 : decode cX1_takeIfBest 28 = .ok (.getfield 34, 3) := by decide +kernel
theorem dX1_takeIfBest_31 : decode cX1_takeIfBest 31 = .ok (.if_icmp .ne 25, 3) := by decide +kernel
theorem dX1_takeIfBest_34 : decode cX1_takeIfBest 34 = .ok (.aload_n 0, 1) := by decide +kernel
theorem dX1_takeIfBest_35 : decode cX1_takeIfBest 35 = .ok (.aload_n 0, 1) := by decide +kernel
theorem dX1_takeIfBest_36 : decode cX1_takeIfBest 36 = .ok (.getfield 37, 3) := by decide +kernel
theorem dX1_takeIfBest_39 : decode cX1_takeIfBest 39 = .ok (.iload_n 1, 1) := by decide +kernel
theorem dX1_takeIfBest_40 : decode cX1_takeIfBest 40 = .ok (.invokestatic 54, 3) := by decide +kernel
theorem dX1_takeIfBest_43 : decode cX1_takeIfBest 43 = .ok (.putfield 37, 3) := by decide +kernel
theorem dX1_takeIfBest_46 : decode cX1_takeIfBest 46 = .ok (.aload_n 0, 1) := by decide +kernel
theorem dX1_takeIfBest_47 : decode cX1_takeIfBest 47 = .ok (.dup, 1) := by decide +kernel
theorem dX1_takeIfBest_48 : decode cX1_takeIfBest 48 = .ok (.getfield 40, 3) := by decide +kernel
theorem dX1_takeIfBest_51 : decode cX1_takeIfBest 51 = .ok (.iconst 1, 1) := by decide +kernel
theorem dX1_takeIfBest_52 : decode cX1_takeIfBest 52 = .ok (.iadd, 1) := by decide +kernel
theorem dX1_takeIfBest_53 : decode cX1_takeIfBest 53 = .ok (.putfield 40, 3) := by decide +kernel
theorem dX1_takeIfBest_56 : decode cX1_takeIfBest 56 = .ok (.return_, 1) := by decide +kernel
theorem dX2_init_0 : decode cX2_init 0 = .ok (.aload_n 0, 1) := by decide +kernel
theorem dX2_init_1 : decode cX2_init 1 = .ok (.invokespecial 3, 3) := by decide +kernel
theorem dX2_init_4 : decode cX2_init 4 = .ok (.aload_n 0, 1) := by decide +kernel
theorem dX2_init_5 : decode cX2_init 5 = .ok (.iconst 1, 1) := by decide +kernel
theorem dX2_init_6 : decode cX2_init 6 = .ok (.putfield 9, 3) := by decide +kernel
theorem dX2_init_9 : decode cX2_init 9 = .ok (.aload_n 0, 1) := by decide +kernel
theorem dX2_init_10 : decode cX2_init 10 = .ok (.iconst 0, 1) := by decide +kernel
theorem dX2_init_11 : decode cX2_init 11 = .ok (.putfield 15, 3) := by decide +kernel
theorem dX2_init_14 : decode cX2_init 14 = .ok (.aload_n 0, 1) := by decide +kernel
theorem dX2_init_15 : decode cX2_init 15 = .ok (.iconst 0, 1) := by decide +kernel
theorem dX2_init_16 : decode cX2_init 16 = .ok (.putfield 18, 3) := by decide +kernel
theorem dX2_init_19 : decode cX2_init 19 = .ok (.aload_n 0, 1) := by decide +kernel
theorem dX2_init_20 : decode cX2_init 20 = .ok (.iconst 0, 1) := by decide +kernel
theorem dX2_init_21 : decode cX2_init 21 = .ok (.putfield 21, 3) := by decide +kernel
theorem dX2_init_24 : decode cX2_init 24 = .ok (.aload_n 0, 1) := by decide +kernel
theorem dX2_init_25 : decode cX2_init 25 = .ok (.iconst 0, 1) := by decide +kernel
theorem dX2_init_26 : decode cX2_init 26 = .ok (.putfield 24, 3) := by decide +kernel
theorem dX2_init_29 : decode cX2_init 29 = .ok (.aload_n 0, 1) := by decide +kernel
theorem dX2_init_30 : decode cX2_init 30 = .ok (.iconst 0, 1) := by decide +kernel
theorem dX2_init_31 : decode cX2_init 31 = .ok (.putfield 28, 3) := by decide +kernel
theorem dX2_init_34 : decode cX2_init 34 = .ok (.aload_n 0, 1) := by decide +kernel
theorem dX2_init_35 : decode cX2_init 35 = .ok (.iconst 0, 1) := by decide +kernel
theorem dX2_init_36 : decode cX2_init 36 = .ok (.putfield 31, 3) := by decide +kernel
theorem dX2_init_39 : decode cX2_init 39 = .ok (.aload_n 0, 1) := by decide +kernel
theorem dX2_init_40 : decode cX2_init 40 = .ok (.sipush 256, 3) := by decide +kernel
theorem dX2_init_43 : decode cX2_init 43 = .ok (.newarray .int, 2) := by decide +kernel
theorem dX2_init_45 : decode cX2_init 45 = .ok (.putfield 34, 3) := by decide +kernel
theorem dX2_init_48 : decode cX2_init 48 = .ok (.aload_n 0, 1) := by decide +kernel
theorem dX2_init_49 : decode cX2_init 49 = .ok (.bipush 16, 2) := by decide +kernel
theorem dX2_init_51 : decode cX2_init 51 = .ok (.newarray .int, 2) := by decide +kernel
theorem dX2_init_53 : decode cX2_init 53 = .ok (.putfield 38, 3) := by decide +kernel
theorem dX2_init_56 : decode cX2_init 56 = .ok (.aload_n 0, 1) := by decide +kernel
theorem dX2_init_57 : decode cX2_init 57 = .ok (.bipush 16, 2) := by decide +kernel
theorem dX2_init_59 : decode cX2_init 59 = .ok (.newarray .int, 2) := by decide +kernel
theorem dX2_init_61 : decode cX2_init 61 = .ok (.putfield 41, 3) := by decide +kernel
theorem dX2_init_64 : decode cX2_init 64 = .ok (.aload_n 0, 1) := by decide +kernel
theorem dX2_init_65 : decode cX2_init 65 = .ok (.bipush 16, 2) := by decide +kernel
theorem dX2_init_67 : decode cX2_init 67 = .ok (.newarray .int, 2) := by decide +kernel
theorem dX2_init_69 : decode cX2_init 69 = .ok (.putfield 44, 3) := by decide +kernel
theorem dX2_init_72 : decode cX2_init 72 = .ok (.aload_n 0, 1) := by decide +kernel
theorem dX2_init_73 : decode cX2_init 73 = .ok (.bipush 16, 2) := by decide +kernel
theorem dX2_init_75 : decode cX2_init 75 = .ok (.newarray .int, 2) := by decide +kernel
theorem dX2_init_77 : decode cX2_init 77 = .ok (.putfield 47, 3) := by decide +kernel
theorem dX2_init_80 : decode cX2_init 80 = .ok (.aload_n 0, 1) := by decide +kernel
theorem dX2_init_81 : decode cX2_init 81 = .ok (.getfield 41, 3) := by decide +kernel
theorem dX2_init_84 : decode cX2_init 84 = .ok (.iconst 1, 1) := by decide +kernel
theorem dX2_init_85 : decode cX2_init 85 = .ok (.invokestatic 50, 3) := by decide +kernel
theorem dX2_init_88 : decode cX2_init 88 = .ok (.aload_n 0, 1) := by decide +kernel
theorem dX2_init_89 : decode cX2_init 89 = .ok (.getfield 44, 3) := by decide +kernel
theorem dX2_init_92 : decode cX2_init 92 = .ok (.iconst 1, 1) := by decide +kernel
theorem dX2_init_93 : decode cX2_init 93 = .ok (.invokestatic 50, 3) := by decide +kernel
theorem dX2_init_96 : decode cX2_init 96 = .ok (.return_, 1) := by decide +kernel
theorem dX2_become_0 : decode cX2_become 0 = .ok (.aload_n 0, 1) := by decide +kernel
theorem dX2_become_1 : decode cX2_become 1 = .ok (.aload_n 1, 1) := by decide +kernel
theorem dX2_become_2 : decode cX2_become 2 = .ok (.getfield 9, 3) := by decide +kernel
theorem dX2_become_5 : decode cX2_become 5 = .ok (.putfield 9, 3) := by decide +kernel
theorem dX2_become_8 : decode cX2_become 8 = .ok (.aload_n 0, 1) := by decide +kernel
theorem dX2_become_9 : decode cX2_become 9 = .ok (.aload_n 1, 1) := by decide +kernel
theorem dX2_become_10 : decode cX2_become 10 = .ok (.getfield 15, 3) := by decide +kernel
theorem dX2_become_13 : decode cX2_become 13 = .ok (.putfield 15, 3) := by decide +kernel
theorem dX2_become_16 : decode cX2_become 16 = .ok (.aload_n 0, 1) := by decide +kernel
theorem dX2_become_17 : decode cX2_become 17 = .ok (.aload_n 1, 1) := by decide +kernel
theorem dX2_become_18 : decode cX2_become 18 = .ok (.getfield 18, 3) := by decide +kernel
theorem dX2_become_21 : decode cX2_become 21 = .ok (.putfield 18, 3) := by decide +kernel
theorem dX2_become_24 : decode cX2_become 24 = .ok (.aload_n 0, 1) := by decide +kernel
theorem dX2_become_25 : decode cX2_become 25 = .ok (.aload_n 1, 1) := by decide +kernel
theorem dX2_become_26 : decode cX2_become 26 = .ok (.getfield 21, 3) := by decide +kernel
theorem dX2_become_29 : decode cX2_become 29 = .ok (.putfield 21, 3) := by decide +kernel
theorem dX2_become_32 : decode cX2_become 32 = .ok (.aload_n 0, 1) := by decide +kernel
theorem dX2_become_33 : decode cX2_become 33 = .ok (.aload_n 1, 1) := by decide +kernel
theorem dX2_become_34 : decode cX2_become 34 = .ok (.getfield 24, 3) := by decide +kernel
theorem dX2_become_37 : decode cX2_become 37 = .ok (.putfield 24, 3) := by decide +kernel
theorem dX2_become_40 : decode cX2_become 40 = .ok (.aload_n 0, 1) := by decide +kernel
theorem dX2_become_41 : decode cX2_become 41 = .ok (.aload_n 1, 1) := by decide +kernel
theorem dX2_become_42 : decode cX2_become 42 = .ok (.getfield 28, 3) := by decide +kernel
theorem dX2_become_45 : decode cX2_become 45 = .ok (.putfield 28, 3) := by decide +kernel
theorem dX2_become_48 : decode cX2_become 48 = .ok (.aload_n 0, 1) := by decide +kernel
theorem dX2_become_49 : decode cX2_become 49 = .ok (.aload_n 1, 1) := by decide +kernel
theorem dX2_become_50 : decode cX2_become 50 = .ok (.getfield 31, 3) := by decide +kernel
theorem dX2_become_53 : decode cX2_become 53 = .ok (.putfield 31, 3) := by decide +kernel
theorem dX2_become_56 : decode cX2_become 56 = .ok (.aload_n 1, 1) := by decide +kernel
theorem dX2_become_57 : decode cX2_become 57 = .ok (.getfield 34, 3) := by decide +kernel
theorem dX2_become_60 : decode cX2_become 60 = .ok (.iconst 0, 1) := by decide +kernel
theorem dX2_become_61 : decode cX2_become 61 = .ok (.aload_n 0, 1) := by decide +kernel
theorem dX2_become_62 : decode cX2_become 62 = .ok (.getfield 34, 3) := by decide +kernel
theorem dX2_become_65 : decode cX2_become 65 = .ok (.iconst 0, 1) := by decide +kernel
theorem dX2_become_66 : decode cX2_become 66 = .ok (.sipush 256, 3) := by decide +kernel
theorem dX2_become_69 : decode cX2_become 69 = .ok (.invokestatic 56, 3) := by decide +kernel
theorem dX2_become_72 : decode cX2_become 72 = .ok (.aload_n 1, 1) := by decide +kernel
theorem dX2_become_73 : decode cX2_become 73 = .ok (.getfield 38, 3) := by decide +kernel
theorem dX2_become_76 : decode cX2_become 76 = .ok (.iconst 0, 1) := by decide +kernel
theorem dX2_become_77 : decode cX2_become 77 = .ok (.aload_n 0, 1) := by decide +kernel
theorem dX2_become_78 : decode cX2_become 78 = .ok (.getfield 38, 3) := by decide +kernel
theorem dX2_become_81 : decode cX2_become 81 = .ok (.iconst 0, 1) := by decide +kernel
theorem dX2_become_82 : decode cX2_become 82 = .ok (.bipush 16, 2) := by decide +kernel
theorem dX2_become_84 : decode cX2_become 84 = .ok (.invokestatic 56, 3) := by decide +kernel
theorem dX2_become_87 : decode cX2_become 87 = .ok (.aload_n 1, 1) := by decide +kernel
theorem dX2_become_88 : decode cX2_become 88 = .ok (.getfield 41, 3) := by decide +kernel
theorem dX2_become_91 : decode cX2_become 91 = .ok (.iconst 0, 1) := by decide +kernel
theorem dX2_become_92 : decode cX2_become 92 = .ok (.aload_n 0, 1) := by decide +kernel
theorem dX2_become_93 : decode cX2_become 93 = .ok (.getfield 41, 3) := by decide +kernel
theorem dX2_become_96 : decode cX2_become 96 = .ok (.iconst 0, 1) := by decide +kernel
theorem dX2_become_97 : decode cX2_become 97 = .ok (.bipush 16, 2) := by decide +kernel
theorem dX2_become_99 : decode cX2_become 99 = .ok (.invokestatic 56, 3) := by decide +kernel
theorem dX2_become_102 : decode cX2_become 102 = .ok (.aload_n 1, 1) := by decide +kernel
theorem dX2_become_103 : decode cX2_become 103 = .ok (.getfield 44, 3) := by decide +kernel
theorem dX2_become_106 : decode cX2_become 106 = .ok (.iconst 0, 1) := by decide +kernel
theorem dX2_become_107 : decode cX2_become 107 = .ok (.aload_n 0, 1) := by decide +kernel
theorem dX2_become_108 : decode cX2_become 108 = .ok (.getfield 44, 3) := by decide +kernel
theorem dX2_become_111 : decode cX2_become 111 = .ok (.iconst 0, 1) := by decide +kernel
theorem dX2_become_112 : decode cX2_become 112 = .ok (.bipush 16, 2) := by decide +kernel
theorem dX2_become_114 : decode cX2_become 114 = .ok (.invokestatic 56, 3) := by decide +kernel
theorem dX2_become_117 : decode cX2_become 117 = .ok (.aload_n 1, 1) := by decide +kernel
theorem dX2_become_118 : decode cX2_become 118 = .ok (.getfield 47, 3) := by decide +kernel
theorem dX2_become_121 : decode cX2_become 121 = .ok (.iconst 0, 1) := by decide +kernel
theorem dX2_become_122 : decode cX2_become 122 = .ok (.aload_n 0, 1) := by decide +kernel
theorem dX2_become_123 : decode cX2_become 123 = .ok (.getfield 47, 3) := by decide +kernel
theorem dX2_become_126 : decode cX2_become 126 = .ok (.iconst 0, 1) := by decide +kernel
theorem dX2_become_127 : decode cX2_become 127 = .ok (.bipush 16, 2) := by decide +kernel
theorem dX2_become_129 : decode cX2_become 129 = .ok (.invokestatic 56, 3) := by decide +kernel
theorem dX2_become_132 : decode cX2_become 132 = .ok (.return_, 1) := by decide +kernel
theorem dX2_isPost_0 : decode cX2_isPost 0 = .ok (.iload_n 1, 1) := by decide +kernel
theorem dX2_isPost_1 : decode cX2_isPost 1 = .ok (.ifCond .lt 15, 3) := by decide +kernel
theorem dX2_isPost_4 : decode cX2_isPost 4 = .ok (.iload_n 1, 1) := by decide +kernel
theorem dX2_isPost_5 : decode cX2_isPost 5 = .ok (.aload_n 0, 1) := by decide +kernel
theorem dX2_isPost_6 : decode cX2_isPost 6 = .ok (.getfield 9, 3) := by decide +kernel
theorem dX2_isPost_9 : decode cX2_isPost 9 = .ok (.if_icmp .ge 7, 3) := by decide +kernel
theorem dX2_isPost_12 : decode cX2_isPost 12 = .ok (.iconst 1, 1) := by decide +kernel
theorem dX2_isPost_13 : decode cX2_isPost 13 = .ok (.goto 4, 3) := by decide +kernel
theorem dX2_isPost_16 : decode cX2_isPost 16 = .ok (.iconst 0, 1) := by decide +kernel
theorem dX2_isPost_17 : decode cX2_isPost 17 = .ok (.ireturn, 1) := by decide +kernel
theorem dX2_isSet_0 : decode cX2_isSet 0 = .ok (.iload_n 1, 1) := by decide +kernel
theorem dX2_isSet_1 : decode cX2_isSet 1 = .ok (.ifCond .lt 17, 3) := by decide +kernel
theorem dX2_isSet_4 : decode cX2_isSet 4 = .ok (.iload_n 1, 1) := by decide +kernel
theorem dX2_isSet_5 : decode cX2_isSet 5 = .ok (.iconst 1, 1) := by decide +kernel
theorem dX2_isSet_6 : decode cX2_isSet 6 = .ok (.aload_n 0, 1) := by decide +kernel
theorem dX2_isSet_7 : decode cX2_isSet 7 = .ok (.getfield 9, 3) := by decide +kernel
theorem dX2_isSet_10 : decode cX2_isSet 10 = .ok (.ishl, 1) := by decide +kernel
theorem dX2_isSet_11 : decode cX2_isSet 11 = .ok (.if_icmp .ge 7, 3) := by decide +kernel
theorem dX2_isSet_14 : decode cX2_isSet 14 = .ok (.iconst 1, 1) := by decide +kernel
theorem dX2_isSet_15 : decode cX2_isSet 15 = .ok (.goto 4, 3) := by decide +kernel
theorem dX2_isSet_18 : decode cX2_isSet 18 = .ok (.iconst 0, 1) := by decide +kernel
theorem dX2_isSet_19 : decode cX2_isSet 19 = .ok (.ireturn, 1) := by decide +kernel
theorem dX2_hasRoad_0 : decode cX2_hasRoad 0 = .ok (.aload_n 0, 1) := by decide +kernel
theorem dX2_hasRoad_1 : decode cX2_hasRoad 1 = .ok (.getfield 34, 3) := by decide +kernel
theorem dX2_hasRoad_4 : decode cX2_hasRoad 4 = .ok (.bipush 16, 2) := by decide +kernel
theorem dX2_hasRoad_6 : decode cX2_hasRoad 6 = .ok (.iload_n 1, 1) := by decide +kernel
theorem dX2_hasRoad_7 : decode cX2_hasRoad 7 = .ok (.imul, 1) := by decide +kernel
theorem dX2_hasRoad_8 : decode cX2_hasRoad 8 = .ok (.iload_n 2, 1) := by decide +kernel
theorem dX2_hasRoad_9 : decode cX2_hasRoad 9 = .ok (.iadd, 1) := by decide +kernel
theorem dX2_hasRoad_10 : decode cX2_hasRoad 10 = .ok (.iaload, 1) := by decide +kernel
theorem dX2_hasRoad_11 : decode cX2_hasRoad 11 = .ok (.ifCond .le 7, 3) := by decide +kernel
theorem dX2_hasRoad_14 : decode cX2_hasRoad 14 = .ok (.iconst 1, 1) := by decide +kernel
theorem dX2_hasRoad_15 : decode cX2_hasRoad 15 = .ok (.goto 4, 3) := by decide +kernel
theorem dX2_hasRoad_18 : decode cX2_hasRoad 18 = .ok (.iconst 0, 1) := by decide +kernel
theorem dX2_hasRoad_19 : decode cX2_hasRoad 19 = .ok (.ireturn, 1) := by decide +kernel
theorem dX2_hasWord_0 : decode cX2_hasWord 0 = .ok (.aload_n 0, 1) := by decide +kernel
theorem dX2_hasWord_1 : decode cX2_hasWord 1 = .ok (.getfield 31, 3) := by decide +kernel
theorem dX2_hasWord_4 : decode cX2_hasWord 4 = .ok (.iload_n 1, 1) := by decide +kernel
theorem dX2_hasWord_5 : decode cX2_hasWord 5 = .ok (.ishr, 1) := by decide +kernel
theorem dX2_hasWord_6 : decode cX2_hasWord 6 = .ok (.iconst 1, 1) := by decide +kernel
theorem dX2_hasWord_7 : decode cX2_hasWord 7 = .ok (.iand, 1) := by decide +kernel
theorem dX2_hasWord_8 : decode cX2_hasWord 8 = .ok (.iconst 1, 1) := by decide +kernel
theorem dX2_hasWord_9 : decode cX2_hasWord 9 = .ok (.if_icmp .ne 7, 3) := by decide +kernel
theorem dX2_hasWord_12 : decode cX2_hasWord 12 = .ok (.iconst 1, 1) := by decide +kernel
theorem dX2_hasWord_13 : decode cX2_hasWord 13 = .ok (.goto 4, 3) := by decide +kernel
theorem dX2_hasWord_16 : decode cX2_hasWord 16 = .ok (.iconst 0, 1) := by decide +kernel
theorem dX2_hasWord_17 : decode cX2_hasWord 17 = .ok (.ireturn, 1) := by decide +kernel
theorem dX2_roadCanBe_0 : decode cX2_roadCanBe 0 = .ok (.aload_n 0, 1) := by decide +kernel
theorem dX2_roadCanBe_1 : decode cX2_roadCanBe 1 = .ok (.iload_n 1, 1) := by decide +kernel
theorem dX2_roadCanBe_2 : decode cX2_roadCanBe 2 = .ok (.invokevirtual 62, 3) := by decide +kernel
theorem dX2_roadCanBe_5 : decode cX2_roadCanBe 5 = .ok (.ifCond .eq 41, 3) := by decide +kernel
theorem dX2_roadCanBe_8 : decode cX2_roadCanBe 8 = .ok (.aload_n 0, 1) := by decide +kernel
theorem dX2_roadCanBe_9 : decode cX2_roadCanBe 9 = .ok (.iload_n 2, 1) := by decide +kernel
theorem dX2_roadCanBe_10 : decode cX2_roadCanBe 10 = .ok (.invokevirtual 62, 3) := by decide +kernel
theorem dX2_roadCanBe_13 : decode cX2_roadCanBe 13 = .ok (.ifCond .eq 33, 3) := by decide +kernel
theorem dX2_roadCanBe_16 : decode cX2_roadCanBe 16 = .ok (.iload_n 1, 1) := by decide +kernel
theorem dX2_roadCanBe_17 : decode cX2_roadCanBe 17 = .ok (.iload_n 2, 1) := by decide +kernel
theorem dX2_roadCanBe_18 : decode cX2_roadCanBe 18 = .ok (.if_icmp .eq 28, 3) := by decide +kernel
theorem dX2_roadCanBe_21 : decode cX2_roadCanBe 21 = .ok (.iload_n 3, 1) := by decide +kernel
theorem dX2_roadCanBe_22 : decode cX2_roadCanBe 22 = .ok (.iconst 1, 1) := by decide +kernel
theorem dX2_roadCanBe_23 : decode cX2_roadCanBe 23 = .ok (.if_icmp .lt 23, 3) := by decide +kernel
theorem dX2_roadCanBe_26 : decode cX2_roadCanBe 26 = .ok (.iload_n 3, 1) := by decide +kernel
theorem dX2_roadCanBe_27 : decode cX2_roadCanBe 27 = .ok (.sipush 1000, 3) := by decide +kernel
theorem dX2_roadCanBe_30 : decode cX2_roadCanBe 30 = .ok (.if_icmp .gt 16, 3) := by decide +kernel
theorem dX2_roadCanBe_33 : decode cX2_roadCanBe 33 = .ok (.aload_n 0, 1) := by decide +kernel
theorem dX2_roadCanBe_34 : decode cX2_roadCanBe 34 = .ok (.iload_n 1, 1) := by decide +kernel
theorem dX2_roadCanBe_35 : decode cX2_roadCanBe 35 = .ok (.iload_n 2, 1) := by decide +kernel
theorem dX2_roadCanBe_36 : decode cX2_roadCanBe 36 = .ok (.invokevirtual 66, 3) := by decide +kernel
theorem dX2_roadCanBe_39 : decode cX2_roadCanBe 39 = .ok (.ifCond .ne 7, 3) := by decide +kernel
theorem dX2_roadCanBe_42 : decode cX2_roadCanBe 42 = .ok (.iconst 1, 1) := by decide +kernel
theorem dX2_roadCanBe_43 : decode cX2_roadCanBe 43 = .ok (.goto 4, 3) := by decide +kernel
theorem dX2_roadCanBe_46 : decode cX2_roadCanBe 46 = .ok (.iconst 0, 1) := by decide +kernel
theorem dX2_roadCanBe_47 : decode cX2_roadCanBe 47 = .ok (.ireturn, 1) := by decide +kernel
theorem dX2_layRoad_0 : decode cX2_layRoad 0 = .ok (.aload_n 0, 1) := by decide +kernel
theorem dX2_layRoad_1 : decode cX2_layRoad 1 = .ok (.getfield 34, 3) := by decide +kernel
theorem dX2_layRoad_4 : decode cX2_layRoad 4 = .ok (.bipush 16, 2) := by decide +kernel
theorem dX2_layRoad_6 : decode cX2_layRoad 6 = .ok (.iload_n 1, 1) := by decide +kernel
theorem dX2_layRoad_7 : decode cX2_layRoad 7 = .ok (.imul, 1) := by decide +kernel
theorem dX2_layRoad_8 : decode cX2_layRoad 8 = .ok (.iload_n 2, 1) := by decide +kernel
theorem dX2_layRoad_9 : decode cX2_layRoad 9 = .ok (.iadd, 1) := by decide +kernel
theorem dX2_layRoad_10 : decode cX2_layRoad 10 = .ok (.iload_n 3, 1) := by decide +kernel
theorem dX2_layRoad_11 : decode cX2_layRoad 11 = .ok (.iastore, 1) := by decide +kernel
theorem dX2_layRoad_12 : decode cX2_layRoad 12 = .ok (.aload_n 0, 1) := by decide +kernel
theorem dX2_layRoad_13 : decode cX2_layRoad 13 = .ok (.getfield 34, 3) := by decide +kernel
theorem dX2_layRoad_16 : decode cX2_layRoad 16 = .ok (.bipush 16, 2) := by decide +kernel
theorem dX2_layRoad_18 : decode cX2_layRoad 18 = .ok (.iload_n 2, 1) := by decide +kernel
theorem dX2_layRoad_19 : decode cX2_layRoad 19 = .ok (.imul, 1) := by decide +kernel
theorem dX2_layRoad_20 : decode cX2_layRoad 20 = .ok (.iload_n 1, 1) := by decide +kernel
theorem dX2_layRoad_21 : decode cX2_layRoad 21 = .ok (.iadd, 1) := by decide +kernel
theorem dX2_layRoad_22 : decode cX2_layRoad 22 = .ok (.iload_n 3, 1) := by decide +kernel
theorem dX2_layRoad_23 : decode cX2_layRoad 23 = .ok (.iastore, 1) := by decide +kernel
theorem dX2_layRoad_24 : decode cX2_layRoad 24 = .ok (.return_, 1) := by decide +kernel
theorem dX2_besideBits_0 : decode cX2_besideBits 0 = .ok (.iconst 0, 1) := by decide +kernel
theorem dX2_besideBits_1 : decode cX2_besideBits 1 = .ok (.istore_n 2, 1) := by decide +kernel
theorem dX2_besideBits_2 : decode cX2_besideBits 2 = .ok (.iconst 0, 1) := by decide +kernel
theorem dX2_besideBits_3 : decode cX2_besideBits 3 = .ok (.istore_n 3, 1) := by decide +kernel
theorem dX2_besideBits_4 : decode cX2_besideBits 4 = .ok (.iload_n 3, 1) := by decide +kernel
theorem dX2_besideBits_5 : decode cX2_besideBits 5 = .ok (.aload_n 0, 1) := by decide +kernel
theorem dX2_besideBits_6 : decode cX2_besideBits 6 = .ok (.getfield 9, 3) := by decide +kernel
theorem dX2_besideBits_9 : decode cX2_besideBits 9 = .ok (.if_icmp .ge 24, 3) := by decide +kernel
theorem dX2_besideBits_12 : decode cX2_besideBits 12 = .ok (.aload_n 0, 1) := by decide +kernel
theorem dX2_besideBits_13 : decode cX2_besideBits 13 = .ok (.iload_n 1, 1) := by decide +kernel
theorem dX2_besideBits_14 : decode cX2_besideBits 14 = .ok (.iload_n 3, 1) := by decide +kernel
theorem dX2_besideBits_15 : decode cX2_besideBits 15 = .ok (.invokevirtual 66, 3) := by decide +kernel
theorem dX2_besideBits_18 : decode cX2_besideBits 18 = .ok (.ifCond .eq 9, 3) := by decide +kernel
theorem dX2_besideBits_21 : decode cX2_besideBits 21 = .ok (.iload_n 2, 1) := by decide +kernel
theorem dX2_besideBits_22 : decode cX2_besideBits 22 = .ok (.iconst 1, 1) := by decide +kernel
theorem dX2_besideBits_23 : decode cX2_besideBits 23 = .ok (.iload_n 3, 1) := by decide +kernel
theorem dX2_besideBits_24 : decode cX2_besideBits 24 = .ok (.ishl, 1) := by decide +kernel
theorem dX2_besideBits_25 : decode cX2_besideBits 25 = .ok (.ior, 1) := by decide +kernel
theorem dX2_besideBits_26 : decode cX2_besideBits 26 = .ok (.istore_n 2, 1) := by decide +kernel
theorem dX2_besideBits_27 : decode cX2_besideBits 27 = .ok (.iinc 3 1, 3) := by decide +kernel
theorem dX2_besideBits_30 : decode cX2_besideBits 30 = .ok (.goto (-26), 3) := by decide +kernel
theorem dX2_besideBits_33 : decode cX2_besideBits 33 = .ok (.iload_n 2, 1) := by decide +kernel
theorem dX2_besideBits_34 : decode cX2_besideBits 34 = .ok (.ireturn, 1) := by decide +kernel
theorem dX2_countRoads_0 : decode cX2_countRoads 0 = .ok (.iconst 0, 1) := by decide +kernel
theorem dX2_countRoads_1 : decode cX2_countRoads 1 = .ok (.istore_n 1, 1) := by decide +kernel
theorem dX2_countRoads_2 : decode cX2_countRoads 2 = .ok (.iconst 0, 1) := by decide +kernel
theorem dX2_countRoads_3 : decode cX2_countRoads 3 = .ok (.istore_n 2, 1) := by decide +kernel
theorem dX2_countRoads_4 : decode cX2_countRoads 4 = .ok (.iload_n 2, 1) := by decide +kernel
theorem dX2_countRoads_5 : decode cX2_countRoads 5 = .ok (.aload_n 0, 1) := by decide +kernel
theorem dX2_countRoads_6 : decode cX2_countRoads 6 = .ok (.getfield 9, 3) := by decide +kernel
theorem dX2_countRoads_9 : decode cX2_countRoads 9 = .ok (.if_icmp .ge 20, 3) := by decide +kernel
theorem dX2_countRoads_12 : decode cX2_countRoads 12 = .ok (.iload_n 1, 1) := by decide +kernel
theorem dX2_countRoads_13 : decode cX2_countRoads 13 = .ok (.aload_n 0, 1) := by decide +kernel
theorem dX2_countRoads_14 : decode cX2_countRoads 14 = .ok (.iload_n 2, 1) := by decide +kernel
theorem dX2_countRoads_15 : decode cX2_countRoads 15 = .ok (.invokevirtual 70, 3) := by decide +kernel
theorem dX2_countRoads_18 : decode cX2_countRoads 18 = .ok (.invokestatic 74, 3) := by decide +kernel
theorem dX2_countRoads_21 : decode cX2_countRoads 21 = .ok (.iadd, 1) := by decide +kernel
theorem dX2_countRoads_22 : decode cX2_countRoads 22 = .ok (.istore_n 1, 1) := by decide +kernel
theorem dX2_countRoads_23 : decode cX2_countRoads 23 = .ok (.iinc 2 1, 3) := by decide +kernel
theorem dX2_countRoads_26 : decode cX2_countRoads 26 = .ok (.goto (-22), 3) := by decide +kernel
theorem dX2_countRoads_29 : decode cX2_countRoads 29 = .ok (.iload_n 1, 1) := by decide +kernel
theorem dX2_countRoads_30 : decode cX2_countRoads 30 = .ok (.iconst 2, 1) := by decide +kernel
theorem dX2_countRoads_31 : decode cX2_countRoads 31 = .ok (.idiv, 1) := by decide +kernel
theorem dX2_countRoads_32 : decode cX2_countRoads 32 = .ok (.ireturn, 1) := by decide +kernel
theorem dX2_need_0 : decode cX2_need 0 = .ok (.aload_n 0, 1) := by decide +kernel
theorem dX2_need_1 : decode cX2_need 1 = .ok (.getfield 24, 3) := by decide +kernel
theorem dX2_need_4 : decode cX2_need 4 = .ok (.ifCond .eq 14, 3) := by decide +kernel
theorem dX2_need_7 : decode cX2_need 7 = .ok (.iconst 2, 1) := by decide +kernel
theorem dX2_need_8 : decode cX2_need 8 = .ok (.aload_n 0, 1) := by decide +kernel
theorem dX2_need_9 : decode cX2_need 9 = .ok (.getfield 21, 3) := by decide +kernel
theorem dX2_need_12 : decode cX2_need 12 = .ok (.imul, 1) := by decide +kernel
theorem dX2_need_13 : decode cX2_need 13 = .ok (.iconst 1, 1) := by decide +kernel
theorem dX2_need_14 : decode cX2_need 14 = .ok (.iadd, 1) := by decide +kernel
theorem dX2_need_15 : decode cX2_need 15 = .ok (.goto 9, 3) := by decide +kernel
theorem dX2_need_18 : decode cX2_need 18 = .ok (.aload_n 0, 1) := by decide +kernel
theorem dX2_need_19 : decode cX2_need 19 = .ok (.getfield 21, 3) := by decide +kernel
theorem dX2_need_22 : decode cX2_need 22 = .ok (.iconst 1, 1) := by decide +kernel
theorem dX2_need_23 : decode cX2_need 23 = .ok (.iadd, 1) := by decide +kernel
theorem dX2_need_24 : decode cX2_need 24 = .ok (.ireturn, 1) := by decide +kernel
theorem dX3_init_0 : decode cX3_init 0 = .ok (.aload_n 0, 1) := by decide +kernel
theorem dX3_init_1 : decode cX3_init 1 = .ok (.invokespecial 3, 3) := by decide +kernel
theorem dX3_init_4 : decode cX3_init 4 = .ok (.aload_n 0, 1) := by decide +kernel
theorem dX3_init_5 : decode cX3_init 5 = .ok (.bipush 60, 2) := by decide +kernel
theorem dX3_init_7 : decode cX3_init 7 = .ok (.anewarray 9, 3) := by decide +kernel
theorem dX3_init_10 : decode cX3_init 10 = .ok (.putfield 11, 3) := by decide +kernel
theorem dX3_init_13 : decode cX3_init 13 = .ok (.aload_n 0, 1) := by decide +kernel
theorem dX3_init_14 : decode cX3_init 14 = .ok (.iconst 0, 1) := by decide +kernel
theorem dX3_init_15 : decode cX3_init 15 = .ok (.putfield 17, 3) := by decide +kernel
theorem dX3_init_18 : decode cX3_init 18 = .ok (.aload_n 0, 1) := by decide +kernel
theorem dX3_init_19 : decode cX3_init 19 = .ok (.iconst 0, 1) := by decide +kernel
theorem dX3_init_20 : decode cX3_init 20 = .ok (.putfield 21, 3) := by decide +kernel
theorem dX3_init_23 : decode cX3_init 23 = .ok (.iconst 0, 1) := by decide +kernel
theorem dX3_init_24 : decode cX3_init 24 = .ok (.istore_n 1, 1) := by decide +kernel
theorem dX3_init_25 : decode cX3_init 25 = .ok (.iload_n 1, 1) := by decide +kernel
theorem dX3_init_26 : decode cX3_init 26 = .ok (.bipush 60, 2) := by decide +kernel
theorem dX3_init_28 : decode cX3_init 28 = .ok (.if_icmp .ge 22, 3) := by decide +kernel
theorem dX3_init_31 : decode cX3_init 31 = .ok (.aload_n 0, 1) := by decide +kernel
theorem dX3_init_32 : decode cX3_init 32 = .ok (.getfield 11, 3) := by decide +kernel
theorem dX3_init_35 : decode cX3_init 35 = .ok (.iload_n 1, 1) := by decide +kernel
theorem dX3_init_36 : decode cX3_init 36 = .ok (.new 9, 3) := by decide +kernel
theorem dX3_init_39 : decode cX3_init 39 = .ok (.dup, 1) := by decide +kernel
theorem dX3_init_40 : decode cX3_init 40 = .ok (.invokespecial 24, 3) := by decide +kernel
theorem dX3_init_43 : decode cX3_init 43 = .ok (.aastore, 1) := by decide +kernel
theorem dX3_init_44 : decode cX3_init 44 = .ok (.iinc 1 1, 3) := by decide +kernel
theorem dX3_init_47 : decode cX3_init 47 = .ok (.goto (-22), 3) := by decide +kernel
theorem dX3_init_50 : decode cX3_init 50 = .ok (.return_, 1) := by decide +kernel
theorem dX3_keep_0 : decode cX3_keep 0 = .ok (.aload_n 0, 1) := by decide +kernel
theorem dX3_keep_1 : decode cX3_keep 1 = .ok (.getfield 11, 3) := by decide +kernel
theorem dX3_keep_4 : decode cX3_keep 4 = .ok (.aload_n 0, 1) := by decide +kernel
theorem dX3_keep_5 : decode cX3_keep 5 = .ok (.getfield 17, 3) := by decide +kernel
theorem dX3_keep_8 : decode cX3_keep 8 = .ok (.aaload, 1) := by decide +kernel
theorem dX3_keep_9 : decode cX3_keep 9 = .ok (.astore_n 2, 1) := by decide +kernel
theorem dX3_keep_10 : decode cX3_keep 10 = .ok (.aload_n 2, 1) := by decide +kernel
theorem dX3_keep_11 : decode cX3_keep 11 = .ok (.ifnull 36, 3) := by decide +kernel
theorem dX3_keep_14 : decode cX3_keep 14 = .ok (.aload_n 2, 1) := by decide +kernel
theorem dX3_keep_15 : decode cX3_keep 15 = .ok (.aload_n 1, 1) := by decide +kernel
theorem dX3_keep_16 : decode cX3_keep 16 = .ok (.invokevirtual 25, 3) := by decide +kernel
theorem dX3_keep_19 : decode cX3_keep 19 = .ok (.aload_n 0, 1) := by decide +kernel
theorem dX3_keep_20 : decode cX3_keep 20 = .ok (.aload_n 0, 1) := by decide +kernel
theorem dX3_keep_21 : decode cX3_keep 21 = .ok (.getfield 17, 3) := by decide +kernel
theorem dX3_keep_24 : decode cX3_keep 24 = .ok (.iconst 1, 1) := by decide +kernel
theorem dX3_keep_25 : decode cX3_keep 25 = .ok (.iadd, 1) := by decide +kernel
theorem dX3_keep_26 : decode cX3_keep 26 = .ok (.bipush 60, 2) := by decide +kernel
theorem dX3_keep_28 : decode cX3_keep 28 = .ok (.irem, 1) := by decide +kernel
theorem dX3_keep_29 : decode cX3_keep 29 = .ok (.putfield 17, 3) := by decide +kernel
theorem dX3_keep_32 : decode cX3_keep 32 = .ok (.aload_n 0, 1) := by decide +kernel
theorem dX3_keep_33 : decode cX3_keep 33 = .ok (.aload_n 0, 1) := by decide +kernel
theorem dX3_keep_34 : decode cX3_keep 34 = .ok (.getfield 21, 3) := by decide +kernel
theorem dX3_keep_37 : decode cX3_keep 37 = .ok (.iconst 1, 1) := by decide +kernel
theorem dX3_keep_38 : decode cX3_keep 38 = .ok (.iadd, 1) := by decide +kernel
theorem dX3_keep_39 : decode cX3_keep 39 = .ok (.bipush 60, 2) := by decide +kernel
theorem dX3_keep_41 : decode cX3_keep 41 = .ok (.invokestatic 29, 3) := by decide +kernel
theorem dX3_keep_44 : decode cX3_keep 44 = .ok (.putfield 21, 3) := by decide +kernel
theorem dX3_keep_47 : decode cX3_keep 47 = .ok (.return_, 1) := by decide +kernel
theorem dX3_goBack_0 : decode cX3_goBack 0 = .ok (.aload_n 0, 1) := by decide +kernel
theorem dX3_goBack_1 : decode cX3_goBack 1 = .ok (.aload_n 0, 1) := by decide +kernel
theorem dX3_goBack_2 : decode cX3_goBack 2 = .ok (.getfield 17, 3) := by decide +kernel
theorem dX3_goBack_5 : decode cX3_goBack 5 = .ok (.iload_n 2, 1) := by decide +kernel
theorem dX3_goBack_6 : decode cX3_goBack 6 = .ok (.isub, 1) := by decide +kernel
theorem dX3_goBack_7 : decode cX3_goBack 7 = .ok (.bipush 60, 2) := by decide +kernel
theorem dX3_goBack_9 : decode cX3_goBack 9 = .ok (.invokestatic 35, 3) := by decide +kernel
theorem dX3_goBack_12 : decode cX3_goBack 12 = .ok (.putfield 17, 3) := by decide +kernel
theorem dX3_goBack_15 : decode cX3_goBack 15 = .ok (.aload_n 0, 1) := by decide +kernel
theorem dX3_goBack_16 : decode cX3_goBack 16 = .ok (.dup, 1) := by decide +kernel
theorem dX3_goBack_17 : decode cX3_goBack 17 = .ok (.getfield 21, 3) := by decide +kernel
theorem dX3_goBack_20 : decode cX3_goBack 20 = .ok (.iload_n 2, 1) := by decide +kernel
theorem dX3_goBack_21 : decode cX3_goBack 21 = .ok (.isub, 1) := by decide +kernel
theorem dX3_goBack_22 : decode cX3_goBack 22 = .ok (.putfield 21, 3) := by decide +kernel
theorem dX3_goBack_25 : decode cX3_goBack 25 = .ok (.aload_n 0, 1) := by decide +kernel
theorem dX3_goBack_26 : decode cX3_goBack 26 = .ok (.getfield 11, 3) := by decide +kernel
theorem dX3_goBack_29 : decode cX3_goBack 29 = .ok (.aload_n 0, 1) := by decide +kernel
theorem dX3_goBack_30 : decode cX3_goBack 30 = .ok (.getfield 17, 3) := by decide +kernel
theorem dX3_goBack_33 : decode cX3_goBack 33 = .ok (.aaload, 1) := by decide +kernel
theorem dX3_goBack_34 : decode cX3_goBack 34 = .ok (.astore_n 3, 1) := by decide +kernel
theorem dX3_goBack_35 : decode cX3_goBack 35 = .ok (.aload_n 3, 1) := by decide +kernel
theorem dX3_goBack_36 : decode cX3_goBack 36 = .ok (.ifnull 8, 3) := by decide +kernel
theorem dX3_goBack_39 : decode cX3_goBack 39 = .ok (.aload_n 1, 1) := by decide +kernel
theorem dX3_goBack_40 : decode cX3_goBack 40 = .ok (.aload_n 3, 1) := by decide +kernel
theorem dX3_goBack_41 : decode cX3_goBack 41 = .ok (.invokevirtual 25, 3) := by decide +kernel
theorem dX3_goBack_44 : decode cX3_goBack 44 = .ok (.return_, 1) := by decide +kernel
theorem dX4_init_0 : decode cX4_init 0 = .ok (.aload_n 0, 1) := by decide +kernel
theorem dX4_init_1 : decode cX4_init 1 = .ok (.invokespecial 3, 3) := by decide +kernel
theorem dX4_init_4 : decode cX4_init 4 = .ok (.aload_n 0, 1) := by decide +kernel
theorem dX4_init_5 : decode cX4_init 5 = .ok (.sipush 1024, 3) := by decide +kernel
theorem dX4_init_8 : decode cX4_init 8 = .ok (.newarray .int, 2) := by decide +kernel
theorem dX4_init_10 : decode cX4_init 10 = .ok (.putfield 11, 3) := by decide +kernel
theorem dX4_init_13 : decode cX4_init 13 = .ok (.aload_n 0, 1) := by decide +kernel
theorem dX4_init_14 : decode cX4_init 14 = .ok (.sipush 1024, 3) := by decide +kernel
theorem dX4_init_17 : decode cX4_init 17 = .ok (.newarray .int, 2) := by decide +kernel
theorem dX4_init_19 : decode cX4_init 19 = .ok (.putfield 15, 3) := by decide +kernel
theorem dX4_init_22 : decode cX4_init 22 = .ok (.return_, 1) := by decide +kernel
theorem dX4_fewestRounds_0 : decode cX4_fewestRounds 0 = .ok (.iconst 1, 1) := by decide +kernel
theorem dX4_fewestRounds_1 : decode cX4_fewestRounds 1 = .ok (.aload_n 2, 1) := by decide +kernel
theorem dX4_fewestRounds_2 : decode cX4_fewestRounds 2 = .ok (.getfield 18, 3) := by decide +kernel
theorem dX4_fewestRounds_5 : decode cX4_fewestRounds 5 = .ok (.ishl, 1) := by decide +kernel
theorem dX4_fewestRounds_6 : decode cX4_fewestRounds 6 = .ok (.sipush 1024, 3) := by decide +kernel
theorem dX4_fewestRounds_9 : decode cX4_fewestRounds 9 = .ok (.invokestatic 24, 3) := by decide +kernel
theorem dX4_fewestRounds_12 : decode cX4_fewestRounds 12 = .ok (.istore_n 3, 1) := by decide +kernel
theorem dX4_fewestRounds_13 : decode cX4_fewestRounds 13 = .ok (.iload_n 1, 1) := by decide +kernel
theorem dX4_fewestRounds_14 : decode cX4_fewestRounds 14 = .ok (.ifCond .lt 8, 3) := by decide +kernel
theorem dX4_fewestRounds_17 : decode cX4_fewestRounds 17 = .ok (.iload_n 1, 1) := by decide +kernel
theorem dX4_fewestRounds_18 : decode cX4_fewestRounds 18 = .ok (.iload_n 3, 1) := by decide +kernel
theorem dX4_fewestRounds_19 : decode cX4_fewestRounds 19 = .ok (.if_icmp .lt 5, 3) := by decide +kernel
theorem dX4_fewestRounds_22 : decode cX4_fewestRounds 22 = .ok (.iconst (-1), 1) := by decide +kernel
theorem dX4_fewestRounds_23 : decode cX4_fewestRounds 23 = .ok (.ireturn, 1) := by decide +kernel
theorem dX4_fewestRounds_24 : decode cX4_fewestRounds 24 = .ok (.aload_n 0, 1) := by decide +kernel
theorem dX4_fewestRounds_25 : decode cX4_fewestRounds 25 = .ok (.iload_n 3, 1) := by decide +kernel
theorem dX4_fewestRounds_26 : decode cX4_fewestRounds 26 = .ok (.aload_n 2, 1) := by decide +kernel
theorem dX4_fewestRounds_27 : decode cX4_fewestRounds 27 = .ok (.invokevirtual 30, 3) := by decide +kernel
theorem dX4_fewestRounds_30 : decode cX4_fewestRounds 30 = .ok (.iconst 1, 1) := by decide +kernel
theorem dX4_fewestRounds_31 : decode cX4_fewestRounds 31 = .ok (.istore 4, 2) := by decide +kernel
theorem dX4_fewestRounds_33 : decode cX4_fewestRounds 33 = .ok (.iload 4, 2) := by decide +kernel
theorem dX4_fewestRounds_35 : decode cX4_fewestRounds 35 = .ok (.iload_n 3, 1) := by decide +kernel
theorem dX4_fewestRounds_36 : decode cX4_fewestRounds 36 = .ok (.if_icmp .gt 34, 3) := by decide +kernel
theorem dX4_fewestRounds_39 : decode cX4_fewestRounds 39 = .ok (.aload_n 0, 1) := by decide +kernel
theorem dX4_fewestRounds_40 : decode cX4_fewestRounds 40 = .ok (.getfield 11, 3) := by decide +kernel
theorem dX4_fewestRounds_43 : decode cX4_fewestRounds 43 = .ok (.iload_n 1, 1) := by decide +kernel
theorem dX4_fewestRounds_44 : decode cX4_fewestRounds 44 = .ok (.iaload, 1) := by decide +kernel
theorem dX4_fewestRounds_45 : decode cX4_fewestRounds 45 = .ok (.bipush (-2), 2) := by decide +kernel
theorem dX4_fewestRounds_47 : decode cX4_fewestRounds 47 = .ok (.if_icmp .ne 23, 3) := by decide +kernel
theorem dX4_fewestRounds_50 : decode cX4_fewestRounds 50 = .ok (.aload_n 0, 1) := by decide +kernel
theorem dX4_fewestRounds_51 : decode cX4_fewestRounds 51 = .ok (.iload 4, 2) := by decide +kernel
theorem dX4_fewestRounds_53 : decode cX4_fewestRounds 53 = .ok (.iload_n 3, 1) := by decide +kernel
theorem dX4_fewestRounds_54 : decode cX4_fewestRounds 54 = .ok (.aload_n 2, 1) := by decide +kernel
theorem dX4_fewestRounds_55 : decode cX4_fewestRounds 55 = .ok (.invokevirtual 34, 3) := by decide +kernel
theorem dX4_fewestRounds_58 : decode cX4_fewestRounds 58 = .ok (.ifCond .ne 6, 3) := by decide +kernel
theorem dX4_fewestRounds_61 : decode cX4_fewestRounds 61 = .ok (.bipush (-2), 2) := by decide +kernel
theorem dX4_fewestRounds_63 : decode cX4_fewestRounds 63 = .ok (.ireturn, 1) := by decide +kernel
theorem dX4_fewestRounds_64 : decode cX4_fewestRounds 64 = .ok (.iinc 4 1, 3) := by decide +kernel
theorem dX4_fewestRounds_67 : decode cX4_fewestRounds 67 = .ok (.goto (-34), 3) := by decide +kernel
theorem dX4_fewestRounds_70 : decode cX4_fewestRounds 70 = .ok (.aload_n 0, 1) := by decide +kernel
theorem dX4_fewestRounds_71 : decode cX4_fewestRounds 71 = .ok (.getfield 11, 3) := by decide +kernel
theorem dX4_fewestRounds_74 : decode cX4_fewestRounds 74 = .ok (.iload_n 1, 1) := by decide +kernel
theorem dX4_fewestRounds_75 : decode cX4_fewestRounds 75 = .ok (.iaload, 1) := by decide +kernel
theorem dX4_fewestRounds_76 : decode cX4_fewestRounds 76 = .ok (.ireturn, 1) := by decide +kernel
theorem dX4_prepare_0 : decode cX4_prepare 0 = .ok (.aload_n 0, 1) := by decide +kernel
theorem dX4_prepare_1 : decode cX4_prepare 1 = .ok (.getfield 15, 3) := by decide +kernel
theorem dX4_prepare_4 : decode cX4_prepare 4 = .ok (.iconst 0, 1) := by decide +kernel
theorem dX4_prepare_5 : decode cX4_prepare 5 = .ok (.iconst 0, 1) := by decide +kernel
theorem dX4_prepare_6 : decode cX4_prepare 6 = .ok (.iastore, 1) := by decide +kernel
theorem dX4_prepare_7 : decode cX4_prepare 7 = .ok (.aload_n 0, 1) := by decide +kernel
theorem dX4_prepare_8 : decode cX4_prepare 8 = .ok (.getfield 11, 3) := by decide +kernel
theorem dX4_prepare_11 : decode cX4_prepare 11 = .ok (.iconst 0, 1) := by decide +kernel
theorem dX4_prepare_12 : decode cX4_prepare 12 = .ok (.iconst 0, 1) := by decide +kernel
theorem dX4_prepare_13 : decode cX4_prepare 13 = .ok (.iastore, 1) := by decide +kernel
theorem dX4_prepare_14 : decode cX4_prepare 14 = .ok (.iconst 1, 1) := by decide +kernel
theorem dX4_prepare_15 : decode cX4_prepare 15 = .ok (.istore_n 3, 1) := by decide +kernel
theorem dX4_prepare_16 : decode cX4_prepare 16 = .ok (.iload_n 3, 1) := by decide +kernel
theorem dX4_prepare_17 : decode cX4_prepare 17 = .ok (.iload_n 1, 1) := by decide +kernel
theorem dX4_prepare_18 : decode cX4_prepare 18 = .ok (.if_icmp .ge 65, 3) := by decide +kernel
theorem dX4_prepare_21 : decode cX4_prepare 21 = .ok (.iload_n 3, 1) := by decide +kernel
theorem dX4_prepare_22 : decode cX4_prepare 22 = .ok (.invokestatic 38, 3) := by decide +kernel
theorem dX4_prepare_25 : decode cX4_prepare 25 = .ok (.istore 4, 2) := by decide +kernel
theorem dX4_prepare_27 : decode cX4_prepare 27 = .ok (.iload_n 3, 1) := by decide +kernel
theorem dX4_prepare_28 : decode cX4_prepare 28 = .ok (.iload_n 3, 1) := by decide +kernel
theorem dX4_prepare_29 : decode cX4_prepare 29 = .ok (.iconst 1, 1) := by decide +kernel
theorem dX4_prepare_30 : decode cX4_prepare 30 = .ok (.isub, 1) := by decide +kernel
theorem dX4_prepare_31 : decode cX4_prepare 31 = .ok (.iand, 1) := by decide +kernel
theorem dX4_prepare_32 : decode cX4_prepare 32 = .ok (.istore 5, 2) := by decide +kernel
theorem dX4_prepare_34 : decode cX4_prepare 34 = .ok (.aload_n 0, 1) := by decide +kernel
theorem dX4_prepare_35 : decode cX4_prepare 35 = .ok (.getfield 15, 3) := by decide +kernel
theorem dX4_prepare_38 : decode cX4_prepare 38 = .ok (.iload_n 3, 1) := by decide +kernel
theorem dX4_prepare_39 : decode cX4_prepare 39 = .ok (.aload_n 0, 1) := by decide +kernel
theorem dX4_prepare_40 : decode cX4_prepare 40 = .ok (.getfield 15, 3) := by decide +kernel
theorem dX4_prepare_43 : decode cX4_prepare 43 = .ok (.iload 5, 2) := by decide +kernel
theorem dX4_prepare_45 : decode cX4_prepare 45 = .ok (.iaload, 1) := by decide +kernel
theorem dX4_prepare_46 : decode cX4_prepare 46 = .ok (.iconst 1, 1) := by decide +kernel
theorem dX4_prepare_47 : decode cX4_prepare 47 = .ok (.iload 4, 2) := by decide +kernel
theorem dX4_prepare_49 : decode cX4_prepare 49 = .ok (.ishl, 1) := by decide +kernel
theorem dX4_prepare_50 : decode cX4_prepare 50 = .ok (.ior, 1) := by decide +kernel
theorem dX4_prepare_51 : decode cX4_prepare 51 = .ok (.aload_n 2, 1) := by decide +kernel
theorem dX4_prepare_52 : decode cX4_prepare 52 = .ok (.getfield 44, 3) := by decide +kernel
theorem dX4_prepare_55 : decode cX4_prepare 55 = .ok (.iload 4, 2) := by decide +kernel
theorem dX4_prepare_57 : decode cX4_prepare 57 = .ok (.iaload, 1) := by decide +kernel
theorem dX4_prepare_58 : decode cX4_prepare 58 = .ok (.ior, 1) := by decide +kernel
theorem dX4_prepare_59 : decode cX4_prepare 59 = .ok (.iastore, 1) := by decide +kernel
theorem dX4_prepare_60 : decode cX4_prepare 60 = .ok (.aload_n 0, 1) := by decide +kernel
theorem dX4_prepare_61 : decode cX4_prepare 61 = .ok (.getfield 11, 3) := by decide +kernel
theorem dX4_prepare_64 : decode cX4_prepare 64 = .ok (.iload_n 3, 1) := by decide +kernel
theorem dX4_prepare_65 : decode cX4_prepare 65 = .ok (.iload 5, 2) := by decide +kernel
theorem dX4_prepare_67 : decode cX4_prepare 67 = .ok (.ifCond .ne 7, 3) := by decide +kernel
theorem dX4_prepare_70 : decode cX4_prepare 70 = .ok (.iconst 0, 1) := by decide +kernel
theorem dX4_prepare_71 : decode cX4_prepare 71 = .ok (.goto 5, 3) := by decide +kernel
theorem dX4_prepare_74 : decode cX4_prepare 74 = .ok (.bipush (-2), 2) := by decide +kernel
theorem dX4_prepare_76 : decode cX4_prepare 76 = .ok (.iastore, 1) := by decide +kernel
theorem dX4_prepare_77 : decode cX4_prepare 77 = .ok (.iinc 3 1, 3) := by decide +kernel
theorem dX4_prepare_80 : decode cX4_prepare 80 = .ok (.goto (-64), 3) := by decide +kernel
theorem dX4_prepare_83 : decode cX4_prepare 83 = .ok (.return_, 1) := by decide +kernel
theorem dX4_findInRound_0 : decode cX4_findInRound 0 = .ok (.iconst 0, 1) := by decide +kernel
theorem dX4_findInRound_1 : decode cX4_findInRound 1 = .ok (.istore 4, 2) := by decide +kernel
theorem dX4_findInRound_3 : decode cX4_findInRound 3 = .ok (.iconst 0, 1) := by decide +kernel
theorem dX4_findInRound_4 : decode cX4_findInRound 4 = .ok (.istore 5, 2) := by decide +kernel
theorem dX4_findInRound_6 : decode cX4_findInRound 6 = .ok (.iload 5, 2) := by decide +kernel
theorem dX4_findInRound_8 : decode cX4_findInRound 8 = .ok (.iload_n 2, 1) := by decide +kernel
theorem dX4_findInRound_9 : decode cX4_findInRound 9 = .ok (.if_icmp .ge 43, 3) := by decide +kernel
theorem dX4_findInRound_12 : decode cX4_findInRound 12 = .ok (.aload_n 0, 1) := by decide +kernel
theorem dX4_findInRound_13 : decode cX4_findInRound 13 = .ok (.getfield 11, 3) := by decide +kernel
theorem dX4_findInRound_16 : decode cX4_findInRound 16 = .ok (.iload 5, 2) := by decide +kernel
theorem dX4_findInRound_18 : decode cX4_findInRound 18 = .ok (.iaload, 1) := by decide +kernel
theorem dX4_findInRound_19 : decode cX4_findInRound 19 = .ok (.bipush (-2), 2) := by decide +kernel
theorem dX4_findInRound_21 : decode cX4_findInRound 21 = .ok (.if_icmp .ne 25, 3) := by decide +kernel
theorem dX4_findInRound_24 : decode cX4_findInRound 24 = .ok (.aload_n 0, 1) := by decide +kernel
theorem dX4_findInRound_25 : decode cX4_findInRound 25 = .ok (.iload 5, 2) := by decide +kernel
theorem dX4_findInRound_27 : decode cX4_findInRound 27 = .ok (.iload_n 1, 1) := by decide +kernel
theorem dX4_findInRound_28 : decode cX4_findInRound 28 = .ok (.aload_n 3, 1) := by decide +kernel
theorem dX4_findInRound_29 : decode cX4_findInRound 29 = .ok (.invokevirtual 47, 3) := by decide +kernel
theorem dX4_findInRound_32 : decode cX4_findInRound 32 = .ok (.ifCond .eq 14, 3) := by decide +kernel
theorem dX4_findInRound_35 : decode cX4_findInRound 35 = .ok (.aload_n 0, 1) := by decide +kernel
theorem dX4_findInRound_36 : decode cX4_findInRound 36 = .ok (.getfield 11, 3) := by decide +kernel
theorem dX4_findInRound_39 : decode cX4_findInRound 39 = .ok (.iload 5, 2) := by decide +kernel
theorem dX4_findInRound_41 : decode cX4_findInRound 41 = .ok (.iload_n 1, 1) := by decide +kernel
theorem dX4_findInRound_42 : decode cX4_findInRound 42 = .ok (.iastore, 1) := by decide +kernel
theorem dX4_findInRound_43 : decode cX4_findInRound 43 = .ok (.iconst 1, 1) := by decide +kernel
theorem dX4_findInRound_44 : decode cX4_findInRound 44 = .ok (.istore 4, 2) := by decide +kernel
theorem dX4_findInRound_46 : decode cX4_findInRound 46 = .ok (.iinc 5 1, 3) := by decide +kernel
theorem dX4_findInRound_49 : decode cX4_findInRound 49 = .ok (.goto (-43), 3) := by decide +kernel
theorem dX4_findInRound_52 : decode cX4_findInRound 52 = .ok (.iload 4, 2) := by decide +kernel
theorem dX4_findInRound_54 : decode cX4_findInRound 54 = .ok (.ireturn, 1) := by decide +kernel
theorem dX4_someMarkFinds_0 : decode cX4_someMarkFinds 0 = .ok (.iconst 0, 1) := by decide +kernel
theorem dX4_someMarkFinds_1 : decode cX4_someMarkFinds 1 = .ok (.istore 4, 2) := by decide +kernel
theorem dX4_someMarkFinds_3 : decode cX4_someMarkFinds 3 = .ok (.iload 4, 2) := by decide +kernel
theorem dX4_someMarkFinds_5 : decode cX4_someMarkFinds 5 = .ok (.aload_n 3, 1) := by decide +kernel
theorem dX4_someMarkFinds_6 : decode cX4_someMarkFinds 6 = .ok (.getfield 18, 3) := by decide +kernel
theorem dX4_someMarkFinds_9 : decode cX4_someMarkFinds 9 = .ok (.if_icmp .ge 23, 3) := by decide +kernel
theorem dX4_someMarkFinds_12 : decode cX4_someMarkFinds 12 = .ok (.aload_n 0, 1) := by decide +kernel
theorem dX4_someMarkFinds_13 : decode cX4_someMarkFinds 13 = .ok (.iload 4, 2) := by decide +kernel
theorem dX4_someMarkFinds_15 : decode cX4_someMarkFinds 15 = .ok (.iload_n 1, 1) := by decide +kernel
theorem dX4_someMarkFinds_16 : decode cX4_someMarkFinds 16 = .ok (.iload_n 2, 1) := by decide +kernel
theorem dX4_someMarkFinds_17 : decode cX4_someMarkFinds 17 = .ok (.aload_n 3, 1) := by decide +kernel
theorem dX4_someMarkFinds_18 : decode cX4_someMarkFinds 18 = .ok (.invokevirtual 50, 3) := by decide +kernel
theorem dX4_someMarkFinds_21 : decode cX4_someMarkFinds 21 = .ok (.ifCond .eq 5, 3) := by decide +kernel
theorem dX4_someMarkFinds_24 : decode cX4_someMarkFinds 24 = .ok (.iconst 1, 1) := by decide +kernel
theorem dX4_someMarkFinds_25 : decode cX4_someMarkFinds 25 = .ok (.ireturn, 1) := by decide +kernel
theorem dX4_someMarkFinds_26 : decode cX4_someMarkFinds 26 = .ok (.iinc 4 1, 3) := by decide +kernel
theorem dX4_someMarkFinds_29 : decode cX4_someMarkFinds 29 = .ok (.goto (-26), 3) := by decide +kernel
theorem dX4_someMarkFinds_32 : decode cX4_someMarkFinds 32 = .ok (.iconst 0, 1) := by decide +kernel
theorem dX4_someMarkFinds_33 : decode cX4_someMarkFinds 33 = .ok (.ireturn, 1) := by decide +kernel
theorem dX4_markFinds_0 : decode cX4_markFinds 0 = .ok (.iconst 0, 1) := by decide +kernel
theorem dX4_markFinds_1 : decode cX4_markFinds 1 = .ok (.istore 5, 2) := by decide +kernel
theorem dX4_markFinds_3 : decode cX4_markFinds 3 = .ok (.iload 5, 2) := by decide +kernel
theorem dX4_markFinds_5 : decode cX4_markFinds 5 = .ok (.aload 4, 2) := by decide +kernel
theorem dX4_markFinds_7 : decode cX4_markFinds 7 = .ok (.getfield 54, 3) := by decide +kernel
theorem dX4_markFinds_10 : decode cX4_markFinds 10 = .ok (.iload_n 1, 1) := by decide +kernel
theorem dX4_markFinds_11 : decode cX4_markFinds 11 = .ok (.iaload, 1) := by decide +kernel
theorem dX4_markFinds_12 : decode cX4_markFinds 12 = .ok (.if_icmp .ge 65, 3) := by decide +kernel
theorem dX4_markFinds_15 : decode cX4_markFinds 15 = .ok (.iload_n 2, 1) := by decide +kernel
theorem dX4_markFinds_16 : decode cX4_markFinds 16 = .ok (.aload 4, 2) := by decide +kernel
theorem dX4_markFinds_18 : decode cX4_markFinds 18 = .ok (.getfield 57, 3) := by decide +kernel
theorem dX4_markFinds_21 : decode cX4_markFinds 21 = .ok (.bipush 16, 2) := by decide +kernel
theorem dX4_markFinds_23 : decode cX4_markFinds 23 = .ok (.iload_n 1, 1) := by decide +kernel
theorem dX4_markFinds_24 : decode cX4_markFinds 24 = .ok (.imul, 1) := by decide +kernel
theorem dX4_markFinds_25 : decode cX4_markFinds 25 = .ok (.iload 5, 2) := by decide +kernel
theorem dX4_markFinds_27 : decode cX4_markFinds 27 = .ok (.iadd, 1) := by decide +kernel
theorem dX4_markFinds_28 : decode cX4_markFinds 28 = .ok (.iaload, 1) := by decide +kernel
theorem dX4_markFinds_29 : decode cX4_markFinds 29 = .ok (.iand, 1) := by decide +kernel
theorem dX4_markFinds_30 : decode cX4_markFinds 30 = .ok (.istore 6, 2) := by decide +kernel
theorem dX4_markFinds_32 : decode cX4_markFinds 32 = .ok (.iload 6, 2) := by decide +kernel
theorem dX4_markFinds_34 : decode cX4_markFinds 34 = .ok (.iload 6, 2) := by decide +kernel
theorem dX4_markFinds_36 : decode cX4_markFinds 36 = .ok (.iconst 1, 1) := by decide +kernel
theorem dX4_markFinds_37 : decode cX4_markFinds 37 = .ok (.isub, 1) := by decide +kernel
theorem dX4_markFinds_38 : decode cX4_markFinds 38 = .ok (.iand, 1) := by decide +kernel
theorem dX4_markFinds_39 : decode cX4_markFinds 39 = .ok (.ifCond .eq 32, 3) := by decide +kernel
theorem dX4_markFinds_42 : decode cX4_markFinds 42 = .ok (.aload_n 0, 1) := by decide +kernel
theorem dX4_markFinds_43 : decode cX4_markFinds 43 = .ok (.getfield 11, 3) := by decide +kernel
theorem dX4_markFinds_46 : decode cX4_markFinds 46 = .ok (.aload_n 0, 1) := by decide +kernel
theorem dX4_markFinds_47 : decode cX4_markFinds 47 = .ok (.getfield 15, 3) := by decide +kernel
theorem dX4_markFinds_50 : decode cX4_markFinds 50 = .ok (.iload 6, 2) := by decide +kernel
theorem dX4_markFinds_52 : decode cX4_markFinds 52 = .ok (.iaload, 1) := by decide +kernel
theorem dX4_markFinds_53 : decode cX4_markFinds 53 = .ok (.iaload, 1) := by decide +kernel
theorem dX4_markFinds_54 : decode cX4_markFinds 54 = .ok (.istore 7, 2) := by decide +kernel
theorem dX4_markFinds_56 : decode cX4_markFinds 56 = .ok (.iload 7, 2) := by decide +kernel
theorem dX4_markFinds_58 : decode cX4_markFinds 58 = .ok (.bipush (-2), 2) := by decide +kernel
theorem dX4_markFinds_60 : decode cX4_markFinds 60 = .ok (.if_icmp .eq 9, 3) := by decide +kernel
theorem dX4_markFinds_63 : decode cX4_markFinds 63 = .ok (.iload 7, 2) := by decide +kernel
theorem dX4_markFinds_65 : decode cX4_markFinds 65 = .ok (.iload_n 3, 1) := by decide +kernel
theorem dX4_markFinds_66 : decode cX4_markFinds 66 = .ok (.if_icmp .lt 5, 3) := by decide +kernel
theorem dX4_markFinds_69 : decode cX4_markFinds 69 = .ok (.iconst 0, 1) := by decide +kernel
theorem dX4_markFinds_70 : decode cX4_markFinds 70 = .ok (.ireturn, 1) := by decide +kernel
theorem dX4_markFinds_71 : decode cX4_markFinds 71 = .ok (.iinc 5 1, 3) := by decide +kernel
theorem dX4_markFinds_74 : decode cX4_markFinds 74 = .ok (.goto (-71), 3) := by decide +kernel
theorem dX4_markFinds_77 : decode cX4_markFinds 77 = .ok (.iconst 1, 1) := by decide +kernel
theorem dX4_markFinds_78 : decode cX4_markFinds 78 = .ok (.ireturn, 1) := by decide +kernel
theorem dX6_init_0 : decode cX6_init 0 = .ok (.aload_n 0, 1) := by decide +kernel
theorem dX6_init_1 : decode cX6_init 1 = .ok (.invokespecial 3, 3) := by decide +kernel
theorem dX6_init_4 : decode cX6_init 4 = .ok (.aload_n 0, 1) := by decide +kernel
theorem dX6_init_5 : decode cX6_init 5 = .ok (.sipush 400, 3) := by decide +kernel
theorem dX6_init_8 : decode cX6_init 8 = .ok (.newarray .int, 2) := by decide +kernel
theorem dX6_init_10 : decode cX6_init 10 = .ok (.putfield 9, 3) := by decide +kernel
theorem dX6_init_13 : decode cX6_init 13 = .ok (.aload_n 0, 1) := by decide +kernel
theorem dX6_init_14 : decode cX6_init 14 = .ok (.iconst 0, 1) := by decide +kernel
theorem dX6_init_15 : decode cX6_init 15 = .ok (.putfield 15, 3) := by decide +kernel
theorem dX6_init_18 : decode cX6_init 18 = .ok (.return_, 1) := by decide +kernel
theorem dX6_hasRoomFor_0 : decode cX6_hasRoomFor 0 = .ok (.aload_n 0, 1) := by decide +kernel
theorem dX6_hasRoomFor_1 : decode cX6_hasRoomFor 1 = .ok (.getfield 15, 3) := by decide +kernel
theorem dX6_hasRoomFor_4 : decode cX6_hasRoomFor 4 = .ok (.iload_n 1, 1) := by decide +kernel
theorem dX6_hasRoomFor_5 : decode cX6_hasRoomFor 5 = .ok (.iadd, 1) := by decide +kernel
theorem dX6_hasRoomFor_6 : decode cX6_hasRoomFor 6 = .ok (.sipush 400, 3) := by decide +kernel
theorem dX6_hasRoomFor_9 : decode cX6_hasRoomFor 9 = .ok (.if_icmp .gt 7, 3) := by decide +kernel
theorem dX6_hasRoomFor_12 : decode cX6_hasRoomFor 12 = .ok (.iconst 1, 1) := by decide +kernel
theorem dX6_hasRoomFor_13 : decode cX6_hasRoomFor 13 = .ok (.goto 4, 3) := by decide +kernel
theorem dX6_hasRoomFor_16 : decode cX6_hasRoomFor 16 = .ok (.iconst 0, 1) := by decide +kernel
theorem dX6_hasRoomFor_17 : decode cX6_hasRoomFor 17 = .ok (.ireturn, 1) := by decide +kernel
theorem dX6_takeFour_0 : decode cX6_takeFour 0 = .ok (.bipush 24, 2) := by decide +kernel
theorem dX6_takeFour_2 : decode cX6_takeFour 2 = .ok (.istore_n 2, 1) := by decide +kernel
theorem dX6_takeFour_3 : decode cX6_takeFour 3 = .ok (.iload_n 2, 1) := by decide +kernel
theorem dX6_takeFour_4 : decode cX6_takeFour 4 = .ok (.ifCond .lt 45, 3) := by decide +kernel
theorem dX6_takeFour_7 : decode cX6_takeFour 7 = .ok (.aload_n 0, 1) := by decide +kernel
theorem dX6_takeFour_8 : decode cX6_takeFour 8 = .ok (.getfield 15, 3) := by decide +kernel
theorem dX6_takeFour_11 : decode cX6_takeFour 11 = .ok (.sipush 400, 3) := by decide +kernel
theorem dX6_takeFour_14 : decode cX6_takeFour 14 = .ok (.if_icmp .ge 35, 3) := by decide +kernel
theorem dX6_takeFour_17 : decode cX6_takeFour 17 = .ok (.aload_n 0, 1) := by decide +kernel
theorem dX6_takeFour_18 : decode cX6_takeFour 18 = .ok (.getfield 9, 3) := by decide +kernel
theorem dX6_takeFour_21 : decode cX6_takeFour 21 = .ok (.aload_n 0, 1) := by decide +kernel
theorem dX6_takeFour_22 : decode cX6_takeFour 22 = .ok (.getfield 15, 3) := by decide +kernel
theorem dX6_takeFour_25 : decode cX6_takeFour 25 = .ok (.iload_n 1, 1) := by decide +kernel
theorem dX6_takeFour_26 : decode cX6_takeFour 26 = .ok (.iload_n 2, 1) := by decide +kernel
theorem dX6_takeFour_27 : decode cX6_takeFour 27 = .ok (.iushr, 1) := by decide +kernel
theorem dX6_takeFour_28 : decode cX6_takeFour 28 = .ok (.sipush 255, 3) := by decide +kernel
theorem dX6_takeFour_31 : decode cX6_takeFour 31 = .ok (.iand, 1) := by decide +kernel
theorem dX6_takeFour_32 : decode cX6_takeFour 32 = .ok (.iastore, 1) := by decide +kernel
theorem dX6_takeFour_33 : decode cX6_takeFour 33 = .ok (.aload_n 0, 1) := by decide +kernel
theorem dX6_takeFour_34 : decode cX6_takeFour 34 = .ok (.dup, 1) := by decide +kernel
theorem dX6_takeFour_35 : decode cX6_takeFour 35 = .ok (.getfield 15, 3) := by decide +kernel
theorem dX6_takeFour_38 : decode cX6_takeFour 38 = .ok (.iconst 1, 1) := by decide +kernel
theorem dX6_takeFour_39 : decode cX6_takeFour 39 = .ok (.iadd, 1) := by decide +kernel
theorem dX6_takeFour_40 : decode cX6_takeFour 40 = .ok (.putfield 15, 3) := by decide +kernel
theorem dX6_takeFour_43 : decode cX6_takeFour 43 = .ok (.iinc 2 (-8), 3) := by decide +kernel
theorem dX6_takeFour_46 : decode cX6_takeFour 46 = .ok (.goto (-43), 3) := by decide +kernel
theorem dX6_takeFour_49 : decode cX6_takeFour 49 = .ok (.return_, 1) := by decide +kernel
theorem dX6_byteAt_0 : decode cX6_byteAt 0 = .ok (.iload_n 1, 1) := by decide +kernel
theorem dX6_byteAt_1 : decode cX6_byteAt 1 = .ok (.ifCond .lt 20, 3) := by decide +kernel
theorem dX6_byteAt_4 : decode cX6_byteAt 4 = .ok (.iload_n 1, 1) := by decide +kernel
theorem dX6_byteAt_5 : decode cX6_byteAt 5 = .ok (.aload_n 0, 1) := by decide +kernel
theorem dX6_byteAt_6 : decode cX6_byteAt 6 = .ok (.getfield 15, 3) := by decide +kernel
theorem dX6_byteAt_9 : decode cX6_byteAt 9 = .ok (.if_icmp .ge 12, 3) := by decide +kernel
theorem dX6_byteAt_12 : decode cX6_byteAt 12 = .ok (.aload_n 0, 1) := by decide +kernel
theorem dX6_byteAt_13 : decode cX6_byteAt 13 = .ok (.getfield 9, 3) := by decide +kernel
theorem dX6_byteAt_16 : decode cX6_byteAt 16 = .ok (.iload_n 1, 1) := by decide +kernel
theorem dX6_byteAt_17 : decode cX6_byteAt 17 = .ok (.iaload, 1) := by decide +kernel
theorem dX6_byteAt_18 : decode cX6_byteAt 18 = .ok (.goto 4, 3) := by decide +kernel
theorem dX6_byteAt_21 : decode cX6_byteAt 21 = .ok (.iconst 0, 1) := by decide +kernel
theorem dX6_byteAt_22 : decode cX6_byteAt 22 = .ok (.ireturn, 1) := by decide +kernel
