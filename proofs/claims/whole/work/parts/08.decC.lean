theorem dX8_init_0 : decode cX8_init 0 = .ok (.aload_n 0, 1) := by decide +kernel
theorem dX8_init_1 : decode cX8_init 1 = .ok (.invokespecial 1, 3) := by decide +kernel
theorem dX8_init_4 : decode cX8_init 4 = .ok (.aload_n 0, 1) := by decide +kernel
theorem dX8_init_5 : decode cX8_init 5 = .ok (.sipush 600, 3) := by decide +kernel
theorem dX8_init_8 : decode cX8_init 8 = .ok (.newarray .int, 2) := by decide +kernel
theorem dX8_init_10 : decode cX8_init 10 = .ok (.putfield 7, 3) := by decide +kernel
theorem dX8_init_13 : decode cX8_init 13 = .ok (.aload_n 0, 1) := by decide +kernel
theorem dX8_init_14 : decode cX8_init 14 = .ok (.ldc 13, 2) := by decide +kernel
theorem dX8_init_16 : decode cX8_init 16 = .ok (.newarray .int, 2) := by decide +kernel
theorem dX8_init_18 : decode cX8_init 18 = .ok (.putfield 14, 3) := by decide +kernel
theorem dX8_init_21 : decode cX8_init 21 = .ok (.aload_n 0, 1) := by decide +kernel
theorem dX8_init_22 : decode cX8_init 22 = .ok (.sipush 400, 3) := by decide +kernel
theorem dX8_init_25 : decode cX8_init 25 = .ok (.newarray .int, 2) := by decide +kernel
theorem dX8_init_27 : decode cX8_init 27 = .ok (.putfield 17, 3) := by decide +kernel
theorem dX8_init_30 : decode cX8_init 30 = .ok (.aload_n 0, 1) := by decide +kernel
theorem dX8_init_31 : decode cX8_init 31 = .ok (.sipush 256, 3) := by decide +kernel
theorem dX8_init_34 : decode cX8_init 34 = .ok (.newarray .int, 2) := by decide +kernel
theorem dX8_init_36 : decode cX8_init 36 = .ok (.putfield 20, 3) := by decide +kernel
theorem dX8_init_39 : decode cX8_init 39 = .ok (.aload_n 0, 1) := by decide +kernel
theorem dX8_init_40 : decode cX8_init 40 = .ok (.sipush 256, 3) := by decide +kernel
theorem dX8_init_43 : decode cX8_init 43 = .ok (.newarray .int, 2) := by decide +kernel
theorem dX8_init_45 : decode cX8_init 45 = .ok (.putfield 23, 3) := by decide +kernel
theorem dX8_init_48 : decode cX8_init 48 = .ok (.aload_n 0, 1) := by decide +kernel
theorem dX8_init_49 : decode cX8_init 49 = .ok (.sipush 256, 3) := by decide +kernel
theorem dX8_init_52 : decode cX8_init 52 = .ok (.newarray .int, 2) := by decide +kernel
theorem dX8_init_54 : decode cX8_init 54 = .ok (.putfield 26, 3) := by decide +kernel
theorem dX8_init_57 : decode cX8_init 57 = .ok (.aload_n 0, 1) := by decide +kernel
theorem dX8_init_58 : decode cX8_init 58 = .ok (.bipush 16, 2) := by decide +kernel
theorem dX8_init_60 : decode cX8_init 60 = .ok (.newarray .int, 2) := by decide +kernel
theorem dX8_init_62 : decode cX8_init 62 = .ok (.putfield 29, 3) := by decide +kernel
theorem dX8_init_65 : decode cX8_init 65 = .ok (.aload_n 0, 1) := by decide +kernel
theorem dX8_init_66 : decode cX8_init 66 = .ok (.bipush 120, 2) := by decide +kernel
theorem dX8_init_68 : decode cX8_init 68 = .ok (.newarray .int, 2) := by decide +kernel
theorem dX8_init_70 : decode cX8_init 70 = .ok (.putfield 32, 3) := by decide +kernel
theorem dX8_init_73 : decode cX8_init 73 = .ok (.aload_n 0, 1) := by decide +kernel
theorem dX8_init_74 : decode cX8_init 74 = .ok (.ldc 35, 2) := by decide +kernel
theorem dX8_init_76 : decode cX8_init 76 = .ok (.newarray .int, 2) := by decide +kernel
theorem dX8_init_78 : decode cX8_init 78 = .ok (.putfield 36, 3) := by decide +kernel
theorem dX8_init_81 : decode cX8_init 81 = .ok (.aload_n 0, 1) := by decide +kernel
theorem dX8_init_82 : decode cX8_init 82 = .ok (.ldc 35, 2) := by decide +kernel
theorem dX8_init_84 : decode cX8_init 84 = .ok (.newarray .int, 2) := by decide +kernel
theorem dX8_init_86 : decode cX8_init 86 = .ok (.putfield 39, 3) := by decide +kernel
theorem dX8_init_89 : decode cX8_init 89 = .ok (.aload_n 0, 1) := by decide +kernel
theorem dX8_init_90 : decode cX8_init 90 = .ok (.ldc 35, 2) := by decide +kernel
theorem dX8_init_92 : decode cX8_init 92 = .ok (.newarray .int, 2) := by decide +kernel
theorem dX8_init_94 : decode cX8_init 94 = .ok (.putfield 42, 3) := by decide +kernel
theorem dX8_init_97 : decode cX8_init 97 = .ok (.aload_n 0, 1) := by decide +kernel
theorem dX8_init_98 : decode cX8_init 98 = .ok (.sipush 1024, 3) := by decide +kernel
theorem dX8_init_101 : decode cX8_init 101 = .ok (.newarray .int, 2) := by decide +kernel
theorem dX8_init_103 : decode cX8_init 103 = .ok (.putfield 45, 3) := by decide +kernel
theorem dX8_init_106 : decode cX8_init 106 = .ok (.aload_n 0, 1) := by decide +kernel
theorem dX8_init_107 : decode cX8_init 107 = .ok (.getfield 7, 3) := by decide +kernel
theorem dX8_init_110 : decode cX8_init 110 = .ok (.iconst 0, 1) := by decide +kernel
theorem dX8_init_111 : decode cX8_init 111 = .ok (.iconst 1, 1) := by decide +kernel
theorem dX8_init_112 : decode cX8_init 112 = .ok (.iastore, 1) := by decide +kernel
theorem dX8_init_113 : decode cX8_init 113 = .ok (.aload_n 0, 1) := by decide +kernel
theorem dX8_init_114 : decode cX8_init 114 = .ok (.iconst 0, 1) := by decide +kernel
theorem dX8_init_115 : decode cX8_init 115 = .ok (.invokevirtual 48, 3) := by decide +kernel
theorem dX8_init_118 : decode cX8_init 118 = .ok (.aload_n 0, 1) := by decide +kernel
theorem dX8_init_119 : decode cX8_init 119 = .ok (.invokevirtual 52, 3) := by decide +kernel
theorem dX8_init_122 : decode cX8_init 122 = .ok (.return_, 1) := by decide +kernel
theorem dX8_first_0 : decode cX8_first 0 = .ok (.aload_n 0, 1) := by decide +kernel
theorem dX8_first_1 : decode cX8_first 1 = .ok (.getfield 7, 3) := by decide +kernel
theorem dX8_first_4 : decode cX8_first 4 = .ok (.sipush 279, 3) := by decide +kernel
theorem dX8_first_7 : decode cX8_first 7 = .ok (.iload_n 1, 1) := by decide +kernel
theorem dX8_first_8 : decode cX8_first 8 = .ok (.iadd, 1) := by decide +kernel
theorem dX8_first_9 : decode cX8_first 9 = .ok (.iconst 1, 1) := by decide +kernel
theorem dX8_first_10 : decode cX8_first 10 = .ok (.iastore, 1) := by decide +kernel
theorem dX8_first_11 : decode cX8_first 11 = .ok (.aload_n 0, 1) := by decide +kernel
theorem dX8_first_12 : decode cX8_first 12 = .ok (.getfield 7, 3) := by decide +kernel
theorem dX8_first_15 : decode cX8_first 15 = .ok (.sipush 295, 3) := by decide +kernel
theorem dX8_first_18 : decode cX8_first 18 = .ok (.iload_n 1, 1) := by decide +kernel
theorem dX8_first_19 : decode cX8_first 19 = .ok (.iadd, 1) := by decide +kernel
theorem dX8_first_20 : decode cX8_first 20 = .ok (.iconst 1, 1) := by decide +kernel
theorem dX8_first_21 : decode cX8_first 21 = .ok (.iastore, 1) := by decide +kernel
theorem dX8_first_22 : decode cX8_first 22 = .ok (.return_, 1) := by decide +kernel
theorem dX8_act_0 : decode cX8_act 0 = .ok (.aload_n 0, 1) := by decide +kernel
theorem dX8_act_1 : decode cX8_act 1 = .ok (.aload_n 0, 1) := by decide +kernel
theorem dX8_act_2 : decode cX8_act 2 = .ok (.getfield 55, 3) := by decide +kernel
theorem dX8_act_5 : decode cX8_act 5 = .ok (.iconst 1, 1) := by decide +kernel
theorem dX8_act_6 : decode cX8_act 6 = .ok (.iadd, 1) := by decide +kernel
theorem dX8_act_7 : decode cX8_act 7 = .ok (.bipush 60, 2) := by decide +kernel
theorem dX8_act_9 : decode cX8_act 9 = .ok (.irem, 1) := by decide +kernel
theorem dX8_act_10 : decode cX8_act 10 = .ok (.putfield 55, 3) := by decide +kernel
theorem dX8_act_13 : decode cX8_act 13 = .ok (.iconst 0, 1) := by decide +kernel
theorem dX8_act_14 : decode cX8_act 14 = .ok (.istore_n 1, 1) := by decide +kernel
theorem dX8_act_15 : decode cX8_act 15 = .ok (.iload_n 1, 1) := by decide +kernel
theorem dX8_act_16 : decode cX8_act 16 = .ok (.sipush 600, 3) := by decide +kernel
theorem dX8_act_19 : decode cX8_act 19 = .ok (.if_icmp .ge 30, 3) := by decide +kernel
theorem dX8_act_22 : decode cX8_act 22 = .ok (.aload_n 0, 1) := by decide +kernel
theorem dX8_act_23 : decode cX8_act 23 = .ok (.getfield 14, 3) := by decide +kernel
theorem dX8_act_26 : decode cX8_act 26 = .ok (.sipush 600, 3) := by decide +kernel
theorem dX8_act_29 : decode cX8_act 29 = .ok (.aload_n 0, 1) := by decide +kernel
theorem dX8_act_30 : decode cX8_act 30 = .ok (.getfield 55, 3) := by decide +kernel
theorem dX8_act_33 : decode cX8_act 33 = .ok (.imul, 1) := by decide +kernel
theorem dX8_act_34 : decode cX8_act 34 = .ok (.iload_n 1, 1) := by decide +kernel
theorem dX8_act_35 : decode cX8_act 35 = .ok (.iadd, 1) := by decide +kernel
theorem dX8_act_36 : decode cX8_act 36 = .ok (.aload_n 0, 1) := by decide +kernel
theorem dX8_act_37 : decode cX8_act 37 = .ok (.getfield 7, 3) := by decide +kernel
theorem dX8_act_40 : decode cX8_act 40 = .ok (.iload_n 1, 1) := by decide +kernel
theorem dX8_act_41 : decode cX8_act 41 = .ok (.iaload, 1) := by decide +kernel
theorem dX8_act_42 : decode cX8_act 42 = .ok (.iastore, 1) := by decide +kernel
theorem dX8_act_43 : decode cX8_act 43 = .ok (.iinc 1 1, 3) := by decide +kernel
theorem dX8_act_46 : decode cX8_act 46 = .ok (.goto (-31), 3) := by decide +kernel
theorem dX8_act_49 : decode cX8_act 49 = .ok (.aload_n 0, 1) := by decide +kernel
theorem dX8_act_50 : decode cX8_act 50 = .ok (.getfield 59, 3) := by decide +kernel
theorem dX8_act_53 : decode cX8_act 53 = .ok (.bipush 60, 2) := by decide +kernel
theorem dX8_act_55 : decode cX8_act 55 = .ok (.if_icmp .ge 13, 3) := by decide +kernel
theorem dX8_act_58 : decode cX8_act 58 = .ok (.aload_n 0, 1) := by decide +kernel
theorem dX8_act_59 : decode cX8_act 59 = .ok (.dup, 1) := by decide +kernel
theorem dX8_act_60 : decode cX8_act 60 = .ok (.getfield 59, 3) := by decide +kernel
theorem dX8_act_63 : decode cX8_act 63 = .ok (.iconst 1, 1) := by decide +kernel
theorem dX8_act_64 : decode cX8_act 64 = .ok (.iadd, 1) := by decide +kernel
theorem dX8_act_65 : decode cX8_act 65 = .ok (.putfield 59, 3) := by decide +kernel
theorem dX8_act_68 : decode cX8_act 68 = .ok (.return_, 1) := by decide +kernel
theorem dX8_undo_0 : decode cX8_undo 0 = .ok (.iload_n 1, 1) := by decide +kernel
theorem dX8_undo_1 : decode cX8_undo 1 = .ok (.ifCond .lt 11, 3) := by decide +kernel
theorem dX8_undo_4 : decode cX8_undo 4 = .ok (.iload_n 1, 1) := by decide +kernel
theorem dX8_undo_5 : decode cX8_undo 5 = .ok (.aload_n 0, 1) := by decide +kernel
theorem dX8_undo_6 : decode cX8_undo 6 = .ok (.getfield 59, 3) := by decide +kernel
theorem dX8_undo_9 : decode cX8_undo 9 = .ok (.if_icmp .le 5, 3) := by decide +kernel
theorem dX8_undo_12 : decode cX8_undo 12 = .ok (.iconst (-1), 1) := by decide +kernel
theorem dX8_undo_13 : decode cX8_undo 13 = .ok (.ireturn, 1) := by decide +kernel
theorem dX8_undo_14 : decode cX8_undo 14 = .ok (.iconst 0, 1) := by decide +kernel
theorem dX8_undo_15 : decode cX8_undo 15 = .ok (.istore_n 2, 1) := by decide +kernel
theorem dX8_undo_16 : decode cX8_undo 16 = .ok (.iload_n 2, 1) := by decide +kernel
theorem dX8_undo_17 : decode cX8_undo 17 = .ok (.iload_n 1, 1) := by decide +kernel
theorem dX8_undo_18 : decode cX8_undo 18 = .ok (.if_icmp .ge 71, 3) := by decide +kernel
theorem dX8_undo_21 : decode cX8_undo 21 = .ok (.iconst 0, 1) := by decide +kernel
theorem dX8_undo_22 : decode cX8_undo 22 = .ok (.istore_n 3, 1) := by decide +kernel
theorem dX8_undo_23 : decode cX8_undo 23 = .ok (.iload_n 3, 1) := by decide +kernel
theorem dX8_undo_24 : decode cX8_undo 24 = .ok (.sipush 600, 3) := by decide +kernel
theorem dX8_undo_27 : decode cX8_undo 27 = .ok (.if_icmp .ge 30, 3) := by decide +kernel
theorem dX8_undo_30 : decode cX8_undo 30 = .ok (.aload_n 0, 1) := by decide +kernel
theorem dX8_undo_31 : decode cX8_undo 31 = .ok (.getfield 7, 3) := by decide +kernel
theorem dX8_undo_34 : decode cX8_undo 34 = .ok (.iload_n 3, 1) := by decide +kernel
theorem dX8_undo_35 : decode cX8_undo 35 = .ok (.aload_n 0, 1) := by decide +kernel
theorem dX8_undo_36 : decode cX8_undo 36 = .ok (.getfield 14, 3) := by decide +kernel
theorem dX8_undo_39 : decode cX8_undo 39 = .ok (.sipush 600, 3) := by decide +kernel
theorem dX8_undo_42 : decode cX8_undo 42 = .ok (.aload_n 0, 1) := by decide +kernel
theorem dX8_undo_43 : decode cX8_undo 43 = .ok (.getfield 55, 3) := by decide +kernel
theorem dX8_undo_46 : decode cX8_undo 46 = .ok (.imul, 1) := by decide +kernel
theorem dX8_undo_47 : decode cX8_undo 47 = .ok (.iload_n 3, 1) := by decide +kernel
theorem dX8_undo_48 : decode cX8_undo 48 = .ok (.iadd, 1) := by decide +kernel
theorem dX8_undo_49 : decode cX8_undo 49 = .ok (.iaload, 1) := by decide +kernel
theorem dX8_undo_50 : decode cX8_undo 50 = .ok (.iastore, 1) := by decide +kernel
theorem dX8_undo_51 : decode cX8_undo 51 = .ok (.iinc 3 1, 3) := by decide +kernel
theorem dX8_undo_54 : decode cX8_undo 54 = .ok (.goto (-31), 3) := by decide +kernel
theorem dX8_undo_57 : decode cX8_undo 57 = .ok (.aload_n 0, 1) := by decide +kernel
theorem dX8_undo_58 : decode cX8_undo 58 = .ok (.aload_n 0, 1) := by decide +kernel
theorem dX8_undo_59 : decode cX8_undo 59 = .ok (.getfield 55, 3) := by decide +kernel
theorem dX8_undo_62 : decode cX8_undo 62 = .ok (.bipush 60, 2) := by decide +kernel
theorem dX8_undo_64 : decode cX8_undo 64 = .ok (.iadd, 1) := by decide +kernel
theorem dX8_undo_65 : decode cX8_undo 65 = .ok (.iconst 1, 1) := by decide +kernel
theorem dX8_undo_66 : decode cX8_undo 66 = .ok (.isub, 1) := by decide +kernel
theorem dX8_undo_67 : decode cX8_undo 67 = .ok (.bipush 60, 2) := by decide +kernel
theorem dX8_undo_69 : decode cX8_undo 69 = .ok (.irem, 1) := by decide +kernel
theorem dX8_undo_70 : decode cX8_undo 70 = .ok (.putfield 55, 3) := by decide +kernel
theorem dX8_undo_73 : decode cX8_undo 73 = .ok (.aload_n 0, 1) := by decide +kernel
theorem dX8_undo_74 : decode cX8_undo 74 = .ok (.dup, 1) := by decide +kernel
theorem dX8_undo_75 : decode cX8_undo 75 = .ok (.getfield 59, 3) := by decide +kernel
theorem dX8_undo_78 : decode cX8_undo 78 = .ok (.iconst 1, 1) := by decide +kernel
theorem dX8_undo_79 : decode cX8_undo 79 = .ok (.isub, 1) := by decide +kernel
theorem dX8_undo_80 : decode cX8_undo 80 = .ok (.putfield 59, 3) := by decide +kernel
theorem dX8_undo_83 : decode cX8_undo 83 = .ok (.iinc 2 1, 3) := by decide +kernel
theorem dX8_undo_86 : decode cX8_undo 86 = .ok (.goto (-70), 3) := by decide +kernel
theorem dX8_undo_89 : decode cX8_undo 89 = .ok (.aload_n 0, 1) := by decide +kernel
theorem dX8_undo_90 : decode cX8_undo 90 = .ok (.invokevirtual 52, 3) := by decide +kernel
theorem dX8_undo_93 : decode cX8_undo 93 = .ok (.iload_n 1, 1) := by decide +kernel
theorem dX8_undo_94 : decode cX8_undo 94 = .ok (.ireturn, 1) := by decide +kernel
theorem dX8_n_0 : decode cX8_n 0 = .ok (.aload_n 0, 1) := by decide +kernel
theorem dX8_n_1 : decode cX8_n 1 = .ok (.getfield 7, 3) := by decide +kernel
theorem dX8_n_4 : decode cX8_n 4 = .ok (.iconst 0, 1) := by decide +kernel
theorem dX8_n_5 : decode cX8_n 5 = .ok (.iaload, 1) := by decide +kernel
theorem dX8_n_6 : decode cX8_n 6 = .ok (.ireturn, 1) := by decide +kernel
theorem dX8_isPost_0 : decode cX8_isPost 0 = .ok (.iload_n 1, 1) := by decide +kernel
theorem dX8_isPost_1 : decode cX8_isPost 1 = .ok (.ifCond .lt 15, 3) := by decide +kernel
theorem dX8_isPost_4 : decode cX8_isPost 4 = .ok (.iload_n 1, 1) := by decide +kernel
theorem dX8_isPost_5 : decode cX8_isPost 5 = .ok (.aload_n 0, 1) := by decide +kernel
theorem dX8_isPost_6 : decode cX8_isPost 6 = .ok (.invokevirtual 62, 3) := by decide +kernel
theorem dX8_isPost_9 : decode cX8_isPost 9 = .ok (.if_icmp .ge 7, 3) := by decide +kernel
theorem dX8_isPost_12 : decode cX8_isPost 12 = .ok (.iconst 1, 1) := by decide +kernel
theorem dX8_isPost_13 : decode cX8_isPost 13 = .ok (.goto 4, 3) := by decide +kernel
theorem dX8_isPost_16 : decode cX8_isPost 16 = .ok (.iconst 0, 1) := by decide +kernel
theorem dX8_isPost_17 : decode cX8_isPost 17 = .ok (.ireturn, 1) := by decide +kernel
theorem dX8_isSet_0 : decode cX8_isSet 0 = .ok (.iload_n 1, 1) := by decide +kernel
theorem dX8_isSet_1 : decode cX8_isSet 1 = .ok (.ifCond .lt 17, 3) := by decide +kernel
theorem dX8_isSet_4 : decode cX8_isSet 4 = .ok (.iload_n 1, 1) := by decide +kernel
theorem dX8_isSet_5 : decode cX8_isSet 5 = .ok (.iconst 1, 1) := by decide +kernel
theorem dX8_isSet_6 : decode cX8_isSet 6 = .ok (.aload_n 0, 1) := by decide +kernel
theorem dX8_isSet_7 : decode cX8_isSet 7 = .ok (.invokevirtual 62, 3) := by decide +kernel
theorem dX8_isSet_10 : decode cX8_isSet 10 = .ok (.ishl, 1) := by decide +kernel
theorem dX8_isSet_11 : decode cX8_isSet 11 = .ok (.if_icmp .ge 7, 3) := by decide +kernel
theorem dX8_isSet_14 : decode cX8_isSet 14 = .ok (.iconst 1, 1) := by decide +kernel
theorem dX8_isSet_15 : decode cX8_isSet 15 = .ok (.goto 4, 3) := by decide +kernel
theorem dX8_isSet_18 : decode cX8_isSet 18 = .ok (.iconst 0, 1) := by decide +kernel
theorem dX8_isSet_19 : decode cX8_isSet 19 = .ok (.ireturn, 1) := by decide +kernel
theorem dX8_length_0 : decode cX8_length 0 = .ok (.aload_n 0, 1) := by decide +kernel
theorem dX8_length_1 : decode cX8_length 1 = .ok (.getfield 7, 3) := by decide +kernel
theorem dX8_length_4 : decode cX8_length 4 = .ok (.bipush 7, 2) := by decide +kernel
theorem dX8_length_6 : decode cX8_length 6 = .ok (.bipush 16, 2) := by decide +kernel
theorem dX8_length_8 : decode cX8_length 8 = .ok (.iload_n 1, 1) := by decide +kernel
theorem dX8_length_9 : decode cX8_length 9 = .ok (.imul, 1) := by decide +kernel
theorem dX8_length_10 : decode cX8_length 10 = .ok (.iadd, 1) := by decide +kernel
theorem dX8_length_11 : decode cX8_length 11 = .ok (.iload_n 2, 1) := by decide +kernel
theorem dX8_length_12 : decode cX8_length 12 = .ok (.iadd, 1) := by decide +kernel
theorem dX8_length_13 : decode cX8_length 13 = .ok (.iaload, 1) := by decide +kernel
theorem dX8_length_14 : decode cX8_length 14 = .ok (.ireturn, 1) := by decide +kernel
theorem dX8_isRoad_0 : decode cX8_isRoad 0 = .ok (.aload_n 0, 1) := by decide +kernel
theorem dX8_isRoad_1 : decode cX8_isRoad 1 = .ok (.iload_n 1, 1) := by decide +kernel
theorem dX8_isRoad_2 : decode cX8_isRoad 2 = .ok (.invokevirtual 66, 3) := by decide +kernel
theorem dX8_isRoad_5 : decode cX8_isRoad 5 = .ok (.ifCond .eq 41, 3) := by decide +kernel
theorem dX8_isRoad_8 : decode cX8_isRoad 8 = .ok (.aload_n 0, 1) := by decide +kernel
theorem dX8_isRoad_9 : decode cX8_isRoad 9 = .ok (.iload_n 2, 1) := by decide +kernel
theorem dX8_isRoad_10 : decode cX8_isRoad 10 = .ok (.invokevirtual 66, 3) := by decide +kernel
theorem dX8_isRoad_13 : decode cX8_isRoad 13 = .ok (.ifCond .eq 33, 3) := by decide +kernel
theorem dX8_isRoad_16 : decode cX8_isRoad 16 = .ok (.iload_n 1, 1) := by decide +kernel
theorem dX8_isRoad_17 : decode cX8_isRoad 17 = .ok (.iload_n 2, 1) := by decide +kernel
theorem dX8_isRoad_18 : decode cX8_isRoad 18 = .ok (.if_icmp .eq 28, 3) := by decide +kernel
theorem dX8_isRoad_21 : decode cX8_isRoad 21 = .ok (.iload_n 3, 1) := by decide +kernel
theorem dX8_isRoad_22 : decode cX8_isRoad 22 = .ok (.iconst 1, 1) := by decide +kernel
theorem dX8_isRoad_23 : decode cX8_isRoad 23 = .ok (.if_icmp .lt 23, 3) := by decide +kernel
theorem dX8_isRoad_26 : decode cX8_isRoad 26 = .ok (.iload_n 3, 1) := by decide +kernel
theorem dX8_isRoad_27 : decode cX8_isRoad 27 = .ok (.sipush 1000, 3) := by decide +kernel
theorem dX8_isRoad_30 : decode cX8_isRoad 30 = .ok (.if_icmp .gt 16, 3) := by decide +kernel
theorem dX8_isRoad_33 : decode cX8_isRoad 33 = .ok (.aload_n 0, 1) := by decide +kernel
theorem dX8_isRoad_34 : decode cX8_isRoad 34 = .ok (.iload_n 1, 1) := by decide +kernel
theorem dX8_isRoad_35 : decode cX8_isRoad 35 = .ok (.iload_n 2, 1) := by decide +kernel
theorem dX8_isRoad_36 : decode cX8_isRoad 36 = .ok (.invokevirtual 70, 3) := by decide +kernel
theorem dX8_isRoad_39 : decode cX8_isRoad 39 = .ok (.ifCond .ne 7, 3) := by decide +kernel
theorem dX8_isRoad_42 : decode cX8_isRoad 42 = .ok (.iconst 1, 1) := by decide +kernel
theorem dX8_isRoad_43 : decode cX8_isRoad 43 = .ok (.goto 4, 3) := by decide +kernel
theorem dX8_isRoad_46 : decode cX8_isRoad 46 = .ok (.iconst 0, 1) := by decide +kernel
theorem dX8_isRoad_47 : decode cX8_isRoad 47 = .ok (.ireturn, 1) := by decide +kernel
theorem dX8_lay_0 : decode cX8_lay 0 = .ok (.aload_n 0, 1) := by decide +kernel
theorem dX8_lay_1 : decode cX8_lay 1 = .ok (.getfield 7, 3) := by decide +kernel
theorem dX8_lay_4 : decode cX8_lay 4 = .ok (.bipush 7, 2) := by decide +kernel
theorem dX8_lay_6 : decode cX8_lay 6 = .ok (.bipush 16, 2) := by decide +kernel
theorem dX8_lay_8 : decode cX8_lay 8 = .ok (.iload_n 1, 1) := by decide +kernel
theorem dX8_lay_9 : decode cX8_lay 9 = .ok (.imul, 1) := by decide +kernel
theorem dX8_lay_10 : decode cX8_lay 10 = .ok (.iadd, 1) := by decide +kernel
theorem dX8_lay_11 : decode cX8_lay 11 = .ok (.iload_n 2, 1) := by decide +kernel
theorem dX8_lay_12 : decode cX8_lay 12 = .ok (.iadd, 1) := by decide +kernel
theorem dX8_lay_13 : decode cX8_lay 13 = .ok (.iload_n 3, 1) := by decide +kernel
theorem dX8_lay_14 : decode cX8_lay 14 = .ok (.iastore, 1) := by decide +kernel
theorem dX8_lay_15 : decode cX8_lay 15 = .ok (.aload_n 0, 1) := by decide +kernel
theorem dX8_lay_16 : decode cX8_lay 16 = .ok (.getfield 7, 3) := by decide +kernel
theorem dX8_lay_19 : decode cX8_lay 19 = .ok (.bipush 7, 2) := by decide +kernel
theorem dX8_lay_21 : decode cX8_lay 21 = .ok (.bipush 16, 2) := by decide +kernel
theorem dX8_lay_23 : decode cX8_lay 23 = .ok (.iload_n 2, 1) := by decide +kernel
theorem dX8_lay_24 : decode cX8_lay 24 = .ok (.imul, 1) := by decide +kernel
theorem dX8_lay_25 : decode cX8_lay 25 = .ok (.iadd, 1) := by decide +kernel
theorem dX8_lay_26 : decode cX8_lay 26 = .ok (.iload_n 1, 1) := by decide +kernel
theorem dX8_lay_27 : decode cX8_lay 27 = .ok (.iadd, 1) := by decide +kernel
theorem dX8_lay_28 : decode cX8_lay 28 = .ok (.iload_n 3, 1) := by decide +kernel
theorem dX8_lay_29 : decode cX8_lay 29 = .ok (.iastore, 1) := by decide +kernel
theorem dX8_lay_30 : decode cX8_lay 30 = .ok (.return_, 1) := by decide +kernel
theorem dX8_walk_0 : decode cX8_walk 0 = .ok (.iconst 0, 1) := by decide +kernel
theorem dX8_walk_1 : decode cX8_walk 1 = .ok (.istore_n 1, 1) := by decide +kernel
theorem dX8_walk_2 : decode cX8_walk 2 = .ok (.iload_n 1, 1) := by decide +kernel
theorem dX8_walk_3 : decode cX8_walk 3 = .ok (.bipush 16, 2) := by decide +kernel
theorem dX8_walk_5 : decode cX8_walk 5 = .ok (.if_icmp .ge 63, 3) := by decide +kernel
theorem dX8_walk_8 : decode cX8_walk 8 = .ok (.iconst 0, 1) := by decide +kernel
theorem dX8_walk_9 : decode cX8_walk 9 = .ok (.istore_n 2, 1) := by decide +kernel
theorem dX8_walk_10 : decode cX8_walk 10 = .ok (.iload_n 2, 1) := by decide +kernel
theorem dX8_walk_11 : decode cX8_walk 11 = .ok (.bipush 16, 2) := by decide +kernel
theorem dX8_walk_13 : decode cX8_walk 13 = .ok (.if_icmp .ge 49, 3) := by decide +kernel
theorem dX8_walk_16 : decode cX8_walk 16 = .ok (.aload_n 0, 1) := by decide +kernel
theorem dX8_walk_17 : decode cX8_walk 17 = .ok (.getfield 20, 3) := by decide +kernel
theorem dX8_walk_20 : decode cX8_walk 20 = .ok (.bipush 16, 2) := by decide +kernel
theorem dX8_walk_22 : decode cX8_walk 22 = .ok (.iload_n 1, 1) := by decide +kernel
theorem dX8_walk_23 : decode cX8_walk 23 = .ok (.imul, 1) := by decide +kernel
theorem dX8_walk_24 : decode cX8_walk 24 = .ok (.iload_n 2, 1) := by decide +kernel
theorem dX8_walk_25 : decode cX8_walk 25 = .ok (.iadd, 1) := by decide +kernel
theorem dX8_walk_26 : decode cX8_walk 26 = .ok (.iload_n 1, 1) := by decide +kernel
theorem dX8_walk_27 : decode cX8_walk 27 = .ok (.iload_n 2, 1) := by decide +kernel
theorem dX8_walk_28 : decode cX8_walk 28 = .ok (.if_icmp .ne 7, 3) := by decide +kernel
theorem dX8_walk_31 : decode cX8_walk 31 = .ok (.iconst 0, 1) := by decide +kernel
theorem dX8_walk_32 : decode cX8_walk 32 = .ok (.goto 23, 3) := by decide +kernel
theorem dX8_walk_35 : decode cX8_walk 35 = .ok (.aload_n 0, 1) := by decide +kernel
theorem dX8_walk_36 : decode cX8_walk 36 = .ok (.iload_n 1, 1) := by decide +kernel
theorem dX8_walk_37 : decode cX8_walk 37 = .ok (.iload_n 2, 1) := by decide +kernel
theorem dX8_walk_38 : decode cX8_walk 38 = .ok (.invokevirtual 70, 3) := by decide +kernel
theorem dX8_walk_41 : decode cX8_walk 41 = .ok (.ifCond .le 12, 3) := by decide +kernel
theorem dX8_walk_44 : decode cX8_walk 44 = .ok (.aload_n 0, 1) := by decide +kernel
theorem dX8_walk_45 : decode cX8_walk 45 = .ok (.iload_n 1, 1) := by decide +kernel
theorem dX8_walk_46 : decode cX8_walk 46 = .ok (.iload_n 2, 1) := by decide +kernel
theorem dX8_walk_47 : decode cX8_walk 47 = .ok (.invokevirtual 70, 3) := by decide +kernel
theorem dX8_walk_50 : decode cX8_walk 50 = .ok (.goto 5, 3) := by decide +kernel
theorem dX8_walk_53 : decode cX8_walk 53 = .ok (.ldc 74, 2) := by decide +kernel
theorem dX8_walk_55 : decode cX8_walk 55 = .ok (.iastore, 1) := by decide +kernel
theorem dX8_walk_56 : decode cX8_walk 56 = .ok (.iinc 2 1, 3) := by decide +kernel
theorem dX8_walk_59 : decode cX8_walk 59 = .ok (.goto (-49), 3) := by decide +kernel
theorem dX8_walk_62 : decode cX8_walk 62 = .ok (.iinc 1 1, 3) := by decide +kernel
theorem dX8_walk_65 : decode cX8_walk 65 = .ok (.goto (-63), 3) := by decide +kernel
theorem dX8_walk_68 : decode cX8_walk 68 = .ok (.iconst 0, 1) := by decide +kernel
theorem dX8_walk_69 : decode cX8_walk 69 = .ok (.istore_n 1, 1) := by decide +kernel
theorem dX8_walk_70 : decode cX8_walk 70 = .ok (.iload_n 1, 1) := by decide +kernel
theorem dX8_walk_71 : decode cX8_walk 71 = .ok (.aload_n 0, 1) := by decide +kernel
theorem dX8_walk_72 : decode cX8_walk 72 = .ok (.invokevirtual 62, 3) := by decide +kernel
theorem dX8_walk_75 : decode cX8_walk 75 = .ok (.if_icmp .ge 95, 3) := by decide +kernel
theorem dX8_walk_78 : decode cX8_walk 78 = .ok (.iconst 0, 1) := by decide +kernel
theorem dX8_walk_79 : decode cX8_walk 79 = .ok (.istore_n 2, 1) := by decide +kernel
theorem dX8_walk_80 : decode cX8_walk 80 = .ok (.iload_n 2, 1) := by decide +kernel
theorem dX8_walk_81 : decode cX8_walk 81 = .ok (.aload_n 0, 1) := by decide +kernel
theorem dX8_walk_82 : decode cX8_walk 82 = .ok (.invokevirtual 62, 3) := by decide +kernel
theorem dX8_walk_85 : decode cX8_walk 85 = .ok (.if_icmp .ge 79, 3) := by decide +kernel
theorem dX8_walk_88 : decode cX8_walk 88 = .ok (.iconst 0, 1) := by decide +kernel
theorem dX8_walk_89 : decode cX8_walk 89 = .ok (.istore_n 3, 1) := by decide +kernel
theorem dX8_walk_90 : decode cX8_walk 90 = .ok (.iload_n 3, 1) := by decide +kernel
theorem dX8_walk_91 : decode cX8_walk 91 = .ok (.aload_n 0, 1) := by decide +kernel
theorem dX8_walk_92 : decode cX8_walk 92 = .ok (.invokevirtual 62, 3) := by decide +kernel
theorem dX8_walk_95 : decode cX8_walk 95 = .ok (.if_icmp .ge 63, 3) := by decide +kernel
theorem dX8_walk_98 : decode cX8_walk 98 = .ok (.aload_n 0, 1) := by decide +kernel
theorem dX8_walk_99 : decode cX8_walk 99 = .ok (.getfield 20, 3) := by decide +kernel
theorem dX8_walk_102 : decode cX8_walk 102 = .ok (.bipush 16, 2) := by decide +kernel
theorem dX8_walk_104 : decode cX8_walk 104 = .ok (.iload_n 2, 1) := by decide +kernel
theorem dX8_walk_105 : decode cX8_walk 105 = .ok (.imul, 1) := by decide +kernel
theorem dX8_walk_106 : decode cX8_walk 106 = .ok (.iload_n 1, 1) := by decide +kernel
theorem dX8_walk_107 : decode cX8_walk 107 = .ok (.iadd, 1) := by decide +kernel
theorem dX8_walk_108 : decode cX8_walk 108 = .ok (.iaload, 1) := by decide +kernel
theorem dX8_walk_109 : decode cX8_walk 109 = .ok (.aload_n 0, 1) := by decide +kernel
theorem dX8_walk_110 : decode cX8_walk 110 = .ok (.getfield 20, 3) := by decide +kernel
theorem dX8_walk_113 : decode cX8_walk 113 = .ok (.bipush 16, 2) := by decide +kernel
theorem dX8_walk_115 : decode cX8_walk 115 = .ok (.iload_n 1, 1) := by decide +kernel
theorem dX8_walk_116 : decode cX8_walk 116 = .ok (.imul, 1) := by decide +kernel
theorem dX8_walk_117 : decode cX8_walk 117 = .ok (.iload_n 3, 1) := by decide +kernel
theorem dX8_walk_118 : decode cX8_walk 118 = .ok (.iadd, 1) := by decide +kernel
theorem dX8_walk_119 : decode cX8_walk 119 = .ok (.iaload, 1) := by decide +kernel
theorem dX8_walk_120 : decode cX8_walk 120 = .ok (.iadd, 1) := by decide +kernel
theorem dX8_walk_121 : decode cX8_walk 121 = .ok (.istore 4, 2) := by decide +kernel
theorem dX8_walk_123 : decode cX8_walk 123 = .ok (.iload 4, 2) := by decide +kernel
theorem dX8_walk_125 : decode cX8_walk 125 = .ok (.aload_n 0, 1) := by decide +kernel
theorem dX8_walk_126 : decode cX8_walk 126 = .ok (.getfield 20, 3) := by decide +kernel
theorem dX8_walk_129 : decode cX8_walk 129 = .ok (.bipush 16, 2) := by decide +kernel
theorem dX8_walk_131 : decode cX8_walk 131 = .ok (.iload_n 2, 1) := by decide +kernel
theorem dX8_walk_132 : decode cX8_walk 132 = .ok (.imul, 1) := by decide +kernel
theorem dX8_walk_133 : decode cX8_walk 133 = .ok (.iload_n 3, 1) := by decide +kernel
theorem dX8_walk_134 : decode cX8_walk 134 = .ok (.iadd, 1) := by decide +kernel
theorem dX8_walk_135 : decode cX8_walk 135 = .ok (.iaload, 1) := by decide +kernel
theorem dX8_walk_136 : decode cX8_walk 136 = .ok (.if_icmp .ge 16, 3) := by decide +kernel
theorem dX8_walk_139 : decode cX8_walk 139 = .ok (.aload_n 0, 1) := by decide +kernel
theorem dX8_walk_140 : decode cX8_walk 140 = .ok (.getfield 20, 3) := by decide +kernel
theorem dX8_walk_143 : decode cX8_walk 143 = .ok (.bipush 16, 2) := by decide +kernel
theorem dX8_walk_145 : decode cX8_walk 145 = .ok (.iload_n 2, 1) := by decide +kernel
theorem dX8_walk_146 : decode cX8_walk 146 = .ok (.imul, 1) := by decide +kernel
theorem dX8_walk_147 : decode cX8_walk 147 = .ok (.iload_n 3, 1) := by decide +kernel
theorem dX8_walk_148 : decode cX8_walk 148 = .ok (.iadd, 1) := by decide +kernel
theorem dX8_walk_149 : decode cX8_walk 149 = .ok (.iload 4, 2) := by decide +kernel
theorem dX8_walk_151 : decode cX8_walk 151 = .ok (.iastore, 1) := by decide +kernel
theorem dX8_walk_152 : decode cX8_walk 152 = .ok (.iinc 3 1, 3) := by decide +kernel
theorem dX8_walk_155 : decode cX8_walk 155 = .ok (.goto (-65), 3) := by decide +kernel
theorem dX8_walk_158 : decode cX8_walk 158 = .ok (.iinc 2 1, 3) := by decide +kernel
theorem dX8_walk_161 : decode cX8_walk 161 = .ok (.goto (-81), 3) := by decide +kernel
theorem dX8_walk_164 : decode cX8_walk 164 = .ok (.iinc 1 1, 3) := by decide +kernel
theorem dX8_walk_167 : decode cX8_walk 167 = .ok (.goto (-97), 3) := by decide +kernel
theorem dX8_walk_170 : decode cX8_walk 170 = .ok (.iconst 0, 1) := by decide +kernel
theorem dX8_walk_171 : decode cX8_walk 171 = .ok (.istore_n 1, 1) := by decide +kernel
theorem dX8_walk_172 : decode cX8_walk 172 = .ok (.iload_n 1, 1) := by decide +kernel
theorem dX8_walk_173 : decode cX8_walk 173 = .ok (.aload_n 0, 1) := by decide +kernel
theorem dX8_walk_174 : decode cX8_walk 174 = .ok (.invokevirtual 62, 3) := by decide +kernel
theorem dX8_walk_177 : decode cX8_walk 177 = .ok (.if_icmp .ge 42, 3) := by decide +kernel
theorem dX8_walk_180 : decode cX8_walk 180 = .ok (.iconst 0, 1) := by decide +kernel
theorem dX8_walk_181 : decode cX8_walk 181 = .ok (.istore_n 2, 1) := by decide +kernel
theorem dX8_walk_182 : decode cX8_walk 182 = .ok (.iload_n 2, 1) := by decide +kernel
theorem dX8_walk_183 : decode cX8_walk 183 = .ok (.aload_n 0, 1) := by decide +kernel
theorem dX8_walk_184 : decode cX8_walk 184 = .ok (.invokevirtual 62, 3) := by decide +kernel
theorem dX8_walk_187 : decode cX8_walk 187 = .ok (.if_icmp .ge 26, 3) := by decide +kernel
theorem dX8_walk_190 : decode cX8_walk 190 = .ok (.aload_n 0, 1) := by decide +kernel
theorem dX8_walk_191 : decode cX8_walk 191 = .ok (.getfield 23, 3) := by decide +kernel
theorem dX8_walk_194 : decode cX8_walk 194 = .ok (.bipush 16, 2) := by decide +kernel
theorem dX8_walk_196 : decode cX8_walk 196 = .ok (.iload_n 1, 1) := by decide +kernel
theorem dX8_walk_197 : decode cX8_walk 197 = .ok (.imul, 1) := by decide +kernel
theorem dX8_walk_198 : decode cX8_walk 198 = .ok (.iload_n 2, 1) := by decide +kernel
theorem dX8_walk_199 : decode cX8_walk 199 = .ok (.iadd, 1) := by decide +kernel
theorem dX8_walk_200 : decode cX8_walk 200 = .ok (.aload_n 0, 1) := by decide +kernel
theorem dX8_walk_201 : decode cX8_walk 201 = .ok (.iload_n 1, 1) := by decide +kernel
theorem dX8_walk_202 : decode cX8_walk 202 = .ok (.iload_n 2, 1) := by decide +kernel
theorem dX8_walk_203 : decode cX8_walk 203 = .ok (.invokevirtual 75, 3) := by decide +kernel
theorem dX8_walk_206 : decode cX8_walk 206 = .ok (.iastore, 1) := by decide +kernel
theorem dX8_walk_207 : decode cX8_walk 207 = .ok (.iinc 2 1, 3) := by decide +kernel
theorem dX8_walk_210 : decode cX8_walk 210 = .ok (.goto (-28), 3) := by decide +kernel
theorem dX8_walk_213 : decode cX8_walk 213 = .ok (.iinc 1 1, 3) := by decide +kernel
theorem dX8_walk_216 : decode cX8_walk 216 = .ok (.goto (-44), 3) := by decide +kernel
theorem dX8_walk_219 : decode cX8_walk 219 = .ok (.return_, 1) := by decide +kernel
theorem dX8_says_0 : decode cX8_says 0 = .ok (.aload_n 0, 1) := by decide +kernel
theorem dX8_says_1 : decode cX8_says 1 = .ok (.getfield 20, 3) := by decide +kernel
theorem dX8_says_4 : decode cX8_says 4 = .ok (.bipush 16, 2) := by decide +kernel
theorem dX8_says_6 : decode cX8_says 6 = .ok (.iload_n 1, 1) := by decide +kernel
theorem dX8_says_7 : decode cX8_says 7 = .ok (.imul, 1) := by decide +kernel
theorem dX8_says_8 : decode cX8_says 8 = .ok (.iload_n 2, 1) := by decide +kernel
theorem dX8_says_9 : decode cX8_says 9 = .ok (.iadd, 1) := by decide +kernel
theorem dX8_says_10 : decode cX8_says 10 = .ok (.iaload, 1) := by decide +kernel
theorem dX8_says_11 : decode cX8_says 11 = .ok (.istore_n 3, 1) := by decide +kernel
theorem dX8_says_12 : decode cX8_says 12 = .ok (.aload_n 0, 1) := by decide +kernel
theorem dX8_says_13 : decode cX8_says 13 = .ok (.iload_n 1, 1) := by decide +kernel
theorem dX8_says_14 : decode cX8_says 14 = .ok (.iload_n 2, 1) := by decide +kernel
theorem dX8_says_15 : decode cX8_says 15 = .ok (.invokevirtual 70, 3) := by decide +kernel
theorem dX8_says_18 : decode cX8_says 18 = .ok (.ifCond .le 7, 3) := by decide +kernel
theorem dX8_says_21 : decode cX8_says 21 = .ok (.iconst 1, 1) := by decide +kernel
theorem dX8_says_22 : decode cX8_says 22 = .ok (.goto 4, 3) := by decide +kernel
theorem dX8_says_25 : decode cX8_says 25 = .ok (.iconst 0, 1) := by decide +kernel
theorem dX8_says_26 : decode cX8_says 26 = .ok (.istore 4, 2) := by decide +kernel
theorem dX8_says_28 : decode cX8_says 28 = .ok (.aload_n 0, 1) := by decide +kernel
theorem dX8_says_29 : decode cX8_says 29 = .ok (.getfield 7, 3) := by decide +kernel
theorem dX8_says_32 : decode cX8_says 32 = .ok (.iconst 1, 1) := by decide +kernel
theorem dX8_says_33 : decode cX8_says 33 = .ok (.iaload, 1) := by decide +kernel
theorem dX8_says_34 : decode cX8_says 34 = .ok (.tableswitch 75 0 3 #[30, 32, 48, 59], 30) := by decide +kernel
theorem dX8_says_64 : decode cX8_says 64 = .ok (.iload_n 3, 1) := by decide +kernel
theorem dX8_says_65 : decode cX8_says 65 = .ok (.ireturn, 1) := by decide +kernel
theorem dX8_says_66 : decode cX8_says 66 = .ok (.iload 4, 2) := by decide +kernel
theorem dX8_says_68 : decode cX8_says 68 = .ok (.ifCond .ne 8, 3) := by decide +kernel
theorem dX8_says_71 : decode cX8_says 71 = .ok (.iload_n 1, 1) := by decide +kernel
theorem dX8_says_72 : decode cX8_says 72 = .ok (.iload_n 2, 1) := by decide +kernel
theorem dX8_says_73 : decode cX8_says 73 = .ok (.if_icmp .ne 7, 3) := by decide +kernel
theorem dX8_says_76 : decode cX8_says 76 = .ok (.iconst 1, 1) := by decide +kernel
theorem dX8_says_77 : decode cX8_says 77 = .ok (.goto 4, 3) := by decide +kernel
theorem dX8_says_80 : decode cX8_says 80 = .ok (.iconst 0, 1) := by decide +kernel
theorem dX8_says_81 : decode cX8_says 81 = .ok (.ireturn, 1) := by decide +kernel
theorem dX8_says_82 : decode cX8_says 82 = .ok (.iload 4, 2) := by decide +kernel
theorem dX8_says_84 : decode cX8_says 84 = .ok (.ifCond .eq 7, 3) := by decide +kernel
theorem dX8_says_87 : decode cX8_says 87 = .ok (.iconst 1, 1) := by decide +kernel
theorem dX8_says_88 : decode cX8_says 88 = .ok (.goto 4, 3) := by decide +kernel
theorem dX8_says_91 : decode cX8_says 91 = .ok (.iconst 0, 1) := by decide +kernel
theorem dX8_says_92 : decode cX8_says 92 = .ok (.ireturn, 1) := by decide +kernel
theorem dX8_says_93 : decode cX8_says 93 = .ok (.iload_n 3, 1) := by decide +kernel
theorem dX8_says_94 : decode cX8_says 94 = .ok (.aload_n 0, 1) := by decide +kernel
theorem dX8_says_95 : decode cX8_says 95 = .ok (.getfield 7, 3) := by decide +kernel
theorem dX8_says_98 : decode cX8_says 98 = .ok (.iconst 2, 1) := by decide +kernel
theorem dX8_says_99 : decode cX8_says 99 = .ok (.iaload, 1) := by decide +kernel
theorem dX8_says_100 : decode cX8_says 100 = .ok (.if_icmp .gt 7, 3) := by decide +kernel
theorem dX8_says_103 : decode cX8_says 103 = .ok (.iconst 1, 1) := by decide +kernel
theorem dX8_says_104 : decode cX8_says 104 = .ok (.goto 4, 3) := by decide +kernel
theorem dX8_says_107 : decode cX8_says 107 = .ok (.iconst 0, 1) := by decide +kernel
theorem dX8_says_108 : decode cX8_says 108 = .ok (.ireturn, 1) := by decide +kernel
theorem dX8_says_109 : decode cX8_says 109 = .ok (.iload_n 3, 1) := by decide +kernel
theorem dX8_says_110 : decode cX8_says 110 = .ok (.aload_n 0, 1) := by decide +kernel
theorem dX8_says_111 : decode cX8_says 111 = .ok (.getfield 7, 3) := by decide +kernel
theorem dX8_says_114 : decode cX8_says 114 = .ok (.sipush 263, 3) := by decide +kernel
theorem dX8_says_117 : decode cX8_says 117 = .ok (.iload_n 1, 1) := by decide +kernel
theorem dX8_says_118 : decode cX8_says 118 = .ok (.iadd, 1) := by decide +kernel
theorem dX8_says_119 : decode cX8_says 119 = .ok (.iaload, 1) := by decide +kernel
theorem dX8_says_120 : decode cX8_says 120 = .ok (.if_icmp .gt 7, 3) := by decide +kernel
theorem dX8_says_123 : decode cX8_says 123 = .ok (.iconst 1, 1) := by decide +kernel
theorem dX8_says_124 : decode cX8_says 124 = .ok (.goto 4, 3) := by decide +kernel
theorem dX8_says_127 : decode cX8_says 127 = .ok (.iconst 0, 1) := by decide +kernel
theorem dX8_says_128 : decode cX8_says 128 = .ok (.ireturn, 1) := by decide +kernel
theorem dX8_answerOf_0 : decode cX8_answerOf 0 = .ok (.aload_n 0, 1) := by decide +kernel
theorem dX8_answerOf_1 : decode cX8_answerOf 1 = .ok (.getfield 23, 3) := by decide +kernel
theorem dX8_answerOf_4 : decode cX8_answerOf 4 = .ok (.bipush 16, 2) := by decide +kernel
theorem dX8_answerOf_6 : decode cX8_answerOf 6 = .ok (.iload_n 1, 1) := by decide +kernel
theorem dX8_answerOf_7 : decode cX8_answerOf 7 = .ok (.imul, 1) := by decide +kernel
theorem dX8_answerOf_8 : decode cX8_answerOf 8 = .ok (.iload_n 2, 1) := by decide +kernel
theorem dX8_answerOf_9 : decode cX8_answerOf 9 = .ok (.iadd, 1) := by decide +kernel
theorem dX8_answerOf_10 : decode cX8_answerOf 10 = .ok (.iaload, 1) := by decide +kernel
theorem dX8_answerOf_11 : decode cX8_answerOf 11 = .ok (.ireturn, 1) := by decide +kernel
theorem dX8_post_0 : decode cX8_post 0 = .ok (.aload_n 0, 1) := by decide +kernel
theorem dX8_post_1 : decode cX8_post 1 = .ok (.invokevirtual 62, 3) := by decide +kernel
theorem dX8_post_4 : decode cX8_post 4 = .ok (.bipush 16, 2) := by decide +kernel
theorem dX8_post_6 : decode cX8_post 6 = .ok (.if_icmp .ne 5, 3) := by decide +kernel
theorem dX8_post_9 : decode cX8_post 9 = .ok (.iconst (-1), 1) := by decide +kernel
theorem dX8_post_10 : decode cX8_post 10 = .ok (.ireturn, 1) := by decide +kernel
theorem dX8_post_11 : decode cX8_post 11 = .ok (.aload_n 0, 1) := by decide +kernel
theorem dX8_post_12 : decode cX8_post 12 = .ok (.invokevirtual 78, 3) := by decide +kernel
theorem dX8_post_15 : decode cX8_post 15 = .ok (.aload_n 0, 1) := by decide +kernel
theorem dX8_post_16 : decode cX8_post 16 = .ok (.aload_n 0, 1) := by decide +kernel
theorem dX8_post_17 : decode cX8_post 17 = .ok (.invokevirtual 62, 3) := by decide +kernel
theorem dX8_post_20 : decode cX8_post 20 = .ok (.invokevirtual 48, 3) := by decide +kernel
theorem dX8_post_23 : decode cX8_post 23 = .ok (.aload_n 0, 1) := by decide +kernel
theorem dX8_post_24 : decode cX8_post 24 = .ok (.getfield 7, 3) := by decide +kernel
theorem dX8_post_27 : decode cX8_post 27 = .ok (.iconst 0, 1) := by decide +kernel
theorem dX8_post_28 : decode cX8_post 28 = .ok (.dup2, 1) := by decide +kernel
theorem dX8_post_29 : decode cX8_post 29 = .ok (.iaload, 1) := by decide +kernel
theorem dX8_post_30 : decode cX8_post 30 = .ok (.iconst 1, 1) := by decide +kernel
theorem dX8_post_31 : decode cX8_post 31 = .ok (.iadd, 1) := by decide +kernel
theorem dX8_post_32 : decode cX8_post 32 = .ok (.iastore, 1) := by decide +kernel
theorem dX8_post_33 : decode cX8_post 33 = .ok (.aload_n 0, 1) := by decide +kernel
theorem dX8_post_34 : decode cX8_post 34 = .ok (.invokevirtual 52, 3) := by decide +kernel
theorem dX8_post_37 : decode cX8_post 37 = .ok (.aload_n 0, 1) := by decide +kernel
theorem dX8_post_38 : decode cX8_post 38 = .ok (.invokevirtual 62, 3) := by decide +kernel
theorem dX8_post_41 : decode cX8_post 41 = .ok (.iconst 1, 1) := by decide +kernel
theorem dX8_post_42 : decode cX8_post 42 = .ok (.isub, 1) := by decide +kernel
theorem dX8_post_43 : decode cX8_post 43 = .ok (.ireturn, 1) := by decide +kernel
theorem dX8_road_0 : decode cX8_road 0 = .ok (.aload_n 0, 1) := by decide +kernel
theorem dX8_road_1 : decode cX8_road 1 = .ok (.iload_n 1, 1) := by decide +kernel
theorem dX8_road_2 : decode cX8_road 2 = .ok (.iload_n 2, 1) := by decide +kernel
theorem dX8_road_3 : decode cX8_road 3 = .ok (.iload_n 3, 1) := by decide +kernel
theorem dX8_road_4 : decode cX8_road 4 = .ok (.invokevirtual 81, 3) := by decide +kernel
theorem dX8_road_7 : decode cX8_road 7 = .ok (.ifCond .ne 5, 3) := by decide +kernel
theorem dX8_road_10 : decode cX8_road 10 = .ok (.iconst 0, 1) := by decide +kernel
theorem dX8_road_11 : decode cX8_road 11 = .ok (.ireturn, 1) := by decide +kernel
theorem dX8_road_12 : decode cX8_road 12 = .ok (.aload_n 0, 1) := by decide +kernel
theorem dX8_road_13 : decode cX8_road 13 = .ok (.invokevirtual 78, 3) := by decide +kernel
theorem dX8_road_16 : decode cX8_road 16 = .ok (.aload_n 0, 1) := by decide +kernel
theorem dX8_road_17 : decode cX8_road 17 = .ok (.iload_n 1, 1) := by decide +kernel
theorem dX8_road_18 : decode cX8_road 18 = .ok (.iload_n 2, 1) := by decide +kernel
theorem dX8_road_19 : decode cX8_road 19 = .ok (.iload_n 3, 1) := by decide +kernel
theorem dX8_road_20 : decode cX8_road 20 = .ok (.invokevirtual 85, 3) := by decide +kernel
theorem dX8_road_23 : decode cX8_road 23 = .ok (.aload_n 0, 1) := by decide +kernel
theorem dX8_road_24 : decode cX8_road 24 = .ok (.invokevirtual 52, 3) := by decide +kernel
theorem dX8_road_27 : decode cX8_road 27 = .ok (.iconst 1, 1) := by decide +kernel
theorem dX8_road_28 : decode cX8_road 28 = .ok (.ireturn, 1) := by decide +kernel
theorem dX8_cut_0 : decode cX8_cut 0 = .ok (.aload_n 0, 1) := by decide +kernel
theorem dX8_cut_1 : decode cX8_cut 1 = .ok (.iload_n 1, 1) := by decide +kernel
theorem dX8_cut_2 : decode cX8_cut 2 = .ok (.invokevirtual 66, 3) := by decide +kernel
theorem dX8_cut_5 : decode cX8_cut 5 = .ok (.ifCond .eq 20, 3) := by decide +kernel
theorem dX8_cut_8 : decode cX8_cut 8 = .ok (.aload_n 0, 1) := by decide +kernel
theorem dX8_cut_9 : decode cX8_cut 9 = .ok (.iload_n 2, 1) := by decide +kernel
theorem dX8_cut_10 : decode cX8_cut 10 = .ok (.invokevirtual 66, 3) := by decide +kernel
theorem dX8_cut_13 : decode cX8_cut 13 = .ok (.ifCond .eq 12, 3) := by decide +kernel
theorem dX8_cut_16 : decode cX8_cut 16 = .ok (.aload_n 0, 1) := by decide +kernel
theorem dX8_cut_17 : decode cX8_cut 17 = .ok (.iload_n 1, 1) := by decide +kernel
theorem dX8_cut_18 : decode cX8_cut 18 = .ok (.iload_n 2, 1) := by decide +kernel
theorem dX8_cut_19 : decode cX8_cut 19 = .ok (.invokevirtual 70, 3) := by decide +kernel
theorem dX8_cut_22 : decode cX8_cut 22 = .ok (.ifCond .ne 5, 3) := by decide +kernel
theorem dX8_cut_25 : decode cX8_cut 25 = .ok (.iconst 0, 1) := by decide +kernel
theorem dX8_cut_26 : decode cX8_cut 26 = .ok (.ireturn, 1) := by decide +kernel
theorem dX8_cut_27 : decode cX8_cut 27 = .ok (.aload_n 0, 1) := by decide +kernel
theorem dX8_cut_28 : decode cX8_cut 28 = .ok (.invokevirtual 78, 3) := by decide +kernel
theorem dX8_cut_31 : decode cX8_cut 31 = .ok (.aload_n 0, 1) := by decide +kernel
theorem dX8_cut_32 : decode cX8_cut 32 = .ok (.iload_n 1, 1) := by decide +kernel
theorem dX8_cut_33 : decode cX8_cut 33 = .ok (.iload_n 2, 1) := by decide +kernel
theorem dX8_cut_34 : decode cX8_cut 34 = .ok (.iconst 0, 1) := by decide +kernel
theorem dX8_cut_35 : decode cX8_cut 35 = .ok (.invokevirtual 85, 3) := by decide +kernel
theorem dX8_cut_38 : decode cX8_cut 38 = .ok (.aload_n 0, 1) := by decide +kernel
theorem dX8_cut_39 : decode cX8_cut 39 = .ok (.invokevirtual 52, 3) := by decide +kernel
theorem dX8_cut_42 : decode cX8_cut 42 = .ok (.iconst 1, 1) := by decide +kernel
theorem dX8_cut_43 : decode cX8_cut 43 = .ok (.ireturn, 1) := by decide +kernel
theorem dX8_feed_0 : decode cX8_feed 0 = .ok (.aload_n 0, 1) := by decide +kernel
theorem dX8_feed_1 : decode cX8_feed 1 = .ok (.getfield 89, 3) := by decide +kernel
theorem dX8_feed_4 : decode cX8_feed 4 = .ok (.bipush 20, 2) := by decide +kernel
theorem dX8_feed_6 : decode cX8_feed 6 = .ok (.iadd, 1) := by decide +kernel
theorem dX8_feed_7 : decode cX8_feed 7 = .ok (.sipush 400, 3) := by decide +kernel
theorem dX8_feed_10 : decode cX8_feed 10 = .ok (.if_icmp .le 5, 3) := by decide +kernel
theorem dX8_feed_13 : decode cX8_feed 13 = .ok (.iconst (-1), 1) := by decide +kernel
theorem dX8_feed_14 : decode cX8_feed 14 = .ok (.ireturn, 1) := by decide +kernel
theorem dX8_feed_15 : decode cX8_feed 15 = .ok (.aload_n 0, 1) := by decide +kernel
theorem dX8_feed_16 : decode cX8_feed 16 = .ok (.iload_n 1, 1) := by decide +kernel
theorem dX8_feed_17 : decode cX8_feed 17 = .ok (.invokevirtual 92, 3) := by decide +kernel
theorem dX8_feed_20 : decode cX8_feed 20 = .ok (.aload_n 0, 1) := by decide +kernel
theorem dX8_feed_21 : decode cX8_feed 21 = .ok (.iload_n 2, 1) := by decide +kernel
theorem dX8_feed_22 : decode cX8_feed 22 = .ok (.invokevirtual 92, 3) := by decide +kernel
theorem dX8_feed_25 : decode cX8_feed 25 = .ok (.aload_n 0, 1) := by decide +kernel
theorem dX8_feed_26 : decode cX8_feed 26 = .ok (.iload_n 3, 1) := by decide +kernel
theorem dX8_feed_27 : decode cX8_feed 27 = .ok (.invokevirtual 92, 3) := by decide +kernel
theorem dX8_feed_30 : decode cX8_feed 30 = .ok (.aload_n 0, 1) := by decide +kernel
theorem dX8_feed_31 : decode cX8_feed 31 = .ok (.iload 4, 2) := by decide +kernel
theorem dX8_feed_33 : decode cX8_feed 33 = .ok (.invokevirtual 92, 3) := by decide +kernel
theorem dX8_feed_36 : decode cX8_feed 36 = .ok (.aload_n 0, 1) := by decide +kernel
theorem dX8_feed_37 : decode cX8_feed 37 = .ok (.iload 5, 2) := by decide +kernel
theorem dX8_feed_39 : decode cX8_feed 39 = .ok (.invokevirtual 92, 3) := by decide +kernel
theorem dX8_feed_42 : decode cX8_feed 42 = .ok (.aload_n 0, 1) := by decide +kernel
theorem dX8_feed_43 : decode cX8_feed 43 = .ok (.getfield 89, 3) := by decide +kernel
theorem dX8_feed_46 : decode cX8_feed 46 = .ok (.ireturn, 1) := by decide +kernel
theorem dX8_four_0 : decode cX8_four 0 = .ok (.bipush 24, 2) := by decide +kernel
theorem dX8_four_2 : decode cX8_four 2 = .ok (.istore_n 2, 1) := by decide +kernel
theorem dX8_four_3 : decode cX8_four 3 = .ok (.iload_n 2, 1) := by decide +kernel
theorem dX8_four_4 : decode cX8_four 4 = .ok (.ifCond .lt 35, 3) := by decide +kernel
theorem dX8_four_7 : decode cX8_four 7 = .ok (.aload_n 0, 1) := by decide +kernel
theorem dX8_four_8 : decode cX8_four 8 = .ok (.getfield 17, 3) := by decide +kernel
theorem dX8_four_11 : decode cX8_four 11 = .ok (.aload_n 0, 1) := by decide +kernel
theorem dX8_four_12 : decode cX8_four 12 = .ok (.getfield 89, 3) := by decide +kernel
theorem dX8_four_15 : decode cX8_four 15 = .ok (.iload_n 1, 1) := by decide +kernel
theorem dX8_four_16 : decode cX8_four 16 = .ok (.iload_n 2, 1) := by decide +kernel
theorem dX8_four_17 : decode cX8_four 17 = .ok (.ishr, 1) := by decide +kernel
theorem dX8_four_18 : decode cX8_four 18 = .ok (.sipush 255, 3) := by decide +kernel
theorem dX8_four_21 : decode cX8_four 21 = .ok (.iand, 1) := by decide +kernel
theorem dX8_four_22 : decode cX8_four 22 = .ok (.iastore, 1) := by decide +kernel
theorem dX8_four_23 : decode cX8_four 23 = .ok (.aload_n 0, 1) := by decide +kernel
theorem dX8_four_24 : decode cX8_four 24 = .ok (.dup, 1) := by decide +kernel
theorem dX8_four_25 : decode cX8_four 25 = .ok (.getfield 89, 3) := by decide +kernel
theorem dX8_four_28 : decode cX8_four 28 = .ok (.iconst 1, 1) := by decide +kernel
theorem dX8_four_29 : decode cX8_four 29 = .ok (.iadd, 1) := by decide +kernel
theorem dX8_four_30 : decode cX8_four 30 = .ok (.putfield 89, 3) := by decide +kernel
theorem dX8_four_33 : decode cX8_four 33 = .ok (.iinc 2 (-8), 3) := by decide +kernel
theorem dX8_four_36 : decode cX8_four 36 = .ok (.goto (-33), 3) := by decide +kernel
theorem dX8_four_39 : decode cX8_four 39 = .ok (.return_, 1) := by decide +kernel
theorem dX8_roads_0 : decode cX8_roads 0 = .ok (.iload_n 1, 1) := by decide +kernel
theorem dX8_roads_1 : decode cX8_roads 1 = .ok (.ifCond .lt 11, 3) := by decide +kernel
theorem dX8_roads_4 : decode cX8_roads 4 = .ok (.iload_n 1, 1) := by decide +kernel
theorem dX8_roads_5 : decode cX8_roads 5 = .ok (.aload_n 0, 1) := by decide +kernel
theorem dX8_roads_6 : decode cX8_roads 6 = .ok (.getfield 89, 3) := by decide +kernel
theorem dX8_roads_9 : decode cX8_roads 9 = .ok (.if_icmp .le 5, 3) := by decide +kernel
theorem dX8_roads_12 : decode cX8_roads 12 = .ok (.iconst (-1), 1) := by decide +kernel
theorem dX8_roads_13 : decode cX8_roads 13 = .ok (.ireturn, 1) := by decide +kernel
theorem dX8_roads_14 : decode cX8_roads 14 = .ok (.aload_n 0, 1) := by decide +kernel
theorem dX8_roads_15 : decode cX8_roads 15 = .ok (.iconst 0, 1) := by decide +kernel
theorem dX8_roads_16 : decode cX8_roads 16 = .ok (.putfield 89, 3) := by decide +kernel
theorem dX8_roads_19 : decode cX8_roads 19 = .ok (.iconst 0, 1) := by decide +kernel
theorem dX8_roads_20 : decode cX8_roads 20 = .ok (.istore_n 2, 1) := by decide +kernel
theorem dX8_roads_21 : decode cX8_roads 21 = .ok (.iconst 1, 1) := by decide +kernel
theorem dX8_roads_22 : decode cX8_roads 22 = .ok (.istore_n 3, 1) := by decide +kernel
theorem dX8_roads_23 : decode cX8_roads 23 = .ok (.iconst 0, 1) := by decide +kernel
theorem dX8_roads_24 : decode cX8_roads 24 = .ok (.istore 4, 2) := by decide +kernel
theorem dX8_roads_26 : decode cX8_roads 26 = .ok (.iload 4, 2) := by decide +kernel
theorem dX8_roads_28 : decode cX8_roads 28 = .ok (.iconst 4, 1) := by decide +kernel
theorem dX8_roads_29 : decode cX8_roads 29 = .ok (.iadd, 1) := by decide +kernel
theorem dX8_roads_30 : decode cX8_roads 30 = .ok (.iload_n 1, 1) := by decide +kernel
theorem dX8_roads_31 : decode cX8_roads 31 = .ok (.if_icmp .gt 101, 3) := by decide +kernel
theorem dX8_roads_34 : decode cX8_roads 34 = .ok (.iload_n 3, 1) := by decide +kernel
theorem dX8_roads_35 : decode cX8_roads 35 = .ok (.ifCond .eq 97, 3) := by decide +kernel
theorem dX8_roads_38 : decode cX8_roads 38 = .ok (.sipush 256, 3) := by decide +kernel
theorem dX8_roads_41 : decode cX8_roads 41 = .ok (.aload_n 0, 1) := by decide +kernel
theorem dX8_roads_42 : decode cX8_roads 42 = .ok (.getfield 17, 3) := by decide +kernel
theorem dX8_roads_45 : decode cX8_roads 45 = .ok (.iload 4, 2) := by decide +kernel
theorem dX8_roads_47 : decode cX8_roads 47 = .ok (.iconst 2, 1) := by decide +kernel
theorem dX8_roads_48 : decode cX8_roads 48 = .ok (.iadd, 1) := by decide +kernel
theorem dX8_roads_49 : decode cX8_roads 49 = .ok (.iaload, 1) := by decide +kernel
theorem dX8_roads_50 : decode cX8_roads 50 = .ok (.imul, 1) := by decide +kernel
theorem dX8_roads_51 : decode cX8_roads 51 = .ok (.aload_n 0, 1) := by decide +kernel
theorem dX8_roads_52 : decode cX8_roads 52 = .ok (.getfield 17, 3) := by decide +kernel
theorem dX8_roads_55 : decode cX8_roads 55 = .ok (.iload 4, 2) := by decide +kernel
theorem dX8_roads_57 : decode cX8_roads 57 = .ok (.iconst 3, 1) := by decide +kernel
theorem dX8_roads_58 : decode cX8_roads 58 = .ok (.iadd, 1) := by decide +kernel
theorem dX8_roads_59 : decode cX8_roads 59 = .ok (.iaload, 1) := by decide +kernel
theorem dX8_roads_60 : decode cX8_roads 60 = .ok (.iadd, 1) := by decide +kernel
theorem dX8_roads_61 : decode cX8_roads 61 = .ok (.istore 5, 2) := by decide +kernel
theorem dX8_roads_63 : decode cX8_roads 63 = .ok (.aload_n 0, 1) := by decide +kernel
theorem dX8_roads_64 : decode cX8_roads 64 = .ok (.aload_n 0, 1) := by decide +kernel
theorem dX8_roads_65 : decode cX8_roads 65 = .ok (.getfield 17, 3) := by decide +kernel
theorem dX8_roads_68 : decode cX8_roads 68 = .ok (.iload 4, 2) := by decide +kernel
theorem dX8_roads_70 : decode cX8_roads 70 = .ok (.iaload, 1) := by decide +kernel
theorem dX8_roads_71 : decode cX8_roads 71 = .ok (.aload_n 0, 1) := by decide +kernel
theorem dX8_roads_72 : decode cX8_roads 72 = .ok (.getfield 17, 3) := by decide +kernel
theorem dX8_roads_75 : decode cX8_roads 75 = .ok (.iload 4, 2) := by decide +kernel
theorem dX8_roads_77 : decode cX8_roads 77 = .ok (.iconst 1, 1) := by decide +kernel
theorem dX8_roads_78 : decode cX8_roads 78 = .ok (.iadd, 1) := by decide +kernel
theorem dX8_roads_79 : decode cX8_roads 79 = .ok (.iaload, 1) := by decide +kernel
theorem dX8_roads_80 : decode cX8_roads 80 = .ok (.iload 5, 2) := by decide +kernel
theorem dX8_roads_82 : decode cX8_roads 82 = .ok (.invokevirtual 81, 3) := by decide +kernel
theorem dX8_roads_85 : decode cX8_roads 85 = .ok (.istore_n 3, 1) := by decide +kernel
theorem dX8_roads_86 : decode cX8_roads 86 = .ok (.iload_n 3, 1) := by decide +kernel
theorem dX8_roads_87 : decode cX8_roads 87 = .ok (.ifCond .ne 6, 3) := by decide +kernel
theorem dX8_roads_90 : decode cX8_roads 90 = .ok (.goto 36, 3) := by decide +kernel
theorem dX8_roads_93 : decode cX8_roads 93 = .ok (.iload_n 2, 1) := by decide +kernel
theorem dX8_roads_94 : decode cX8_roads 94 = .ok (.ifCond .ne 7, 3) := by decide +kernel
theorem dX8_roads_97 : decode cX8_roads 97 = .ok (.aload_n 0, 1) := by decide +kernel
theorem dX8_roads_98 : decode cX8_roads 98 = .ok (.invokevirtual 78, 3) := by decide +kernel
theorem dX8_roads_101 : decode cX8_roads 101 = .ok (.aload_n 0, 1) := by decide +kernel
theorem dX8_roads_102 : decode cX8_roads 102 = .ok (.aload_n 0, 1) := by decide +kernel
theorem dX8_roads_103 : decode cX8_roads 103 = .ok (.getfield 17, 3) := by decide +kernel
theorem dX8_roads_106 : decode cX8_roads 106 = .ok (.iload 4, 2) := by decide +kernel
theorem dX8_roads_108 : decode cX8_roads 108 = .ok (.iaload, 1) := by decide +kernel
theorem dX8_roads_109 : decode cX8_roads 109 = .ok (.aload_n 0, 1) := by decide +kernel
theorem dX8_roads_110 : decode cX8_roads 110 = .ok (.getfield 17, 3) := by decide +kernel
theorem dX8_roads_113 : decode cX8_roads 113 = .ok (.iload 4, 2) := by decide +kernel
theorem dX8_roads_115 : decode cX8_roads 115 = .ok (.iconst 1, 1) := by decide +kernel
theorem dX8_roads_116 : decode cX8_roads 116 = .ok (.iadd, 1) := by decide +kernel
theorem dX8_roads_117 : decode cX8_roads 117 = .ok (.iaload, 1) := by decide +kernel
theorem dX8_roads_118 : decode cX8_roads 118 = .ok (.iload 5, 2) := by decide +kernel
theorem dX8_roads_120 : decode cX8_roads 120 = .ok (.invokevirtual 85, 3) := by decide +kernel
theorem dX8_roads_123 : decode cX8_roads 123 = .ok (.iinc 2 1, 3) := by decide +kernel
theorem dX8_roads_126 : decode cX8_roads 126 = .ok (.iinc 4 4, 3) := by decide +kernel
theorem dX8_roads_129 : decode cX8_roads 129 = .ok (.goto (-103), 3) := by decide +kernel
theorem dX8_roads_132 : decode cX8_roads 132 = .ok (.aload_n 0, 1) := by decide +kernel
theorem dX8_roads_133 : decode cX8_roads 133 = .ok (.invokevirtual 52, 3) := by decide +kernel
theorem dX8_roads_136 : decode cX8_roads 136 = .ok (.iload_n 2, 1) := by decide +kernel
theorem dX8_roads_137 : decode cX8_roads 137 = .ok (.ireturn, 1) := by decide +kernel
theorem dX8_reach_0 : decode cX8_reach 0 = .ok (.aload_n 0, 1) := by decide +kernel
theorem dX8_reach_1 : decode cX8_reach 1 = .ok (.iload_n 1, 1) := by decide +kernel
theorem dX8_reach_2 : decode cX8_reach 2 = .ok (.invokevirtual 66, 3) := by decide +kernel
theorem dX8_reach_5 : decode cX8_reach 5 = .ok (.ifCond .eq 14, 3) := by decide +kernel
theorem dX8_reach_8 : decode cX8_reach 8 = .ok (.iload_n 2, 1) := by decide +kernel
theorem dX8_reach_9 : decode cX8_reach 9 = .ok (.ifCond .lt 10, 3) := by decide +kernel
theorem dX8_reach_12 : decode cX8_reach 12 = .ok (.iload_n 2, 1) := by decide +kernel
theorem dX8_reach_13 : decode cX8_reach 13 = .ok (.sipush 20000, 3) := by decide +kernel
theorem dX8_reach_16 : decode cX8_reach 16 = .ok (.if_icmp .le 5, 3) := by decide +kernel
theorem dX8_reach_19 : decode cX8_reach 19 = .ok (.iconst 0, 1) := by decide +kernel
theorem dX8_reach_20 : decode cX8_reach 20 = .ok (.ireturn, 1) := by decide +kernel
theorem dX8_reach_21 : decode cX8_reach 21 = .ok (.aload_n 0, 1) := by decide +kernel
theorem dX8_reach_22 : decode cX8_reach 22 = .ok (.invokevirtual 78, 3) := by decide +kernel
theorem dX8_reach_25 : decode cX8_reach 25 = .ok (.aload_n 0, 1) := by decide +kernel
theorem dX8_reach_26 : decode cX8_reach 26 = .ok (.getfield 7, 3) := by decide +kernel
theorem dX8_reach_29 : decode cX8_reach 29 = .ok (.sipush 263, 3) := by decide +kernel
theorem dX8_reach_32 : decode cX8_reach 32 = .ok (.iload_n 1, 1) := by decide +kernel
theorem dX8_reach_33 : decode cX8_reach 33 = .ok (.iadd, 1) := by decide +kernel
theorem dX8_reach_34 : decode cX8_reach 34 = .ok (.iload_n 2, 1) := by decide +kernel
theorem dX8_reach_35 : decode cX8_reach 35 = .ok (.iastore, 1) := by decide +kernel
theorem dX8_reach_36 : decode cX8_reach 36 = .ok (.aload_n 0, 1) := by decide +kernel
theorem dX8_reach_37 : decode cX8_reach 37 = .ok (.invokevirtual 52, 3) := by decide +kernel
theorem dX8_reach_40 : decode cX8_reach 40 = .ok (.iconst 1, 1) := by decide +kernel
theorem dX8_reach_41 : decode cX8_reach 41 = .ok (.ireturn, 1) := by decide +kernel
theorem dX8_price_0 : decode cX8_price 0 = .ok (.aload_n 0, 1) := by decide +kernel
theorem dX8_price_1 : decode cX8_price 1 = .ok (.iload_n 1, 1) := by decide +kernel
theorem dX8_price_2 : decode cX8_price 2 = .ok (.invokevirtual 66, 3) := by decide +kernel
theorem dX8_price_5 : decode cX8_price 5 = .ok (.ifCond .eq 15, 3) := by decide +kernel
theorem dX8_price_8 : decode cX8_price 8 = .ok (.iload_n 2, 1) := by decide +kernel
theorem dX8_price_9 : decode cX8_price 9 = .ok (.iconst 1, 1) := by decide +kernel
theorem dX8_price_10 : decode cX8_price 10 = .ok (.if_icmp .lt 10, 3) := by decide +kernel
theorem dX8_price_13 : decode cX8_price 13 = .ok (.iload_n 2, 1) := by decide +kernel
theorem dX8_price_14 : decode cX8_price 14 = .ok (.sipush 1000, 3) := by decide +kernel
theorem dX8_price_17 : decode cX8_price 17 = .ok (.if_icmp .le 5, 3) := by decide +kernel
theorem dX8_price_20 : decode cX8_price 20 = .ok (.iconst 0, 1) := by decide +kernel
theorem dX8_price_21 : decode cX8_price 21 = .ok (.ireturn, 1) := by decide +kernel
theorem dX8_price_22 : decode cX8_price 22 = .ok (.aload_n 0, 1) := by decide +kernel
theorem dX8_price_23 : decode cX8_price 23 = .ok (.invokevirtual 78, 3) := by decide +kernel
theorem dX8_price_26 : decode cX8_price 26 = .ok (.aload_n 0, 1) := by decide +kernel
theorem dX8_price_27 : decode cX8_price 27 = .ok (.getfield 7, 3) := by decide +kernel
theorem dX8_price_30 : decode cX8_price 30 = .ok (.sipush 279, 3) := by decide +kernel
theorem dX8_price_33 : decode cX8_price 33 = .ok (.iload_n 1, 1) := by decide +kernel
theorem dX8_price_34 : decode cX8_price 34 = .ok (.iadd, 1) := by decide +kernel
theorem dX8_price_35 : decode cX8_price 35 = .ok (.iload_n 2, 1) := by decide +kernel
theorem dX8_price_36 : decode cX8_price 36 = .ok (.iastore, 1) := by decide +kernel
theorem dX8_price_37 : decode cX8_price 37 = .ok (.iconst 1, 1) := by decide +kernel
theorem dX8_price_38 : decode cX8_price 38 = .ok (.ireturn, 1) := by decide +kernel
theorem dX8_chance_0 : decode cX8_chance 0 = .ok (.aload_n 0, 1) := by decide +kernel
theorem dX8_chance_1 : decode cX8_chance 1 = .ok (.iload_n 1, 1) := by decide +kernel
theorem dX8_chance_2 : decode cX8_chance 2 = .ok (.invokevirtual 66, 3) := by decide +kernel
theorem dX8_chance_5 : decode cX8_chance 5 = .ok (.ifCond .eq 13, 3) := by decide +kernel
theorem dX8_chance_8 : decode cX8_chance 8 = .ok (.iload_n 2, 1) := by decide +kernel
theorem dX8_chance_9 : decode cX8_chance 9 = .ok (.ifCond .lt 9, 3) := by decide +kernel
theorem dX8_chance_12 : decode cX8_chance 12 = .ok (.iload_n 2, 1) := by decide +kernel
theorem dX8_chance_13 : decode cX8_chance 13 = .ok (.bipush 100, 2) := by decide +kernel
theorem dX8_chance_15 : decode cX8_chance 15 = .ok (.if_icmp .le 5, 3) := by decide +kernel
theorem dX8_chance_18 : decode cX8_chance 18 = .ok (.iconst 0, 1) := by decide +kernel
theorem dX8_chance_19 : decode cX8_chance 19 = .ok (.ireturn, 1) := by decide +kernel
theorem dX8_chance_20 : decode cX8_chance 20 = .ok (.aload_n 0, 1) := by decide +kernel
theorem dX8_chance_21 : decode cX8_chance 21 = .ok (.invokevirtual 78, 3) := by decide +kernel
theorem dX8_chance_24 : decode cX8_chance 24 = .ok (.aload_n 0, 1) := by decide +kernel
theorem dX8_chance_25 : decode cX8_chance 25 = .ok (.getfield 7, 3) := by decide +kernel
theorem dX8_chance_28 : decode cX8_chance 28 = .ok (.sipush 295, 3) := by decide +kernel
theorem dX8_chance_31 : decode cX8_chance 31 = .ok (.iload_n 1, 1) := by decide +kernel
theorem dX8_chance_32 : decode cX8_chance 32 = .ok (.iadd, 1) := by decide +kernel
theorem dX8_chance_33 : decode cX8_chance 33 = .ok (.iload_n 2, 1) := by decide +kernel
theorem dX8_chance_34 : decode cX8_chance 34 = .ok (.iastore, 1) := by decide +kernel
theorem dX8_chance_35 : decode cX8_chance 35 = .ok (.iconst 1, 1) := by decide +kernel
theorem dX8_chance_36 : decode cX8_chance 36 = .ok (.ireturn, 1) := by decide +kernel
theorem dX8_rule_0 : decode cX8_rule 0 = .ok (.iload_n 1, 1) := by decide +kernel
theorem dX8_rule_1 : decode cX8_rule 1 = .ok (.ifCond .lt 31, 3) := by decide +kernel
theorem dX8_rule_4 : decode cX8_rule 4 = .ok (.iload_n 1, 1) := by decide +kernel
theorem dX8_rule_5 : decode cX8_rule 5 = .ok (.iconst 4, 1) := by decide +kernel
theorem dX8_rule_6 : decode cX8_rule 6 = .ok (.if_icmp .gt 26, 3) := by decide +kernel
theorem dX8_rule_9 : decode cX8_rule 9 = .ok (.iload_n 1, 1) := by decide +kernel
theorem dX8_rule_10 : decode cX8_rule 10 = .ok (.iconst 3, 1) := by decide +kernel
theorem dX8_rule_11 : decode cX8_rule 11 = .ok (.if_icmp .ne 17, 3) := by decide +kernel
theorem dX8_rule_14 : decode cX8_rule 14 = .ok (.iload_n 2, 1) := by decide +kernel
theorem dX8_rule_15 : decode cX8_rule 15 = .ok (.ifCond .lt 17, 3) := by decide +kernel
theorem dX8_rule_18 : decode cX8_rule 18 = .ok (.iload_n 2, 1) := by decide +kernel
theorem dX8_rule_19 : decode cX8_rule 19 = .ok (.sipush 20000, 3) := by decide +kernel
theorem dX8_rule_22 : decode cX8_rule 22 = .ok (.if_icmp .le 12, 3) := by decide +kernel
theorem dX8_rule_25 : decode cX8_rule 25 = .ok (.goto 7, 3) := by decide +kernel
theorem dX8_rule_28 : decode cX8_rule 28 = .ok (.iload_n 2, 1) := by decide +kernel
theorem dX8_rule_29 : decode cX8_rule 29 = .ok (.ifCond .eq 5, 3) := by decide +kernel
theorem dX8_rule_32 : decode cX8_rule 32 = .ok (.iconst 0, 1) := by decide +kernel
theorem dX8_rule_33 : decode cX8_rule 33 = .ok (.ireturn, 1) := by decide +kernel
theorem dX8_rule_34 : decode cX8_rule 34 = .ok (.aload_n 0, 1) := by decide +kernel
theorem dX8_rule_35 : decode cX8_rule 35 = .ok (.invokevirtual 78, 3) := by decide +kernel
theorem dX8_rule_38 : decode cX8_rule 38 = .ok (.aload_n 0, 1) := by decide +kernel
theorem dX8_rule_39 : decode cX8_rule 39 = .ok (.getfield 7, 3) := by decide +kernel
theorem dX8_rule_42 : decode cX8_rule 42 = .ok (.iconst 1, 1) := by decide +kernel
theorem dX8_rule_43 : decode cX8_rule 43 = .ok (.iload_n 1, 1) := by decide +kernel
theorem dX8_rule_44 : decode cX8_rule 44 = .ok (.iastore, 1) := by decide +kernel
theorem dX8_rule_45 : decode cX8_rule 45 = .ok (.aload_n 0, 1) := by decide +kernel
theorem dX8_rule_46 : decode cX8_rule 46 = .ok (.getfield 7, 3) := by decide +kernel
theorem dX8_rule_49 : decode cX8_rule 49 = .ok (.iconst 2, 1) := by decide +kernel
theorem dX8_rule_50 : decode cX8_rule 50 = .ok (.iload_n 2, 1) := by decide +kernel
theorem dX8_rule_51 : decode cX8_rule 51 = .ok (.iastore, 1) := by decide +kernel
theorem dX8_rule_52 : decode cX8_rule 52 = .ok (.aload_n 0, 1) := by decide +kernel
theorem dX8_rule_53 : decode cX8_rule 53 = .ok (.invokevirtual 52, 3) := by decide +kernel
theorem dX8_rule_56 : decode cX8_rule 56 = .ok (.iconst 1, 1) := by decide +kernel
theorem dX8_rule_57 : decode cX8_rule 57 = .ok (.ireturn, 1) := by decide +kernel
theorem dX8_need_0 : decode cX8_need 0 = .ok (.iconst 1, 1) := by decide +kernel
theorem dX8_need_1 : decode cX8_need 1 = .ok (.aload_n 0, 1) := by decide +kernel
theorem dX8_need_2 : decode cX8_need 2 = .ok (.getfield 7, 3) := by decide +kernel
theorem dX8_need_5 : decode cX8_need 5 = .ok (.iconst 4, 1) := by decide +kernel
theorem dX8_need_6 : decode cX8_need 6 = .ok (.iaload, 1) := by decide +kernel
theorem dX8_need_7 : decode cX8_need 7 = .ok (.iconst 1, 1) := by decide +kernel
theorem dX8_need_8 : decode cX8_need 8 = .ok (.if_icmp .ne 7, 3) := by decide +kernel
theorem dX8_need_11 : decode cX8_need 11 = .ok (.iconst 2, 1) := by decide +kernel
theorem dX8_need_12 : decode cX8_need 12 = .ok (.goto 4, 3) := by decide +kernel
theorem dX8_need_15 : decode cX8_need 15 = .ok (.iconst 1, 1) := by decide +kernel
theorem dX8_need_16 : decode cX8_need 16 = .ok (.aload_n 0, 1) := by decide +kernel
theorem dX8_need_17 : decode cX8_need 17 = .ok (.getfield 7, 3) := by decide +kernel
theorem dX8_need_20 : decode cX8_need 20 = .ok (.iconst 3, 1) := by decide +kernel
theorem dX8_need_21 : decode cX8_need 21 = .ok (.iaload, 1) := by decide +kernel
theorem dX8_need_22 : decode cX8_need 22 = .ok (.imul, 1) := by decide +kernel
theorem dX8_need_23 : decode cX8_need 23 = .ok (.iadd, 1) := by decide +kernel
theorem dX8_need_24 : decode cX8_need 24 = .ok (.ireturn, 1) := by decide +kernel
theorem dX8_may_0 : decode cX8_may 0 = .ok (.iload_n 1, 1) := by decide +kernel
theorem dX8_may_1 : decode cX8_may 1 = .ok (.ifCond .lt 8, 3) := by decide +kernel
theorem dX8_may_4 : decode cX8_may 4 = .ok (.iload_n 1, 1) := by decide +kernel
theorem dX8_may_5 : decode cX8_may 5 = .ok (.iconst 3, 1) := by decide +kernel
theorem dX8_may_6 : decode cX8_may 6 = .ok (.if_icmp .le 5, 3) := by decide +kernel
theorem dX8_may_9 : decode cX8_may 9 = .ok (.iconst (-1), 1) := by decide +kernel
theorem dX8_may_10 : decode cX8_may 10 = .ok (.ireturn, 1) := by decide +kernel
theorem dX8_may_11 : decode cX8_may 11 = .ok (.aload_n 0, 1) := by decide +kernel
theorem dX8_may_12 : decode cX8_may 12 = .ok (.invokevirtual 78, 3) := by decide +kernel
theorem dX8_may_15 : decode cX8_may 15 = .ok (.aload_n 0, 1) := by decide +kernel
theorem dX8_may_16 : decode cX8_may 16 = .ok (.getfield 7, 3) := by decide +kernel
theorem dX8_may_19 : decode cX8_may 19 = .ok (.iconst 3, 1) := by decide +kernel
theorem dX8_may_20 : decode cX8_may 20 = .ok (.iload_n 1, 1) := by decide +kernel
theorem dX8_may_21 : decode cX8_may 21 = .ok (.iastore, 1) := by decide +kernel
theorem dX8_may_22 : decode cX8_may 22 = .ok (.aload_n 0, 1) := by decide +kernel
theorem dX8_may_23 : decode cX8_may 23 = .ok (.getfield 7, 3) := by decide +kernel
theorem dX8_may_26 : decode cX8_may 26 = .ok (.iconst 4, 1) := by decide +kernel
theorem dX8_may_27 : decode cX8_may 27 = .ok (.iload_n 2, 1) := by decide +kernel
theorem dX8_may_28 : decode cX8_may 28 = .ok (.ifCond .eq 7, 3) := by decide +kernel
theorem dX8_may_31 : decode cX8_may 31 = .ok (.iconst 1, 1) := by decide +kernel
theorem dX8_may_32 : decode cX8_may 32 = .ok (.goto 4, 3) := by decide +kernel
theorem dX8_may_35 : decode cX8_may 35 = .ok (.iconst 0, 1) := by decide +kernel
theorem dX8_may_36 : decode cX8_may 36 = .ok (.iastore, 1) := by decide +kernel
theorem dX8_may_37 : decode cX8_may 37 = .ok (.aload_n 0, 1) := by decide +kernel
theorem dX8_may_38 : decode cX8_may 38 = .ok (.invokevirtual 95, 3) := by decide +kernel
theorem dX8_may_41 : decode cX8_may 41 = .ok (.ireturn, 1) := by decide +kernel
theorem dX8_want_0 : decode cX8_want 0 = .ok (.aload_n 0, 1) := by decide +kernel
theorem dX8_want_1 : decode cX8_want 1 = .ok (.invokevirtual 78, 3) := by decide +kernel
theorem dX8_want_4 : decode cX8_want 4 = .ok (.aload_n 0, 1) := by decide +kernel
theorem dX8_want_5 : decode cX8_want 5 = .ok (.getfield 7, 3) := by decide +kernel
theorem dX8_want_8 : decode cX8_want 8 = .ok (.iconst 5, 1) := by decide +kernel
theorem dX8_want_9 : decode cX8_want 9 = .ok (.iload_n 1, 1) := by decide +kernel
theorem dX8_want_10 : decode cX8_want 10 = .ok (.ifCond .eq 7, 3) := by decide +kernel
theorem dX8_want_13 : decode cX8_want 13 = .ok (.iconst 1, 1) := by decide +kernel
theorem dX8_want_14 : decode cX8_want 14 = .ok (.goto 4, 3) := by decide +kernel
theorem dX8_want_17 : decode cX8_want 17 = .ok (.iconst 0, 1) := by decide +kernel
theorem dX8_want_18 : decode cX8_want 18 = .ok (.iastore, 1) := by decide +kernel
theorem dX8_want_19 : decode cX8_want 19 = .ok (.return_, 1) := by decide +kernel
theorem dX8_way_0 : decode cX8_way 0 = .ok (.aload_n 0, 1) := by decide +kernel
theorem dX8_way_1 : decode cX8_way 1 = .ok (.iload_n 1, 1) := by decide +kernel
theorem dX8_way_2 : decode cX8_way 2 = .ok (.invokevirtual 66, 3) := by decide +kernel
theorem dX8_way_5 : decode cX8_way 5 = .ok (.ifCond .eq 25, 3) := by decide +kernel
theorem dX8_way_8 : decode cX8_way 8 = .ok (.aload_n 0, 1) := by decide +kernel
theorem dX8_way_9 : decode cX8_way 9 = .ok (.iload_n 2, 1) := by decide +kernel
theorem dX8_way_10 : decode cX8_way 10 = .ok (.invokevirtual 66, 3) := by decide +kernel
theorem dX8_way_13 : decode cX8_way 13 = .ok (.ifCond .eq 17, 3) := by decide +kernel
theorem dX8_way_16 : decode cX8_way 16 = .ok (.aload_n 0, 1) := by decide +kernel
theorem dX8_way_17 : decode cX8_way 17 = .ok (.getfield 20, 3) := by decide +kernel
theorem dX8_way_20 : decode cX8_way 20 = .ok (.bipush 16, 2) := by decide +kernel
theorem dX8_way_22 : decode cX8_way 22 = .ok (.iload_n 1, 1) := by decide +kernel
theorem dX8_way_23 : decode cX8_way 23 = .ok (.imul, 1) := by decide +kernel
theorem dX8_way_24 : decode cX8_way 24 = .ok (.iload_n 2, 1) := by decide +kernel
theorem dX8_way_25 : decode cX8_way 25 = .ok (.iadd, 1) := by decide +kernel
theorem dX8_way_26 : decode cX8_way 26 = .ok (.iaload, 1) := by decide +kernel
theorem dX8_way_27 : decode cX8_way 27 = .ok (.goto 4, 3) := by decide +kernel
theorem dX8_way_30 : decode cX8_way 30 = .ok (.iconst (-1), 1) := by decide +kernel
theorem dX8_way_31 : decode cX8_way 31 = .ok (.ireturn, 1) := by decide +kernel
theorem dX8_besideBits_0 : decode cX8_besideBits 0 = .ok (.iconst 0, 1) := by decide +kernel
theorem dX8_besideBits_1 : decode cX8_besideBits 1 = .ok (.istore_n 2, 1) := by decide +kernel
theorem dX8_besideBits_2 : decode cX8_besideBits 2 = .ok (.iconst 0, 1) := by decide +kernel
theorem dX8_besideBits_3 : decode cX8_besideBits 3 = .ok (.istore_n 3, 1) := by decide +kernel
theorem dX8_besideBits_4 : decode cX8_besideBits 4 = .ok (.iload_n 3, 1) := by decide +kernel
theorem dX8_besideBits_5 : decode cX8_besideBits 5 = .ok (.aload_n 0, 1) := by decide +kernel
theorem dX8_besideBits_6 : decode cX8_besideBits 6 = .ok (.invokevirtual 62, 3) := by decide +kernel
theorem dX8_besideBits_9 : decode cX8_besideBits 9 = .ok (.if_icmp .ge 28, 3) := by decide +kernel
theorem dX8_besideBits_12 : decode cX8_besideBits 12 = .ok (.iload_n 2, 1) := by decide +kernel
theorem dX8_besideBits_13 : decode cX8_besideBits 13 = .ok (.aload_n 0, 1) := by decide +kernel
theorem dX8_besideBits_14 : decode cX8_besideBits 14 = .ok (.iload_n 1, 1) := by decide +kernel
theorem dX8_besideBits_15 : decode cX8_besideBits 15 = .ok (.iload_n 3, 1) := by decide +kernel
theorem dX8_besideBits_16 : decode cX8_besideBits 16 = .ok (.invokevirtual 70, 3) := by decide +kernel
theorem dX8_besideBits_19 : decode cX8_besideBits 19 = .ok (.ifCond .le 9, 3) := by decide +kernel
theorem dX8_besideBits_22 : decode cX8_besideBits 22 = .ok (.iconst 1, 1) := by decide +kernel
theorem dX8_besideBits_23 : decode cX8_besideBits 23 = .ok (.iload_n 3, 1) := by decide +kernel
theorem dX8_besideBits_24 : decode cX8_besideBits 24 = .ok (.ishl, 1) := by decide +kernel
theorem dX8_besideBits_25 : decode cX8_besideBits 25 = .ok (.goto 4, 3) := by decide +kernel
theorem dX8_besideBits_28 : decode cX8_besideBits 28 = .ok (.iconst 0, 1) := by decide +kernel
theorem dX8_besideBits_29 : decode cX8_besideBits 29 = .ok (.ior, 1) := by decide +kernel
theorem dX8_besideBits_30 : decode cX8_besideBits 30 = .ok (.istore_n 2, 1) := by decide +kernel
theorem dX8_besideBits_31 : decode cX8_besideBits 31 = .ok (.iinc 3 1, 3) := by decide +kernel
theorem dX8_besideBits_34 : decode cX8_besideBits 34 = .ok (.goto (-30), 3) := by decide +kernel
theorem dX8_besideBits_37 : decode cX8_besideBits 37 = .ok (.iload_n 2, 1) := by decide +kernel
theorem dX8_besideBits_38 : decode cX8_besideBits 38 = .ok (.ireturn, 1) := by decide +kernel
theorem dX8_many_0 : decode cX8_many 0 = .ok (.iconst 0, 1) := by decide +kernel
theorem dX8_many_1 : decode cX8_many 1 = .ok (.istore_n 1, 1) := by decide +kernel
theorem dX8_many_2 : decode cX8_many 2 = .ok (.iconst 0, 1) := by decide +kernel
theorem dX8_many_3 : decode cX8_many 3 = .ok (.istore_n 2, 1) := by decide +kernel
theorem dX8_many_4 : decode cX8_many 4 = .ok (.iload_n 2, 1) := by decide +kernel
theorem dX8_many_5 : decode cX8_many 5 = .ok (.bipush 16, 2) := by decide +kernel
theorem dX8_many_7 : decode cX8_many 7 = .ok (.if_icmp .ge 17, 3) := by decide +kernel
theorem dX8_many_10 : decode cX8_many 10 = .ok (.iload_n 1, 1) := by decide +kernel
theorem dX8_many_11 : decode cX8_many 11 = .ok (.iload_n 0, 1) := by decide +kernel
theorem dX8_many_12 : decode cX8_many 12 = .ok (.iload_n 2, 1) := by decide +kernel
theorem dX8_many_13 : decode cX8_many 13 = .ok (.ishr, 1) := by decide +kernel
theorem dX8_many_14 : decode cX8_many 14 = .ok (.iconst 1, 1) := by decide +kernel
theorem dX8_many_15 : decode cX8_many 15 = .ok (.iand, 1) := by decide +kernel
theorem dX8_many_16 : decode cX8_many 16 = .ok (.iadd, 1) := by decide +kernel
theorem dX8_many_17 : decode cX8_many 17 = .ok (.istore_n 1, 1) := by decide +kernel
theorem dX8_many_18 : decode cX8_many 18 = .ok (.iinc 2 1, 3) := by decide +kernel
theorem dX8_many_21 : decode cX8_many 21 = .ok (.goto (-17), 3) := by decide +kernel
theorem dX8_many_24 : decode cX8_many 24 = .ok (.iload_n 1, 1) := by decide +kernel
theorem dX8_many_25 : decode cX8_many 25 = .ok (.ireturn, 1) := by decide +kernel
theorem dX8_of_0 : decode cX8_of 0 = .ok (.aload_n 0, 1) := by decide +kernel
theorem dX8_of_1 : decode cX8_of 1 = .ok (.iload_n 1, 1) := by decide +kernel
theorem dX8_of_2 : decode cX8_of 2 = .ok (.invokevirtual 66, 3) := by decide +kernel
theorem dX8_of_5 : decode cX8_of 5 = .ok (.ifCond .ne 5, 3) := by decide +kernel
theorem dX8_of_8 : decode cX8_of 8 = .ok (.iconst (-1), 1) := by decide +kernel
theorem dX8_of_9 : decode cX8_of 9 = .ok (.ireturn, 1) := by decide +kernel
theorem dX8_of_10 : decode cX8_of 10 = .ok (.iload_n 2, 1) := by decide +kernel
theorem dX8_of_11 : decode cX8_of 11 = .ok (.tableswitch 132 0 5 #[37, 46, 57, 68, 79, 85], 37) := by decide +kernel
theorem dX8_of_48 : decode cX8_of 48 = .ok (.aload_n 0, 1) := by decide +kernel
theorem dX8_of_49 : decode cX8_of 49 = .ok (.iload_n 1, 1) := by decide +kernel
theorem dX8_of_50 : decode cX8_of 50 = .ok (.invokevirtual 98, 3) := by decide +kernel
theorem dX8_of_53 : decode cX8_of 53 = .ok (.invokestatic 102, 3) := by decide +kernel
theorem dX8_of_56 : decode cX8_of 56 = .ok (.ireturn, 1) := by decide +kernel
theorem dX8_of_57 : decode cX8_of 57 = .ok (.aload_n 0, 1) := by decide +kernel
theorem dX8_of_58 : decode cX8_of 58 = .ok (.getfield 7, 3) := by decide +kernel
theorem dX8_of_61 : decode cX8_of 61 = .ok (.sipush 263, 3) := by decide +kernel
theorem dX8_of_64 : decode cX8_of 64 = .ok (.iload_n 1, 1) := by decide +kernel
theorem dX8_of_65 : decode cX8_of 65 = .ok (.iadd, 1) := by decide +kernel
theorem dX8_of_66 : decode cX8_of 66 = .ok (.iaload, 1) := by decide +kernel
theorem dX8_of_67 : decode cX8_of 67 = .ok (.ireturn, 1) := by decide +kernel
theorem dX8_of_68 : decode cX8_of 68 = .ok (.aload_n 0, 1) := by decide +kernel
theorem dX8_of_69 : decode cX8_of 69 = .ok (.getfield 7, 3) := by decide +kernel
theorem dX8_of_72 : decode cX8_of 72 = .ok (.sipush 279, 3) := by decide +kernel
theorem dX8_of_75 : decode cX8_of 75 = .ok (.iload_n 1, 1) := by decide +kernel
theorem dX8_of_76 : decode cX8_of 76 = .ok (.iadd, 1) := by decide +kernel
theorem dX8_of_77 : decode cX8_of 77 = .ok (.iaload, 1) := by decide +kernel
theorem dX8_of_78 : decode cX8_of 78 = .ok (.ireturn, 1) := by decide +kernel
theorem dX8_of_79 : decode cX8_of 79 = .ok (.aload_n 0, 1) := by decide +kernel
theorem dX8_of_80 : decode cX8_of 80 = .ok (.getfield 7, 3) := by decide +kernel
theorem dX8_of_83 : decode cX8_of 83 = .ok (.sipush 295, 3) := by decide +kernel
theorem dX8_of_86 : decode cX8_of 86 = .ok (.iload_n 1, 1) := by decide +kernel
theorem dX8_of_87 : decode cX8_of 87 = .ok (.iadd, 1) := by decide +kernel
theorem dX8_of_88 : decode cX8_of 88 = .ok (.iaload, 1) := by decide +kernel
theorem dX8_of_89 : decode cX8_of 89 = .ok (.ireturn, 1) := by decide +kernel
theorem dX8_of_90 : decode cX8_of 90 = .ok (.aload_n 0, 1) := by decide +kernel
theorem dX8_of_91 : decode cX8_of 91 = .ok (.iload_n 1, 1) := by decide +kernel
theorem dX8_of_92 : decode cX8_of 92 = .ok (.invokevirtual 98, 3) := by decide +kernel
theorem dX8_of_95 : decode cX8_of 95 = .ok (.ireturn, 1) := by decide +kernel
theorem dX8_of_96 : decode cX8_of 96 = .ok (.iconst 0, 1) := by decide +kernel
theorem dX8_of_97 : decode cX8_of 97 = .ok (.istore_n 3, 1) := by decide +kernel
theorem dX8_of_98 : decode cX8_of 98 = .ok (.iconst 0, 1) := by decide +kernel
theorem dX8_of_99 : decode cX8_of 99 = .ok (.istore 4, 2) := by decide +kernel
theorem dX8_of_101 : decode cX8_of 101 = .ok (.iload 4, 2) := by decide +kernel
theorem dX8_of_103 : decode cX8_of 103 = .ok (.aload_n 0, 1) := by decide +kernel
theorem dX8_of_104 : decode cX8_of 104 = .ok (.invokevirtual 62, 3) := by decide +kernel
theorem dX8_of_107 : decode cX8_of 107 = .ok (.if_icmp .ge 34, 3) := by decide +kernel
theorem dX8_of_110 : decode cX8_of 110 = .ok (.iload_n 3, 1) := by decide +kernel
theorem dX8_of_111 : decode cX8_of 111 = .ok (.aload_n 0, 1) := by decide +kernel
theorem dX8_of_112 : decode cX8_of 112 = .ok (.getfield 20, 3) := by decide +kernel
theorem dX8_of_115 : decode cX8_of 115 = .ok (.bipush 16, 2) := by decide +kernel
theorem dX8_of_117 : decode cX8_of 117 = .ok (.iload_n 1, 1) := by decide +kernel
theorem dX8_of_118 : decode cX8_of 118 = .ok (.imul, 1) := by decide +kernel
theorem dX8_of_119 : decode cX8_of 119 = .ok (.iload 4, 2) := by decide +kernel
theorem dX8_of_121 : decode cX8_of 121 = .ok (.iadd, 1) := by decide +kernel
theorem dX8_of_122 : decode cX8_of 122 = .ok (.iaload, 1) := by decide +kernel
theorem dX8_of_123 : decode cX8_of 123 = .ok (.ldc 74, 2) := by decide +kernel
theorem dX8_of_125 : decode cX8_of 125 = .ok (.if_icmp .ge 7, 3) := by decide +kernel
theorem dX8_of_128 : decode cX8_of 128 = .ok (.iconst 1, 1) := by decide +kernel
theorem dX8_of_129 : decode cX8_of 129 = .ok (.goto 4, 3) := by decide +kernel
theorem dX8_of_132 : decode cX8_of 132 = .ok (.iconst 0, 1) := by decide +kernel
theorem dX8_of_133 : decode cX8_of 133 = .ok (.iadd, 1) := by decide +kernel
theorem dX8_of_134 : decode cX8_of 134 = .ok (.istore_n 3, 1) := by decide +kernel
theorem dX8_of_135 : decode cX8_of 135 = .ok (.iinc 4 1, 3) := by decide +kernel
theorem dX8_of_138 : decode cX8_of 138 = .ok (.goto (-37), 3) := by decide +kernel
theorem dX8_of_141 : decode cX8_of 141 = .ok (.iload_n 3, 1) := by decide +kernel
theorem dX8_of_142 : decode cX8_of 142 = .ok (.ireturn, 1) := by decide +kernel
theorem dX8_of_143 : decode cX8_of 143 = .ok (.iconst (-1), 1) := by decide +kernel
theorem dX8_of_144 : decode cX8_of 144 = .ok (.ireturn, 1) := by decide +kernel
theorem dX8_answer_0 : decode cX8_answer 0 = .ok (.aload_n 0, 1) := by decide +kernel
theorem dX8_answer_1 : decode cX8_answer 1 = .ok (.iload_n 1, 1) := by decide +kernel
theorem dX8_answer_2 : decode cX8_answer 2 = .ok (.invokevirtual 66, 3) := by decide +kernel
theorem dX8_answer_5 : decode cX8_answer 5 = .ok (.ifCond .eq 20, 3) := by decide +kernel
theorem dX8_answer_8 : decode cX8_answer 8 = .ok (.aload_n 0, 1) := by decide +kernel
theorem dX8_answer_9 : decode cX8_answer 9 = .ok (.iload_n 2, 1) := by decide +kernel
theorem dX8_answer_10 : decode cX8_answer 10 = .ok (.invokevirtual 66, 3) := by decide +kernel
theorem dX8_answer_13 : decode cX8_answer 13 = .ok (.ifCond .eq 12, 3) := by decide +kernel
theorem dX8_answer_16 : decode cX8_answer 16 = .ok (.aload_n 0, 1) := by decide +kernel
theorem dX8_answer_17 : decode cX8_answer 17 = .ok (.iload_n 1, 1) := by decide +kernel
theorem dX8_answer_18 : decode cX8_answer 18 = .ok (.iload_n 2, 1) := by decide +kernel
theorem dX8_answer_19 : decode cX8_answer 19 = .ok (.invokevirtual 105, 3) := by decide +kernel
theorem dX8_answer_22 : decode cX8_answer 22 = .ok (.goto 4, 3) := by decide +kernel
theorem dX8_answer_25 : decode cX8_answer 25 = .ok (.iconst (-1), 1) := by decide +kernel
theorem dX8_answer_26 : decode cX8_answer 26 = .ok (.ireturn, 1) := by decide +kernel
theorem dX8_isParting_0 : decode cX8_isParting 0 = .ok (.aload_n 0, 1) := by decide +kernel
theorem dX8_isParting_1 : decode cX8_isParting 1 = .ok (.iload_n 1, 1) := by decide +kernel
theorem dX8_isParting_2 : decode cX8_isParting 2 = .ok (.iload_n 2, 1) := by decide +kernel
theorem dX8_isParting_3 : decode cX8_isParting 3 = .ok (.invokevirtual 105, 3) := by decide +kernel
theorem dX8_isParting_6 : decode cX8_isParting 6 = .ok (.aload_n 0, 1) := by decide +kernel
theorem dX8_isParting_7 : decode cX8_isParting 7 = .ok (.iload_n 1, 1) := by decide +kernel
theorem dX8_isParting_8 : decode cX8_isParting 8 = .ok (.iload_n 3, 1) := by decide +kernel
theorem dX8_isParting_9 : decode cX8_isParting 9 = .ok (.invokevirtual 105, 3) := by decide +kernel
theorem dX8_isParting_12 : decode cX8_isParting 12 = .ok (.if_icmp .eq 7, 3) := by decide +kernel
theorem dX8_isParting_15 : decode cX8_isParting 15 = .ok (.iconst 1, 1) := by decide +kernel
theorem dX8_isParting_16 : decode cX8_isParting 16 = .ok (.goto 4, 3) := by decide +kernel
theorem dX8_isParting_19 : decode cX8_isParting 19 = .ok (.iconst 0, 1) := by decide +kernel
theorem dX8_isParting_20 : decode cX8_isParting 20 = .ok (.ireturn, 1) := by decide +kernel
theorem dX8_parting_0 : decode cX8_parting 0 = .ok (.iconst 0, 1) := by decide +kernel
theorem dX8_parting_1 : decode cX8_parting 1 = .ok (.istore_n 3, 1) := by decide +kernel
theorem dX8_parting_2 : decode cX8_parting 2 = .ok (.iconst 0, 1) := by decide +kernel
theorem dX8_parting_3 : decode cX8_parting 3 = .ok (.istore 4, 2) := by decide +kernel
theorem dX8_parting_5 : decode cX8_parting 5 = .ok (.iload 4, 2) := by decide +kernel
theorem dX8_parting_7 : decode cX8_parting 7 = .ok (.aload_n 0, 1) := by decide +kernel
theorem dX8_parting_8 : decode cX8_parting 8 = .ok (.invokevirtual 62, 3) := by decide +kernel
theorem dX8_parting_11 : decode cX8_parting 11 = .ok (.if_icmp .ge 31, 3) := by decide +kernel
theorem dX8_parting_14 : decode cX8_parting 14 = .ok (.iload_n 3, 1) := by decide +kernel
theorem dX8_parting_15 : decode cX8_parting 15 = .ok (.aload_n 0, 1) := by decide +kernel
theorem dX8_parting_16 : decode cX8_parting 16 = .ok (.iload 4, 2) := by decide +kernel
theorem dX8_parting_18 : decode cX8_parting 18 = .ok (.iload_n 1, 1) := by decide +kernel
theorem dX8_parting_19 : decode cX8_parting 19 = .ok (.iload_n 2, 1) := by decide +kernel
theorem dX8_parting_20 : decode cX8_parting 20 = .ok (.invokevirtual 108, 3) := by decide +kernel
theorem dX8_parting_23 : decode cX8_parting 23 = .ok (.ifCond .eq 10, 3) := by decide +kernel
theorem dX8_parting_26 : decode cX8_parting 26 = .ok (.iconst 1, 1) := by decide +kernel
theorem dX8_parting_27 : decode cX8_parting 27 = .ok (.iload 4, 2) := by decide +kernel
theorem dX8_parting_29 : decode cX8_parting 29 = .ok (.ishl, 1) := by decide +kernel
theorem dX8_parting_30 : decode cX8_parting 30 = .ok (.goto 4, 3) := by decide +kernel
theorem dX8_parting_33 : decode cX8_parting 33 = .ok (.iconst 0, 1) := by decide +kernel
theorem dX8_parting_34 : decode cX8_parting 34 = .ok (.ior, 1) := by decide +kernel
theorem dX8_parting_35 : decode cX8_parting 35 = .ok (.istore_n 3, 1) := by decide +kernel
theorem dX8_parting_36 : decode cX8_parting 36 = .ok (.iinc 4 1, 3) := by decide +kernel
theorem dX8_parting_39 : decode cX8_parting 39 = .ok (.goto (-34), 3) := by decide +kernel
theorem dX8_parting_42 : decode cX8_parting 42 = .ok (.iload_n 3, 1) := by decide +kernel
theorem dX8_parting_43 : decode cX8_parting 43 = .ok (.ireturn, 1) := by decide +kernel
theorem dX8_areTwins_0 : decode cX8_areTwins 0 = .ok (.aload_n 0, 1) := by decide +kernel
theorem dX8_areTwins_1 : decode cX8_areTwins 1 = .ok (.iload_n 1, 1) := by decide +kernel
theorem dX8_areTwins_2 : decode cX8_areTwins 2 = .ok (.iload_n 2, 1) := by decide +kernel
theorem dX8_areTwins_3 : decode cX8_areTwins 3 = .ok (.invokevirtual 111, 3) := by decide +kernel
theorem dX8_areTwins_6 : decode cX8_areTwins 6 = .ok (.ifCond .ne 7, 3) := by decide +kernel
theorem dX8_areTwins_9 : decode cX8_areTwins 9 = .ok (.iconst 1, 1) := by decide +kernel
theorem dX8_areTwins_10 : decode cX8_areTwins 10 = .ok (.goto 4, 3) := by decide +kernel
theorem dX8_areTwins_13 : decode cX8_areTwins 13 = .ok (.iconst 0, 1) := by decide +kernel
theorem dX8_areTwins_14 : decode cX8_areTwins 14 = .ok (.ireturn, 1) := by decide +kernel
theorem dX8_isYes_0 : decode cX8_isYes 0 = .ok (.aload_n 0, 1) := by decide +kernel
theorem dX8_isYes_1 : decode cX8_isYes 1 = .ok (.getfield 7, 3) := by decide +kernel
theorem dX8_isYes_4 : decode cX8_isYes 4 = .ok (.iconst 1, 1) := by decide +kernel
theorem dX8_isYes_5 : decode cX8_isYes 5 = .ok (.iaload, 1) := by decide +kernel
theorem dX8_isYes_6 : decode cX8_isYes 6 = .ok (.ifCond .ne 22, 3) := by decide +kernel
theorem dX8_isYes_9 : decode cX8_isYes 9 = .ok (.aload_n 0, 1) := by decide +kernel
theorem dX8_isYes_10 : decode cX8_isYes 10 = .ok (.iload_n 1, 1) := by decide +kernel
theorem dX8_isYes_11 : decode cX8_isYes 11 = .ok (.iload_n 2, 1) := by decide +kernel
theorem dX8_isYes_12 : decode cX8_isYes 12 = .ok (.invokevirtual 105, 3) := by decide +kernel
theorem dX8_isYes_15 : decode cX8_isYes 15 = .ok (.ldc 74, 2) := by decide +kernel
theorem dX8_isYes_17 : decode cX8_isYes 17 = .ok (.if_icmp .eq 7, 3) := by decide +kernel
theorem dX8_isYes_20 : decode cX8_isYes 20 = .ok (.iconst 1, 1) := by decide +kernel
theorem dX8_isYes_21 : decode cX8_isYes 21 = .ok (.goto 21, 3) := by decide +kernel
theorem dX8_isYes_24 : decode cX8_isYes 24 = .ok (.iconst 0, 1) := by decide +kernel
theorem dX8_isYes_25 : decode cX8_isYes 25 = .ok (.goto 17, 3) := by decide +kernel
theorem dX8_isYes_28 : decode cX8_isYes 28 = .ok (.aload_n 0, 1) := by decide +kernel
theorem dX8_isYes_29 : decode cX8_isYes 29 = .ok (.iload_n 1, 1) := by decide +kernel
theorem dX8_isYes_30 : decode cX8_isYes 30 = .ok (.iload_n 2, 1) := by decide +kernel
theorem dX8_isYes_31 : decode cX8_isYes 31 = .ok (.invokevirtual 105, 3) := by decide +kernel
theorem dX8_isYes_34 : decode cX8_isYes 34 = .ok (.ifCond .eq 7, 3) := by decide +kernel
theorem dX8_isYes_37 : decode cX8_isYes 37 = .ok (.iconst 1, 1) := by decide +kernel
theorem dX8_isYes_38 : decode cX8_isYes 38 = .ok (.goto 4, 3) := by decide +kernel
theorem dX8_isYes_41 : decode cX8_isYes 41 = .ok (.iconst 0, 1) := by decide +kernel
theorem dX8_isYes_42 : decode cX8_isYes 42 = .ok (.ireturn, 1) := by decide +kernel
theorem dX8_yes_0 : decode cX8_yes 0 = .ok (.iconst 0, 1) := by decide +kernel
theorem dX8_yes_1 : decode cX8_yes 1 = .ok (.istore_n 2, 1) := by decide +kernel
theorem dX8_yes_2 : decode cX8_yes 2 = .ok (.iconst 0, 1) := by decide +kernel
theorem dX8_yes_3 : decode cX8_yes 3 = .ok (.istore_n 3, 1) := by decide +kernel
theorem dX8_yes_4 : decode cX8_yes 4 = .ok (.iload_n 3, 1) := by decide +kernel
theorem dX8_yes_5 : decode cX8_yes 5 = .ok (.aload_n 0, 1) := by decide +kernel
theorem dX8_yes_6 : decode cX8_yes 6 = .ok (.invokevirtual 62, 3) := by decide +kernel
theorem dX8_yes_9 : decode cX8_yes 9 = .ok (.if_icmp .ge 28, 3) := by decide +kernel
theorem dX8_yes_12 : decode cX8_yes 12 = .ok (.iload_n 2, 1) := by decide +kernel
theorem dX8_yes_13 : decode cX8_yes 13 = .ok (.aload_n 0, 1) := by decide +kernel
theorem dX8_yes_14 : decode cX8_yes 14 = .ok (.iload_n 3, 1) := by decide +kernel
theorem dX8_yes_15 : decode cX8_yes 15 = .ok (.iload_n 1, 1) := by decide +kernel
theorem dX8_yes_16 : decode cX8_yes 16 = .ok (.invokevirtual 114, 3) := by decide +kernel
theorem dX8_yes_19 : decode cX8_yes 19 = .ok (.ifCond .eq 9, 3) := by decide +kernel
theorem dX8_yes_22 : decode cX8_yes 22 = .ok (.iconst 1, 1) := by decide +kernel
theorem dX8_yes_23 : decode cX8_yes 23 = .ok (.iload_n 3, 1) := by decide +kernel
theorem dX8_yes_24 : decode cX8_yes 24 = .ok (.ishl, 1) := by decide +kernel
theorem dX8_yes_25 : decode cX8_yes 25 = .ok (.goto 4, 3) := by decide +kernel
theorem dX8_yes_28 : decode cX8_yes 28 = .ok (.iconst 0, 1) := by decide +kernel
theorem dX8_yes_29 : decode cX8_yes 29 = .ok (.ior, 1) := by decide +kernel
theorem dX8_yes_30 : decode cX8_yes 30 = .ok (.istore_n 2, 1) := by decide +kernel
theorem dX8_yes_31 : decode cX8_yes 31 = .ok (.iinc 3 1, 3) := by decide +kernel
theorem dX8_yes_34 : decode cX8_yes 34 = .ok (.goto (-30), 3) := by decide +kernel
theorem dX8_yes_37 : decode cX8_yes 37 = .ok (.iload_n 2, 1) := by decide +kernel
theorem dX8_yes_38 : decode cX8_yes 38 = .ok (.ireturn, 1) := by decide +kernel
theorem dX8_parts_0 : decode cX8_parts 0 = .ok (.aload_n 0, 1) := by decide +kernel
theorem dX8_parts_1 : decode cX8_parts 1 = .ok (.iload_n 1, 1) := by decide +kernel
theorem dX8_parts_2 : decode cX8_parts 2 = .ok (.invokevirtual 118, 3) := by decide +kernel
theorem dX8_parts_5 : decode cX8_parts 5 = .ok (.ifCond .eq 38, 3) := by decide +kernel
theorem dX8_parts_8 : decode cX8_parts 8 = .ok (.aload_n 0, 1) := by decide +kernel
theorem dX8_parts_9 : decode cX8_parts 9 = .ok (.iload_n 2, 1) := by decide +kernel
theorem dX8_parts_10 : decode cX8_parts 10 = .ok (.invokevirtual 66, 3) := by decide +kernel
theorem dX8_parts_13 : decode cX8_parts 13 = .ok (.ifCond .eq 30, 3) := by decide +kernel
theorem dX8_parts_16 : decode cX8_parts 16 = .ok (.aload_n 0, 1) := by decide +kernel
theorem dX8_parts_17 : decode cX8_parts 17 = .ok (.iload_n 3, 1) := by decide +kernel
theorem dX8_parts_18 : decode cX8_parts 18 = .ok (.invokevirtual 66, 3) := by decide +kernel
theorem dX8_parts_21 : decode cX8_parts 21 = .ok (.ifCond .eq 22, 3) := by decide +kernel
theorem dX8_parts_24 : decode cX8_parts 24 = .ok (.iload_n 2, 1) := by decide +kernel
theorem dX8_parts_25 : decode cX8_parts 25 = .ok (.iload_n 3, 1) := by decide +kernel
theorem dX8_parts_26 : decode cX8_parts 26 = .ok (.if_icmp .eq 17, 3) := by decide +kernel
theorem dX8_parts_29 : decode cX8_parts 29 = .ok (.aload_n 0, 1) := by decide +kernel
theorem dX8_parts_30 : decode cX8_parts 30 = .ok (.iload_n 2, 1) := by decide +kernel
theorem dX8_parts_31 : decode cX8_parts 31 = .ok (.iload_n 3, 1) := by decide +kernel
theorem dX8_parts_32 : decode cX8_parts 32 = .ok (.invokevirtual 111, 3) := by decide +kernel
theorem dX8_parts_35 : decode cX8_parts 35 = .ok (.iload_n 1, 1) := by decide +kernel
theorem dX8_parts_36 : decode cX8_parts 36 = .ok (.iand, 1) := by decide +kernel
theorem dX8_parts_37 : decode cX8_parts 37 = .ok (.invokestatic 102, 3) := by decide +kernel
theorem dX8_parts_40 : decode cX8_parts 40 = .ok (.goto 4, 3) := by decide +kernel
theorem dX8_parts_43 : decode cX8_parts 43 = .ok (.iconst (-1), 1) := by decide +kernel
theorem dX8_parts_44 : decode cX8_parts 44 = .ok (.ireturn, 1) := by decide +kernel
theorem dX8_gather_0 : decode cX8_gather 0 = .ok (.iconst 0, 1) := by decide +kernel
theorem dX8_gather_1 : decode cX8_gather 1 = .ok (.istore_n 1, 1) := by decide +kernel
theorem dX8_gather_2 : decode cX8_gather 2 = .ok (.iload_n 1, 1) := by decide +kernel
theorem dX8_gather_3 : decode cX8_gather 3 = .ok (.aload_n 0, 1) := by decide +kernel
theorem dX8_gather_4 : decode cX8_gather 4 = .ok (.invokevirtual 62, 3) := by decide +kernel
theorem dX8_gather_7 : decode cX8_gather 7 = .ok (.if_icmp .ge 55, 3) := by decide +kernel
theorem dX8_gather_10 : decode cX8_gather 10 = .ok (.aload_n 0, 1) := by decide +kernel
theorem dX8_gather_11 : decode cX8_gather 11 = .ok (.getfield 29, 3) := by decide +kernel
theorem dX8_gather_14 : decode cX8_gather 14 = .ok (.iload_n 1, 1) := by decide +kernel
theorem dX8_gather_15 : decode cX8_gather 15 = .ok (.aload_n 0, 1) := by decide +kernel
theorem dX8_gather_16 : decode cX8_gather 16 = .ok (.iload_n 1, 1) := by decide +kernel
theorem dX8_gather_17 : decode cX8_gather 17 = .ok (.invokevirtual 121, 3) := by decide +kernel
theorem dX8_gather_20 : decode cX8_gather 20 = .ok (.iastore, 1) := by decide +kernel
theorem dX8_gather_21 : decode cX8_gather 21 = .ok (.iload_n 1, 1) := by decide +kernel
theorem dX8_gather_22 : decode cX8_gather 22 = .ok (.iconst 1, 1) := by decide +kernel
theorem dX8_gather_23 : decode cX8_gather 23 = .ok (.iadd, 1) := by decide +kernel
theorem dX8_gather_24 : decode cX8_gather 24 = .ok (.istore_n 2, 1) := by decide +kernel
theorem dX8_gather_25 : decode cX8_gather 25 = .ok (.iload_n 2, 1) := by decide +kernel
theorem dX8_gather_26 : decode cX8_gather 26 = .ok (.aload_n 0, 1) := by decide +kernel
theorem dX8_gather_27 : decode cX8_gather 27 = .ok (.invokevirtual 62, 3) := by decide +kernel
theorem dX8_gather_30 : decode cX8_gather 30 = .ok (.if_icmp .ge 26, 3) := by decide +kernel
theorem dX8_gather_33 : decode cX8_gather 33 = .ok (.aload_n 0, 1) := by decide +kernel
theorem dX8_gather_34 : decode cX8_gather 34 = .ok (.getfield 26, 3) := by decide +kernel
theorem dX8_gather_37 : decode cX8_gather 37 = .ok (.bipush 16, 2) := by decide +kernel
theorem dX8_gather_39 : decode cX8_gather 39 = .ok (.iload_n 1, 1) := by decide +kernel
theorem dX8_gather_40 : decode cX8_gather 40 = .ok (.imul, 1) := by decide +kernel
theorem dX8_gather_41 : decode cX8_gather 41 = .ok (.iload_n 2, 1) := by decide +kernel
theorem dX8_gather_42 : decode cX8_gather 42 = .ok (.iadd, 1) := by decide +kernel
theorem dX8_gather_43 : decode cX8_gather 43 = .ok (.aload_n 0, 1) := by decide +kernel
theorem dX8_gather_44 : decode cX8_gather 44 = .ok (.iload_n 1, 1) := by decide +kernel
theorem dX8_gather_45 : decode cX8_gather 45 = .ok (.iload_n 2, 1) := by decide +kernel
theorem dX8_gather_46 : decode cX8_gather 46 = .ok (.invokevirtual 111, 3) := by decide +kernel
theorem dX8_gather_49 : decode cX8_gather 49 = .ok (.iastore, 1) := by decide +kernel
theorem dX8_gather_50 : decode cX8_gather 50 = .ok (.iinc 2 1, 3) := by decide +kernel
theorem dX8_gather_53 : decode cX8_gather 53 = .ok (.goto (-28), 3) := by decide +kernel
theorem dX8_gather_56 : decode cX8_gather 56 = .ok (.iinc 1 1, 3) := by decide +kernel
theorem dX8_gather_59 : decode cX8_gather 59 = .ok (.goto (-57), 3) := by decide +kernel
theorem dX8_gather_62 : decode cX8_gather 62 = .ok (.return_, 1) := by decide +kernel
theorem dX8_clashOf_0 : decode cX8_clashOf 0 = .ok (.aload_n 0, 1) := by decide +kernel
theorem dX8_clashOf_1 : decode cX8_clashOf 1 = .ok (.invokevirtual 95, 3) := by decide +kernel
theorem dX8_clashOf_4 : decode cX8_clashOf 4 = .ok (.istore_n 2, 1) := by decide +kernel
theorem dX8_clashOf_5 : decode cX8_clashOf 5 = .ok (.iconst 0, 1) := by decide +kernel
theorem dX8_clashOf_6 : decode cX8_clashOf 6 = .ok (.istore_n 3, 1) := by decide +kernel
theorem dX8_clashOf_7 : decode cX8_clashOf 7 = .ok (.iload_n 3, 1) := by decide +kernel
theorem dX8_clashOf_8 : decode cX8_clashOf 8 = .ok (.aload_n 0, 1) := by decide +kernel
theorem dX8_clashOf_9 : decode cX8_clashOf 9 = .ok (.invokevirtual 62, 3) := by decide +kernel
theorem dX8_clashOf_12 : decode cX8_clashOf 12 = .ok (.if_icmp .ge 67, 3) := by decide +kernel
theorem dX8_clashOf_15 : decode cX8_clashOf 15 = .ok (.iload_n 3, 1) := by decide +kernel
theorem dX8_clashOf_16 : decode cX8_clashOf 16 = .ok (.iconst 1, 1) := by decide +kernel
theorem dX8_clashOf_17 : decode cX8_clashOf 17 = .ok (.iadd, 1) := by decide +kernel
theorem dX8_clashOf_18 : decode cX8_clashOf 18 = .ok (.istore 4, 2) := by decide +kernel
theorem dX8_clashOf_20 : decode cX8_clashOf 20 = .ok (.iload 4, 2) := by decide +kernel
theorem dX8_clashOf_22 : decode cX8_clashOf 22 = .ok (.aload_n 0, 1) := by decide +kernel
theorem dX8_clashOf_23 : decode cX8_clashOf 23 = .ok (.invokevirtual 62, 3) := by decide +kernel
theorem dX8_clashOf_26 : decode cX8_clashOf 26 = .ok (.if_icmp .ge 47, 3) := by decide +kernel
theorem dX8_clashOf_29 : decode cX8_clashOf 29 = .ok (.aload_n 0, 1) := by decide +kernel
theorem dX8_clashOf_30 : decode cX8_clashOf 30 = .ok (.getfield 26, 3) := by decide +kernel
theorem dX8_clashOf_33 : decode cX8_clashOf 33 = .ok (.bipush 16, 2) := by decide +kernel
theorem dX8_clashOf_35 : decode cX8_clashOf 35 = .ok (.iload_n 3, 1) := by decide +kernel
theorem dX8_clashOf_36 : decode cX8_clashOf 36 = .ok (.imul, 1) := by decide +kernel
theorem dX8_clashOf_37 : decode cX8_clashOf 37 = .ok (.iload 4, 2) := by decide +kernel
theorem dX8_clashOf_39 : decode cX8_clashOf 39 = .ok (.iadd, 1) := by decide +kernel
theorem dX8_clashOf_40 : decode cX8_clashOf 40 = .ok (.iaload, 1) := by decide +kernel
theorem dX8_clashOf_41 : decode cX8_clashOf 41 = .ok (.istore 5, 2) := by decide +kernel
theorem dX8_clashOf_43 : decode cX8_clashOf 43 = .ok (.iload 5, 2) := by decide +kernel
theorem dX8_clashOf_45 : decode cX8_clashOf 45 = .ok (.ifCond .eq 22, 3) := by decide +kernel
theorem dX8_clashOf_48 : decode cX8_clashOf 48 = .ok (.iload 5, 2) := by decide +kernel
theorem dX8_clashOf_50 : decode cX8_clashOf 50 = .ok (.iload_n 1, 1) := by decide +kernel
theorem dX8_clashOf_51 : decode cX8_clashOf 51 = .ok (.iand, 1) := by decide +kernel
theorem dX8_clashOf_52 : decode cX8_clashOf 52 = .ok (.invokestatic 102, 3) := by decide +kernel
theorem dX8_clashOf_55 : decode cX8_clashOf 55 = .ok (.iload_n 2, 1) := by decide +kernel
theorem dX8_clashOf_56 : decode cX8_clashOf 56 = .ok (.if_icmp .ge 11, 3) := by decide +kernel
theorem dX8_clashOf_59 : decode cX8_clashOf 59 = .ok (.bipush 16, 2) := by decide +kernel
theorem dX8_clashOf_61 : decode cX8_clashOf 61 = .ok (.iload_n 3, 1) := by decide +kernel
theorem dX8_clashOf_62 : decode cX8_clashOf 62 = .ok (.imul, 1) := by decide +kernel
theorem dX8_clashOf_63 : decode cX8_clashOf 63 = .ok (.iload 4, 2) := by decide +kernel
theorem dX8_clashOf_65 : decode cX8_clashOf 65 = .ok (.iadd, 1) := by decide +kernel
theorem dX8_clashOf_66 : decode cX8_clashOf 66 = .ok (.ireturn, 1) := by decide +kernel
theorem dX8_clashOf_67 : decode cX8_clashOf 67 = .ok (.iinc 4 1, 3) := by decide +kernel
theorem dX8_clashOf_70 : decode cX8_clashOf 70 = .ok (.goto (-50), 3) := by decide +kernel
theorem dX8_clashOf_73 : decode cX8_clashOf 73 = .ok (.iinc 3 1, 3) := by decide +kernel
theorem dX8_clashOf_76 : decode cX8_clashOf 76 = .ok (.goto (-69), 3) := by decide +kernel
theorem dX8_clashOf_79 : decode cX8_clashOf 79 = .ok (.iconst 0, 1) := by decide +kernel
theorem dX8_clashOf_80 : decode cX8_clashOf 80 = .ok (.istore_n 3, 1) := by decide +kernel
theorem dX8_clashOf_81 : decode cX8_clashOf 81 = .ok (.iload_n 3, 1) := by decide +kernel
theorem dX8_clashOf_82 : decode cX8_clashOf 82 = .ok (.aload_n 0, 1) := by decide +kernel
theorem dX8_clashOf_83 : decode cX8_clashOf 83 = .ok (.invokevirtual 62, 3) := by decide +kernel
theorem dX8_clashOf_86 : decode cX8_clashOf 86 = .ok (.if_icmp .ge 40, 3) := by decide +kernel
theorem dX8_clashOf_89 : decode cX8_clashOf 89 = .ok (.aload_n 0, 1) := by decide +kernel
theorem dX8_clashOf_90 : decode cX8_clashOf 90 = .ok (.getfield 7, 3) := by decide +kernel
theorem dX8_clashOf_93 : decode cX8_clashOf 93 = .ok (.iconst 5, 1) := by decide +kernel
theorem dX8_clashOf_94 : decode cX8_clashOf 94 = .ok (.iaload, 1) := by decide +kernel
theorem dX8_clashOf_95 : decode cX8_clashOf 95 = .ok (.iconst 1, 1) := by decide +kernel
theorem dX8_clashOf_96 : decode cX8_clashOf 96 = .ok (.if_icmp .ne 30, 3) := by decide +kernel
theorem dX8_clashOf_99 : decode cX8_clashOf 99 = .ok (.aload_n 0, 1) := by decide +kernel
theorem dX8_clashOf_100 : decode cX8_clashOf 100 = .ok (.getfield 29, 3) := by decide +kernel
theorem dX8_clashOf_103 : decode cX8_clashOf 103 = .ok (.iload_n 3, 1) := by decide +kernel
theorem dX8_clashOf_104 : decode cX8_clashOf 104 = .ok (.iaload, 1) := by decide +kernel
theorem dX8_clashOf_105 : decode cX8_clashOf 105 = .ok (.iload_n 1, 1) := by decide +kernel
theorem dX8_clashOf_106 : decode cX8_clashOf 106 = .ok (.iand, 1) := by decide +kernel
theorem dX8_clashOf_107 : decode cX8_clashOf 107 = .ok (.invokestatic 102, 3) := by decide +kernel
theorem dX8_clashOf_110 : decode cX8_clashOf 110 = .ok (.iload_n 2, 1) := by decide +kernel
theorem dX8_clashOf_111 : decode cX8_clashOf 111 = .ok (.if_icmp .ge 9, 3) := by decide +kernel
theorem dX8_clashOf_114 : decode cX8_clashOf 114 = .ok (.sipush 1000, 3) := by decide +kernel
theorem dX8_clashOf_117 : decode cX8_clashOf 117 = .ok (.iload_n 3, 1) := by decide +kernel
theorem dX8_clashOf_118 : decode cX8_clashOf 118 = .ok (.iadd, 1) := by decide +kernel
theorem dX8_clashOf_119 : decode cX8_clashOf 119 = .ok (.ireturn, 1) := by decide +kernel
theorem dX8_clashOf_120 : decode cX8_clashOf 120 = .ok (.iinc 3 1, 3) := by decide +kernel
theorem dX8_clashOf_123 : decode cX8_clashOf 123 = .ok (.goto (-42), 3) := by decide +kernel
theorem dX8_clashOf_126 : decode cX8_clashOf 126 = .ok (.iconst (-1), 1) := by decide +kernel
theorem dX8_clashOf_127 : decode cX8_clashOf 127 = .ok (.ireturn, 1) := by decide +kernel
theorem dX8_clash_0 : decode cX8_clash 0 = .ok (.aload_n 0, 1) := by decide +kernel
theorem dX8_clash_1 : decode cX8_clash 1 = .ok (.iload_n 1, 1) := by decide +kernel
theorem dX8_clash_2 : decode cX8_clash 2 = .ok (.invokevirtual 118, 3) := by decide +kernel
theorem dX8_clash_5 : decode cX8_clash 5 = .ok (.ifCond .ne 6, 3) := by decide +kernel
theorem dX8_clash_8 : decode cX8_clash 8 = .ok (.bipush (-2), 2) := by decide +kernel
theorem dX8_clash_10 : decode cX8_clash 10 = .ok (.ireturn, 1) := by decide +kernel
theorem dX8_clash_11 : decode cX8_clash 11 = .ok (.aload_n 0, 1) := by decide +kernel
theorem dX8_clash_12 : decode cX8_clash 12 = .ok (.invokevirtual 124, 3) := by decide +kernel
theorem dX8_clash_15 : decode cX8_clash 15 = .ok (.aload_n 0, 1) := by decide +kernel
theorem dX8_clash_16 : decode cX8_clash 16 = .ok (.iload_n 1, 1) := by decide +kernel
theorem dX8_clash_17 : decode cX8_clash 17 = .ok (.invokevirtual 127, 3) := by decide +kernel
theorem dX8_clash_20 : decode cX8_clash 20 = .ok (.ireturn, 1) := by decide +kernel
theorem dX8_twins_0 : decode cX8_twins 0 = .ok (.iconst 0, 1) := by decide +kernel
theorem dX8_twins_1 : decode cX8_twins 1 = .ok (.istore_n 2, 1) := by decide +kernel
theorem dX8_twins_2 : decode cX8_twins 2 = .ok (.iconst 0, 1) := by decide +kernel
theorem dX8_twins_3 : decode cX8_twins 3 = .ok (.istore_n 3, 1) := by decide +kernel
theorem dX8_twins_4 : decode cX8_twins 4 = .ok (.iload_n 3, 1) := by decide +kernel
theorem dX8_twins_5 : decode cX8_twins 5 = .ok (.aload_n 0, 1) := by decide +kernel
theorem dX8_twins_6 : decode cX8_twins 6 = .ok (.invokevirtual 62, 3) := by decide +kernel
theorem dX8_twins_9 : decode cX8_twins 9 = .ok (.if_icmp .ge 62, 3) := by decide +kernel
theorem dX8_twins_12 : decode cX8_twins 12 = .ok (.iload_n 1, 1) := by decide +kernel
theorem dX8_twins_13 : decode cX8_twins 13 = .ok (.ifCond .lt 58, 3) := by decide +kernel
theorem dX8_twins_16 : decode cX8_twins 16 = .ok (.iload_n 3, 1) := by decide +kernel
theorem dX8_twins_17 : decode cX8_twins 17 = .ok (.iconst 1, 1) := by decide +kernel
theorem dX8_twins_18 : decode cX8_twins 18 = .ok (.iadd, 1) := by decide +kernel
theorem dX8_twins_19 : decode cX8_twins 19 = .ok (.istore 4, 2) := by decide +kernel
theorem dX8_twins_21 : decode cX8_twins 21 = .ok (.iload 4, 2) := by decide +kernel
theorem dX8_twins_23 : decode cX8_twins 23 = .ok (.aload_n 0, 1) := by decide +kernel
theorem dX8_twins_24 : decode cX8_twins 24 = .ok (.invokevirtual 62, 3) := by decide +kernel
theorem dX8_twins_27 : decode cX8_twins 27 = .ok (.if_icmp .ge 38, 3) := by decide +kernel
theorem dX8_twins_30 : decode cX8_twins 30 = .ok (.aload_n 0, 1) := by decide +kernel
theorem dX8_twins_31 : decode cX8_twins 31 = .ok (.iload_n 3, 1) := by decide +kernel
theorem dX8_twins_32 : decode cX8_twins 32 = .ok (.iload 4, 2) := by decide +kernel
theorem dX8_twins_34 : decode cX8_twins 34 = .ok (.invokevirtual 130, 3) := by decide +kernel
theorem dX8_twins_37 : decode cX8_twins 37 = .ok (.ifCond .ne 6, 3) := by decide +kernel
theorem dX8_twins_40 : decode cX8_twins 40 = .ok (.goto 19, 3) := by decide +kernel
theorem dX8_twins_43 : decode cX8_twins 43 = .ok (.iload_n 2, 1) := by decide +kernel
theorem dX8_twins_44 : decode cX8_twins 44 = .ok (.iload_n 1, 1) := by decide +kernel
theorem dX8_twins_45 : decode cX8_twins 45 = .ok (.if_icmp .ne 11, 3) := by decide +kernel
theorem dX8_twins_48 : decode cX8_twins 48 = .ok (.bipush 16, 2) := by decide +kernel
theorem dX8_twins_50 : decode cX8_twins 50 = .ok (.iload_n 3, 1) := by decide +kernel
theorem dX8_twins_51 : decode cX8_twins 51 = .ok (.imul, 1) := by decide +kernel
theorem dX8_twins_52 : decode cX8_twins 52 = .ok (.iload 4, 2) := by decide +kernel
theorem dX8_twins_54 : decode cX8_twins 54 = .ok (.iadd, 1) := by decide +kernel
theorem dX8_twins_55 : decode cX8_twins 55 = .ok (.ireturn, 1) := by decide +kernel
theorem dX8_twins_56 : decode cX8_twins 56 = .ok (.iinc 2 1, 3) := by decide +kernel
theorem dX8_twins_59 : decode cX8_twins 59 = .ok (.iinc 4 1, 3) := by decide +kernel
theorem dX8_twins_62 : decode cX8_twins 62 = .ok (.goto (-41), 3) := by decide +kernel
theorem dX8_twins_65 : decode cX8_twins 65 = .ok (.iinc 3 1, 3) := by decide +kernel
theorem dX8_twins_68 : decode cX8_twins 68 = .ok (.goto (-64), 3) := by decide +kernel
theorem dX8_twins_71 : decode cX8_twins 71 = .ok (.iconst (-1), 1) := by decide +kernel
theorem dX8_twins_72 : decode cX8_twins 72 = .ok (.ireturn, 1) := by decide +kernel
theorem dX8_best_0 : decode cX8_best 0 = .ok (.aload_n 0, 1) := by decide +kernel
theorem dX8_best_1 : decode cX8_best 1 = .ok (.invokevirtual 124, 3) := by decide +kernel
theorem dX8_best_4 : decode cX8_best 4 = .ok (.iconst (-1), 1) := by decide +kernel
theorem dX8_best_5 : decode cX8_best 5 = .ok (.istore_n 2, 1) := by decide +kernel
theorem dX8_best_6 : decode cX8_best 6 = .ok (.iconst 0, 1) := by decide +kernel
theorem dX8_best_7 : decode cX8_best 7 = .ok (.istore_n 3, 1) := by decide +kernel
theorem dX8_best_8 : decode cX8_best 8 = .ok (.iconst 0, 1) := by decide +kernel
theorem dX8_best_9 : decode cX8_best 9 = .ok (.istore 4, 2) := by decide +kernel
theorem dX8_best_11 : decode cX8_best 11 = .ok (.iload 4, 2) := by decide +kernel
theorem dX8_best_13 : decode cX8_best 13 = .ok (.iconst 1, 1) := by decide +kernel
theorem dX8_best_14 : decode cX8_best 14 = .ok (.aload_n 0, 1) := by decide +kernel
theorem dX8_best_15 : decode cX8_best 15 = .ok (.invokevirtual 62, 3) := by decide +kernel
theorem dX8_best_18 : decode cX8_best 18 = .ok (.ishl, 1) := by decide +kernel
theorem dX8_best_19 : decode cX8_best 19 = .ok (.if_icmp .ge 57, 3) := by decide +kernel
theorem dX8_best_22 : decode cX8_best 22 = .ok (.iload_n 1, 1) := by decide +kernel
theorem dX8_best_23 : decode cX8_best 23 = .ok (.ifCond .eq 12, 3) := by decide +kernel
theorem dX8_best_26 : decode cX8_best 26 = .ok (.aload_n 0, 1) := by decide +kernel
theorem dX8_best_27 : decode cX8_best 27 = .ok (.iload 4, 2) := by decide +kernel
theorem dX8_best_29 : decode cX8_best 29 = .ok (.invokevirtual 133, 3) := by decide +kernel
theorem dX8_best_32 : decode cX8_best 32 = .ok (.goto 8, 3) := by decide +kernel
theorem dX8_best_35 : decode cX8_best 35 = .ok (.iload 4, 2) := by decide +kernel
theorem dX8_best_37 : decode cX8_best 37 = .ok (.invokestatic 102, 3) := by decide +kernel
theorem dX8_best_40 : decode cX8_best 40 = .ok (.istore 5, 2) := by decide +kernel
