theorem dX5_init_0 : decode cX5_init 0 = .ok (.aload_n 0, 1) := by decide +kernel
theorem dX5_init_1 : decode cX5_init 1 = .ok (.invokespecial 3, 3) := by decide +kernel
theorem dX5_init_4 : decode cX5_init 4 = .ok (.aload_n 0, 1) := by decide +kernel
theorem dX5_init_5 : decode cX5_init 5 = .ok (.iconst 0, 1) := by decide +kernel
theorem dX5_init_6 : decode cX5_init 6 = .ok (.putfield 9, 3) := by decide +kernel
theorem dX5_init_9 : decode cX5_init 9 = .ok (.aload_n 0, 1) := by decide +kernel
theorem dX5_init_10 : decode cX5_init 10 = .ok (.bipush 16, 2) := by decide +kernel
theorem dX5_init_12 : decode cX5_init 12 = .ok (.newarray .int, 2) := by decide +kernel
theorem dX5_init_14 : decode cX5_init 14 = .ok (.putfield 15, 3) := by decide +kernel
theorem dX5_init_17 : decode cX5_init 17 = .ok (.aload_n 0, 1) := by decide +kernel
theorem dX5_init_18 : decode cX5_init 18 = .ok (.sipush 256, 3) := by decide +kernel
theorem dX5_init_21 : decode cX5_init 21 = .ok (.newarray .int, 2) := by decide +kernel
theorem dX5_init_23 : decode cX5_init 23 = .ok (.putfield 19, 3) := by decide +kernel
theorem dX5_init_26 : decode cX5_init 26 = .ok (.aload_n 0, 1) := by decide +kernel
theorem dX5_init_27 : decode cX5_init 27 = .ok (.sipush 256, 3) := by decide +kernel
theorem dX5_init_30 : decode cX5_init 30 = .ok (.newarray .int, 2) := by decide +kernel
theorem dX5_init_32 : decode cX5_init 32 = .ok (.putfield 22, 3) := by decide +kernel
theorem dX5_init_35 : decode cX5_init 35 = .ok (.aload_n 0, 1) := by decide +kernel
theorem dX5_init_36 : decode cX5_init 36 = .ok (.sipush 256, 3) := by decide +kernel
theorem dX5_init_39 : decode cX5_init 39 = .ok (.newarray .int, 2) := by decide +kernel
theorem dX5_init_41 : decode cX5_init 41 = .ok (.putfield 25, 3) := by decide +kernel
theorem dX5_init_44 : decode cX5_init 44 = .ok (.aload_n 0, 1) := by decide +kernel
theorem dX5_init_45 : decode cX5_init 45 = .ok (.bipush 16, 2) := by decide +kernel
theorem dX5_init_47 : decode cX5_init 47 = .ok (.newarray .int, 2) := by decide +kernel
theorem dX5_init_49 : decode cX5_init 49 = .ok (.putfield 28, 3) := by decide +kernel
theorem dX5_init_52 : decode cX5_init 52 = .ok (.aload_n 0, 1) := by decide +kernel
theorem dX5_init_53 : decode cX5_init 53 = .ok (.sipush 256, 3) := by decide +kernel
theorem dX5_init_56 : decode cX5_init 56 = .ok (.newarray .int, 2) := by decide +kernel
theorem dX5_init_58 : decode cX5_init 58 = .ok (.putfield 31, 3) := by decide +kernel
theorem dX5_init_61 : decode cX5_init 61 = .ok (.aload_n 0, 1) := by decide +kernel
theorem dX5_init_62 : decode cX5_init 62 = .ok (.bipush 16, 2) := by decide +kernel
theorem dX5_init_64 : decode cX5_init 64 = .ok (.newarray .int, 2) := by decide +kernel
theorem dX5_init_66 : decode cX5_init 66 = .ok (.putfield 34, 3) := by decide +kernel
theorem dX5_init_69 : decode cX5_init 69 = .ok (.return_, 1) := by decide +kernel
theorem dX5_look_0 : decode cX5_look 0 = .ok (.aload_n 0, 1) := by decide +kernel
theorem dX5_look_1 : decode cX5_look 1 = .ok (.aload_n 1, 1) := by decide +kernel
theorem dX5_look_2 : decode cX5_look 2 = .ok (.getfield 37, 3) := by decide +kernel
theorem dX5_look_5 : decode cX5_look 5 = .ok (.putfield 9, 3) := by decide +kernel
theorem dX5_look_8 : decode cX5_look 8 = .ok (.iconst 0, 1) := by decide +kernel
theorem dX5_look_9 : decode cX5_look 9 = .ok (.istore_n 2, 1) := by decide +kernel
theorem dX5_look_10 : decode cX5_look 10 = .ok (.iload_n 2, 1) := by decide +kernel
theorem dX5_look_11 : decode cX5_look 11 = .ok (.aload_n 0, 1) := by decide +kernel
theorem dX5_look_12 : decode cX5_look 12 = .ok (.getfield 9, 3) := by decide +kernel
theorem dX5_look_15 : decode cX5_look 15 = .ok (.if_icmp .ge 20, 3) := by decide +kernel
theorem dX5_look_18 : decode cX5_look 18 = .ok (.aload_n 0, 1) := by decide +kernel
theorem dX5_look_19 : decode cX5_look 19 = .ok (.getfield 15, 3) := by decide +kernel
theorem dX5_look_22 : decode cX5_look 22 = .ok (.iload_n 2, 1) := by decide +kernel
theorem dX5_look_23 : decode cX5_look 23 = .ok (.aload_n 1, 1) := by decide +kernel
theorem dX5_look_24 : decode cX5_look 24 = .ok (.iload_n 2, 1) := by decide +kernel
theorem dX5_look_25 : decode cX5_look 25 = .ok (.invokevirtual 40, 3) := by decide +kernel
theorem dX5_look_28 : decode cX5_look 28 = .ok (.iastore, 1) := by decide +kernel
theorem dX5_look_29 : decode cX5_look 29 = .ok (.iinc 2 1, 3) := by decide +kernel
theorem dX5_look_32 : decode cX5_look 32 = .ok (.goto (-22), 3) := by decide +kernel
theorem dX5_look_35 : decode cX5_look 35 = .ok (.aload_n 0, 1) := by decide +kernel
theorem dX5_look_36 : decode cX5_look 36 = .ok (.aload_n 1, 1) := by decide +kernel
theorem dX5_look_37 : decode cX5_look 37 = .ok (.invokevirtual 44, 3) := by decide +kernel
theorem dX5_look_40 : decode cX5_look 40 = .ok (.iconst 0, 1) := by decide +kernel
theorem dX5_look_41 : decode cX5_look 41 = .ok (.istore_n 2, 1) := by decide +kernel
theorem dX5_look_42 : decode cX5_look 42 = .ok (.iload_n 2, 1) := by decide +kernel
theorem dX5_look_43 : decode cX5_look 43 = .ok (.aload_n 0, 1) := by decide +kernel
theorem dX5_look_44 : decode cX5_look 44 = .ok (.getfield 9, 3) := by decide +kernel
theorem dX5_look_47 : decode cX5_look 47 = .ok (.if_icmp .ge 48, 3) := by decide +kernel
theorem dX5_look_50 : decode cX5_look 50 = .ok (.iconst 0, 1) := by decide +kernel
theorem dX5_look_51 : decode cX5_look 51 = .ok (.istore_n 3, 1) := by decide +kernel
theorem dX5_look_52 : decode cX5_look 52 = .ok (.iload_n 3, 1) := by decide +kernel
theorem dX5_look_53 : decode cX5_look 53 = .ok (.aload_n 0, 1) := by decide +kernel
theorem dX5_look_54 : decode cX5_look 54 = .ok (.getfield 9, 3) := by decide +kernel
theorem dX5_look_57 : decode cX5_look 57 = .ok (.if_icmp .ge 27, 3) := by decide +kernel
theorem dX5_look_60 : decode cX5_look 60 = .ok (.aload_n 0, 1) := by decide +kernel
theorem dX5_look_61 : decode cX5_look 61 = .ok (.getfield 22, 3) := by decide +kernel
theorem dX5_look_64 : decode cX5_look 64 = .ok (.bipush 16, 2) := by decide +kernel
theorem dX5_look_66 : decode cX5_look 66 = .ok (.iload_n 2, 1) := by decide +kernel
theorem dX5_look_67 : decode cX5_look 67 = .ok (.imul, 1) := by decide +kernel
theorem dX5_look_68 : decode cX5_look 68 = .ok (.iload_n 3, 1) := by decide +kernel
theorem dX5_look_69 : decode cX5_look 69 = .ok (.iadd, 1) := by decide +kernel
theorem dX5_look_70 : decode cX5_look 70 = .ok (.aload_n 0, 1) := by decide +kernel
theorem dX5_look_71 : decode cX5_look 71 = .ok (.aload_n 1, 1) := by decide +kernel
theorem dX5_look_72 : decode cX5_look 72 = .ok (.iload_n 2, 1) := by decide +kernel
theorem dX5_look_73 : decode cX5_look 73 = .ok (.iload_n 3, 1) := by decide +kernel
theorem dX5_look_74 : decode cX5_look 74 = .ok (.invokevirtual 48, 3) := by decide +kernel
theorem dX5_look_77 : decode cX5_look 77 = .ok (.iastore, 1) := by decide +kernel
theorem dX5_look_78 : decode cX5_look 78 = .ok (.iinc 3 1, 3) := by decide +kernel
theorem dX5_look_81 : decode cX5_look 81 = .ok (.goto (-29), 3) := by decide +kernel
theorem dX5_look_84 : decode cX5_look 84 = .ok (.aload_n 0, 1) := by decide +kernel
theorem dX5_look_85 : decode cX5_look 85 = .ok (.iload_n 2, 1) := by decide +kernel
theorem dX5_look_86 : decode cX5_look 86 = .ok (.invokevirtual 52, 3) := by decide +kernel
theorem dX5_look_89 : decode cX5_look 89 = .ok (.iinc 2 1, 3) := by decide +kernel
theorem dX5_look_92 : decode cX5_look 92 = .ok (.goto (-50), 3) := by decide +kernel
theorem dX5_look_95 : decode cX5_look 95 = .ok (.aload_n 0, 1) := by decide +kernel
theorem dX5_look_96 : decode cX5_look 96 = .ok (.invokevirtual 56, 3) := by decide +kernel
theorem dX5_look_99 : decode cX5_look 99 = .ok (.aload_n 0, 1) := by decide +kernel
theorem dX5_look_100 : decode cX5_look 100 = .ok (.aload_n 1, 1) := by decide +kernel
theorem dX5_look_101 : decode cX5_look 101 = .ok (.getfield 59, 3) := by decide +kernel
theorem dX5_look_104 : decode cX5_look 104 = .ok (.ifCond .ne 8, 3) := by decide +kernel
theorem dX5_look_107 : decode cX5_look 107 = .ok (.ldc 62, 2) := by decide +kernel
theorem dX5_look_109 : decode cX5_look 109 = .ok (.goto 4, 3) := by decide +kernel
theorem dX5_look_112 : decode cX5_look 112 = .ok (.iconst 0, 1) := by decide +kernel
theorem dX5_look_113 : decode cX5_look 113 = .ok (.invokevirtual 63, 3) := by decide +kernel
theorem dX5_look_116 : decode cX5_look 116 = .ok (.return_, 1) := by decide +kernel
theorem dX5_findWays_0 : decode cX5_findWays 0 = .ok (.iconst 0, 1) := by decide +kernel
theorem dX5_findWays_1 : decode cX5_findWays 1 = .ok (.istore_n 2, 1) := by decide +kernel
theorem dX5_findWays_2 : decode cX5_findWays 2 = .ok (.iload_n 2, 1) := by decide +kernel
theorem dX5_findWays_3 : decode cX5_findWays 3 = .ok (.aload_n 0, 1) := by decide +kernel
theorem dX5_findWays_4 : decode cX5_findWays 4 = .ok (.getfield 9, 3) := by decide +kernel
theorem dX5_findWays_7 : decode cX5_findWays 7 = .ok (.if_icmp .ge 74, 3) := by decide +kernel
theorem dX5_findWays_10 : decode cX5_findWays 10 = .ok (.iconst 0, 1) := by decide +kernel
theorem dX5_findWays_11 : decode cX5_findWays 11 = .ok (.istore_n 3, 1) := by decide +kernel
theorem dX5_findWays_12 : decode cX5_findWays 12 = .ok (.iload_n 3, 1) := by decide +kernel
theorem dX5_findWays_13 : decode cX5_findWays 13 = .ok (.aload_n 0, 1) := by decide +kernel
theorem dX5_findWays_14 : decode cX5_findWays 14 = .ok (.getfield 9, 3) := by decide +kernel
theorem dX5_findWays_17 : decode cX5_findWays 17 = .ok (.if_icmp .ge 58, 3) := by decide +kernel
theorem dX5_findWays_20 : decode cX5_findWays 20 = .ok (.aload_n 1, 1) := by decide +kernel
theorem dX5_findWays_21 : decode cX5_findWays 21 = .ok (.iload_n 2, 1) := by decide +kernel
theorem dX5_findWays_22 : decode cX5_findWays 22 = .ok (.iload_n 3, 1) := by decide +kernel
theorem dX5_findWays_23 : decode cX5_findWays 23 = .ok (.invokevirtual 66, 3) := by decide +kernel
theorem dX5_findWays_26 : decode cX5_findWays 26 = .ok (.ifCond .eq 17, 3) := by decide +kernel
theorem dX5_findWays_29 : decode cX5_findWays 29 = .ok (.aload_n 1, 1) := by decide +kernel
theorem dX5_findWays_30 : decode cX5_findWays 30 = .ok (.getfield 70, 3) := by decide +kernel
theorem dX5_findWays_33 : decode cX5_findWays 33 = .ok (.bipush 16, 2) := by decide +kernel
theorem dX5_findWays_35 : decode cX5_findWays 35 = .ok (.iload_n 2, 1) := by decide +kernel
theorem dX5_findWays_36 : decode cX5_findWays 36 = .ok (.imul, 1) := by decide +kernel
theorem dX5_findWays_37 : decode cX5_findWays 37 = .ok (.iload_n 3, 1) := by decide +kernel
theorem dX5_findWays_38 : decode cX5_findWays 38 = .ok (.iadd, 1) := by decide +kernel
theorem dX5_findWays_39 : decode cX5_findWays 39 = .ok (.iaload, 1) := by decide +kernel
theorem dX5_findWays_40 : decode cX5_findWays 40 = .ok (.goto 5, 3) := by decide +kernel
theorem dX5_findWays_43 : decode cX5_findWays 43 = .ok (.ldc 62, 2) := by decide +kernel
theorem dX5_findWays_45 : decode cX5_findWays 45 = .ok (.istore 4, 2) := by decide +kernel
theorem dX5_findWays_47 : decode cX5_findWays 47 = .ok (.aload_n 0, 1) := by decide +kernel
theorem dX5_findWays_48 : decode cX5_findWays 48 = .ok (.getfield 19, 3) := by decide +kernel
theorem dX5_findWays_51 : decode cX5_findWays 51 = .ok (.bipush 16, 2) := by decide +kernel
theorem dX5_findWays_53 : decode cX5_findWays 53 = .ok (.iload_n 2, 1) := by decide +kernel
theorem dX5_findWays_54 : decode cX5_findWays 54 = .ok (.imul, 1) := by decide +kernel
theorem dX5_findWays_55 : decode cX5_findWays 55 = .ok (.iload_n 3, 1) := by decide +kernel
theorem dX5_findWays_56 : decode cX5_findWays 56 = .ok (.iadd, 1) := by decide +kernel
theorem dX5_findWays_57 : decode cX5_findWays 57 = .ok (.iload_n 2, 1) := by decide +kernel
theorem dX5_findWays_58 : decode cX5_findWays 58 = .ok (.iload_n 3, 1) := by decide +kernel
theorem dX5_findWays_59 : decode cX5_findWays 59 = .ok (.if_icmp .ne 7, 3) := by decide +kernel
theorem dX5_findWays_62 : decode cX5_findWays 62 = .ok (.iconst 0, 1) := by decide +kernel
theorem dX5_findWays_63 : decode cX5_findWays 63 = .ok (.goto 5, 3) := by decide +kernel
theorem dX5_findWays_66 : decode cX5_findWays 66 = .ok (.iload 4, 2) := by decide +kernel
theorem dX5_findWays_68 : decode cX5_findWays 68 = .ok (.iastore, 1) := by decide +kernel
theorem dX5_findWays_69 : decode cX5_findWays 69 = .ok (.iinc 3 1, 3) := by decide +kernel
theorem dX5_findWays_72 : decode cX5_findWays 72 = .ok (.goto (-60), 3) := by decide +kernel
theorem dX5_findWays_75 : decode cX5_findWays 75 = .ok (.iinc 2 1, 3) := by decide +kernel
theorem dX5_findWays_78 : decode cX5_findWays 78 = .ok (.goto (-76), 3) := by decide +kernel
theorem dX5_findWays_81 : decode cX5_findWays 81 = .ok (.iconst 0, 1) := by decide +kernel
theorem dX5_findWays_82 : decode cX5_findWays 82 = .ok (.istore_n 2, 1) := by decide +kernel
theorem dX5_findWays_83 : decode cX5_findWays 83 = .ok (.iload_n 2, 1) := by decide +kernel
theorem dX5_findWays_84 : decode cX5_findWays 84 = .ok (.aload_n 0, 1) := by decide +kernel
theorem dX5_findWays_85 : decode cX5_findWays 85 = .ok (.getfield 9, 3) := by decide +kernel
theorem dX5_findWays_88 : decode cX5_findWays 88 = .ok (.if_icmp .ge 31, 3) := by decide +kernel
theorem dX5_findWays_91 : decode cX5_findWays 91 = .ok (.iconst 0, 1) := by decide +kernel
theorem dX5_findWays_92 : decode cX5_findWays 92 = .ok (.istore_n 3, 1) := by decide +kernel
theorem dX5_findWays_93 : decode cX5_findWays 93 = .ok (.iload_n 3, 1) := by decide +kernel
theorem dX5_findWays_94 : decode cX5_findWays 94 = .ok (.aload_n 0, 1) := by decide +kernel
theorem dX5_findWays_95 : decode cX5_findWays 95 = .ok (.getfield 9, 3) := by decide +kernel
theorem dX5_findWays_98 : decode cX5_findWays 98 = .ok (.if_icmp .ge 15, 3) := by decide +kernel
theorem dX5_findWays_101 : decode cX5_findWays 101 = .ok (.aload_n 0, 1) := by decide +kernel
theorem dX5_findWays_102 : decode cX5_findWays 102 = .ok (.iload_n 3, 1) := by decide +kernel
theorem dX5_findWays_103 : decode cX5_findWays 103 = .ok (.iload_n 2, 1) := by decide +kernel
theorem dX5_findWays_104 : decode cX5_findWays 104 = .ok (.invokevirtual 73, 3) := by decide +kernel
theorem dX5_findWays_107 : decode cX5_findWays 107 = .ok (.iinc 3 1, 3) := by decide +kernel
theorem dX5_findWays_110 : decode cX5_findWays 110 = .ok (.goto (-17), 3) := by decide +kernel
theorem dX5_findWays_113 : decode cX5_findWays 113 = .ok (.iinc 2 1, 3) := by decide +kernel
theorem dX5_findWays_116 : decode cX5_findWays 116 = .ok (.goto (-33), 3) := by decide +kernel
theorem dX5_findWays_119 : decode cX5_findWays 119 = .ok (.return_, 1) := by decide +kernel
theorem dX5_shortenWays_0 : decode cX5_shortenWays 0 = .ok (.aload_n 0, 1) := by decide +kernel
theorem dX5_shortenWays_1 : decode cX5_shortenWays 1 = .ok (.getfield 19, 3) := by decide +kernel
theorem dX5_shortenWays_4 : decode cX5_shortenWays 4 = .ok (.bipush 16, 2) := by decide +kernel
theorem dX5_shortenWays_6 : decode cX5_shortenWays 6 = .ok (.iload_n 1, 1) := by decide +kernel
theorem dX5_shortenWays_7 : decode cX5_shortenWays 7 = .ok (.imul, 1) := by decide +kernel
theorem dX5_shortenWays_8 : decode cX5_shortenWays 8 = .ok (.iload_n 2, 1) := by decide +kernel
theorem dX5_shortenWays_9 : decode cX5_shortenWays 9 = .ok (.iadd, 1) := by decide +kernel
theorem dX5_shortenWays_10 : decode cX5_shortenWays 10 = .ok (.iaload, 1) := by decide +kernel
theorem dX5_shortenWays_11 : decode cX5_shortenWays 11 = .ok (.istore_n 3, 1) := by decide +kernel
theorem dX5_shortenWays_12 : decode cX5_shortenWays 12 = .ok (.iload_n 3, 1) := by decide +kernel
theorem dX5_shortenWays_13 : decode cX5_shortenWays 13 = .ok (.ldc 62, 2) := by decide +kernel
theorem dX5_shortenWays_15 : decode cX5_shortenWays 15 = .ok (.if_icmp .lt 4, 3) := by decide +kernel
theorem dX5_shortenWays_18 : decode cX5_shortenWays 18 = .ok (.return_, 1) := by decide +kernel
theorem dX5_shortenWays_19 : decode cX5_shortenWays 19 = .ok (.iconst 0, 1) := by decide +kernel
theorem dX5_shortenWays_20 : decode cX5_shortenWays 20 = .ok (.istore 4, 2) := by decide +kernel
theorem dX5_shortenWays_22 : decode cX5_shortenWays 22 = .ok (.iload 4, 2) := by decide +kernel
theorem dX5_shortenWays_24 : decode cX5_shortenWays 24 = .ok (.aload_n 0, 1) := by decide +kernel
theorem dX5_shortenWays_25 : decode cX5_shortenWays 25 = .ok (.getfield 9, 3) := by decide +kernel
theorem dX5_shortenWays_28 : decode cX5_shortenWays 28 = .ok (.if_icmp .ge 56, 3) := by decide +kernel
theorem dX5_shortenWays_31 : decode cX5_shortenWays 31 = .ok (.iload_n 3, 1) := by decide +kernel
theorem dX5_shortenWays_32 : decode cX5_shortenWays 32 = .ok (.aload_n 0, 1) := by decide +kernel
theorem dX5_shortenWays_33 : decode cX5_shortenWays 33 = .ok (.getfield 19, 3) := by decide +kernel
theorem dX5_shortenWays_36 : decode cX5_shortenWays 36 = .ok (.bipush 16, 2) := by decide +kernel
theorem dX5_shortenWays_38 : decode cX5_shortenWays 38 = .ok (.iload_n 2, 1) := by decide +kernel
theorem dX5_shortenWays_39 : decode cX5_shortenWays 39 = .ok (.imul, 1) := by decide +kernel
theorem dX5_shortenWays_40 : decode cX5_shortenWays 40 = .ok (.iload 4, 2) := by decide +kernel
theorem dX5_shortenWays_42 : decode cX5_shortenWays 42 = .ok (.iadd, 1) := by decide +kernel
theorem dX5_shortenWays_43 : decode cX5_shortenWays 43 = .ok (.iaload, 1) := by decide +kernel
theorem dX5_shortenWays_44 : decode cX5_shortenWays 44 = .ok (.iadd, 1) := by decide +kernel
theorem dX5_shortenWays_45 : decode cX5_shortenWays 45 = .ok (.istore 5, 2) := by decide +kernel
theorem dX5_shortenWays_47 : decode cX5_shortenWays 47 = .ok (.iload 5, 2) := by decide +kernel
theorem dX5_shortenWays_49 : decode cX5_shortenWays 49 = .ok (.aload_n 0, 1) := by decide +kernel
theorem dX5_shortenWays_50 : decode cX5_shortenWays 50 = .ok (.getfield 19, 3) := by decide +kernel
theorem dX5_shortenWays_53 : decode cX5_shortenWays 53 = .ok (.bipush 16, 2) := by decide +kernel
theorem dX5_shortenWays_55 : decode cX5_shortenWays 55 = .ok (.iload_n 1, 1) := by decide +kernel
theorem dX5_shortenWays_56 : decode cX5_shortenWays 56 = .ok (.imul, 1) := by decide +kernel
theorem dX5_shortenWays_57 : decode cX5_shortenWays 57 = .ok (.iload 4, 2) := by decide +kernel
theorem dX5_shortenWays_59 : decode cX5_shortenWays 59 = .ok (.iadd, 1) := by decide +kernel
theorem dX5_shortenWays_60 : decode cX5_shortenWays 60 = .ok (.iaload, 1) := by decide +kernel
theorem dX5_shortenWays_61 : decode cX5_shortenWays 61 = .ok (.if_icmp .ge 17, 3) := by decide +kernel
theorem dX5_shortenWays_64 : decode cX5_shortenWays 64 = .ok (.aload_n 0, 1) := by decide +kernel
theorem dX5_shortenWays_65 : decode cX5_shortenWays 65 = .ok (.getfield 19, 3) := by decide +kernel
theorem dX5_shortenWays_68 : decode cX5_shortenWays 68 = .ok (.bipush 16, 2) := by decide +kernel
theorem dX5_shortenWays_70 : decode cX5_shortenWays 70 = .ok (.iload_n 1, 1) := by decide +kernel
theorem dX5_shortenWays_71 : decode cX5_shortenWays 71 = .ok (.imul, 1) := by decide +kernel
theorem dX5_shortenWays_72 : decode cX5_shortenWays 72 = .ok (.iload 4, 2) := by decide +kernel
theorem dX5_shortenWays_74 : decode cX5_shortenWays 74 = .ok (.iadd, 1) := by decide +kernel
theorem dX5_shortenWays_75 : decode cX5_shortenWays 75 = .ok (.iload 5, 2) := by decide +kernel
theorem dX5_shortenWays_77 : decode cX5_shortenWays 77 = .ok (.iastore, 1) := by decide +kernel
theorem dX5_shortenWays_78 : decode cX5_shortenWays 78 = .ok (.iinc 4 1, 3) := by decide +kernel
theorem dX5_shortenWays_81 : decode cX5_shortenWays 81 = .ok (.goto (-59), 3) := by decide +kernel
theorem dX5_shortenWays_84 : decode cX5_shortenWays 84 = .ok (.return_, 1) := by decide +kernel
theorem dX5_answerOf_0 : decode cX5_answerOf 0 = .ok (.aload_n 0, 1) := by decide +kernel
theorem dX5_answerOf_1 : decode cX5_answerOf 1 = .ok (.getfield 19, 3) := by decide +kernel
theorem dX5_answerOf_4 : decode cX5_answerOf 4 = .ok (.bipush 16, 2) := by decide +kernel
theorem dX5_answerOf_6 : decode cX5_answerOf 6 = .ok (.iload_n 2, 1) := by decide +kernel
theorem dX5_answerOf_7 : decode cX5_answerOf 7 = .ok (.imul, 1) := by decide +kernel
theorem dX5_answerOf_8 : decode cX5_answerOf 8 = .ok (.iload_n 3, 1) := by decide +kernel
theorem dX5_answerOf_9 : decode cX5_answerOf 9 = .ok (.iadd, 1) := by decide +kernel
theorem dX5_answerOf_10 : decode cX5_answerOf 10 = .ok (.iaload, 1) := by decide +kernel
theorem dX5_answerOf_11 : decode cX5_answerOf 11 = .ok (.istore 4, 2) := by decide +kernel
theorem dX5_answerOf_13 : decode cX5_answerOf 13 = .ok (.aload_n 0, 1) := by decide +kernel
theorem dX5_answerOf_14 : decode cX5_answerOf 14 = .ok (.getfield 15, 3) := by decide +kernel
theorem dX5_answerOf_17 : decode cX5_answerOf 17 = .ok (.iload_n 2, 1) := by decide +kernel
theorem dX5_answerOf_18 : decode cX5_answerOf 18 = .ok (.iaload, 1) := by decide +kernel
theorem dX5_answerOf_19 : decode cX5_answerOf 19 = .ok (.iload_n 3, 1) := by decide +kernel
theorem dX5_answerOf_20 : decode cX5_answerOf 20 = .ok (.ishr, 1) := by decide +kernel
theorem dX5_answerOf_21 : decode cX5_answerOf 21 = .ok (.iconst 1, 1) := by decide +kernel
theorem dX5_answerOf_22 : decode cX5_answerOf 22 = .ok (.iand, 1) := by decide +kernel
theorem dX5_answerOf_23 : decode cX5_answerOf 23 = .ok (.iconst 1, 1) := by decide +kernel
theorem dX5_answerOf_24 : decode cX5_answerOf 24 = .ok (.if_icmp .ne 7, 3) := by decide +kernel
theorem dX5_answerOf_27 : decode cX5_answerOf 27 = .ok (.iconst 1, 1) := by decide +kernel
theorem dX5_answerOf_28 : decode cX5_answerOf 28 = .ok (.goto 4, 3) := by decide +kernel
theorem dX5_answerOf_31 : decode cX5_answerOf 31 = .ok (.iconst 0, 1) := by decide +kernel
theorem dX5_answerOf_32 : decode cX5_answerOf 32 = .ok (.istore 5, 2) := by decide +kernel
theorem dX5_answerOf_34 : decode cX5_answerOf 34 = .ok (.aload_n 1, 1) := by decide +kernel
theorem dX5_answerOf_35 : decode cX5_answerOf 35 = .ok (.getfield 59, 3) := by decide +kernel
theorem dX5_answerOf_38 : decode cX5_answerOf 38 = .ok (.tableswitch 89 1 4 #[30, 46, 57, 72], 30) := by decide +kernel
theorem dX5_answerOf_68 : decode cX5_answerOf 68 = .ok (.iload_n 3, 1) := by decide +kernel
theorem dX5_answerOf_69 : decode cX5_answerOf 69 = .ok (.iload_n 2, 1) := by decide +kernel
theorem dX5_answerOf_70 : decode cX5_answerOf 70 = .ok (.if_icmp .eq 8, 3) := by decide +kernel
theorem dX5_answerOf_73 : decode cX5_answerOf 73 = .ok (.iload 5, 2) := by decide +kernel
theorem dX5_answerOf_75 : decode cX5_answerOf 75 = .ok (.ifCond .eq 7, 3) := by decide +kernel
theorem dX5_answerOf_78 : decode cX5_answerOf 78 = .ok (.iconst 1, 1) := by decide +kernel
theorem dX5_answerOf_79 : decode cX5_answerOf 79 = .ok (.goto 4, 3) := by decide +kernel
theorem dX5_answerOf_82 : decode cX5_answerOf 82 = .ok (.iconst 0, 1) := by decide +kernel
theorem dX5_answerOf_83 : decode cX5_answerOf 83 = .ok (.ireturn, 1) := by decide +kernel
theorem dX5_answerOf_84 : decode cX5_answerOf 84 = .ok (.iload 5, 2) := by decide +kernel
theorem dX5_answerOf_86 : decode cX5_answerOf 86 = .ok (.ifCond .eq 7, 3) := by decide +kernel
theorem dX5_answerOf_89 : decode cX5_answerOf 89 = .ok (.iconst 1, 1) := by decide +kernel
theorem dX5_answerOf_90 : decode cX5_answerOf 90 = .ok (.goto 4, 3) := by decide +kernel
theorem dX5_answerOf_93 : decode cX5_answerOf 93 = .ok (.iconst 0, 1) := by decide +kernel
theorem dX5_answerOf_94 : decode cX5_answerOf 94 = .ok (.ireturn, 1) := by decide +kernel
theorem dX5_answerOf_95 : decode cX5_answerOf 95 = .ok (.iload 4, 2) := by decide +kernel
theorem dX5_answerOf_97 : decode cX5_answerOf 97 = .ok (.aload_n 1, 1) := by decide +kernel
theorem dX5_answerOf_98 : decode cX5_answerOf 98 = .ok (.getfield 77, 3) := by decide +kernel
theorem dX5_answerOf_101 : decode cX5_answerOf 101 = .ok (.if_icmp .gt 7, 3) := by decide +kernel
theorem dX5_answerOf_104 : decode cX5_answerOf 104 = .ok (.iconst 1, 1) := by decide +kernel
theorem dX5_answerOf_105 : decode cX5_answerOf 105 = .ok (.goto 4, 3) := by decide +kernel
theorem dX5_answerOf_108 : decode cX5_answerOf 108 = .ok (.iconst 0, 1) := by decide +kernel
theorem dX5_answerOf_109 : decode cX5_answerOf 109 = .ok (.ireturn, 1) := by decide +kernel
theorem dX5_answerOf_110 : decode cX5_answerOf 110 = .ok (.iload 4, 2) := by decide +kernel
theorem dX5_answerOf_112 : decode cX5_answerOf 112 = .ok (.aload_n 1, 1) := by decide +kernel
theorem dX5_answerOf_113 : decode cX5_answerOf 113 = .ok (.getfield 80, 3) := by decide +kernel
theorem dX5_answerOf_116 : decode cX5_answerOf 116 = .ok (.iload_n 2, 1) := by decide +kernel
theorem dX5_answerOf_117 : decode cX5_answerOf 117 = .ok (.iaload, 1) := by decide +kernel
theorem dX5_answerOf_118 : decode cX5_answerOf 118 = .ok (.if_icmp .gt 7, 3) := by decide +kernel
theorem dX5_answerOf_121 : decode cX5_answerOf 121 = .ok (.iconst 1, 1) := by decide +kernel
theorem dX5_answerOf_122 : decode cX5_answerOf 122 = .ok (.goto 4, 3) := by decide +kernel
theorem dX5_answerOf_125 : decode cX5_answerOf 125 = .ok (.iconst 0, 1) := by decide +kernel
theorem dX5_answerOf_126 : decode cX5_answerOf 126 = .ok (.ireturn, 1) := by decide +kernel
theorem dX5_answerOf_127 : decode cX5_answerOf 127 = .ok (.iload 4, 2) := by decide +kernel
theorem dX5_answerOf_129 : decode cX5_answerOf 129 = .ok (.ireturn, 1) := by decide +kernel
theorem dX5_groupPosts_0 : decode cX5_groupPosts 0 = .ok (.iconst 0, 1) := by decide +kernel
theorem dX5_groupPosts_1 : decode cX5_groupPosts 1 = .ok (.istore_n 2, 1) := by decide +kernel
theorem dX5_groupPosts_2 : decode cX5_groupPosts 2 = .ok (.iconst 0, 1) := by decide +kernel
theorem dX5_groupPosts_3 : decode cX5_groupPosts 3 = .ok (.istore_n 3, 1) := by decide +kernel
theorem dX5_groupPosts_4 : decode cX5_groupPosts 4 = .ok (.iconst 0, 1) := by decide +kernel
theorem dX5_groupPosts_5 : decode cX5_groupPosts 5 = .ok (.istore 4, 2) := by decide +kernel
theorem dX5_groupPosts_7 : decode cX5_groupPosts 7 = .ok (.iload 4, 2) := by decide +kernel
theorem dX5_groupPosts_9 : decode cX5_groupPosts 9 = .ok (.aload_n 0, 1) := by decide +kernel
theorem dX5_groupPosts_10 : decode cX5_groupPosts 10 = .ok (.getfield 9, 3) := by decide +kernel
theorem dX5_groupPosts_13 : decode cX5_groupPosts 13 = .ok (.if_icmp .ge 48, 3) := by decide +kernel
theorem dX5_groupPosts_16 : decode cX5_groupPosts 16 = .ok (.iload_n 3, 1) := by decide +kernel
theorem dX5_groupPosts_17 : decode cX5_groupPosts 17 = .ok (.iload 4, 2) := by decide +kernel
theorem dX5_groupPosts_19 : decode cX5_groupPosts 19 = .ok (.ishr, 1) := by decide +kernel
theorem dX5_groupPosts_20 : decode cX5_groupPosts 20 = .ok (.iconst 1, 1) := by decide +kernel
theorem dX5_groupPosts_21 : decode cX5_groupPosts 21 = .ok (.iand, 1) := by decide +kernel
theorem dX5_groupPosts_22 : decode cX5_groupPosts 22 = .ok (.ifCond .ne 33, 3) := by decide +kernel
theorem dX5_groupPosts_25 : decode cX5_groupPosts 25 = .ok (.aload_n 0, 1) := by decide +kernel
theorem dX5_groupPosts_26 : decode cX5_groupPosts 26 = .ok (.iload_n 1, 1) := by decide +kernel
theorem dX5_groupPosts_27 : decode cX5_groupPosts 27 = .ok (.iload 4, 2) := by decide +kernel
theorem dX5_groupPosts_29 : decode cX5_groupPosts 29 = .ok (.invokevirtual 83, 3) := by decide +kernel
theorem dX5_groupPosts_32 : decode cX5_groupPosts 32 = .ok (.istore 5, 2) := by decide +kernel
theorem dX5_groupPosts_34 : decode cX5_groupPosts 34 = .ok (.aload_n 0, 1) := by decide +kernel
theorem dX5_groupPosts_35 : decode cX5_groupPosts 35 = .ok (.getfield 31, 3) := by decide +kernel
theorem dX5_groupPosts_38 : decode cX5_groupPosts 38 = .ok (.bipush 16, 2) := by decide +kernel
theorem dX5_groupPosts_40 : decode cX5_groupPosts 40 = .ok (.iload_n 1, 1) := by decide +kernel
theorem dX5_groupPosts_41 : decode cX5_groupPosts 41 = .ok (.imul, 1) := by decide +kernel
theorem dX5_groupPosts_42 : decode cX5_groupPosts 42 = .ok (.iload_n 2, 1) := by decide +kernel
theorem dX5_groupPosts_43 : decode cX5_groupPosts 43 = .ok (.iadd, 1) := by decide +kernel
theorem dX5_groupPosts_44 : decode cX5_groupPosts 44 = .ok (.iload 5, 2) := by decide +kernel
theorem dX5_groupPosts_46 : decode cX5_groupPosts 46 = .ok (.iastore, 1) := by decide +kernel
theorem dX5_groupPosts_47 : decode cX5_groupPosts 47 = .ok (.iload_n 3, 1) := by decide +kernel
theorem dX5_groupPosts_48 : decode cX5_groupPosts 48 = .ok (.iload 5, 2) := by decide +kernel
theorem dX5_groupPosts_50 : decode cX5_groupPosts 50 = .ok (.ior, 1) := by decide +kernel
theorem dX5_groupPosts_51 : decode cX5_groupPosts 51 = .ok (.istore_n 3, 1) := by decide +kernel
theorem dX5_groupPosts_52 : decode cX5_groupPosts 52 = .ok (.iinc 2 1, 3) := by decide +kernel
theorem dX5_groupPosts_55 : decode cX5_groupPosts 55 = .ok (.iinc 4 1, 3) := by decide +kernel
theorem dX5_groupPosts_58 : decode cX5_groupPosts 58 = .ok (.goto (-51), 3) := by decide +kernel
theorem dX5_groupPosts_61 : decode cX5_groupPosts 61 = .ok (.aload_n 0, 1) := by decide +kernel
theorem dX5_groupPosts_62 : decode cX5_groupPosts 62 = .ok (.getfield 34, 3) := by decide +kernel
theorem dX5_groupPosts_65 : decode cX5_groupPosts 65 = .ok (.iload_n 1, 1) := by decide +kernel
theorem dX5_groupPosts_66 : decode cX5_groupPosts 66 = .ok (.iload_n 2, 1) := by decide +kernel
theorem dX5_groupPosts_67 : decode cX5_groupPosts 67 = .ok (.iastore, 1) := by decide +kernel
theorem dX5_groupPosts_68 : decode cX5_groupPosts 68 = .ok (.return_, 1) := by decide +kernel
theorem dX5_sameAnswer_0 : decode cX5_sameAnswer 0 = .ok (.iconst 0, 1) := by decide +kernel
theorem dX5_sameAnswer_1 : decode cX5_sameAnswer 1 = .ok (.istore_n 3, 1) := by decide +kernel
theorem dX5_sameAnswer_2 : decode cX5_sameAnswer 2 = .ok (.iconst 0, 1) := by decide +kernel
theorem dX5_sameAnswer_3 : decode cX5_sameAnswer 3 = .ok (.istore 4, 2) := by decide +kernel
theorem dX5_sameAnswer_5 : decode cX5_sameAnswer 5 = .ok (.iload 4, 2) := by decide +kernel
theorem dX5_sameAnswer_7 : decode cX5_sameAnswer 7 = .ok (.aload_n 0, 1) := by decide +kernel
theorem dX5_sameAnswer_8 : decode cX5_sameAnswer 8 = .ok (.getfield 9, 3) := by decide +kernel
theorem dX5_sameAnswer_11 : decode cX5_sameAnswer 11 = .ok (.if_icmp .ge 42, 3) := by decide +kernel
theorem dX5_sameAnswer_14 : decode cX5_sameAnswer 14 = .ok (.aload_n 0, 1) := by decide +kernel
theorem dX5_sameAnswer_15 : decode cX5_sameAnswer 15 = .ok (.getfield 22, 3) := by decide +kernel
theorem dX5_sameAnswer_18 : decode cX5_sameAnswer 18 = .ok (.bipush 16, 2) := by decide +kernel
theorem dX5_sameAnswer_20 : decode cX5_sameAnswer 20 = .ok (.iload_n 1, 1) := by decide +kernel
theorem dX5_sameAnswer_21 : decode cX5_sameAnswer 21 = .ok (.imul, 1) := by decide +kernel
theorem dX5_sameAnswer_22 : decode cX5_sameAnswer 22 = .ok (.iload 4, 2) := by decide +kernel
theorem dX5_sameAnswer_24 : decode cX5_sameAnswer 24 = .ok (.iadd, 1) := by decide +kernel
theorem dX5_sameAnswer_25 : decode cX5_sameAnswer 25 = .ok (.iaload, 1) := by decide +kernel
theorem dX5_sameAnswer_26 : decode cX5_sameAnswer 26 = .ok (.aload_n 0, 1) := by decide +kernel
theorem dX5_sameAnswer_27 : decode cX5_sameAnswer 27 = .ok (.getfield 22, 3) := by decide +kernel
theorem dX5_sameAnswer_30 : decode cX5_sameAnswer 30 = .ok (.bipush 16, 2) := by decide +kernel
theorem dX5_sameAnswer_32 : decode cX5_sameAnswer 32 = .ok (.iload_n 1, 1) := by decide +kernel
theorem dX5_sameAnswer_33 : decode cX5_sameAnswer 33 = .ok (.imul, 1) := by decide +kernel
theorem dX5_sameAnswer_34 : decode cX5_sameAnswer 34 = .ok (.iload_n 2, 1) := by decide +kernel
theorem dX5_sameAnswer_35 : decode cX5_sameAnswer 35 = .ok (.iadd, 1) := by decide +kernel
theorem dX5_sameAnswer_36 : decode cX5_sameAnswer 36 = .ok (.iaload, 1) := by decide +kernel
theorem dX5_sameAnswer_37 : decode cX5_sameAnswer 37 = .ok (.if_icmp .ne 10, 3) := by decide +kernel
theorem dX5_sameAnswer_40 : decode cX5_sameAnswer 40 = .ok (.iload_n 3, 1) := by decide +kernel
theorem dX5_sameAnswer_41 : decode cX5_sameAnswer 41 = .ok (.iconst 1, 1) := by decide +kernel
theorem dX5_sameAnswer_42 : decode cX5_sameAnswer 42 = .ok (.iload 4, 2) := by decide +kernel
theorem dX5_sameAnswer_44 : decode cX5_sameAnswer 44 = .ok (.ishl, 1) := by decide +kernel
theorem dX5_sameAnswer_45 : decode cX5_sameAnswer 45 = .ok (.ior, 1) := by decide +kernel
theorem dX5_sameAnswer_46 : decode cX5_sameAnswer 46 = .ok (.istore_n 3, 1) := by decide +kernel
theorem dX5_sameAnswer_47 : decode cX5_sameAnswer 47 = .ok (.iinc 4 1, 3) := by decide +kernel
theorem dX5_sameAnswer_50 : decode cX5_sameAnswer 50 = .ok (.goto (-45), 3) := by decide +kernel
theorem dX5_sameAnswer_53 : decode cX5_sameAnswer 53 = .ok (.iload_n 3, 1) := by decide +kernel
theorem dX5_sameAnswer_54 : decode cX5_sameAnswer 54 = .ok (.ireturn, 1) := by decide +kernel
theorem dX5_findParters_0 : decode cX5_findParters 0 = .ok (.iconst 0, 1) := by decide +kernel
theorem dX5_findParters_1 : decode cX5_findParters 1 = .ok (.istore_n 1, 1) := by decide +kernel
theorem dX5_findParters_2 : decode cX5_findParters 2 = .ok (.iload_n 1, 1) := by decide +kernel
theorem dX5_findParters_3 : decode cX5_findParters 3 = .ok (.aload_n 0, 1) := by decide +kernel
theorem dX5_findParters_4 : decode cX5_findParters 4 = .ok (.getfield 9, 3) := by decide +kernel
theorem dX5_findParters_7 : decode cX5_findParters 7 = .ok (.if_icmp .ge 93, 3) := by decide +kernel
theorem dX5_findParters_10 : decode cX5_findParters 10 = .ok (.iload_n 1, 1) := by decide +kernel
theorem dX5_findParters_11 : decode cX5_findParters 11 = .ok (.iconst 1, 1) := by decide +kernel
theorem dX5_findParters_12 : decode cX5_findParters 12 = .ok (.iadd, 1) := by decide +kernel
theorem dX5_findParters_13 : decode cX5_findParters 13 = .ok (.istore_n 2, 1) := by decide +kernel
theorem dX5_findParters_14 : decode cX5_findParters 14 = .ok (.iload_n 2, 1) := by decide +kernel
theorem dX5_findParters_15 : decode cX5_findParters 15 = .ok (.aload_n 0, 1) := by decide +kernel
theorem dX5_findParters_16 : decode cX5_findParters 16 = .ok (.getfield 9, 3) := by decide +kernel
theorem dX5_findParters_19 : decode cX5_findParters 19 = .ok (.if_icmp .ge 75, 3) := by decide +kernel
theorem dX5_findParters_22 : decode cX5_findParters 22 = .ok (.iconst 0, 1) := by decide +kernel
theorem dX5_findParters_23 : decode cX5_findParters 23 = .ok (.istore_n 3, 1) := by decide +kernel
theorem dX5_findParters_24 : decode cX5_findParters 24 = .ok (.iconst 0, 1) := by decide +kernel
theorem dX5_findParters_25 : decode cX5_findParters 25 = .ok (.istore 4, 2) := by decide +kernel
theorem dX5_findParters_27 : decode cX5_findParters 27 = .ok (.iload 4, 2) := by decide +kernel
theorem dX5_findParters_29 : decode cX5_findParters 29 = .ok (.aload_n 0, 1) := by decide +kernel
theorem dX5_findParters_30 : decode cX5_findParters 30 = .ok (.getfield 9, 3) := by decide +kernel
theorem dX5_findParters_33 : decode cX5_findParters 33 = .ok (.if_icmp .ge 43, 3) := by decide +kernel
theorem dX5_findParters_36 : decode cX5_findParters 36 = .ok (.aload_n 0, 1) := by decide +kernel
theorem dX5_findParters_37 : decode cX5_findParters 37 = .ok (.getfield 22, 3) := by decide +kernel
theorem dX5_findParters_40 : decode cX5_findParters 40 = .ok (.bipush 16, 2) := by decide +kernel
theorem dX5_findParters_42 : decode cX5_findParters 42 = .ok (.iload 4, 2) := by decide +kernel
theorem dX5_findParters_44 : decode cX5_findParters 44 = .ok (.imul, 1) := by decide +kernel
theorem dX5_findParters_45 : decode cX5_findParters 45 = .ok (.iload_n 1, 1) := by decide +kernel
theorem dX5_findParters_46 : decode cX5_findParters 46 = .ok (.iadd, 1) := by decide +kernel
theorem dX5_findParters_47 : decode cX5_findParters 47 = .ok (.iaload, 1) := by decide +kernel
theorem dX5_findParters_48 : decode cX5_findParters 48 = .ok (.aload_n 0, 1) := by decide +kernel
theorem dX5_findParters_49 : decode cX5_findParters 49 = .ok (.getfield 22, 3) := by decide +kernel
theorem dX5_findParters_52 : decode cX5_findParters 52 = .ok (.bipush 16, 2) := by decide +kernel
theorem dX5_findParters_54 : decode cX5_findParters 54 = .ok (.iload 4, 2) := by decide +kernel
theorem dX5_findParters_56 : decode cX5_findParters 56 = .ok (.imul, 1) := by decide +kernel
theorem dX5_findParters_57 : decode cX5_findParters 57 = .ok (.iload_n 2, 1) := by decide +kernel
theorem dX5_findParters_58 : decode cX5_findParters 58 = .ok (.iadd, 1) := by decide +kernel
theorem dX5_findParters_59 : decode cX5_findParters 59 = .ok (.iaload, 1) := by decide +kernel
theorem dX5_findParters_60 : decode cX5_findParters 60 = .ok (.if_icmp .eq 10, 3) := by decide +kernel
theorem dX5_findParters_63 : decode cX5_findParters 63 = .ok (.iload_n 3, 1) := by decide +kernel
theorem dX5_findParters_64 : decode cX5_findParters 64 = .ok (.iconst 1, 1) := by decide +kernel
theorem dX5_findParters_65 : decode cX5_findParters 65 = .ok (.iload 4, 2) := by decide +kernel
theorem dX5_findParters_67 : decode cX5_findParters 67 = .ok (.ishl, 1) := by decide +kernel
theorem dX5_findParters_68 : decode cX5_findParters 68 = .ok (.ior, 1) := by decide +kernel
theorem dX5_findParters_69 : decode cX5_findParters 69 = .ok (.istore_n 3, 1) := by decide +kernel
theorem dX5_findParters_70 : decode cX5_findParters 70 = .ok (.iinc 4 1, 3) := by decide +kernel
theorem dX5_findParters_73 : decode cX5_findParters 73 = .ok (.goto (-46), 3) := by decide +kernel
theorem dX5_findParters_76 : decode cX5_findParters 76 = .ok (.aload_n 0, 1) := by decide +kernel
theorem dX5_findParters_77 : decode cX5_findParters 77 = .ok (.getfield 25, 3) := by decide +kernel
theorem dX5_findParters_80 : decode cX5_findParters 80 = .ok (.bipush 16, 2) := by decide +kernel
theorem dX5_findParters_82 : decode cX5_findParters 82 = .ok (.iload_n 1, 1) := by decide +kernel
theorem dX5_findParters_83 : decode cX5_findParters 83 = .ok (.imul, 1) := by decide +kernel
theorem dX5_findParters_84 : decode cX5_findParters 84 = .ok (.iload_n 2, 1) := by decide +kernel
theorem dX5_findParters_85 : decode cX5_findParters 85 = .ok (.iadd, 1) := by decide +kernel
theorem dX5_findParters_86 : decode cX5_findParters 86 = .ok (.iload_n 3, 1) := by decide +kernel
theorem dX5_findParters_87 : decode cX5_findParters 87 = .ok (.iastore, 1) := by decide +kernel
theorem dX5_findParters_88 : decode cX5_findParters 88 = .ok (.iinc 2 1, 3) := by decide +kernel
theorem dX5_findParters_91 : decode cX5_findParters 91 = .ok (.goto (-77), 3) := by decide +kernel
theorem dX5_findParters_94 : decode cX5_findParters 94 = .ok (.iinc 1 1, 3) := by decide +kernel
theorem dX5_findParters_97 : decode cX5_findParters 97 = .ok (.goto (-95), 3) := by decide +kernel
theorem dX5_findParters_100 : decode cX5_findParters 100 = .ok (.return_, 1) := by decide +kernel
theorem dX5_findYes_0 : decode cX5_findYes 0 = .ok (.iconst 0, 1) := by decide +kernel
theorem dX5_findYes_1 : decode cX5_findYes 1 = .ok (.istore_n 2, 1) := by decide +kernel
theorem dX5_findYes_2 : decode cX5_findYes 2 = .ok (.iload_n 2, 1) := by decide +kernel
theorem dX5_findYes_3 : decode cX5_findYes 3 = .ok (.aload_n 0, 1) := by decide +kernel
theorem dX5_findYes_4 : decode cX5_findYes 4 = .ok (.getfield 9, 3) := by decide +kernel
theorem dX5_findYes_7 : decode cX5_findYes 7 = .ok (.if_icmp .ge 59, 3) := by decide +kernel
theorem dX5_findYes_10 : decode cX5_findYes 10 = .ok (.iconst 0, 1) := by decide +kernel
theorem dX5_findYes_11 : decode cX5_findYes 11 = .ok (.istore_n 3, 1) := by decide +kernel
theorem dX5_findYes_12 : decode cX5_findYes 12 = .ok (.iconst 0, 1) := by decide +kernel
theorem dX5_findYes_13 : decode cX5_findYes 13 = .ok (.istore 4, 2) := by decide +kernel
theorem dX5_findYes_15 : decode cX5_findYes 15 = .ok (.iload 4, 2) := by decide +kernel
theorem dX5_findYes_17 : decode cX5_findYes 17 = .ok (.aload_n 0, 1) := by decide +kernel
theorem dX5_findYes_18 : decode cX5_findYes 18 = .ok (.getfield 9, 3) := by decide +kernel
theorem dX5_findYes_21 : decode cX5_findYes 21 = .ok (.if_icmp .ge 32, 3) := by decide +kernel
theorem dX5_findYes_24 : decode cX5_findYes 24 = .ok (.aload_n 0, 1) := by decide +kernel
theorem dX5_findYes_25 : decode cX5_findYes 25 = .ok (.getfield 22, 3) := by decide +kernel
theorem dX5_findYes_28 : decode cX5_findYes 28 = .ok (.bipush 16, 2) := by decide +kernel
theorem dX5_findYes_30 : decode cX5_findYes 30 = .ok (.iload 4, 2) := by decide +kernel
theorem dX5_findYes_32 : decode cX5_findYes 32 = .ok (.imul, 1) := by decide +kernel
theorem dX5_findYes_33 : decode cX5_findYes 33 = .ok (.iload_n 2, 1) := by decide +kernel
theorem dX5_findYes_34 : decode cX5_findYes 34 = .ok (.iadd, 1) := by decide +kernel
theorem dX5_findYes_35 : decode cX5_findYes 35 = .ok (.iaload, 1) := by decide +kernel
theorem dX5_findYes_36 : decode cX5_findYes 36 = .ok (.iload_n 1, 1) := by decide +kernel
theorem dX5_findYes_37 : decode cX5_findYes 37 = .ok (.if_icmp .eq 10, 3) := by decide +kernel
theorem dX5_findYes_40 : decode cX5_findYes 40 = .ok (.iload_n 3, 1) := by decide +kernel
theorem dX5_findYes_41 : decode cX5_findYes 41 = .ok (.iconst 1, 1) := by decide +kernel
theorem dX5_findYes_42 : decode cX5_findYes 42 = .ok (.iload 4, 2) := by decide +kernel
theorem dX5_findYes_44 : decode cX5_findYes 44 = .ok (.ishl, 1) := by decide +kernel
theorem dX5_findYes_45 : decode cX5_findYes 45 = .ok (.ior, 1) := by decide +kernel
theorem dX5_findYes_46 : decode cX5_findYes 46 = .ok (.istore_n 3, 1) := by decide +kernel
theorem dX5_findYes_47 : decode cX5_findYes 47 = .ok (.iinc 4 1, 3) := by decide +kernel
theorem dX5_findYes_50 : decode cX5_findYes 50 = .ok (.goto (-35), 3) := by decide +kernel
theorem dX5_findYes_53 : decode cX5_findYes 53 = .ok (.aload_n 0, 1) := by decide +kernel
theorem dX5_findYes_54 : decode cX5_findYes 54 = .ok (.getfield 28, 3) := by decide +kernel
theorem dX5_findYes_57 : decode cX5_findYes 57 = .ok (.iload_n 2, 1) := by decide +kernel
theorem dX5_findYes_58 : decode cX5_findYes 58 = .ok (.iload_n 3, 1) := by decide +kernel
theorem dX5_findYes_59 : decode cX5_findYes 59 = .ok (.iastore, 1) := by decide +kernel
theorem dX5_findYes_60 : decode cX5_findYes 60 = .ok (.iinc 2 1, 3) := by decide +kernel
theorem dX5_findYes_63 : decode cX5_findYes 63 = .ok (.goto (-61), 3) := by decide +kernel
theorem dX5_findYes_66 : decode cX5_findYes 66 = .ok (.return_, 1) := by decide +kernel
theorem dX5_countBeside_0 : decode cX5_countBeside 0 = .ok (.aload_n 0, 1) := by decide +kernel
theorem dX5_countBeside_1 : decode cX5_countBeside 1 = .ok (.getfield 15, 3) := by decide +kernel
theorem dX5_countBeside_4 : decode cX5_countBeside 4 = .ok (.iload_n 1, 1) := by decide +kernel
theorem dX5_countBeside_5 : decode cX5_countBeside 5 = .ok (.iaload, 1) := by decide +kernel
theorem dX5_countBeside_6 : decode cX5_countBeside 6 = .ok (.invokestatic 87, 3) := by decide +kernel
theorem dX5_countBeside_9 : decode cX5_countBeside 9 = .ok (.ireturn, 1) := by decide +kernel
theorem dX5_countReachedFrom_0 : decode cX5_countReachedFrom 0 = .ok (.iconst 0, 1) := by decide +kernel
theorem dX5_countReachedFrom_1 : decode cX5_countReachedFrom 1 = .ok (.istore_n 2, 1) := by decide +kernel
theorem dX5_countReachedFrom_2 : decode cX5_countReachedFrom 2 = .ok (.iconst 0, 1) := by decide +kernel
theorem dX5_countReachedFrom_3 : decode cX5_countReachedFrom 3 = .ok (.istore_n 3, 1) := by decide +kernel
theorem dX5_countReachedFrom_4 : decode cX5_countReachedFrom 4 = .ok (.iload_n 3, 1) := by decide +kernel
theorem dX5_countReachedFrom_5 : decode cX5_countReachedFrom 5 = .ok (.aload_n 0, 1) := by decide +kernel
theorem dX5_countReachedFrom_6 : decode cX5_countReachedFrom 6 = .ok (.getfield 9, 3) := by decide +kernel
theorem dX5_countReachedFrom_9 : decode cX5_countReachedFrom 9 = .ok (.if_icmp .ge 28, 3) := by decide +kernel
theorem dX5_countReachedFrom_12 : decode cX5_countReachedFrom 12 = .ok (.aload_n 0, 1) := by decide +kernel
theorem dX5_countReachedFrom_13 : decode cX5_countReachedFrom 13 = .ok (.getfield 19, 3) := by decide +kernel
theorem dX5_countReachedFrom_16 : decode cX5_countReachedFrom 16 = .ok (.bipush 16, 2) := by decide +kernel
theorem dX5_countReachedFrom_18 : decode cX5_countReachedFrom 18 = .ok (.iload_n 1, 1) := by decide +kernel
theorem dX5_countReachedFrom_19 : decode cX5_countReachedFrom 19 = .ok (.imul, 1) := by decide +kernel
theorem dX5_countReachedFrom_20 : decode cX5_countReachedFrom 20 = .ok (.iload_n 3, 1) := by decide +kernel
theorem dX5_countReachedFrom_21 : decode cX5_countReachedFrom 21 = .ok (.iadd, 1) := by decide +kernel
theorem dX5_countReachedFrom_22 : decode cX5_countReachedFrom 22 = .ok (.iaload, 1) := by decide +kernel
theorem dX5_countReachedFrom_23 : decode cX5_countReachedFrom 23 = .ok (.ldc 62, 2) := by decide +kernel
theorem dX5_countReachedFrom_25 : decode cX5_countReachedFrom 25 = .ok (.if_icmp .ge 6, 3) := by decide +kernel
theorem dX5_countReachedFrom_28 : decode cX5_countReachedFrom 28 = .ok (.iinc 2 1, 3) := by decide +kernel
theorem dX5_countReachedFrom_31 : decode cX5_countReachedFrom 31 = .ok (.iinc 3 1, 3) := by decide +kernel
theorem dX5_countReachedFrom_34 : decode cX5_countReachedFrom 34 = .ok (.goto (-30), 3) := by decide +kernel
theorem dX5_countReachedFrom_37 : decode cX5_countReachedFrom 37 = .ok (.iload_n 2, 1) := by decide +kernel
theorem dX5_countReachedFrom_38 : decode cX5_countReachedFrom 38 = .ok (.ireturn, 1) := by decide +kernel
theorem dX5_leavesLessKnots_0 : decode cX5_leavesLessKnots 0 = .ok (.iconst 0, 1) := by decide +kernel
theorem dX5_leavesLessKnots_1 : decode cX5_leavesLessKnots 1 = .ok (.istore_n 1, 1) := by decide +kernel
theorem dX5_leavesLessKnots_2 : decode cX5_leavesLessKnots 2 = .ok (.iconst 0, 1) := by decide +kernel
theorem dX5_leavesLessKnots_3 : decode cX5_leavesLessKnots 3 = .ok (.istore_n 2, 1) := by decide +kernel
theorem dX5_leavesLessKnots_4 : decode cX5_leavesLessKnots 4 = .ok (.iconst 0, 1) := by decide +kernel
theorem dX5_leavesLessKnots_5 : decode cX5_leavesLessKnots 5 = .ok (.istore_n 3, 1) := by decide +kernel
theorem dX5_leavesLessKnots_6 : decode cX5_leavesLessKnots 6 = .ok (.iload_n 3, 1) := by decide +kernel
theorem dX5_leavesLessKnots_7 : decode cX5_leavesLessKnots 7 = .ok (.aload_n 0, 1) := by decide +kernel
theorem dX5_leavesLessKnots_8 : decode cX5_leavesLessKnots 8 = .ok (.getfield 9, 3) := by decide +kernel
theorem dX5_leavesLessKnots_11 : decode cX5_leavesLessKnots 11 = .ok (.if_icmp .ge 29, 3) := by decide +kernel
theorem dX5_leavesLessKnots_14 : decode cX5_leavesLessKnots 14 = .ok (.aload_n 0, 1) := by decide +kernel
theorem dX5_leavesLessKnots_15 : decode cX5_leavesLessKnots 15 = .ok (.iload_n 3, 1) := by decide +kernel
theorem dX5_leavesLessKnots_16 : decode cX5_leavesLessKnots 16 = .ok (.invokevirtual 92, 3) := by decide +kernel
theorem dX5_leavesLessKnots_19 : decode cX5_leavesLessKnots 19 = .ok (.iconst 1, 1) := by decide +kernel
theorem dX5_leavesLessKnots_20 : decode cX5_leavesLessKnots 20 = .ok (.if_icmp .ne 14, 3) := by decide +kernel
theorem dX5_leavesLessKnots_23 : decode cX5_leavesLessKnots 23 = .ok (.iinc 1 1, 3) := by decide +kernel
theorem dX5_leavesLessKnots_26 : decode cX5_leavesLessKnots 26 = .ok (.iload_n 2, 1) := by decide +kernel
theorem dX5_leavesLessKnots_27 : decode cX5_leavesLessKnots 27 = .ok (.aload_n 0, 1) := by decide +kernel
theorem dX5_leavesLessKnots_28 : decode cX5_leavesLessKnots 28 = .ok (.iload_n 3, 1) := by decide +kernel
theorem dX5_leavesLessKnots_29 : decode cX5_leavesLessKnots 29 = .ok (.invokevirtual 95, 3) := by decide +kernel
theorem dX5_leavesLessKnots_32 : decode cX5_leavesLessKnots 32 = .ok (.ior, 1) := by decide +kernel
theorem dX5_leavesLessKnots_33 : decode cX5_leavesLessKnots 33 = .ok (.istore_n 2, 1) := by decide +kernel
theorem dX5_leavesLessKnots_34 : decode cX5_leavesLessKnots 34 = .ok (.iinc 3 1, 3) := by decide +kernel
theorem dX5_leavesLessKnots_37 : decode cX5_leavesLessKnots 37 = .ok (.goto (-31), 3) := by decide +kernel
theorem dX5_leavesLessKnots_40 : decode cX5_leavesLessKnots 40 = .ok (.iload_n 1, 1) := by decide +kernel
theorem dX5_leavesLessKnots_41 : decode cX5_leavesLessKnots 41 = .ok (.ifCond .le 11, 3) := by decide +kernel
theorem dX5_leavesLessKnots_44 : decode cX5_leavesLessKnots 44 = .ok (.iload_n 2, 1) := by decide +kernel
theorem dX5_leavesLessKnots_45 : decode cX5_leavesLessKnots 45 = .ok (.ifCond .ne 7, 3) := by decide +kernel
theorem dX5_leavesLessKnots_48 : decode cX5_leavesLessKnots 48 = .ok (.iconst 1, 1) := by decide +kernel
theorem dX5_leavesLessKnots_49 : decode cX5_leavesLessKnots 49 = .ok (.goto 4, 3) := by decide +kernel
theorem dX5_leavesLessKnots_52 : decode cX5_leavesLessKnots 52 = .ok (.iconst 0, 1) := by decide +kernel
theorem dX5_leavesLessKnots_53 : decode cX5_leavesLessKnots 53 = .ok (.istore_n 3, 1) := by decide +kernel
theorem dX5_leavesLessKnots_54 : decode cX5_leavesLessKnots 54 = .ok (.iload_n 3, 1) := by decide +kernel
theorem dX5_leavesLessKnots_55 : decode cX5_leavesLessKnots 55 = .ok (.ifCond .eq 7, 3) := by decide +kernel
theorem dX5_leavesLessKnots_58 : decode cX5_leavesLessKnots 58 = .ok (.iconst 1, 1) := by decide +kernel
theorem dX5_leavesLessKnots_59 : decode cX5_leavesLessKnots 59 = .ok (.goto 9, 3) := by decide +kernel
theorem dX5_leavesLessKnots_62 : decode cX5_leavesLessKnots 62 = .ok (.iload_n 1, 1) := by decide +kernel
theorem dX5_leavesLessKnots_63 : decode cX5_leavesLessKnots 63 = .ok (.iload_n 2, 1) := by decide +kernel
theorem dX5_leavesLessKnots_64 : decode cX5_leavesLessKnots 64 = .ok (.invokestatic 87, 3) := by decide +kernel
theorem dX5_leavesLessKnots_67 : decode cX5_leavesLessKnots 67 = .ok (.isub, 1) := by decide +kernel
theorem dX5_leavesLessKnots_68 : decode cX5_leavesLessKnots 68 = .ok (.ireturn, 1) := by decide +kernel
theorem dX5_knotOfLeaf_0 : decode cX5_knotOfLeaf 0 = .ok (.iconst 1, 1) := by decide +kernel
theorem dX5_knotOfLeaf_1 : decode cX5_knotOfLeaf 1 = .ok (.iload_n 1, 1) := by decide +kernel
theorem dX5_knotOfLeaf_2 : decode cX5_knotOfLeaf 2 = .ok (.ishl, 1) := by decide +kernel
theorem dX5_knotOfLeaf_3 : decode cX5_knotOfLeaf 3 = .ok (.istore_n 2, 1) := by decide +kernel
theorem dX5_knotOfLeaf_4 : decode cX5_knotOfLeaf 4 = .ok (.aload_n 0, 1) := by decide +kernel
theorem dX5_knotOfLeaf_5 : decode cX5_knotOfLeaf 5 = .ok (.getfield 15, 3) := by decide +kernel
theorem dX5_knotOfLeaf_8 : decode cX5_knotOfLeaf 8 = .ok (.iload_n 1, 1) := by decide +kernel
theorem dX5_knotOfLeaf_9 : decode cX5_knotOfLeaf 9 = .ok (.iaload, 1) := by decide +kernel
theorem dX5_knotOfLeaf_10 : decode cX5_knotOfLeaf 10 = .ok (.istore_n 3, 1) := by decide +kernel
theorem dX5_knotOfLeaf_11 : decode cX5_knotOfLeaf 11 = .ok (.iconst 0, 1) := by decide +kernel
theorem dX5_knotOfLeaf_12 : decode cX5_knotOfLeaf 12 = .ok (.istore 4, 2) := by decide +kernel
theorem dX5_knotOfLeaf_14 : decode cX5_knotOfLeaf 14 = .ok (.iload 4, 2) := by decide +kernel
theorem dX5_knotOfLeaf_16 : decode cX5_knotOfLeaf 16 = .ok (.aload_n 0, 1) := by decide +kernel
theorem dX5_knotOfLeaf_17 : decode cX5_knotOfLeaf 17 = .ok (.getfield 9, 3) := by decide +kernel
theorem dX5_knotOfLeaf_20 : decode cX5_knotOfLeaf 20 = .ok (.if_icmp .ge 56, 3) := by decide +kernel
theorem dX5_knotOfLeaf_23 : decode cX5_knotOfLeaf 23 = .ok (.iload_n 3, 1) := by decide +kernel
theorem dX5_knotOfLeaf_24 : decode cX5_knotOfLeaf 24 = .ok (.invokestatic 98, 3) := by decide +kernel
theorem dX5_knotOfLeaf_27 : decode cX5_knotOfLeaf 27 = .ok (.istore 5, 2) := by decide +kernel
theorem dX5_knotOfLeaf_29 : decode cX5_knotOfLeaf 29 = .ok (.iload 5, 2) := by decide +kernel
theorem dX5_knotOfLeaf_31 : decode cX5_knotOfLeaf 31 = .ok (.aload_n 0, 1) := by decide +kernel
theorem dX5_knotOfLeaf_32 : decode cX5_knotOfLeaf 32 = .ok (.getfield 9, 3) := by decide +kernel
theorem dX5_knotOfLeaf_35 : decode cX5_knotOfLeaf 35 = .ok (.if_icmp .lt 5, 3) := by decide +kernel
theorem dX5_knotOfLeaf_38 : decode cX5_knotOfLeaf 38 = .ok (.iconst 0, 1) := by decide +kernel
theorem dX5_knotOfLeaf_39 : decode cX5_knotOfLeaf 39 = .ok (.ireturn, 1) := by decide +kernel
theorem dX5_knotOfLeaf_40 : decode cX5_knotOfLeaf 40 = .ok (.aload_n 0, 1) := by decide +kernel
theorem dX5_knotOfLeaf_41 : decode cX5_knotOfLeaf 41 = .ok (.iload 5, 2) := by decide +kernel
theorem dX5_knotOfLeaf_43 : decode cX5_knotOfLeaf 43 = .ok (.invokevirtual 92, 3) := by decide +kernel
theorem dX5_knotOfLeaf_46 : decode cX5_knotOfLeaf 46 = .ok (.iconst 3, 1) := by decide +kernel
theorem dX5_knotOfLeaf_47 : decode cX5_knotOfLeaf 47 = .ok (.if_icmp .lt 5, 3) := by decide +kernel
theorem dX5_knotOfLeaf_50 : decode cX5_knotOfLeaf 50 = .ok (.iload_n 3, 1) := by decide +kernel
theorem dX5_knotOfLeaf_51 : decode cX5_knotOfLeaf 51 = .ok (.ireturn, 1) := by decide +kernel
theorem dX5_knotOfLeaf_52 : decode cX5_knotOfLeaf 52 = .ok (.aload_n 0, 1) := by decide +kernel
theorem dX5_knotOfLeaf_53 : decode cX5_knotOfLeaf 53 = .ok (.getfield 15, 3) := by decide +kernel
theorem dX5_knotOfLeaf_56 : decode cX5_knotOfLeaf 56 = .ok (.iload 5, 2) := by decide +kernel
theorem dX5_knotOfLeaf_58 : decode cX5_knotOfLeaf 58 = .ok (.iaload, 1) := by decide +kernel
theorem dX5_knotOfLeaf_59 : decode cX5_knotOfLeaf 59 = .ok (.iload_n 2, 1) := by decide +kernel
theorem dX5_knotOfLeaf_60 : decode cX5_knotOfLeaf 60 = .ok (.iconst (-1), 1) := by decide +kernel
theorem dX5_knotOfLeaf_61 : decode cX5_knotOfLeaf 61 = .ok (.ixor, 1) := by decide +kernel
theorem dX5_knotOfLeaf_62 : decode cX5_knotOfLeaf 62 = .ok (.iand, 1) := by decide +kernel
theorem dX5_knotOfLeaf_63 : decode cX5_knotOfLeaf 63 = .ok (.istore 6, 2) := by decide +kernel
theorem dX5_knotOfLeaf_65 : decode cX5_knotOfLeaf 65 = .ok (.iload_n 3, 1) := by decide +kernel
theorem dX5_knotOfLeaf_66 : decode cX5_knotOfLeaf 66 = .ok (.istore_n 2, 1) := by decide +kernel
theorem dX5_knotOfLeaf_67 : decode cX5_knotOfLeaf 67 = .ok (.iload 6, 2) := by decide +kernel
theorem dX5_knotOfLeaf_69 : decode cX5_knotOfLeaf 69 = .ok (.istore_n 3, 1) := by decide +kernel
theorem dX5_knotOfLeaf_70 : decode cX5_knotOfLeaf 70 = .ok (.iinc 4 1, 3) := by decide +kernel
theorem dX5_knotOfLeaf_73 : decode cX5_knotOfLeaf 73 = .ok (.goto (-59), 3) := by decide +kernel
theorem dX5_knotOfLeaf_76 : decode cX5_knotOfLeaf 76 = .ok (.iconst 0, 1) := by decide +kernel
theorem dX5_knotOfLeaf_77 : decode cX5_knotOfLeaf 77 = .ok (.ireturn, 1) := by decide +kernel
theorem dX5_areTwins_0 : decode cX5_areTwins 0 = .ok (.iload_n 1, 1) := by decide +kernel
theorem dX5_areTwins_1 : decode cX5_areTwins 1 = .ok (.iload_n 2, 1) := by decide +kernel
theorem dX5_areTwins_2 : decode cX5_areTwins 2 = .ok (.if_icmp .eq 25, 3) := by decide +kernel
theorem dX5_areTwins_5 : decode cX5_areTwins 5 = .ok (.aload_n 0, 1) := by decide +kernel
theorem dX5_areTwins_6 : decode cX5_areTwins 6 = .ok (.getfield 25, 3) := by decide +kernel
theorem dX5_areTwins_9 : decode cX5_areTwins 9 = .ok (.bipush 16, 2) := by decide +kernel
theorem dX5_areTwins_11 : decode cX5_areTwins 11 = .ok (.iload_n 1, 1) := by decide +kernel
theorem dX5_areTwins_12 : decode cX5_areTwins 12 = .ok (.iload_n 2, 1) := by decide +kernel
theorem dX5_areTwins_13 : decode cX5_areTwins 13 = .ok (.invokestatic 101, 3) := by decide +kernel
theorem dX5_areTwins_16 : decode cX5_areTwins 16 = .ok (.imul, 1) := by decide +kernel
theorem dX5_areTwins_17 : decode cX5_areTwins 17 = .ok (.iload_n 1, 1) := by decide +kernel
theorem dX5_areTwins_18 : decode cX5_areTwins 18 = .ok (.iload_n 2, 1) := by decide +kernel
theorem dX5_areTwins_19 : decode cX5_areTwins 19 = .ok (.invokestatic 106, 3) := by decide +kernel
theorem dX5_areTwins_22 : decode cX5_areTwins 22 = .ok (.iadd, 1) := by decide +kernel
theorem dX5_areTwins_23 : decode cX5_areTwins 23 = .ok (.iaload, 1) := by decide +kernel
theorem dX5_areTwins_24 : decode cX5_areTwins 24 = .ok (.ifCond .ne 7, 3) := by decide +kernel
theorem dX5_areTwins_27 : decode cX5_areTwins 27 = .ok (.iconst 1, 1) := by decide +kernel
theorem dX5_areTwins_28 : decode cX5_areTwins 28 = .ok (.goto 4, 3) := by decide +kernel
theorem dX5_areTwins_31 : decode cX5_areTwins 31 = .ok (.iconst 0, 1) := by decide +kernel
theorem dX5_areTwins_32 : decode cX5_areTwins 32 = .ok (.ireturn, 1) := by decide +kernel
theorem dX5_twinPair_0 : decode cX5_twinPair 0 = .ok (.iconst 0, 1) := by decide +kernel
theorem dX5_twinPair_1 : decode cX5_twinPair 1 = .ok (.istore_n 2, 1) := by decide +kernel
theorem dX5_twinPair_2 : decode cX5_twinPair 2 = .ok (.iconst 0, 1) := by decide +kernel
theorem dX5_twinPair_3 : decode cX5_twinPair 3 = .ok (.istore_n 3, 1) := by decide +kernel
theorem dX5_twinPair_4 : decode cX5_twinPair 4 = .ok (.iload_n 3, 1) := by decide +kernel
theorem dX5_twinPair_5 : decode cX5_twinPair 5 = .ok (.aload_n 0, 1) := by decide +kernel
theorem dX5_twinPair_6 : decode cX5_twinPair 6 = .ok (.getfield 9, 3) := by decide +kernel
theorem dX5_twinPair_9 : decode cX5_twinPair 9 = .ok (.if_icmp .ge 55, 3) := by decide +kernel
theorem dX5_twinPair_12 : decode cX5_twinPair 12 = .ok (.iload_n 3, 1) := by decide +kernel
theorem dX5_twinPair_13 : decode cX5_twinPair 13 = .ok (.iconst 1, 1) := by decide +kernel
theorem dX5_twinPair_14 : decode cX5_twinPair 14 = .ok (.iadd, 1) := by decide +kernel
theorem dX5_twinPair_15 : decode cX5_twinPair 15 = .ok (.istore 4, 2) := by decide +kernel
theorem dX5_twinPair_17 : decode cX5_twinPair 17 = .ok (.iload 4, 2) := by decide +kernel
theorem dX5_twinPair_19 : decode cX5_twinPair 19 = .ok (.aload_n 0, 1) := by decide +kernel
theorem dX5_twinPair_20 : decode cX5_twinPair 20 = .ok (.getfield 9, 3) := by decide +kernel
theorem dX5_twinPair_23 : decode cX5_twinPair 23 = .ok (.if_icmp .ge 35, 3) := by decide +kernel
theorem dX5_twinPair_26 : decode cX5_twinPair 26 = .ok (.aload_n 0, 1) := by decide +kernel
theorem dX5_twinPair_27 : decode cX5_twinPair 27 = .ok (.iload_n 3, 1) := by decide +kernel
theorem dX5_twinPair_28 : decode cX5_twinPair 28 = .ok (.iload 4, 2) := by decide +kernel
theorem dX5_twinPair_30 : decode cX5_twinPair 30 = .ok (.invokevirtual 109, 3) := by decide +kernel
theorem dX5_twinPair_33 : decode cX5_twinPair 33 = .ok (.ifCond .eq 19, 3) := by decide +kernel
theorem dX5_twinPair_36 : decode cX5_twinPair 36 = .ok (.iload_n 2, 1) := by decide +kernel
theorem dX5_twinPair_37 : decode cX5_twinPair 37 = .ok (.iload_n 1, 1) := by decide +kernel
theorem dX5_twinPair_38 : decode cX5_twinPair 38 = .ok (.if_icmp .ne 11, 3) := by decide +kernel
theorem dX5_twinPair_41 : decode cX5_twinPair 41 = .ok (.bipush 16, 2) := by decide +kernel
theorem dX5_twinPair_43 : decode cX5_twinPair 43 = .ok (.iload_n 3, 1) := by decide +kernel
theorem dX5_twinPair_44 : decode cX5_twinPair 44 = .ok (.imul, 1) := by decide +kernel
theorem dX5_twinPair_45 : decode cX5_twinPair 45 = .ok (.iload 4, 2) := by decide +kernel
theorem dX5_twinPair_47 : decode cX5_twinPair 47 = .ok (.iadd, 1) := by decide +kernel
theorem dX5_twinPair_48 : decode cX5_twinPair 48 = .ok (.ireturn, 1) := by decide +kernel
theorem dX5_twinPair_49 : decode cX5_twinPair 49 = .ok (.iinc 2 1, 3) := by decide +kernel
theorem dX5_twinPair_52 : decode cX5_twinPair 52 = .ok (.iinc 4 1, 3) := by decide +kernel
theorem dX5_twinPair_55 : decode cX5_twinPair 55 = .ok (.goto (-38), 3) := by decide +kernel
theorem dX5_twinPair_58 : decode cX5_twinPair 58 = .ok (.iinc 3 1, 3) := by decide +kernel
theorem dX5_twinPair_61 : decode cX5_twinPair 61 = .ok (.goto (-57), 3) := by decide +kernel
theorem dX5_twinPair_64 : decode cX5_twinPair 64 = .ok (.iconst (-1), 1) := by decide +kernel
theorem dX5_twinPair_65 : decode cX5_twinPair 65 = .ok (.ireturn, 1) := by decide +kernel
theorem dX5_pairLacks_0 : decode cX5_pairLacks 0 = .ok (.aload_n 0, 1) := by decide +kernel
theorem dX5_pairLacks_1 : decode cX5_pairLacks 1 = .ok (.getfield 25, 3) := by decide +kernel
theorem dX5_pairLacks_4 : decode cX5_pairLacks 4 = .ok (.bipush 16, 2) := by decide +kernel
theorem dX5_pairLacks_6 : decode cX5_pairLacks 6 = .ok (.iload_n 1, 1) := by decide +kernel
theorem dX5_pairLacks_7 : decode cX5_pairLacks 7 = .ok (.imul, 1) := by decide +kernel
theorem dX5_pairLacks_8 : decode cX5_pairLacks 8 = .ok (.iload_n 2, 1) := by decide +kernel
theorem dX5_pairLacks_9 : decode cX5_pairLacks 9 = .ok (.iadd, 1) := by decide +kernel
theorem dX5_pairLacks_10 : decode cX5_pairLacks 10 = .ok (.iaload, 1) := by decide +kernel
theorem dX5_pairLacks_11 : decode cX5_pairLacks 11 = .ok (.istore 5, 2) := by decide +kernel
theorem dX5_pairLacks_13 : decode cX5_pairLacks 13 = .ok (.iload 5, 2) := by decide +kernel
theorem dX5_pairLacks_15 : decode cX5_pairLacks 15 = .ok (.ifCond .eq 19, 3) := by decide +kernel
theorem dX5_pairLacks_18 : decode cX5_pairLacks 18 = .ok (.iload_n 3, 1) := by decide +kernel
theorem dX5_pairLacks_19 : decode cX5_pairLacks 19 = .ok (.iload 5, 2) := by decide +kernel
theorem dX5_pairLacks_21 : decode cX5_pairLacks 21 = .ok (.iand, 1) := by decide +kernel
theorem dX5_pairLacks_22 : decode cX5_pairLacks 22 = .ok (.invokestatic 87, 3) := by decide +kernel
theorem dX5_pairLacks_25 : decode cX5_pairLacks 25 = .ok (.iload 4, 2) := by decide +kernel
theorem dX5_pairLacks_27 : decode cX5_pairLacks 27 = .ok (.if_icmp .ge 7, 3) := by decide +kernel
theorem dX5_pairLacks_30 : decode cX5_pairLacks 30 = .ok (.iconst 1, 1) := by decide +kernel
theorem dX5_pairLacks_31 : decode cX5_pairLacks 31 = .ok (.goto 4, 3) := by decide +kernel
theorem dX5_pairLacks_34 : decode cX5_pairLacks 34 = .ok (.iconst 0, 1) := by decide +kernel
theorem dX5_pairLacks_35 : decode cX5_pairLacks 35 = .ok (.ireturn, 1) := by decide +kernel
theorem dX5_firstPairLacking_0 : decode cX5_firstPairLacking 0 = .ok (.iconst 0, 1) := by decide +kernel
theorem dX5_firstPairLacking_1 : decode cX5_firstPairLacking 1 = .ok (.istore_n 3, 1) := by decide +kernel
theorem dX5_firstPairLacking_2 : decode cX5_firstPairLacking 2 = .ok (.iload_n 3, 1) := by decide +kernel
theorem dX5_firstPairLacking_3 : decode cX5_firstPairLacking 3 = .ok (.aload_n 0, 1) := by decide +kernel
theorem dX5_firstPairLacking_4 : decode cX5_firstPairLacking 4 = .ok (.getfield 9, 3) := by decide +kernel
theorem dX5_firstPairLacking_7 : decode cX5_firstPairLacking 7 = .ok (.if_icmp .ge 49, 3) := by decide +kernel
theorem dX5_firstPairLacking_10 : decode cX5_firstPairLacking 10 = .ok (.iload_n 3, 1) := by decide +kernel
theorem dX5_firstPairLacking_11 : decode cX5_firstPairLacking 11 = .ok (.iconst 1, 1) := by decide +kernel
theorem dX5_firstPairLacking_12 : decode cX5_firstPairLacking 12 = .ok (.iadd, 1) := by decide +kernel
theorem dX5_firstPairLacking_13 : decode cX5_firstPairLacking 13 = .ok (.istore 4, 2) := by decide +kernel
theorem dX5_firstPairLacking_15 : decode cX5_firstPairLacking 15 = .ok (.iload 4, 2) := by decide +kernel
theorem dX5_firstPairLacking_17 : decode cX5_firstPairLacking 17 = .ok (.aload_n 0, 1) := by decide +kernel
theorem dX5_firstPairLacking_18 : decode cX5_firstPairLacking 18 = .ok (.getfield 9, 3) := by decide +kernel
theorem dX5_firstPairLacking_21 : decode cX5_firstPairLacking 21 = .ok (.if_icmp .ge 29, 3) := by decide +kernel
theorem dX5_firstPairLacking_24 : decode cX5_firstPairLacking 24 = .ok (.aload_n 0, 1) := by decide +kernel
theorem dX5_firstPairLacking_25 : decode cX5_firstPairLacking 25 = .ok (.iload_n 3, 1) := by decide +kernel
theorem dX5_firstPairLacking_26 : decode cX5_firstPairLacking 26 = .ok (.iload 4, 2) := by decide +kernel
theorem dX5_firstPairLacking_28 : decode cX5_firstPairLacking 28 = .ok (.iload_n 1, 1) := by decide +kernel
theorem dX5_firstPairLacking_29 : decode cX5_firstPairLacking 29 = .ok (.iload_n 2, 1) := by decide +kernel
theorem dX5_firstPairLacking_30 : decode cX5_firstPairLacking 30 = .ok (.invokevirtual 112, 3) := by decide +kernel
theorem dX5_firstPairLacking_33 : decode cX5_firstPairLacking 33 = .ok (.ifCond .eq 11, 3) := by decide +kernel
theorem dX5_firstPairLacking_36 : decode cX5_firstPairLacking 36 = .ok (.bipush 16, 2) := by decide +kernel
theorem dX5_firstPairLacking_38 : decode cX5_firstPairLacking 38 = .ok (.iload_n 3, 1) := by decide +kernel
theorem dX5_firstPairLacking_39 : decode cX5_firstPairLacking 39 = .ok (.imul, 1) := by decide +kernel
theorem dX5_firstPairLacking_40 : decode cX5_firstPairLacking 40 = .ok (.iload 4, 2) := by decide +kernel
theorem dX5_firstPairLacking_42 : decode cX5_firstPairLacking 42 = .ok (.iadd, 1) := by decide +kernel
theorem dX5_firstPairLacking_43 : decode cX5_firstPairLacking 43 = .ok (.ireturn, 1) := by decide +kernel
theorem dX5_firstPairLacking_44 : decode cX5_firstPairLacking 44 = .ok (.iinc 4 1, 3) := by decide +kernel
theorem dX5_firstPairLacking_47 : decode cX5_firstPairLacking 47 = .ok (.goto (-32), 3) := by decide +kernel
theorem dX5_firstPairLacking_50 : decode cX5_firstPairLacking 50 = .ok (.iinc 3 1, 3) := by decide +kernel
theorem dX5_firstPairLacking_53 : decode cX5_firstPairLacking 53 = .ok (.goto (-51), 3) := by decide +kernel
theorem dX5_firstPairLacking_56 : decode cX5_firstPairLacking 56 = .ok (.iconst (-1), 1) := by decide +kernel
theorem dX5_firstPairLacking_57 : decode cX5_firstPairLacking 57 = .ok (.ireturn, 1) := by decide +kernel
theorem dX5_countPairsLacking_0 : decode cX5_countPairsLacking 0 = .ok (.iconst 0, 1) := by decide +kernel
theorem dX5_countPairsLacking_1 : decode cX5_countPairsLacking 1 = .ok (.istore_n 3, 1) := by decide +kernel
theorem dX5_countPairsLacking_2 : decode cX5_countPairsLacking 2 = .ok (.iconst 0, 1) := by decide +kernel
theorem dX5_countPairsLacking_3 : decode cX5_countPairsLacking 3 = .ok (.istore 4, 2) := by decide +kernel
theorem dX5_countPairsLacking_5 : decode cX5_countPairsLacking 5 = .ok (.iload 4, 2) := by decide +kernel
theorem dX5_countPairsLacking_7 : decode cX5_countPairsLacking 7 = .ok (.aload_n 0, 1) := by decide +kernel
theorem dX5_countPairsLacking_8 : decode cX5_countPairsLacking 8 = .ok (.getfield 9, 3) := by decide +kernel
theorem dX5_countPairsLacking_11 : decode cX5_countPairsLacking 11 = .ok (.if_icmp .ge 46, 3) := by decide +kernel
theorem dX5_countPairsLacking_14 : decode cX5_countPairsLacking 14 = .ok (.iload 4, 2) := by decide +kernel
theorem dX5_countPairsLacking_16 : decode cX5_countPairsLacking 16 = .ok (.iconst 1, 1) := by decide +kernel
theorem dX5_countPairsLacking_17 : decode cX5_countPairsLacking 17 = .ok (.iadd, 1) := by decide +kernel
theorem dX5_countPairsLacking_18 : decode cX5_countPairsLacking 18 = .ok (.istore 5, 2) := by decide +kernel
theorem dX5_countPairsLacking_20 : decode cX5_countPairsLacking 20 = .ok (.iload 5, 2) := by decide +kernel
theorem dX5_countPairsLacking_22 : decode cX5_countPairsLacking 22 = .ok (.aload_n 0, 1) := by decide +kernel
theorem dX5_countPairsLacking_23 : decode cX5_countPairsLacking 23 = .ok (.getfield 9, 3) := by decide +kernel
theorem dX5_countPairsLacking_26 : decode cX5_countPairsLacking 26 = .ok (.if_icmp .ge 25, 3) := by decide +kernel
theorem dX5_countPairsLacking_29 : decode cX5_countPairsLacking 29 = .ok (.aload_n 0, 1) := by decide +kernel
theorem dX5_countPairsLacking_30 : decode cX5_countPairsLacking 30 = .ok (.iload 4, 2) := by decide +kernel
theorem dX5_countPairsLacking_32 : decode cX5_countPairsLacking 32 = .ok (.iload 5, 2) := by decide +kernel
theorem dX5_countPairsLacking_34 : decode cX5_countPairsLacking 34 = .ok (.iload_n 1, 1) := by decide +kernel
theorem dX5_countPairsLacking_35 : decode cX5_countPairsLacking 35 = .ok (.iload_n 2, 1) := by decide +kernel
theorem dX5_countPairsLacking_36 : decode cX5_countPairsLacking 36 = .ok (.invokevirtual 112, 3) := by decide +kernel
theorem dX5_countPairsLacking_39 : decode cX5_countPairsLacking 39 = .ok (.ifCond .eq 6, 3) := by decide +kernel
theorem dX5_countPairsLacking_42 : decode cX5_countPairsLacking 42 = .ok (.iinc 3 1, 3) := by decide +kernel
theorem dX5_countPairsLacking_45 : decode cX5_countPairsLacking 45 = .ok (.iinc 5 1, 3) := by decide +kernel
theorem dX5_countPairsLacking_48 : decode cX5_countPairsLacking 48 = .ok (.goto (-28), 3) := by decide +kernel
theorem dX5_countPairsLacking_51 : decode cX5_countPairsLacking 51 = .ok (.iinc 4 1, 3) := by decide +kernel
theorem dX5_countPairsLacking_54 : decode cX5_countPairsLacking 54 = .ok (.goto (-49), 3) := by decide +kernel
theorem dX5_countPairsLacking_57 : decode cX5_countPairsLacking 57 = .ok (.iload_n 3, 1) := by decide +kernel
theorem dX5_countPairsLacking_58 : decode cX5_countPairsLacking 58 = .ok (.ireturn, 1) := by decide +kernel
theorem dX5_firstPostLacking_0 : decode cX5_firstPostLacking 0 = .ok (.iconst 0, 1) := by decide +kernel
theorem dX5_firstPostLacking_1 : decode cX5_firstPostLacking 1 = .ok (.istore_n 3, 1) := by decide +kernel
theorem dX5_firstPostLacking_2 : decode cX5_firstPostLacking 2 = .ok (.iload_n 3, 1) := by decide +kernel
theorem dX5_firstPostLacking_3 : decode cX5_firstPostLacking 3 = .ok (.aload_n 0, 1) := by decide +kernel
theorem dX5_firstPostLacking_4 : decode cX5_firstPostLacking 4 = .ok (.getfield 9, 3) := by decide +kernel
theorem dX5_firstPostLacking_7 : decode cX5_firstPostLacking 7 = .ok (.if_icmp .ge 26, 3) := by decide +kernel
theorem dX5_firstPostLacking_10 : decode cX5_firstPostLacking 10 = .ok (.iload_n 1, 1) := by decide +kernel
theorem dX5_firstPostLacking_11 : decode cX5_firstPostLacking 11 = .ok (.aload_n 0, 1) := by decide +kernel
theorem dX5_firstPostLacking_12 : decode cX5_firstPostLacking 12 = .ok (.getfield 28, 3) := by decide +kernel
theorem dX5_firstPostLacking_15 : decode cX5_firstPostLacking 15 = .ok (.iload_n 3, 1) := by decide +kernel
theorem dX5_firstPostLacking_16 : decode cX5_firstPostLacking 16 = .ok (.iaload, 1) := by decide +kernel
theorem dX5_firstPostLacking_17 : decode cX5_firstPostLacking 17 = .ok (.iand, 1) := by decide +kernel
theorem dX5_firstPostLacking_18 : decode cX5_firstPostLacking 18 = .ok (.invokestatic 87, 3) := by decide +kernel
theorem dX5_firstPostLacking_21 : decode cX5_firstPostLacking 21 = .ok (.iload_n 2, 1) := by decide +kernel
theorem dX5_firstPostLacking_22 : decode cX5_firstPostLacking 22 = .ok (.if_icmp .ge 5, 3) := by decide +kernel
theorem dX5_firstPostLacking_25 : decode cX5_firstPostLacking 25 = .ok (.iload_n 3, 1) := by decide +kernel
theorem dX5_firstPostLacking_26 : decode cX5_firstPostLacking 26 = .ok (.ireturn, 1) := by decide +kernel
theorem dX5_firstPostLacking_27 : decode cX5_firstPostLacking 27 = .ok (.iinc 3 1, 3) := by decide +kernel
theorem dX5_firstPostLacking_30 : decode cX5_firstPostLacking 30 = .ok (.goto (-28), 3) := by decide +kernel
theorem dX5_firstPostLacking_33 : decode cX5_firstPostLacking 33 = .ok (.iconst (-1), 1) := by decide +kernel
theorem dX5_firstPostLacking_34 : decode cX5_firstPostLacking 34 = .ok (.ireturn, 1) := by decide +kernel
theorem dX5_countApartPairs_0 : decode cX5_countApartPairs 0 = .ok (.aload_n 0, 1) := by decide +kernel
theorem dX5_countApartPairs_1 : decode cX5_countApartPairs 1 = .ok (.iconst (-1), 1) := by decide +kernel
theorem dX5_countApartPairs_2 : decode cX5_countApartPairs 2 = .ok (.iconst 1, 1) := by decide +kernel
theorem dX5_countApartPairs_3 : decode cX5_countApartPairs 3 = .ok (.invokevirtual 116, 3) := by decide +kernel
theorem dX5_countApartPairs_6 : decode cX5_countApartPairs 6 = .ok (.ireturn, 1) := by decide +kernel
theorem dX5_apartPair_0 : decode cX5_apartPair 0 = .ok (.aload_n 0, 1) := by decide +kernel
theorem dX5_apartPair_1 : decode cX5_apartPair 1 = .ok (.iload_n 1, 1) := by decide +kernel
theorem dX5_apartPair_2 : decode cX5_apartPair 2 = .ok (.iconst 0, 1) := by decide +kernel
theorem dX5_apartPair_3 : decode cX5_apartPair 3 = .ok (.invokevirtual 116, 3) := by decide +kernel
theorem dX5_apartPair_6 : decode cX5_apartPair 6 = .ok (.ireturn, 1) := by decide +kernel
theorem dX5_goThroughApartPairs_0 : decode cX5_goThroughApartPairs 0 = .ok (.iconst 0, 1) := by decide +kernel
theorem dX5_goThroughApartPairs_1 : decode cX5_goThroughApartPairs 1 = .ok (.istore_n 3, 1) := by decide +kernel
theorem dX5_goThroughApartPairs_2 : decode cX5_goThroughApartPairs 2 = .ok (.iconst 0, 1) := by decide +kernel
theorem dX5_goThroughApartPairs_3 : decode cX5_goThroughApartPairs 3 = .ok (.istore 4, 2) := by decide +kernel
theorem dX5_goThroughApartPairs_5 : decode cX5_goThroughApartPairs 5 = .ok (.iconst 0, 1) := by decide +kernel
theorem dX5_goThroughApartPairs_6 : decode cX5_goThroughApartPairs 6 = .ok (.istore 5, 2) := by decide +kernel
theorem dX5_goThroughApartPairs_8 : decode cX5_goThroughApartPairs 8 = .ok (.iload 5, 2) := by decide +kernel
theorem dX5_goThroughApartPairs_10 : decode cX5_goThroughApartPairs 10 = .ok (.aload_n 0, 1) := by decide +kernel
theorem dX5_goThroughApartPairs_11 : decode cX5_goThroughApartPairs 11 = .ok (.getfield 9, 3) := by decide +kernel
theorem dX5_goThroughApartPairs_14 : decode cX5_goThroughApartPairs 14 = .ok (.if_icmp .ge 80, 3) := by decide +kernel
theorem dX5_goThroughApartPairs_17 : decode cX5_goThroughApartPairs 17 = .ok (.iload 5, 2) := by decide +kernel
theorem dX5_goThroughApartPairs_19 : decode cX5_goThroughApartPairs 19 = .ok (.iconst 1, 1) := by decide +kernel
theorem dX5_goThroughApartPairs_20 : decode cX5_goThroughApartPairs 20 = .ok (.iadd, 1) := by decide +kernel
theorem dX5_goThroughApartPairs_21 : decode cX5_goThroughApartPairs 21 = .ok (.istore 6, 2) := by decide +kernel
theorem dX5_goThroughApartPairs_23 : decode cX5_goThroughApartPairs 23 = .ok (.iload 6, 2) := by decide +kernel
theorem dX5_goThroughApartPairs_25 : decode cX5_goThroughApartPairs 25 = .ok (.aload_n 0, 1) := by decide +kernel
theorem dX5_goThroughApartPairs_26 : decode cX5_goThroughApartPairs 26 = .ok (.getfield 9, 3) := by decide +kernel
theorem dX5_goThroughApartPairs_29 : decode cX5_goThroughApartPairs 29 = .ok (.if_icmp .ge 59, 3) := by decide +kernel
theorem dX5_goThroughApartPairs_32 : decode cX5_goThroughApartPairs 32 = .ok (.aload_n 0, 1) := by decide +kernel
theorem dX5_goThroughApartPairs_33 : decode cX5_goThroughApartPairs 33 = .ok (.getfield 25, 3) := by decide +kernel
theorem dX5_goThroughApartPairs_36 : decode cX5_goThroughApartPairs 36 = .ok (.bipush 16, 2) := by decide +kernel
theorem dX5_goThroughApartPairs_38 : decode cX5_goThroughApartPairs 38 = .ok (.iload 5, 2) := by decide +kernel
theorem dX5_goThroughApartPairs_40 : decode cX5_goThroughApartPairs 40 = .ok (.imul, 1) := by decide +kernel
theorem dX5_goThroughApartPairs_41 : decode cX5_goThroughApartPairs 41 = .ok (.iload 6, 2) := by decide +kernel
theorem dX5_goThroughApartPairs_43 : decode cX5_goThroughApartPairs 43 = .ok (.iadd, 1) := by decide +kernel
theorem dX5_goThroughApartPairs_44 : decode cX5_goThroughApartPairs 44 = .ok (.iaload, 1) := by decide +kernel
theorem dX5_goThroughApartPairs_45 : decode cX5_goThroughApartPairs 45 = .ok (.istore 7, 2) := by decide +kernel
theorem dX5_goThroughApartPairs_47 : decode cX5_goThroughApartPairs 47 = .ok (.iload 7, 2) := by decide +kernel
theorem dX5_goThroughApartPairs_49 : decode cX5_goThroughApartPairs 49 = .ok (.ifCond .eq 33, 3) := by decide +kernel
theorem dX5_goThroughApartPairs_52 : decode cX5_goThroughApartPairs 52 = .ok (.iload 7, 2) := by decide +kernel
theorem dX5_goThroughApartPairs_54 : decode cX5_goThroughApartPairs 54 = .ok (.iload_n 3, 1) := by decide +kernel
theorem dX5_goThroughApartPairs_55 : decode cX5_goThroughApartPairs 55 = .ok (.iand, 1) := by decide +kernel
theorem dX5_goThroughApartPairs_56 : decode cX5_goThroughApartPairs 56 = .ok (.ifCond .ne 26, 3) := by decide +kernel
theorem dX5_goThroughApartPairs_59 : decode cX5_goThroughApartPairs 59 = .ok (.iload 4, 2) := by decide +kernel
theorem dX5_goThroughApartPairs_61 : decode cX5_goThroughApartPairs 61 = .ok (.iload_n 1, 1) := by decide +kernel
theorem dX5_goThroughApartPairs_62 : decode cX5_goThroughApartPairs 62 = .ok (.if_icmp .ne 12, 3) := by decide +kernel
theorem dX5_goThroughApartPairs_65 : decode cX5_goThroughApartPairs 65 = .ok (.bipush 16, 2) := by decide +kernel
theorem dX5_goThroughApartPairs_67 : decode cX5_goThroughApartPairs 67 = .ok (.iload 5, 2) := by decide +kernel
theorem dX5_goThroughApartPairs_69 : decode cX5_goThroughApartPairs 69 = .ok (.imul, 1) := by decide +kernel
theorem dX5_goThroughApartPairs_70 : decode cX5_goThroughApartPairs 70 = .ok (.iload 6, 2) := by decide +kernel
theorem dX5_goThroughApartPairs_72 : decode cX5_goThroughApartPairs 72 = .ok (.iadd, 1) := by decide +kernel
theorem dX5_goThroughApartPairs_73 : decode cX5_goThroughApartPairs 73 = .ok (.ireturn, 1) := by decide +kernel
theorem dX5_goThroughApartPairs_74 : decode cX5_goThroughApartPairs 74 = .ok (.iload_n 3, 1) := by decide +kernel
theorem dX5_goThroughApartPairs_75 : decode cX5_goThroughApartPairs 75 = .ok (.iload 7, 2) := by decide +kernel
theorem dX5_goThroughApartPairs_77 : decode cX5_goThroughApartPairs 77 = .ok (.ior, 1) := by decide +kernel
theorem dX5_goThroughApartPairs_78 : decode cX5_goThroughApartPairs 78 = .ok (.istore_n 3, 1) := by decide +kernel
theorem dX5_goThroughApartPairs_79 : decode cX5_goThroughApartPairs 79 = .ok (.iinc 4 1, 3) := by decide +kernel
theorem dX5_goThroughApartPairs_82 : decode cX5_goThroughApartPairs 82 = .ok (.iinc 6 1, 3) := by decide +kernel
theorem dX5_goThroughApartPairs_85 : decode cX5_goThroughApartPairs 85 = .ok (.goto (-62), 3) := by decide +kernel
theorem dX5_goThroughApartPairs_88 : decode cX5_goThroughApartPairs 88 = .ok (.iinc 5 1, 3) := by decide +kernel
theorem dX5_goThroughApartPairs_91 : decode cX5_goThroughApartPairs 91 = .ok (.goto (-83), 3) := by decide +kernel
theorem dX5_goThroughApartPairs_94 : decode cX5_goThroughApartPairs 94 = .ok (.iload_n 2, 1) := by decide +kernel
theorem dX5_goThroughApartPairs_95 : decode cX5_goThroughApartPairs 95 = .ok (.ifCond .eq 8, 3) := by decide +kernel
theorem dX5_goThroughApartPairs_98 : decode cX5_goThroughApartPairs 98 = .ok (.iload 4, 2) := by decide +kernel
theorem dX5_goThroughApartPairs_100 : decode cX5_goThroughApartPairs 100 = .ok (.goto 4, 3) := by decide +kernel
theorem dX5_goThroughApartPairs_103 : decode cX5_goThroughApartPairs 103 = .ok (.iconst (-1), 1) := by decide +kernel
theorem dX5_goThroughApartPairs_104 : decode cX5_goThroughApartPairs 104 = .ok (.ireturn, 1) := by decide +kernel
theorem dX5_greedySet_0 : decode cX5_greedySet 0 = .ok (.iconst 0, 1) := by decide +kernel
theorem dX5_greedySet_1 : decode cX5_greedySet 1 = .ok (.istore_n 2, 1) := by decide +kernel
theorem dX5_greedySet_2 : decode cX5_greedySet 2 = .ok (.iconst 0, 1) := by decide +kernel
theorem dX5_greedySet_3 : decode cX5_greedySet 3 = .ok (.istore_n 3, 1) := by decide +kernel
theorem dX5_greedySet_4 : decode cX5_greedySet 4 = .ok (.iload_n 3, 1) := by decide +kernel
theorem dX5_greedySet_5 : decode cX5_greedySet 5 = .ok (.aload_n 0, 1) := by decide +kernel
theorem dX5_greedySet_6 : decode cX5_greedySet 6 = .ok (.getfield 9, 3) := by decide +kernel
theorem dX5_greedySet_9 : decode cX5_greedySet 9 = .ok (.if_icmp .ge 32, 3) := by decide +kernel
theorem dX5_greedySet_12 : decode cX5_greedySet 12 = .ok (.aload_n 0, 1) := by decide +kernel
theorem dX5_greedySet_13 : decode cX5_greedySet 13 = .ok (.iload_n 2, 1) := by decide +kernel
theorem dX5_greedySet_14 : decode cX5_greedySet 14 = .ok (.iload_n 1, 1) := by decide +kernel
theorem dX5_greedySet_15 : decode cX5_greedySet 15 = .ok (.invokevirtual 120, 3) := by decide +kernel
theorem dX5_greedySet_18 : decode cX5_greedySet 18 = .ok (.istore 4, 2) := by decide +kernel
theorem dX5_greedySet_20 : decode cX5_greedySet 20 = .ok (.iload 4, 2) := by decide +kernel
theorem dX5_greedySet_22 : decode cX5_greedySet 22 = .ok (.iconst (-1), 1) := by decide +kernel
theorem dX5_greedySet_23 : decode cX5_greedySet 23 = .ok (.if_icmp .ne 5, 3) := by decide +kernel
theorem dX5_greedySet_26 : decode cX5_greedySet 26 = .ok (.iload_n 2, 1) := by decide +kernel
theorem dX5_greedySet_27 : decode cX5_greedySet 27 = .ok (.ireturn, 1) := by decide +kernel
theorem dX5_greedySet_28 : decode cX5_greedySet 28 = .ok (.iload_n 2, 1) := by decide +kernel
theorem dX5_greedySet_29 : decode cX5_greedySet 29 = .ok (.iconst 1, 1) := by decide +kernel
theorem dX5_greedySet_30 : decode cX5_greedySet 30 = .ok (.iload 4, 2) := by decide +kernel
theorem dX5_greedySet_32 : decode cX5_greedySet 32 = .ok (.ishl, 1) := by decide +kernel
theorem dX5_greedySet_33 : decode cX5_greedySet 33 = .ok (.ior, 1) := by decide +kernel
theorem dX5_greedySet_34 : decode cX5_greedySet 34 = .ok (.istore_n 2, 1) := by decide +kernel
theorem dX5_greedySet_35 : decode cX5_greedySet 35 = .ok (.iinc 3 1, 3) := by decide +kernel
theorem dX5_greedySet_38 : decode cX5_greedySet 38 = .ok (.goto (-34), 3) := by decide +kernel
theorem dX5_greedySet_41 : decode cX5_greedySet 41 = .ok (.iload_n 2, 1) := by decide +kernel
theorem dX5_greedySet_42 : decode cX5_greedySet 42 = .ok (.ireturn, 1) := by decide +kernel
theorem dX5_markPartingMost_0 : decode cX5_markPartingMost 0 = .ok (.iconst (-1), 1) := by decide +kernel
theorem dX5_markPartingMost_1 : decode cX5_markPartingMost 1 = .ok (.istore_n 3, 1) := by decide +kernel
theorem dX5_markPartingMost_2 : decode cX5_markPartingMost 2 = .ok (.iconst 0, 1) := by decide +kernel
theorem dX5_markPartingMost_3 : decode cX5_markPartingMost 3 = .ok (.istore 4, 2) := by decide +kernel
theorem dX5_markPartingMost_5 : decode cX5_markPartingMost 5 = .ok (.iconst 0, 1) := by decide +kernel
theorem dX5_markPartingMost_6 : decode cX5_markPartingMost 6 = .ok (.istore 5, 2) := by decide +kernel
theorem dX5_markPartingMost_8 : decode cX5_markPartingMost 8 = .ok (.iload 5, 2) := by decide +kernel
theorem dX5_markPartingMost_10 : decode cX5_markPartingMost 10 = .ok (.aload_n 0, 1) := by decide +kernel
theorem dX5_markPartingMost_11 : decode cX5_markPartingMost 11 = .ok (.getfield 9, 3) := by decide +kernel
theorem dX5_markPartingMost_14 : decode cX5_markPartingMost 14 = .ok (.if_icmp .ge 42, 3) := by decide +kernel
theorem dX5_markPartingMost_17 : decode cX5_markPartingMost 17 = .ok (.iload_n 1, 1) := by decide +kernel
theorem dX5_markPartingMost_18 : decode cX5_markPartingMost 18 = .ok (.iload 5, 2) := by decide +kernel
theorem dX5_markPartingMost_20 : decode cX5_markPartingMost 20 = .ok (.ishr, 1) := by decide +kernel
theorem dX5_markPartingMost_21 : decode cX5_markPartingMost 21 = .ok (.iconst 1, 1) := by decide +kernel
theorem dX5_markPartingMost_22 : decode cX5_markPartingMost 22 = .ok (.iand, 1) := by decide +kernel
theorem dX5_markPartingMost_23 : decode cX5_markPartingMost 23 = .ok (.ifCond .ne 27, 3) := by decide +kernel
theorem dX5_markPartingMost_26 : decode cX5_markPartingMost 26 = .ok (.aload_n 0, 1) := by decide +kernel
theorem dX5_markPartingMost_27 : decode cX5_markPartingMost 27 = .ok (.iload 5, 2) := by decide +kernel
theorem dX5_markPartingMost_29 : decode cX5_markPartingMost 29 = .ok (.iload_n 1, 1) := by decide +kernel
theorem dX5_markPartingMost_30 : decode cX5_markPartingMost 30 = .ok (.iload_n 2, 1) := by decide +kernel
theorem dX5_markPartingMost_31 : decode cX5_markPartingMost 31 = .ok (.invokevirtual 123, 3) := by decide +kernel
theorem dX5_markPartingMost_34 : decode cX5_markPartingMost 34 = .ok (.istore 6, 2) := by decide +kernel
theorem dX5_markPartingMost_36 : decode cX5_markPartingMost 36 = .ok (.iload 6, 2) := by decide +kernel
theorem dX5_markPartingMost_38 : decode cX5_markPartingMost 38 = .ok (.iload 4, 2) := by decide +kernel
theorem dX5_markPartingMost_40 : decode cX5_markPartingMost 40 = .ok (.if_icmp .le 10, 3) := by decide +kernel
theorem dX5_markPartingMost_43 : decode cX5_markPartingMost 43 = .ok (.iload 6, 2) := by decide +kernel
theorem dX5_markPartingMost_45 : decode cX5_markPartingMost 45 = .ok (.istore 4, 2) := by decide +kernel
theorem dX5_markPartingMost_47 : decode cX5_markPartingMost 47 = .ok (.iload 5, 2) := by decide +kernel
theorem dX5_markPartingMost_49 : decode cX5_markPartingMost 49 = .ok (.istore_n 3, 1) := by decide +kernel
theorem dX5_markPartingMost_50 : decode cX5_markPartingMost 50 = .ok (.iinc 5 1, 3) := by decide +kernel
theorem dX5_markPartingMost_53 : decode cX5_markPartingMost 53 = .ok (.goto (-45), 3) := by decide +kernel
theorem dX5_markPartingMost_56 : decode cX5_markPartingMost 56 = .ok (.iload_n 3, 1) := by decide +kernel
theorem dX5_markPartingMost_57 : decode cX5_markPartingMost 57 = .ok (.ireturn, 1) := by decide +kernel
theorem dX5_countLackingPartedBy_0 : decode cX5_countLackingPartedBy 0 = .ok (.iconst 0, 1) := by decide +kernel
theorem dX5_countLackingPartedBy_1 : decode cX5_countLackingPartedBy 1 = .ok (.istore 4, 2) := by decide +kernel
theorem dX5_countLackingPartedBy_3 : decode cX5_countLackingPartedBy 3 = .ok (.iconst 0, 1) := by decide +kernel
theorem dX5_countLackingPartedBy_4 : decode cX5_countLackingPartedBy 4 = .ok (.istore 5, 2) := by decide +kernel
theorem dX5_countLackingPartedBy_6 : decode cX5_countLackingPartedBy 6 = .ok (.iload 5, 2) := by decide +kernel
theorem dX5_countLackingPartedBy_8 : decode cX5_countLackingPartedBy 8 = .ok (.aload_n 0, 1) := by decide +kernel
theorem dX5_countLackingPartedBy_9 : decode cX5_countLackingPartedBy 9 = .ok (.getfield 9, 3) := by decide +kernel
theorem dX5_countLackingPartedBy_12 : decode cX5_countLackingPartedBy 12 = .ok (.if_icmp .ge 79, 3) := by decide +kernel
theorem dX5_countLackingPartedBy_15 : decode cX5_countLackingPartedBy 15 = .ok (.iload 5, 2) := by decide +kernel
theorem dX5_countLackingPartedBy_17 : decode cX5_countLackingPartedBy 17 = .ok (.iconst 1, 1) := by decide +kernel
theorem dX5_countLackingPartedBy_18 : decode cX5_countLackingPartedBy 18 = .ok (.iadd, 1) := by decide +kernel
theorem dX5_countLackingPartedBy_19 : decode cX5_countLackingPartedBy 19 = .ok (.istore 6, 2) := by decide +kernel
theorem dX5_countLackingPartedBy_21 : decode cX5_countLackingPartedBy 21 = .ok (.iload 6, 2) := by decide +kernel
theorem dX5_countLackingPartedBy_23 : decode cX5_countLackingPartedBy 23 = .ok (.aload_n 0, 1) := by decide +kernel
theorem dX5_countLackingPartedBy_24 : decode cX5_countLackingPartedBy 24 = .ok (.getfield 9, 3) := by decide +kernel
theorem dX5_countLackingPartedBy_27 : decode cX5_countLackingPartedBy 27 = .ok (.if_icmp .ge 58, 3) := by decide +kernel
theorem dX5_countLackingPartedBy_30 : decode cX5_countLackingPartedBy 30 = .ok (.aload_n 0, 1) := by decide +kernel
theorem dX5_countLackingPartedBy_31 : decode cX5_countLackingPartedBy 31 = .ok (.getfield 25, 3) := by decide +kernel
theorem dX5_countLackingPartedBy_34 : decode cX5_countLackingPartedBy 34 = .ok (.bipush 16, 2) := by decide +kernel
theorem dX5_countLackingPartedBy_36 : decode cX5_countLackingPartedBy 36 = .ok (.iload 5, 2) := by decide +kernel
theorem dX5_countLackingPartedBy_38 : decode cX5_countLackingPartedBy 38 = .ok (.imul, 1) := by decide +kernel
theorem dX5_countLackingPartedBy_39 : decode cX5_countLackingPartedBy 39 = .ok (.iload 6, 2) := by decide +kernel
theorem dX5_countLackingPartedBy_41 : decode cX5_countLackingPartedBy 41 = .ok (.iadd, 1) := by decide +kernel
theorem dX5_countLackingPartedBy_42 : decode cX5_countLackingPartedBy 42 = .ok (.iaload, 1) := by decide +kernel
theorem dX5_countLackingPartedBy_43 : decode cX5_countLackingPartedBy 43 = .ok (.iload_n 1, 1) := by decide +kernel
theorem dX5_countLackingPartedBy_44 : decode cX5_countLackingPartedBy 44 = .ok (.ishr, 1) := by decide +kernel
theorem dX5_countLackingPartedBy_45 : decode cX5_countLackingPartedBy 45 = .ok (.iconst 1, 1) := by decide +kernel
theorem dX5_countLackingPartedBy_46 : decode cX5_countLackingPartedBy 46 = .ok (.iand, 1) := by decide +kernel
theorem dX5_countLackingPartedBy_47 : decode cX5_countLackingPartedBy 47 = .ok (.iconst 1, 1) := by decide +kernel
theorem dX5_countLackingPartedBy_48 : decode cX5_countLackingPartedBy 48 = .ok (.if_icmp .ne 7, 3) := by decide +kernel
theorem dX5_countLackingPartedBy_51 : decode cX5_countLackingPartedBy 51 = .ok (.iconst 1, 1) := by decide +kernel
theorem dX5_countLackingPartedBy_52 : decode cX5_countLackingPartedBy 52 = .ok (.goto 4, 3) := by decide +kernel
theorem dX5_countLackingPartedBy_55 : decode cX5_countLackingPartedBy 55 = .ok (.iconst 0, 1) := by decide +kernel
theorem dX5_countLackingPartedBy_56 : decode cX5_countLackingPartedBy 56 = .ok (.istore 7, 2) := by decide +kernel
theorem dX5_countLackingPartedBy_58 : decode cX5_countLackingPartedBy 58 = .ok (.iload 7, 2) := by decide +kernel
theorem dX5_countLackingPartedBy_60 : decode cX5_countLackingPartedBy 60 = .ok (.ifCond .eq 19, 3) := by decide +kernel
theorem dX5_countLackingPartedBy_63 : decode cX5_countLackingPartedBy 63 = .ok (.aload_n 0, 1) := by decide +kernel
theorem dX5_countLackingPartedBy_64 : decode cX5_countLackingPartedBy 64 = .ok (.iload 5, 2) := by decide +kernel
theorem dX5_countLackingPartedBy_66 : decode cX5_countLackingPartedBy 66 = .ok (.iload 6, 2) := by decide +kernel
theorem dX5_countLackingPartedBy_68 : decode cX5_countLackingPartedBy 68 = .ok (.iload_n 2, 1) := by decide +kernel
theorem dX5_countLackingPartedBy_69 : decode cX5_countLackingPartedBy 69 = .ok (.iload_n 3, 1) := by decide +kernel
theorem dX5_countLackingPartedBy_70 : decode cX5_countLackingPartedBy 70 = .ok (.invokevirtual 112, 3) := by decide +kernel
theorem dX5_countLackingPartedBy_73 : decode cX5_countLackingPartedBy 73 = .ok (.ifCond .eq 6, 3) := by decide +kernel
theorem dX5_countLackingPartedBy_76 : decode cX5_countLackingPartedBy 76 = .ok (.iinc 4 1, 3) := by decide +kernel
theorem dX5_countLackingPartedBy_79 : decode cX5_countLackingPartedBy 79 = .ok (.iinc 6 1, 3) := by decide +kernel
theorem dX5_countLackingPartedBy_82 : decode cX5_countLackingPartedBy 82 = .ok (.goto (-61), 3) := by decide +kernel
theorem dX5_countLackingPartedBy_85 : decode cX5_countLackingPartedBy 85 = .ok (.iinc 5 1, 3) := by decide +kernel
theorem dX5_countLackingPartedBy_88 : decode cX5_countLackingPartedBy 88 = .ok (.goto (-82), 3) := by decide +kernel
theorem dX5_countLackingPartedBy_91 : decode cX5_countLackingPartedBy 91 = .ok (.iload 4, 2) := by decide +kernel
theorem dX5_countLackingPartedBy_93 : decode cX5_countLackingPartedBy 93 = .ok (.ireturn, 1) := by decide +kernel
theorem dX7_init_0 : decode cX7_init 0 = .ok (.aload_n 0, 1) := by decide +kernel
theorem dX7_init_1 : decode cX7_init 1 = .ok (.invokespecial 3, 3) := by decide +kernel
theorem dX7_init_4 : decode cX7_init 4 = .ok (.aload_n 0, 1) := by decide +kernel
theorem dX7_init_5 : decode cX7_init 5 = .ok (.new 9, 3) := by decide +kernel
theorem dX7_init_8 : decode cX7_init 8 = .ok (.dup, 1) := by decide +kernel
theorem dX7_init_9 : decode cX7_init 9 = .ok (.invokespecial 11, 3) := by decide +kernel
theorem dX7_init_12 : decode cX7_init 12 = .ok (.putfield 12, 3) := by decide +kernel
theorem dX7_init_15 : decode cX7_init 15 = .ok (.aload_n 0, 1) := by decide +kernel
theorem dX7_init_16 : decode cX7_init 16 = .ok (.new 16, 3) := by decide +kernel
theorem dX7_init_19 : decode cX7_init 19 = .ok (.dup, 1) := by decide +kernel
theorem dX7_init_20 : decode cX7_init 20 = .ok (.invokespecial 18, 3) := by decide +kernel
theorem dX7_init_23 : decode cX7_init 23 = .ok (.putfield 19, 3) := by decide +kernel
theorem dX7_init_26 : decode cX7_init 26 = .ok (.aload_n 0, 1) := by decide +kernel
theorem dX7_init_27 : decode cX7_init 27 = .ok (.new 23, 3) := by decide +kernel
theorem dX7_init_30 : decode cX7_init 30 = .ok (.dup, 1) := by decide +kernel
theorem dX7_init_31 : decode cX7_init 31 = .ok (.invokespecial 25, 3) := by decide +kernel
theorem dX7_init_34 : decode cX7_init 34 = .ok (.putfield 26, 3) := by decide +kernel
theorem dX7_init_37 : decode cX7_init 37 = .ok (.aload_n 0, 1) := by decide +kernel
theorem dX7_init_38 : decode cX7_init 38 = .ok (.new 30, 3) := by decide +kernel
theorem dX7_init_41 : decode cX7_init 41 = .ok (.dup, 1) := by decide +kernel
theorem dX7_init_42 : decode cX7_init 42 = .ok (.invokespecial 32, 3) := by decide +kernel
theorem dX7_init_45 : decode cX7_init 45 = .ok (.putfield 33, 3) := by decide +kernel
theorem dX7_init_48 : decode cX7_init 48 = .ok (.aload_n 0, 1) := by decide +kernel
theorem dX7_init_49 : decode cX7_init 49 = .ok (.new 37, 3) := by decide +kernel
theorem dX7_init_52 : decode cX7_init 52 = .ok (.dup, 1) := by decide +kernel
theorem dX7_init_53 : decode cX7_init 53 = .ok (.invokespecial 39, 3) := by decide +kernel
theorem dX7_init_56 : decode cX7_init 56 = .ok (.putfield 40, 3) := by decide +kernel
theorem dX7_init_59 : decode cX7_init 59 = .ok (.aload_n 0, 1) := by decide +kernel
theorem dX7_init_60 : decode cX7_init 60 = .ok (.new 44, 3) := by decide +kernel
theorem dX7_init_63 : decode cX7_init 63 = .ok (.dup, 1) := by decide +kernel
theorem dX7_init_64 : decode cX7_init 64 = .ok (.invokespecial 46, 3) := by decide +kernel
theorem dX7_init_67 : decode cX7_init 67 = .ok (.putfield 47, 3) := by decide +kernel
theorem dX7_init_70 : decode cX7_init 70 = .ok (.aload_n 0, 1) := by decide +kernel
theorem dX7_init_71 : decode cX7_init 71 = .ok (.new 51, 3) := by decide +kernel
theorem dX7_init_74 : decode cX7_init 74 = .ok (.dup, 1) := by decide +kernel
theorem dX7_init_75 : decode cX7_init 75 = .ok (.invokespecial 53, 3) := by decide +kernel
theorem dX7_init_78 : decode cX7_init 78 = .ok (.putfield 54, 3) := by decide +kernel
theorem dX7_init_81 : decode cX7_init 81 = .ok (.aload_n 0, 1) := by decide +kernel
theorem dX7_init_82 : decode cX7_init 82 = .ok (.iconst 1, 1) := by decide +kernel
theorem dX7_init_83 : decode cX7_init 83 = .ok (.putfield 58, 3) := by decide +kernel
theorem dX7_init_86 : decode cX7_init 86 = .ok (.aload_n 0, 1) := by decide +kernel
theorem dX7_init_87 : decode cX7_init 87 = .ok (.iconst 0, 1) := by decide +kernel
theorem dX7_init_88 : decode cX7_init 88 = .ok (.putfield 62, 3) := by decide +kernel
theorem dX7_init_91 : decode cX7_init 91 = .ok (.return_, 1) := by decide +kernel
theorem dX7_post_0 : decode cX7_post 0 = .ok (.aload_n 0, 1) := by decide +kernel
theorem dX7_post_1 : decode cX7_post 1 = .ok (.getfield 12, 3) := by decide +kernel
theorem dX7_post_4 : decode cX7_post 4 = .ok (.getfield 66, 3) := by decide +kernel
theorem dX7_post_7 : decode cX7_post 7 = .ok (.bipush 16, 2) := by decide +kernel
theorem dX7_post_9 : decode cX7_post 9 = .ok (.if_icmp .lt 5, 3) := by decide +kernel
theorem dX7_post_12 : decode cX7_post 12 = .ok (.iconst (-1), 1) := by decide +kernel
theorem dX7_post_13 : decode cX7_post 13 = .ok (.ireturn, 1) := by decide +kernel
theorem dX7_post_14 : decode cX7_post 14 = .ok (.aload_n 0, 1) := by decide +kernel
theorem dX7_post_15 : decode cX7_post 15 = .ok (.invokevirtual 69, 3) := by decide +kernel
theorem dX7_post_18 : decode cX7_post 18 = .ok (.aload_n 0, 1) := by decide +kernel
theorem dX7_post_19 : decode cX7_post 19 = .ok (.getfield 12, 3) := by decide +kernel
theorem dX7_post_22 : decode cX7_post 22 = .ok (.dup, 1) := by decide +kernel
theorem dX7_post_23 : decode cX7_post 23 = .ok (.getfield 66, 3) := by decide +kernel
theorem dX7_post_26 : decode cX7_post 26 = .ok (.iconst 1, 1) := by decide +kernel
theorem dX7_post_27 : decode cX7_post 27 = .ok (.iadd, 1) := by decide +kernel
theorem dX7_post_28 : decode cX7_post 28 = .ok (.putfield 66, 3) := by decide +kernel
theorem dX7_post_31 : decode cX7_post 31 = .ok (.aload_n 0, 1) := by decide +kernel
theorem dX7_post_32 : decode cX7_post 32 = .ok (.getfield 12, 3) := by decide +kernel
theorem dX7_post_35 : decode cX7_post 35 = .ok (.getfield 66, 3) := by decide +kernel
theorem dX7_post_38 : decode cX7_post 38 = .ok (.iconst 1, 1) := by decide +kernel
theorem dX7_post_39 : decode cX7_post 39 = .ok (.isub, 1) := by decide +kernel
theorem dX7_post_40 : decode cX7_post 40 = .ok (.ireturn, 1) := by decide +kernel
theorem dX7_road_0 : decode cX7_road 0 = .ok (.aload_n 0, 1) := by decide +kernel
theorem dX7_road_1 : decode cX7_road 1 = .ok (.getfield 12, 3) := by decide +kernel
theorem dX7_road_4 : decode cX7_road 4 = .ok (.iload_n 1, 1) := by decide +kernel
theorem dX7_road_5 : decode cX7_road 5 = .ok (.iload_n 2, 1) := by decide +kernel
theorem dX7_road_6 : decode cX7_road 6 = .ok (.iload_n 3, 1) := by decide +kernel
theorem dX7_road_7 : decode cX7_road 7 = .ok (.invokevirtual 72, 3) := by decide +kernel
theorem dX7_road_10 : decode cX7_road 10 = .ok (.ifCond .ne 5, 3) := by decide +kernel
theorem dX7_road_13 : decode cX7_road 13 = .ok (.iconst 0, 1) := by decide +kernel
theorem dX7_road_14 : decode cX7_road 14 = .ok (.ireturn, 1) := by decide +kernel
theorem dX7_road_15 : decode cX7_road 15 = .ok (.aload_n 0, 1) := by decide +kernel
theorem dX7_road_16 : decode cX7_road 16 = .ok (.invokevirtual 69, 3) := by decide +kernel
theorem dX7_road_19 : decode cX7_road 19 = .ok (.aload_n 0, 1) := by decide +kernel
theorem dX7_road_20 : decode cX7_road 20 = .ok (.getfield 12, 3) := by decide +kernel
theorem dX7_road_23 : decode cX7_road 23 = .ok (.iload_n 1, 1) := by decide +kernel
theorem dX7_road_24 : decode cX7_road 24 = .ok (.iload_n 2, 1) := by decide +kernel
theorem dX7_road_25 : decode cX7_road 25 = .ok (.iload_n 3, 1) := by decide +kernel
theorem dX7_road_26 : decode cX7_road 26 = .ok (.invokevirtual 76, 3) := by decide +kernel
theorem dX7_road_29 : decode cX7_road 29 = .ok (.iconst 1, 1) := by decide +kernel
theorem dX7_road_30 : decode cX7_road 30 = .ok (.ireturn, 1) := by decide +kernel
theorem dX7_cut_0 : decode cX7_cut 0 = .ok (.aload_n 0, 1) := by decide +kernel
theorem dX7_cut_1 : decode cX7_cut 1 = .ok (.getfield 12, 3) := by decide +kernel
theorem dX7_cut_4 : decode cX7_cut 4 = .ok (.iload_n 1, 1) := by decide +kernel
theorem dX7_cut_5 : decode cX7_cut 5 = .ok (.invokevirtual 80, 3) := by decide +kernel
theorem dX7_cut_8 : decode cX7_cut 8 = .ok (.ifCond .eq 26, 3) := by decide +kernel
theorem dX7_cut_11 : decode cX7_cut 11 = .ok (.aload_n 0, 1) := by decide +kernel
theorem dX7_cut_12 : decode cX7_cut 12 = .ok (.getfield 12, 3) := by decide +kernel
theorem dX7_cut_15 : decode cX7_cut 15 = .ok (.iload_n 2, 1) := by decide +kernel
theorem dX7_cut_16 : decode cX7_cut 16 = .ok (.invokevirtual 80, 3) := by decide +kernel
theorem dX7_cut_19 : decode cX7_cut 19 = .ok (.ifCond .eq 15, 3) := by decide +kernel
theorem dX7_cut_22 : decode cX7_cut 22 = .ok (.aload_n 0, 1) := by decide +kernel
theorem dX7_cut_23 : decode cX7_cut 23 = .ok (.getfield 12, 3) := by decide +kernel
theorem dX7_cut_26 : decode cX7_cut 26 = .ok (.iload_n 1, 1) := by decide +kernel
theorem dX7_cut_27 : decode cX7_cut 27 = .ok (.iload_n 2, 1) := by decide +kernel
theorem dX7_cut_28 : decode cX7_cut 28 = .ok (.invokevirtual 84, 3) := by decide +kernel
theorem dX7_cut_31 : decode cX7_cut 31 = .ok (.ifCond .ne 5, 3) := by decide +kernel
theorem dX7_cut_34 : decode cX7_cut 34 = .ok (.iconst 0, 1) := by decide +kernel
theorem dX7_cut_35 : decode cX7_cut 35 = .ok (.ireturn, 1) := by decide +kernel
theorem dX7_cut_36 : decode cX7_cut 36 = .ok (.aload_n 0, 1) := by decide +kernel
theorem dX7_cut_37 : decode cX7_cut 37 = .ok (.invokevirtual 69, 3) := by decide +kernel
theorem dX7_cut_40 : decode cX7_cut 40 = .ok (.aload_n 0, 1) := by decide +kernel
theorem dX7_cut_41 : decode cX7_cut 41 = .ok (.getfield 12, 3) := by decide +kernel
theorem dX7_cut_44 : decode cX7_cut 44 = .ok (.iload_n 1, 1) := by decide +kernel
theorem dX7_cut_45 : decode cX7_cut 45 = .ok (.iload_n 2, 1) := by decide +kernel
theorem dX7_cut_46 : decode cX7_cut 46 = .ok (.iconst 0, 1) := by decide +kernel
theorem dX7_cut_47 : decode cX7_cut 47 = .ok (.invokevirtual 76, 3) := by decide +kernel
theorem dX7_cut_50 : decode cX7_cut 50 = .ok (.iconst 1, 1) := by decide +kernel
theorem dX7_cut_51 : decode cX7_cut 51 = .ok (.ireturn, 1) := by decide +kernel
theorem dX7_feed_0 : decode cX7_feed 0 = .ok (.aload_n 0, 1) := by decide +kernel
theorem dX7_feed_1 : decode cX7_feed 1 = .ok (.getfield 26, 3) := by decide +kernel
theorem dX7_feed_4 : decode cX7_feed 4 = .ok (.bipush 20, 2) := by decide +kernel
theorem dX7_feed_6 : decode cX7_feed 6 = .ok (.invokevirtual 88, 3) := by decide +kernel
theorem dX7_feed_9 : decode cX7_feed 9 = .ok (.ifCond .ne 5, 3) := by decide +kernel
theorem dX7_feed_12 : decode cX7_feed 12 = .ok (.iconst (-1), 1) := by decide +kernel
theorem dX7_feed_13 : decode cX7_feed 13 = .ok (.ireturn, 1) := by decide +kernel
theorem dX7_feed_14 : decode cX7_feed 14 = .ok (.aload_n 0, 1) := by decide +kernel
theorem dX7_feed_15 : decode cX7_feed 15 = .ok (.getfield 26, 3) := by decide +kernel
theorem dX7_feed_18 : decode cX7_feed 18 = .ok (.iload_n 1, 1) := by decide +kernel
theorem dX7_feed_19 : decode cX7_feed 19 = .ok (.invokevirtual 91, 3) := by decide +kernel
theorem dX7_feed_22 : decode cX7_feed 22 = .ok (.aload_n 0, 1) := by decide +kernel
theorem dX7_feed_23 : decode cX7_feed 23 = .ok (.getfield 26, 3) := by decide +kernel
theorem dX7_feed_26 : decode cX7_feed 26 = .ok (.iload_n 2, 1) := by decide +kernel
theorem dX7_feed_27 : decode cX7_feed 27 = .ok (.invokevirtual 91, 3) := by decide +kernel
theorem dX7_feed_30 : decode cX7_feed 30 = .ok (.aload_n 0, 1) := by decide +kernel
theorem dX7_feed_31 : decode cX7_feed 31 = .ok (.getfield 26, 3) := by decide +kernel
theorem dX7_feed_34 : decode cX7_feed 34 = .ok (.iload_n 3, 1) := by decide +kernel
theorem dX7_feed_35 : decode cX7_feed 35 = .ok (.invokevirtual 91, 3) := by decide +kernel
theorem dX7_feed_38 : decode cX7_feed 38 = .ok (.aload_n 0, 1) := by decide +kernel
theorem dX7_feed_39 : decode cX7_feed 39 = .ok (.getfield 26, 3) := by decide +kernel
theorem dX7_feed_42 : decode cX7_feed 42 = .ok (.iload 4, 2) := by decide +kernel
theorem dX7_feed_44 : decode cX7_feed 44 = .ok (.invokevirtual 91, 3) := by decide +kernel
theorem dX7_feed_47 : decode cX7_feed 47 = .ok (.aload_n 0, 1) := by decide +kernel
theorem dX7_feed_48 : decode cX7_feed 48 = .ok (.getfield 26, 3) := by decide +kernel
theorem dX7_feed_51 : decode cX7_feed 51 = .ok (.iload 5, 2) := by decide +kernel
theorem dX7_feed_53 : decode cX7_feed 53 = .ok (.invokevirtual 91, 3) := by decide +kernel
theorem dX7_feed_56 : decode cX7_feed 56 = .ok (.aload_n 0, 1) := by decide +kernel
theorem dX7_feed_57 : decode cX7_feed 57 = .ok (.getfield 26, 3) := by decide +kernel
theorem dX7_feed_60 : decode cX7_feed 60 = .ok (.getfield 95, 3) := by decide +kernel
theorem dX7_feed_63 : decode cX7_feed 63 = .ok (.ireturn, 1) := by decide +kernel
theorem dX7_roads_0 : decode cX7_roads 0 = .ok (.iload_n 1, 1) := by decide +kernel
theorem dX7_roads_1 : decode cX7_roads 1 = .ok (.ifCond .lt 14, 3) := by decide +kernel
theorem dX7_roads_4 : decode cX7_roads 4 = .ok (.iload_n 1, 1) := by decide +kernel
theorem dX7_roads_5 : decode cX7_roads 5 = .ok (.aload_n 0, 1) := by decide +kernel
theorem dX7_roads_6 : decode cX7_roads 6 = .ok (.getfield 26, 3) := by decide +kernel
theorem dX7_roads_9 : decode cX7_roads 9 = .ok (.getfield 95, 3) := by decide +kernel
theorem dX7_roads_12 : decode cX7_roads 12 = .ok (.if_icmp .le 5, 3) := by decide +kernel
theorem dX7_roads_15 : decode cX7_roads 15 = .ok (.iconst (-1), 1) := by decide +kernel
theorem dX7_roads_16 : decode cX7_roads 16 = .ok (.ireturn, 1) := by decide +kernel
theorem dX7_roads_17 : decode cX7_roads 17 = .ok (.iconst 0, 1) := by decide +kernel
theorem dX7_roads_18 : decode cX7_roads 18 = .ok (.istore_n 2, 1) := by decide +kernel
theorem dX7_roads_19 : decode cX7_roads 19 = .ok (.iconst 0, 1) := by decide +kernel
theorem dX7_roads_20 : decode cX7_roads 20 = .ok (.istore_n 3, 1) := by decide +kernel
theorem dX7_roads_21 : decode cX7_roads 21 = .ok (.iload_n 3, 1) := by decide +kernel
theorem dX7_roads_22 : decode cX7_roads 22 = .ok (.iconst 4, 1) := by decide +kernel
theorem dX7_roads_23 : decode cX7_roads 23 = .ok (.iadd, 1) := by decide +kernel
theorem dX7_roads_24 : decode cX7_roads 24 = .ok (.iload_n 1, 1) := by decide +kernel
theorem dX7_roads_25 : decode cX7_roads 25 = .ok (.if_icmp .gt 101, 3) := by decide +kernel
theorem dX7_roads_28 : decode cX7_roads 28 = .ok (.aload_n 0, 1) := by decide +kernel
theorem dX7_roads_29 : decode cX7_roads 29 = .ok (.getfield 26, 3) := by decide +kernel
theorem dX7_roads_32 : decode cX7_roads 32 = .ok (.iload_n 3, 1) := by decide +kernel
theorem dX7_roads_33 : decode cX7_roads 33 = .ok (.invokevirtual 98, 3) := by decide +kernel
theorem dX7_roads_36 : decode cX7_roads 36 = .ok (.istore 4, 2) := by decide +kernel
theorem dX7_roads_38 : decode cX7_roads 38 = .ok (.aload_n 0, 1) := by decide +kernel
theorem dX7_roads_39 : decode cX7_roads 39 = .ok (.getfield 26, 3) := by decide +kernel
theorem dX7_roads_42 : decode cX7_roads 42 = .ok (.iload_n 3, 1) := by decide +kernel
theorem dX7_roads_43 : decode cX7_roads 43 = .ok (.iconst 1, 1) := by decide +kernel
theorem dX7_roads_44 : decode cX7_roads 44 = .ok (.iadd, 1) := by decide +kernel
theorem dX7_roads_45 : decode cX7_roads 45 = .ok (.invokevirtual 98, 3) := by decide +kernel
theorem dX7_roads_48 : decode cX7_roads 48 = .ok (.istore 5, 2) := by decide +kernel
theorem dX7_roads_50 : decode cX7_roads 50 = .ok (.sipush 256, 3) := by decide +kernel
theorem dX7_roads_53 : decode cX7_roads 53 = .ok (.aload_n 0, 1) := by decide +kernel
theorem dX7_roads_54 : decode cX7_roads 54 = .ok (.getfield 26, 3) := by decide +kernel
theorem dX7_roads_57 : decode cX7_roads 57 = .ok (.iload_n 3, 1) := by decide +kernel
theorem dX7_roads_58 : decode cX7_roads 58 = .ok (.iconst 2, 1) := by decide +kernel
theorem dX7_roads_59 : decode cX7_roads 59 = .ok (.iadd, 1) := by decide +kernel
theorem dX7_roads_60 : decode cX7_roads 60 = .ok (.invokevirtual 98, 3) := by decide +kernel
theorem dX7_roads_63 : decode cX7_roads 63 = .ok (.imul, 1) := by decide +kernel
theorem dX7_roads_64 : decode cX7_roads 64 = .ok (.aload_n 0, 1) := by decide +kernel
theorem dX7_roads_65 : decode cX7_roads 65 = .ok (.getfield 26, 3) := by decide +kernel
theorem dX7_roads_68 : decode cX7_roads 68 = .ok (.iload_n 3, 1) := by decide +kernel
theorem dX7_roads_69 : decode cX7_roads 69 = .ok (.iconst 3, 1) := by decide +kernel
theorem dX7_roads_70 : decode cX7_roads 70 = .ok (.iadd, 1) := by decide +kernel
theorem dX7_roads_71 : decode cX7_roads 71 = .ok (.invokevirtual 98, 3) := by decide +kernel
theorem dX7_roads_74 : decode cX7_roads 74 = .ok (.iadd, 1) := by decide +kernel
theorem dX7_roads_75 : decode cX7_roads 75 = .ok (.istore 6, 2) := by decide +kernel
theorem dX7_roads_77 : decode cX7_roads 77 = .ok (.aload_n 0, 1) := by decide +kernel
theorem dX7_roads_78 : decode cX7_roads 78 = .ok (.getfield 12, 3) := by decide +kernel
theorem dX7_roads_81 : decode cX7_roads 81 = .ok (.iload 4, 2) := by decide +kernel
theorem dX7_roads_83 : decode cX7_roads 83 = .ok (.iload 5, 2) := by decide +kernel
theorem dX7_roads_85 : decode cX7_roads 85 = .ok (.iload 6, 2) := by decide +kernel
theorem dX7_roads_87 : decode cX7_roads 87 = .ok (.invokevirtual 72, 3) := by decide +kernel
theorem dX7_roads_90 : decode cX7_roads 90 = .ok (.ifCond .ne 6, 3) := by decide +kernel
theorem dX7_roads_93 : decode cX7_roads 93 = .ok (.goto 33, 3) := by decide +kernel
theorem dX7_roads_96 : decode cX7_roads 96 = .ok (.iload_n 2, 1) := by decide +kernel
theorem dX7_roads_97 : decode cX7_roads 97 = .ok (.ifCond .ne 7, 3) := by decide +kernel
theorem dX7_roads_100 : decode cX7_roads 100 = .ok (.aload_n 0, 1) := by decide +kernel
theorem dX7_roads_101 : decode cX7_roads 101 = .ok (.invokevirtual 69, 3) := by decide +kernel
theorem dX7_roads_104 : decode cX7_roads 104 = .ok (.aload_n 0, 1) := by decide +kernel
theorem dX7_roads_105 : decode cX7_roads 105 = .ok (.getfield 12, 3) := by decide +kernel
theorem dX7_roads_108 : decode cX7_roads 108 = .ok (.iload 4, 2) := by decide +kernel
theorem dX7_roads_110 : decode cX7_roads 110 = .ok (.iload 5, 2) := by decide +kernel
theorem dX7_roads_112 : decode cX7_roads 112 = .ok (.iload 6, 2) := by decide +kernel
theorem dX7_roads_114 : decode cX7_roads 114 = .ok (.invokevirtual 76, 3) := by decide +kernel
theorem dX7_roads_117 : decode cX7_roads 117 = .ok (.iinc 2 1, 3) := by decide +kernel
theorem dX7_roads_120 : decode cX7_roads 120 = .ok (.iinc 3 4, 3) := by decide +kernel
theorem dX7_roads_123 : decode cX7_roads 123 = .ok (.goto (-102), 3) := by decide +kernel
theorem dX7_roads_126 : decode cX7_roads 126 = .ok (.aload_n 0, 1) := by decide +kernel
theorem dX7_roads_127 : decode cX7_roads 127 = .ok (.getfield 26, 3) := by decide +kernel
theorem dX7_roads_130 : decode cX7_roads 130 = .ok (.iconst 0, 1) := by decide +kernel
theorem dX7_roads_131 : decode cX7_roads 131 = .ok (.putfield 95, 3) := by decide +kernel
theorem dX7_roads_134 : decode cX7_roads 134 = .ok (.iload_n 2, 1) := by decide +kernel
theorem dX7_roads_135 : decode cX7_roads 135 = .ok (.ireturn, 1) := by decide +kernel
theorem dX7_reach_0 : decode cX7_reach 0 = .ok (.aload_n 0, 1) := by decide +kernel
theorem dX7_reach_1 : decode cX7_reach 1 = .ok (.getfield 12, 3) := by decide +kernel
theorem dX7_reach_4 : decode cX7_reach 4 = .ok (.iload_n 1, 1) := by decide +kernel
theorem dX7_reach_5 : decode cX7_reach 5 = .ok (.invokevirtual 80, 3) := by decide +kernel
theorem dX7_reach_8 : decode cX7_reach 8 = .ok (.ifCond .eq 14, 3) := by decide +kernel
theorem dX7_reach_11 : decode cX7_reach 11 = .ok (.iload_n 2, 1) := by decide +kernel
theorem dX7_reach_12 : decode cX7_reach 12 = .ok (.ifCond .lt 10, 3) := by decide +kernel
theorem dX7_reach_15 : decode cX7_reach 15 = .ok (.iload_n 2, 1) := by decide +kernel
theorem dX7_reach_16 : decode cX7_reach 16 = .ok (.sipush 20000, 3) := by decide +kernel
theorem dX7_reach_19 : decode cX7_reach 19 = .ok (.if_icmp .le 5, 3) := by decide +kernel
theorem dX7_reach_22 : decode cX7_reach 22 = .ok (.iconst 0, 1) := by decide +kernel
theorem dX7_reach_23 : decode cX7_reach 23 = .ok (.ireturn, 1) := by decide +kernel
theorem dX7_reach_24 : decode cX7_reach 24 = .ok (.aload_n 0, 1) := by decide +kernel
theorem dX7_reach_25 : decode cX7_reach 25 = .ok (.invokevirtual 69, 3) := by decide +kernel
theorem dX7_reach_28 : decode cX7_reach 28 = .ok (.aload_n 0, 1) := by decide +kernel
theorem dX7_reach_29 : decode cX7_reach 29 = .ok (.getfield 12, 3) := by decide +kernel
theorem dX7_reach_32 : decode cX7_reach 32 = .ok (.getfield 102, 3) := by decide +kernel
theorem dX7_reach_35 : decode cX7_reach 35 = .ok (.iload_n 1, 1) := by decide +kernel
theorem dX7_reach_36 : decode cX7_reach 36 = .ok (.iload_n 2, 1) := by decide +kernel
theorem dX7_reach_37 : decode cX7_reach 37 = .ok (.iastore, 1) := by decide +kernel
theorem dX7_reach_38 : decode cX7_reach 38 = .ok (.iconst 1, 1) := by decide +kernel
theorem dX7_reach_39 : decode cX7_reach 39 = .ok (.ireturn, 1) := by decide +kernel
theorem dX7_price_0 : decode cX7_price 0 = .ok (.aload_n 0, 1) := by decide +kernel
theorem dX7_price_1 : decode cX7_price 1 = .ok (.getfield 12, 3) := by decide +kernel
theorem dX7_price_4 : decode cX7_price 4 = .ok (.iload_n 1, 1) := by decide +kernel
theorem dX7_price_5 : decode cX7_price 5 = .ok (.invokevirtual 80, 3) := by decide +kernel
theorem dX7_price_8 : decode cX7_price 8 = .ok (.ifCond .eq 15, 3) := by decide +kernel
theorem dX7_price_11 : decode cX7_price 11 = .ok (.iload_n 2, 1) := by decide +kernel
theorem dX7_price_12 : decode cX7_price 12 = .ok (.iconst 1, 1) := by decide +kernel
theorem dX7_price_13 : decode cX7_price 13 = .ok (.if_icmp .lt 10, 3) := by decide +kernel
theorem dX7_price_16 : decode cX7_price 16 = .ok (.iload_n 2, 1) := by decide +kernel
theorem dX7_price_17 : decode cX7_price 17 = .ok (.sipush 1000, 3) := by decide +kernel
theorem dX7_price_20 : decode cX7_price 20 = .ok (.if_icmp .le 5, 3) := by decide +kernel
theorem dX7_price_23 : decode cX7_price 23 = .ok (.iconst 0, 1) := by decide +kernel
theorem dX7_price_24 : decode cX7_price 24 = .ok (.ireturn, 1) := by decide +kernel
theorem dX7_price_25 : decode cX7_price 25 = .ok (.aload_n 0, 1) := by decide +kernel
theorem dX7_price_26 : decode cX7_price 26 = .ok (.invokevirtual 69, 3) := by decide +kernel
theorem dX7_price_29 : decode cX7_price 29 = .ok (.aload_n 0, 1) := by decide +kernel
theorem dX7_price_30 : decode cX7_price 30 = .ok (.getfield 12, 3) := by decide +kernel
theorem dX7_price_33 : decode cX7_price 33 = .ok (.getfield 106, 3) := by decide +kernel
theorem dX7_price_36 : decode cX7_price 36 = .ok (.iload_n 1, 1) := by decide +kernel
theorem dX7_price_37 : decode cX7_price 37 = .ok (.iload_n 2, 1) := by decide +kernel
theorem dX7_price_38 : decode cX7_price 38 = .ok (.iastore, 1) := by decide +kernel
theorem dX7_price_39 : decode cX7_price 39 = .ok (.iconst 1, 1) := by decide +kernel
theorem dX7_price_40 : decode cX7_price 40 = .ok (.ireturn, 1) := by decide +kernel
theorem dX7_chance_0 : decode cX7_chance 0 = .ok (.aload_n 0, 1) := by decide +kernel
theorem dX7_chance_1 : decode cX7_chance 1 = .ok (.getfield 12, 3) := by decide +kernel
theorem dX7_chance_4 : decode cX7_chance 4 = .ok (.iload_n 1, 1) := by decide +kernel
theorem dX7_chance_5 : decode cX7_chance 5 = .ok (.invokevirtual 80, 3) := by decide +kernel
theorem dX7_chance_8 : decode cX7_chance 8 = .ok (.ifCond .eq 13, 3) := by decide +kernel
theorem dX7_chance_11 : decode cX7_chance 11 = .ok (.iload_n 2, 1) := by decide +kernel
theorem dX7_chance_12 : decode cX7_chance 12 = .ok (.ifCond .lt 9, 3) := by decide +kernel
theorem dX7_chance_15 : decode cX7_chance 15 = .ok (.iload_n 2, 1) := by decide +kernel
theorem dX7_chance_16 : decode cX7_chance 16 = .ok (.bipush 100, 2) := by decide +kernel
theorem dX7_chance_18 : decode cX7_chance 18 = .ok (.if_icmp .le 5, 3) := by decide +kernel
theorem dX7_chance_21 : decode cX7_chance 21 = .ok (.iconst 0, 1) := by decide +kernel
theorem dX7_chance_22 : decode cX7_chance 22 = .ok (.ireturn, 1) := by decide +kernel
theorem dX7_chance_23 : decode cX7_chance 23 = .ok (.aload_n 0, 1) := by decide +kernel
theorem dX7_chance_24 : decode cX7_chance 24 = .ok (.invokevirtual 69, 3) := by decide +kernel
theorem dX7_chance_27 : decode cX7_chance 27 = .ok (.aload_n 0, 1) := by decide +kernel
theorem dX7_chance_28 : decode cX7_chance 28 = .ok (.getfield 12, 3) := by decide +kernel
theorem dX7_chance_31 : decode cX7_chance 31 = .ok (.getfield 109, 3) := by decide +kernel
theorem dX7_chance_34 : decode cX7_chance 34 = .ok (.iload_n 1, 1) := by decide +kernel
theorem dX7_chance_35 : decode cX7_chance 35 = .ok (.iload_n 2, 1) := by decide +kernel
theorem dX7_chance_36 : decode cX7_chance 36 = .ok (.iastore, 1) := by decide +kernel
theorem dX7_chance_37 : decode cX7_chance 37 = .ok (.iconst 1, 1) := by decide +kernel
theorem dX7_chance_38 : decode cX7_chance 38 = .ok (.ireturn, 1) := by decide +kernel
theorem dX7_rule_0 : decode cX7_rule 0 = .ok (.iload_n 1, 1) := by decide +kernel
theorem dX7_rule_1 : decode cX7_rule 1 = .ok (.iconst 3, 1) := by decide +kernel
theorem dX7_rule_2 : decode cX7_rule 2 = .ok (.if_icmp .ne 9, 3) := by decide +kernel
theorem dX7_rule_5 : decode cX7_rule 5 = .ok (.sipush 20000, 3) := by decide +kernel
theorem dX7_rule_8 : decode cX7_rule 8 = .ok (.goto 4, 3) := by decide +kernel
theorem dX7_rule_11 : decode cX7_rule 11 = .ok (.iconst 0, 1) := by decide +kernel
theorem dX7_rule_12 : decode cX7_rule 12 = .ok (.istore_n 3, 1) := by decide +kernel
theorem dX7_rule_13 : decode cX7_rule 13 = .ok (.iload_n 1, 1) := by decide +kernel
theorem dX7_rule_14 : decode cX7_rule 14 = .ok (.ifCond .lt 17, 3) := by decide +kernel
theorem dX7_rule_17 : decode cX7_rule 17 = .ok (.iload_n 1, 1) := by decide +kernel
theorem dX7_rule_18 : decode cX7_rule 18 = .ok (.iconst 4, 1) := by decide +kernel
theorem dX7_rule_19 : decode cX7_rule 19 = .ok (.if_icmp .gt 12, 3) := by decide +kernel
theorem dX7_rule_22 : decode cX7_rule 22 = .ok (.iload_n 2, 1) := by decide +kernel
theorem dX7_rule_23 : decode cX7_rule 23 = .ok (.ifCond .lt 8, 3) := by decide +kernel
theorem dX7_rule_26 : decode cX7_rule 26 = .ok (.iload_n 2, 1) := by decide +kernel
theorem dX7_rule_27 : decode cX7_rule 27 = .ok (.iload_n 3, 1) := by decide +kernel
theorem dX7_rule_28 : decode cX7_rule 28 = .ok (.if_icmp .le 5, 3) := by decide +kernel
theorem dX7_rule_31 : decode cX7_rule 31 = .ok (.iconst 0, 1) := by decide +kernel
theorem dX7_rule_32 : decode cX7_rule 32 = .ok (.ireturn, 1) := by decide +kernel
theorem dX7_rule_33 : decode cX7_rule 33 = .ok (.aload_n 0, 1) := by decide +kernel
theorem dX7_rule_34 : decode cX7_rule 34 = .ok (.invokevirtual 69, 3) := by decide +kernel
theorem dX7_rule_37 : decode cX7_rule 37 = .ok (.aload_n 0, 1) := by decide +kernel
theorem dX7_rule_38 : decode cX7_rule 38 = .ok (.getfield 12, 3) := by decide +kernel
theorem dX7_rule_41 : decode cX7_rule 41 = .ok (.iload_n 1, 1) := by decide +kernel
theorem dX7_rule_42 : decode cX7_rule 42 = .ok (.putfield 112, 3) := by decide +kernel
theorem dX7_rule_45 : decode cX7_rule 45 = .ok (.aload_n 0, 1) := by decide +kernel
theorem dX7_rule_46 : decode cX7_rule 46 = .ok (.getfield 12, 3) := by decide +kernel
theorem dX7_rule_49 : decode cX7_rule 49 = .ok (.iload_n 2, 1) := by decide +kernel
theorem dX7_rule_50 : decode cX7_rule 50 = .ok (.putfield 115, 3) := by decide +kernel
theorem dX7_rule_53 : decode cX7_rule 53 = .ok (.iconst 1, 1) := by decide +kernel
theorem dX7_rule_54 : decode cX7_rule 54 = .ok (.ireturn, 1) := by decide +kernel
theorem dX7_may_0 : decode cX7_may 0 = .ok (.iload_n 1, 1) := by decide +kernel
theorem dX7_may_1 : decode cX7_may 1 = .ok (.ifCond .lt 8, 3) := by decide +kernel
theorem dX7_may_4 : decode cX7_may 4 = .ok (.iload_n 1, 1) := by decide +kernel
theorem dX7_may_5 : decode cX7_may 5 = .ok (.iconst 3, 1) := by decide +kernel
theorem dX7_may_6 : decode cX7_may 6 = .ok (.if_icmp .le 5, 3) := by decide +kernel
theorem dX7_may_9 : decode cX7_may 9 = .ok (.iconst (-1), 1) := by decide +kernel
theorem dX7_may_10 : decode cX7_may 10 = .ok (.ireturn, 1) := by decide +kernel
theorem dX7_may_11 : decode cX7_may 11 = .ok (.aload_n 0, 1) := by decide +kernel
theorem dX7_may_12 : decode cX7_may 12 = .ok (.invokevirtual 69, 3) := by decide +kernel
theorem dX7_may_15 : decode cX7_may 15 = .ok (.aload_n 0, 1) := by decide +kernel
theorem dX7_may_16 : decode cX7_may 16 = .ok (.getfield 12, 3) := by decide +kernel
theorem dX7_may_19 : decode cX7_may 19 = .ok (.iload_n 1, 1) := by decide +kernel
theorem dX7_may_20 : decode cX7_may 20 = .ok (.putfield 118, 3) := by decide +kernel
theorem dX7_may_23 : decode cX7_may 23 = .ok (.aload_n 0, 1) := by decide +kernel
theorem dX7_may_24 : decode cX7_may 24 = .ok (.getfield 12, 3) := by decide +kernel
theorem dX7_may_27 : decode cX7_may 27 = .ok (.iload_n 2, 1) := by decide +kernel
theorem dX7_may_28 : decode cX7_may 28 = .ok (.putfield 121, 3) := by decide +kernel
theorem dX7_may_31 : decode cX7_may 31 = .ok (.aload_n 0, 1) := by decide +kernel
theorem dX7_may_32 : decode cX7_may 32 = .ok (.getfield 12, 3) := by decide +kernel
theorem dX7_may_35 : decode cX7_may 35 = .ok (.invokevirtual 124, 3) := by decide +kernel
theorem dX7_may_38 : decode cX7_may 38 = .ok (.ireturn, 1) := by decide +kernel
theorem dX7_want_0 : decode cX7_want 0 = .ok (.aload_n 0, 1) := by decide +kernel
theorem dX7_want_1 : decode cX7_want 1 = .ok (.invokevirtual 69, 3) := by decide +kernel
theorem dX7_want_4 : decode cX7_want 4 = .ok (.aload_n 0, 1) := by decide +kernel
theorem dX7_want_5 : decode cX7_want 5 = .ok (.getfield 12, 3) := by decide +kernel
theorem dX7_want_8 : decode cX7_want 8 = .ok (.iload_n 1, 1) := by decide +kernel
theorem dX7_want_9 : decode cX7_want 9 = .ok (.putfield 128, 3) := by decide +kernel
theorem dX7_want_12 : decode cX7_want 12 = .ok (.return_, 1) := by decide +kernel
theorem dX7_way_0 : decode cX7_way 0 = .ok (.aload_n 0, 1) := by decide +kernel
theorem dX7_way_1 : decode cX7_way 1 = .ok (.getfield 12, 3) := by decide +kernel
theorem dX7_way_4 : decode cX7_way 4 = .ok (.iload_n 1, 1) := by decide +kernel
theorem dX7_way_5 : decode cX7_way 5 = .ok (.invokevirtual 80, 3) := by decide +kernel
theorem dX7_way_8 : decode cX7_way 8 = .ok (.ifCond .eq 14, 3) := by decide +kernel
theorem dX7_way_11 : decode cX7_way 11 = .ok (.aload_n 0, 1) := by decide +kernel
theorem dX7_way_12 : decode cX7_way 12 = .ok (.getfield 12, 3) := by decide +kernel
theorem dX7_way_15 : decode cX7_way 15 = .ok (.iload_n 2, 1) := by decide +kernel
theorem dX7_way_16 : decode cX7_way 16 = .ok (.invokevirtual 80, 3) := by decide +kernel
theorem dX7_way_19 : decode cX7_way 19 = .ok (.ifCond .ne 5, 3) := by decide +kernel
theorem dX7_way_22 : decode cX7_way 22 = .ok (.iconst (-1), 1) := by decide +kernel
theorem dX7_way_23 : decode cX7_way 23 = .ok (.ireturn, 1) := by decide +kernel
theorem dX7_way_24 : decode cX7_way 24 = .ok (.aload_n 0, 1) := by decide +kernel
theorem dX7_way_25 : decode cX7_way 25 = .ok (.invokevirtual 131, 3) := by decide +kernel
theorem dX7_way_28 : decode cX7_way 28 = .ok (.getfield 135, 3) := by decide +kernel
theorem dX7_way_31 : decode cX7_way 31 = .ok (.bipush 16, 2) := by decide +kernel
theorem dX7_way_33 : decode cX7_way 33 = .ok (.iload_n 1, 1) := by decide +kernel
theorem dX7_way_34 : decode cX7_way 34 = .ok (.imul, 1) := by decide +kernel
theorem dX7_way_35 : decode cX7_way 35 = .ok (.iload_n 2, 1) := by decide +kernel
theorem dX7_way_36 : decode cX7_way 36 = .ok (.iadd, 1) := by decide +kernel
theorem dX7_way_37 : decode cX7_way 37 = .ok (.iaload, 1) := by decide +kernel
theorem dX7_way_38 : decode cX7_way 38 = .ok (.ireturn, 1) := by decide +kernel
theorem dX7_of_0 : decode cX7_of 0 = .ok (.aload_n 0, 1) := by decide +kernel
theorem dX7_of_1 : decode cX7_of 1 = .ok (.getfield 12, 3) := by decide +kernel
theorem dX7_of_4 : decode cX7_of 4 = .ok (.iload_n 1, 1) := by decide +kernel
theorem dX7_of_5 : decode cX7_of 5 = .ok (.invokevirtual 80, 3) := by decide +kernel
theorem dX7_of_8 : decode cX7_of 8 = .ok (.ifCond .ne 5, 3) := by decide +kernel
theorem dX7_of_11 : decode cX7_of 11 = .ok (.iconst (-1), 1) := by decide +kernel
theorem dX7_of_12 : decode cX7_of 12 = .ok (.ireturn, 1) := by decide +kernel
theorem dX7_of_13 : decode cX7_of 13 = .ok (.iload_n 2, 1) := by decide +kernel
theorem dX7_of_14 : decode cX7_of 14 = .ok (.tableswitch 98 0 5 #[38, 50, 60, 70, 80, 89], 38) := by decide +kernel
theorem dX7_of_52 : decode cX7_of 52 = .ok (.aload_n 0, 1) := by decide +kernel
theorem dX7_of_53 : decode cX7_of 53 = .ok (.getfield 12, 3) := by decide +kernel
theorem dX7_of_56 : decode cX7_of 56 = .ok (.iload_n 1, 1) := by decide +kernel
theorem dX7_of_57 : decode cX7_of 57 = .ok (.invokevirtual 138, 3) := by decide +kernel
theorem dX7_of_60 : decode cX7_of 60 = .ok (.invokestatic 141, 3) := by decide +kernel
theorem dX7_of_63 : decode cX7_of 63 = .ok (.ireturn, 1) := by decide +kernel
theorem dX7_of_64 : decode cX7_of 64 = .ok (.aload_n 0, 1) := by decide +kernel
theorem dX7_of_65 : decode cX7_of 65 = .ok (.getfield 12, 3) := by decide +kernel
theorem dX7_of_68 : decode cX7_of 68 = .ok (.getfield 102, 3) := by decide +kernel
theorem dX7_of_71 : decode cX7_of 71 = .ok (.iload_n 1, 1) := by decide +kernel
theorem dX7_of_72 : decode cX7_of 72 = .ok (.iaload, 1) := by decide +kernel
theorem dX7_of_73 : decode cX7_of 73 = .ok (.ireturn, 1) := by decide +kernel
theorem dX7_of_74 : decode cX7_of 74 = .ok (.aload_n 0, 1) := by decide +kernel
theorem dX7_of_75 : decode cX7_of 75 = .ok (.getfield 12, 3) := by decide +kernel
theorem dX7_of_78 : decode cX7_of 78 = .ok (.getfield 106, 3) := by decide +kernel
theorem dX7_of_81 : decode cX7_of 81 = .ok (.iload_n 1, 1) := by decide +kernel
theorem dX7_of_82 : decode cX7_of 82 = .ok (.iaload, 1) := by decide +kernel
theorem dX7_of_83 : decode cX7_of 83 = .ok (.ireturn, 1) := by decide +kernel
theorem dX7_of_84 : decode cX7_of 84 = .ok (.aload_n 0, 1) := by decide +kernel
theorem dX7_of_85 : decode cX7_of 85 = .ok (.getfield 12, 3) := by decide +kernel
theorem dX7_of_88 : decode cX7_of 88 = .ok (.getfield 109, 3) := by decide +kernel
theorem dX7_of_91 : decode cX7_of 91 = .ok (.iload_n 1, 1) := by decide +kernel
theorem dX7_of_92 : decode cX7_of 92 = .ok (.iaload, 1) := by decide +kernel
theorem dX7_of_93 : decode cX7_of 93 = .ok (.ireturn, 1) := by decide +kernel
theorem dX7_of_94 : decode cX7_of 94 = .ok (.aload_n 0, 1) := by decide +kernel
theorem dX7_of_95 : decode cX7_of 95 = .ok (.getfield 12, 3) := by decide +kernel
theorem dX7_of_98 : decode cX7_of 98 = .ok (.iload_n 1, 1) := by decide +kernel
theorem dX7_of_99 : decode cX7_of 99 = .ok (.invokevirtual 138, 3) := by decide +kernel
theorem dX7_of_102 : decode cX7_of 102 = .ok (.ireturn, 1) := by decide +kernel
theorem dX7_of_103 : decode cX7_of 103 = .ok (.aload_n 0, 1) := by decide +kernel
theorem dX7_of_104 : decode cX7_of 104 = .ok (.invokevirtual 131, 3) := by decide +kernel
theorem dX7_of_107 : decode cX7_of 107 = .ok (.iload_n 1, 1) := by decide +kernel
theorem dX7_of_108 : decode cX7_of 108 = .ok (.invokevirtual 146, 3) := by decide +kernel
theorem dX7_of_111 : decode cX7_of 111 = .ok (.ireturn, 1) := by decide +kernel
theorem dX7_of_112 : decode cX7_of 112 = .ok (.iconst (-1), 1) := by decide +kernel
theorem dX7_of_113 : decode cX7_of 113 = .ok (.ireturn, 1) := by decide +kernel
theorem dX7_answer_0 : decode cX7_answer 0 = .ok (.aload_n 0, 1) := by decide +kernel
theorem dX7_answer_1 : decode cX7_answer 1 = .ok (.getfield 12, 3) := by decide +kernel
theorem dX7_answer_4 : decode cX7_answer 4 = .ok (.iload_n 1, 1) := by decide +kernel
theorem dX7_answer_5 : decode cX7_answer 5 = .ok (.invokevirtual 80, 3) := by decide +kernel
theorem dX7_answer_8 : decode cX7_answer 8 = .ok (.ifCond .eq 14, 3) := by decide +kernel
theorem dX7_answer_11 : decode cX7_answer 11 = .ok (.aload_n 0, 1) := by decide +kernel
theorem dX7_answer_12 : decode cX7_answer 12 = .ok (.getfield 12, 3) := by decide +kernel
theorem dX7_answer_15 : decode cX7_answer 15 = .ok (.iload_n 2, 1) := by decide +kernel
theorem dX7_answer_16 : decode cX7_answer 16 = .ok (.invokevirtual 80, 3) := by decide +kernel
theorem dX7_answer_19 : decode cX7_answer 19 = .ok (.ifCond .ne 5, 3) := by decide +kernel
theorem dX7_answer_22 : decode cX7_answer 22 = .ok (.iconst (-1), 1) := by decide +kernel
theorem dX7_answer_23 : decode cX7_answer 23 = .ok (.ireturn, 1) := by decide +kernel
theorem dX7_answer_24 : decode cX7_answer 24 = .ok (.aload_n 0, 1) := by decide +kernel
theorem dX7_answer_25 : decode cX7_answer 25 = .ok (.invokevirtual 131, 3) := by decide +kernel
theorem dX7_answer_28 : decode cX7_answer 28 = .ok (.getfield 149, 3) := by decide +kernel
theorem dX7_answer_31 : decode cX7_answer 31 = .ok (.bipush 16, 2) := by decide +kernel
theorem dX7_answer_33 : decode cX7_answer 33 = .ok (.iload_n 1, 1) := by decide +kernel
theorem dX7_answer_34 : decode cX7_answer 34 = .ok (.imul, 1) := by decide +kernel
theorem dX7_answer_35 : decode cX7_answer 35 = .ok (.iload_n 2, 1) := by decide +kernel
theorem dX7_answer_36 : decode cX7_answer 36 = .ok (.iadd, 1) := by decide +kernel
theorem dX7_answer_37 : decode cX7_answer 37 = .ok (.iaload, 1) := by decide +kernel
theorem dX7_answer_38 : decode cX7_answer 38 = .ok (.ireturn, 1) := by decide +kernel
theorem dX7_parts_0 : decode cX7_parts 0 = .ok (.aload_n 0, 1) := by decide +kernel
theorem dX7_parts_1 : decode cX7_parts 1 = .ok (.getfield 12, 3) := by decide +kernel
theorem dX7_parts_4 : decode cX7_parts 4 = .ok (.iload_n 1, 1) := by decide +kernel
theorem dX7_parts_5 : decode cX7_parts 5 = .ok (.invokevirtual 152, 3) := by decide +kernel
theorem dX7_parts_8 : decode cX7_parts 8 = .ok (.ifCond .eq 30, 3) := by decide +kernel
theorem dX7_parts_11 : decode cX7_parts 11 = .ok (.aload_n 0, 1) := by decide +kernel
theorem dX7_parts_12 : decode cX7_parts 12 = .ok (.getfield 12, 3) := by decide +kernel
theorem dX7_parts_15 : decode cX7_parts 15 = .ok (.iload_n 2, 1) := by decide +kernel
theorem dX7_parts_16 : decode cX7_parts 16 = .ok (.invokevirtual 80, 3) := by decide +kernel
theorem dX7_parts_19 : decode cX7_parts 19 = .ok (.ifCond .eq 19, 3) := by decide +kernel
theorem dX7_parts_22 : decode cX7_parts 22 = .ok (.aload_n 0, 1) := by decide +kernel
theorem dX7_parts_23 : decode cX7_parts 23 = .ok (.getfield 12, 3) := by decide +kernel
theorem dX7_parts_26 : decode cX7_parts 26 = .ok (.iload_n 3, 1) := by decide +kernel
theorem dX7_parts_27 : decode cX7_parts 27 = .ok (.invokevirtual 80, 3) := by decide +kernel
theorem dX7_parts_30 : decode cX7_parts 30 = .ok (.ifCond .eq 8, 3) := by decide +kernel
theorem dX7_parts_33 : decode cX7_parts 33 = .ok (.iload_n 2, 1) := by decide +kernel
theorem dX7_parts_34 : decode cX7_parts 34 = .ok (.iload_n 3, 1) := by decide +kernel
theorem dX7_parts_35 : decode cX7_parts 35 = .ok (.if_icmp .ne 5, 3) := by decide +kernel
theorem dX7_parts_38 : decode cX7_parts 38 = .ok (.iconst (-1), 1) := by decide +kernel
theorem dX7_parts_39 : decode cX7_parts 39 = .ok (.ireturn, 1) := by decide +kernel
theorem dX7_parts_40 : decode cX7_parts 40 = .ok (.bipush 16, 2) := by decide +kernel
theorem dX7_parts_42 : decode cX7_parts 42 = .ok (.iload_n 2, 1) := by decide +kernel
theorem dX7_parts_43 : decode cX7_parts 43 = .ok (.iload_n 3, 1) := by decide +kernel
theorem dX7_parts_44 : decode cX7_parts 44 = .ok (.invokestatic 155, 3) := by decide +kernel
theorem dX7_parts_47 : decode cX7_parts 47 = .ok (.imul, 1) := by decide +kernel
theorem dX7_parts_48 : decode cX7_parts 48 = .ok (.iload_n 2, 1) := by decide +kernel
theorem dX7_parts_49 : decode cX7_parts 49 = .ok (.iload_n 3, 1) := by decide +kernel
theorem dX7_parts_50 : decode cX7_parts 50 = .ok (.invokestatic 161, 3) := by decide +kernel
theorem dX7_parts_53 : decode cX7_parts 53 = .ok (.iadd, 1) := by decide +kernel
theorem dX7_parts_54 : decode cX7_parts 54 = .ok (.istore 4, 2) := by decide +kernel
theorem dX7_parts_56 : decode cX7_parts 56 = .ok (.iload_n 1, 1) := by decide +kernel
theorem dX7_parts_57 : decode cX7_parts 57 = .ok (.aload_n 0, 1) := by decide +kernel
theorem dX7_parts_58 : decode cX7_parts 58 = .ok (.invokevirtual 131, 3) := by decide +kernel
theorem dX7_parts_61 : decode cX7_parts 61 = .ok (.getfield 164, 3) := by decide +kernel
theorem dX7_parts_64 : decode cX7_parts 64 = .ok (.iload 4, 2) := by decide +kernel
theorem dX7_parts_66 : decode cX7_parts 66 = .ok (.iaload, 1) := by decide +kernel
theorem dX7_parts_67 : decode cX7_parts 67 = .ok (.iand, 1) := by decide +kernel
theorem dX7_parts_68 : decode cX7_parts 68 = .ok (.invokestatic 141, 3) := by decide +kernel
theorem dX7_parts_71 : decode cX7_parts 71 = .ok (.ireturn, 1) := by decide +kernel
theorem dX7_clash_0 : decode cX7_clash 0 = .ok (.aload_n 0, 1) := by decide +kernel
theorem dX7_clash_1 : decode cX7_clash 1 = .ok (.getfield 12, 3) := by decide +kernel
theorem dX7_clash_4 : decode cX7_clash 4 = .ok (.iload_n 1, 1) := by decide +kernel
theorem dX7_clash_5 : decode cX7_clash 5 = .ok (.invokevirtual 152, 3) := by decide +kernel
theorem dX7_clash_8 : decode cX7_clash 8 = .ok (.ifCond .ne 6, 3) := by decide +kernel
theorem dX7_clash_11 : decode cX7_clash 11 = .ok (.bipush (-2), 2) := by decide +kernel
theorem dX7_clash_13 : decode cX7_clash 13 = .ok (.ireturn, 1) := by decide +kernel
theorem dX7_clash_14 : decode cX7_clash 14 = .ok (.aload_n 0, 1) := by decide +kernel
theorem dX7_clash_15 : decode cX7_clash 15 = .ok (.invokevirtual 131, 3) := by decide +kernel
theorem dX7_clash_18 : decode cX7_clash 18 = .ok (.astore_n 2, 1) := by decide +kernel
theorem dX7_clash_19 : decode cX7_clash 19 = .ok (.aload_n 2, 1) := by decide +kernel
theorem dX7_clash_20 : decode cX7_clash 20 = .ok (.iload_n 1, 1) := by decide +kernel
theorem dX7_clash_21 : decode cX7_clash 21 = .ok (.aload_n 0, 1) := by decide +kernel
theorem dX7_clash_22 : decode cX7_clash 22 = .ok (.getfield 12, 3) := by decide +kernel
theorem dX7_clash_25 : decode cX7_clash 25 = .ok (.invokevirtual 124, 3) := by decide +kernel
theorem dX7_clash_28 : decode cX7_clash 28 = .ok (.invokevirtual 167, 3) := by decide +kernel
theorem dX7_clash_31 : decode cX7_clash 31 = .ok (.istore_n 3, 1) := by decide +kernel
theorem dX7_clash_32 : decode cX7_clash 32 = .ok (.iload_n 3, 1) := by decide +kernel
theorem dX7_clash_33 : decode cX7_clash 33 = .ok (.iconst (-1), 1) := by decide +kernel
theorem dX7_clash_34 : decode cX7_clash 34 = .ok (.if_icmp .ne 13, 3) := by decide +kernel
theorem dX7_clash_37 : decode cX7_clash 37 = .ok (.aload_n 0, 1) := by decide +kernel
theorem dX7_clash_38 : decode cX7_clash 38 = .ok (.getfield 12, 3) := by decide +kernel
theorem dX7_clash_41 : decode cX7_clash 41 = .ok (.getfield 128, 3) := by decide +kernel
theorem dX7_clash_44 : decode cX7_clash 44 = .ok (.ifCond .ne 5, 3) := by decide +kernel
theorem dX7_clash_47 : decode cX7_clash 47 = .ok (.iload_n 3, 1) := by decide +kernel
theorem dX7_clash_48 : decode cX7_clash 48 = .ok (.ireturn, 1) := by decide +kernel
theorem dX7_clash_49 : decode cX7_clash 49 = .ok (.aload_n 2, 1) := by decide +kernel
theorem dX7_clash_50 : decode cX7_clash 50 = .ok (.iload_n 1, 1) := by decide +kernel
theorem dX7_clash_51 : decode cX7_clash 51 = .ok (.aload_n 0, 1) := by decide +kernel
theorem dX7_clash_52 : decode cX7_clash 52 = .ok (.getfield 12, 3) := by decide +kernel
theorem dX7_clash_55 : decode cX7_clash 55 = .ok (.invokevirtual 124, 3) := by decide +kernel
theorem dX7_clash_58 : decode cX7_clash 58 = .ok (.invokevirtual 170, 3) := by decide +kernel
theorem dX7_clash_61 : decode cX7_clash 61 = .ok (.istore 4, 2) := by decide +kernel
theorem dX7_clash_63 : decode cX7_clash 63 = .ok (.iload 4, 2) := by decide +kernel
theorem dX7_clash_65 : decode cX7_clash 65 = .ok (.iconst (-1), 1) := by decide +kernel
theorem dX7_clash_66 : decode cX7_clash 66 = .ok (.if_icmp .ne 7, 3) := by decide +kernel
theorem dX7_clash_69 : decode cX7_clash 69 = .ok (.iconst (-1), 1) := by decide +kernel
theorem dX7_clash_70 : decode cX7_clash 70 = .ok (.goto 9, 3) := by decide +kernel
theorem dX7_clash_73 : decode cX7_clash 73 = .ok (.sipush 1000, 3) := by decide +kernel
theorem dX7_clash_76 : decode cX7_clash 76 = .ok (.iload 4, 2) := by decide +kernel
theorem dX7_clash_78 : decode cX7_clash 78 = .ok (.iadd, 1) := by decide +kernel
theorem dX7_clash_79 : decode cX7_clash 79 = .ok (.ireturn, 1) := by decide +kernel
theorem dX7_twins_0 : decode cX7_twins 0 = .ok (.aload_n 0, 1) := by decide +kernel
theorem dX7_twins_1 : decode cX7_twins 1 = .ok (.invokevirtual 131, 3) := by decide +kernel
theorem dX7_twins_4 : decode cX7_twins 4 = .ok (.iload_n 1, 1) := by decide +kernel
theorem dX7_twins_5 : decode cX7_twins 5 = .ok (.invokevirtual 173, 3) := by decide +kernel
theorem dX7_twins_8 : decode cX7_twins 8 = .ok (.ireturn, 1) := by decide +kernel
theorem dX7_least_0 : decode cX7_least 0 = .ok (.aload_n 0, 1) := by decide +kernel
theorem dX7_least_1 : decode cX7_least 1 = .ok (.getfield 40, 3) := by decide +kernel
theorem dX7_least_4 : decode cX7_least 4 = .ok (.aload_n 0, 1) := by decide +kernel
theorem dX7_least_5 : decode cX7_least 5 = .ok (.getfield 12, 3) := by decide +kernel
theorem dX7_least_8 : decode cX7_least 8 = .ok (.aload_n 0, 1) := by decide +kernel
theorem dX7_least_9 : decode cX7_least 9 = .ok (.invokevirtual 131, 3) := by decide +kernel
theorem dX7_least_12 : decode cX7_least 12 = .ok (.iconst 0, 1) := by decide +kernel
theorem dX7_least_13 : decode cX7_least 13 = .ok (.invokevirtual 176, 3) := by decide +kernel
theorem dX7_least_16 : decode cX7_least 16 = .ok (.aload_n 0, 1) := by decide +kernel
theorem dX7_least_17 : decode cX7_least 17 = .ok (.invokevirtual 180, 3) := by decide +kernel
theorem dX7_least_20 : decode cX7_least 20 = .ok (.ireturn, 1) := by decide +kernel
theorem dX7_every_0 : decode cX7_every 0 = .ok (.aload_n 0, 1) := by decide +kernel
theorem dX7_every_1 : decode cX7_every 1 = .ok (.getfield 40, 3) := by decide +kernel
theorem dX7_every_4 : decode cX7_every 4 = .ok (.aload_n 0, 1) := by decide +kernel
theorem dX7_every_5 : decode cX7_every 5 = .ok (.getfield 12, 3) := by decide +kernel
theorem dX7_every_8 : decode cX7_every 8 = .ok (.aload_n 0, 1) := by decide +kernel
theorem dX7_every_9 : decode cX7_every 9 = .ok (.invokevirtual 131, 3) := by decide +kernel
theorem dX7_every_12 : decode cX7_every 12 = .ok (.iconst 0, 1) := by decide +kernel
theorem dX7_every_13 : decode cX7_every 13 = .ok (.invokevirtual 176, 3) := by decide +kernel
theorem dX7_every_16 : decode cX7_every 16 = .ok (.aload_n 0, 1) := by decide +kernel
theorem dX7_every_17 : decode cX7_every 17 = .ok (.getfield 40, 3) := by decide +kernel
theorem dX7_every_20 : decode cX7_every 20 = .ok (.getfield 183, 3) := by decide +kernel
theorem dX7_every_23 : decode cX7_every 23 = .ok (.ireturn, 1) := by decide +kernel
theorem dX7_cheapest_0 : decode cX7_cheapest 0 = .ok (.aload_n 0, 1) := by decide +kernel
theorem dX7_cheapest_1 : decode cX7_cheapest 1 = .ok (.getfield 40, 3) := by decide +kernel
theorem dX7_cheapest_4 : decode cX7_cheapest 4 = .ok (.aload_n 0, 1) := by decide +kernel
theorem dX7_cheapest_5 : decode cX7_cheapest 5 = .ok (.getfield 12, 3) := by decide +kernel
theorem dX7_cheapest_8 : decode cX7_cheapest 8 = .ok (.aload_n 0, 1) := by decide +kernel
theorem dX7_cheapest_9 : decode cX7_cheapest 9 = .ok (.invokevirtual 131, 3) := by decide +kernel
theorem dX7_cheapest_12 : decode cX7_cheapest 12 = .ok (.iconst 1, 1) := by decide +kernel
theorem dX7_cheapest_13 : decode cX7_cheapest 13 = .ok (.invokevirtual 176, 3) := by decide +kernel
theorem dX7_cheapest_16 : decode cX7_cheapest 16 = .ok (.aload_n 0, 1) := by decide +kernel
theorem dX7_cheapest_17 : decode cX7_cheapest 17 = .ok (.invokevirtual 180, 3) := by decide +kernel
theorem dX7_cheapest_20 : decode cX7_cheapest 20 = .ok (.ireturn, 1) := by decide +kernel
theorem dX7_set_0 : decode cX7_set 0 = .ok (.aload_n 0, 1) := by decide +kernel
theorem dX7_set_1 : decode cX7_set 1 = .ok (.getfield 62, 3) := by decide +kernel
theorem dX7_set_4 : decode cX7_set 4 = .ok (.ireturn, 1) := by decide +kernel
theorem dX7_shown_0 : decode cX7_shown 0 = .ok (.aload_n 0, 1) := by decide +kernel
theorem dX7_shown_1 : decode cX7_shown 1 = .ok (.invokevirtual 131, 3) := by decide +kernel
theorem dX7_shown_4 : decode cX7_shown 4 = .ok (.invokevirtual 186, 3) := by decide +kernel
theorem dX7_shown_7 : decode cX7_shown 7 = .ok (.ireturn, 1) := by decide +kernel
theorem dX7_pair_0 : decode cX7_pair 0 = .ok (.aload_n 0, 1) := by decide +kernel
theorem dX7_pair_1 : decode cX7_pair 1 = .ok (.invokevirtual 131, 3) := by decide +kernel
theorem dX7_pair_4 : decode cX7_pair 4 = .ok (.iload_n 1, 1) := by decide +kernel
theorem dX7_pair_5 : decode cX7_pair 5 = .ok (.invokevirtual 189, 3) := by decide +kernel
theorem dX7_pair_8 : decode cX7_pair 8 = .ok (.ireturn, 1) := by decide +kernel
theorem dX7_greedy_0 : decode cX7_greedy 0 = .ok (.aload_n 0, 1) := by decide +kernel
theorem dX7_greedy_1 : decode cX7_greedy 1 = .ok (.invokevirtual 131, 3) := by decide +kernel
theorem dX7_greedy_4 : decode cX7_greedy 4 = .ok (.astore_n 1, 1) := by decide +kernel
theorem dX7_greedy_5 : decode cX7_greedy 5 = .ok (.aload_n 0, 1) := by decide +kernel
theorem dX7_greedy_6 : decode cX7_greedy 6 = .ok (.getfield 12, 3) := by decide +kernel
theorem dX7_greedy_9 : decode cX7_greedy 9 = .ok (.invokevirtual 124, 3) := by decide +kernel
theorem dX7_greedy_12 : decode cX7_greedy 12 = .ok (.istore_n 2, 1) := by decide +kernel
theorem dX7_greedy_13 : decode cX7_greedy 13 = .ok (.aload_n 1, 1) := by decide +kernel
theorem dX7_greedy_14 : decode cX7_greedy 14 = .ok (.iload_n 2, 1) := by decide +kernel
theorem dX7_greedy_15 : decode cX7_greedy 15 = .ok (.invokevirtual 192, 3) := by decide +kernel
theorem dX7_greedy_18 : decode cX7_greedy 18 = .ok (.istore_n 3, 1) := by decide +kernel
theorem dX7_greedy_19 : decode cX7_greedy 19 = .ok (.aload_n 1, 1) := by decide +kernel
theorem dX7_greedy_20 : decode cX7_greedy 20 = .ok (.iload_n 3, 1) := by decide +kernel
theorem dX7_greedy_21 : decode cX7_greedy 21 = .ok (.iload_n 2, 1) := by decide +kernel
theorem dX7_greedy_22 : decode cX7_greedy 22 = .ok (.invokevirtual 195, 3) := by decide +kernel
theorem dX7_greedy_25 : decode cX7_greedy 25 = .ok (.istore 4, 2) := by decide +kernel
theorem dX7_greedy_27 : decode cX7_greedy 27 = .ok (.iload 4, 2) := by decide +kernel
theorem dX7_greedy_29 : decode cX7_greedy 29 = .ok (.ifCond .le 9, 3) := by decide +kernel
theorem dX7_greedy_32 : decode cX7_greedy 32 = .ok (.bipush (-2), 2) := by decide +kernel
theorem dX7_greedy_34 : decode cX7_greedy 34 = .ok (.iload 4, 2) := by decide +kernel
theorem dX7_greedy_36 : decode cX7_greedy 36 = .ok (.isub, 1) := by decide +kernel
theorem dX7_greedy_37 : decode cX7_greedy 37 = .ok (.ireturn, 1) := by decide +kernel
theorem dX7_greedy_38 : decode cX7_greedy 38 = .ok (.aload_n 0, 1) := by decide +kernel
theorem dX7_greedy_39 : decode cX7_greedy 39 = .ok (.iload_n 3, 1) := by decide +kernel
theorem dX7_greedy_40 : decode cX7_greedy 40 = .ok (.putfield 62, 3) := by decide +kernel
theorem dX7_greedy_43 : decode cX7_greedy 43 = .ok (.iload_n 3, 1) := by decide +kernel
theorem dX7_greedy_44 : decode cX7_greedy 44 = .ok (.invokestatic 141, 3) := by decide +kernel
theorem dX7_greedy_47 : decode cX7_greedy 47 = .ok (.ireturn, 1) := by decide +kernel
theorem dX7_word_0 : decode cX7_word 0 = .ok (.aload_n 0, 1) := by decide +kernel
theorem dX7_word_1 : decode cX7_word 1 = .ok (.getfield 12, 3) := by decide +kernel
theorem dX7_word_4 : decode cX7_word 4 = .ok (.iload_n 1, 1) := by decide +kernel
theorem dX7_word_5 : decode cX7_word 5 = .ok (.invokevirtual 80, 3) := by decide +kernel
theorem dX7_word_8 : decode cX7_word 8 = .ok (.ifCond .eq 14, 3) := by decide +kernel
theorem dX7_word_11 : decode cX7_word 11 = .ok (.aload_n 0, 1) := by decide +kernel
theorem dX7_word_12 : decode cX7_word 12 = .ok (.getfield 12, 3) := by decide +kernel
theorem dX7_word_15 : decode cX7_word 15 = .ok (.iload_n 1, 1) := by decide +kernel
theorem dX7_word_16 : decode cX7_word 16 = .ok (.invokevirtual 198, 3) := by decide +kernel
theorem dX7_word_19 : decode cX7_word 19 = .ok (.ifCond .eq 5, 3) := by decide +kernel
theorem dX7_word_22 : decode cX7_word 22 = .ok (.iconst (-1), 1) := by decide +kernel
theorem dX7_word_23 : decode cX7_word 23 = .ok (.ireturn, 1) := by decide +kernel
theorem dX7_word_24 : decode cX7_word 24 = .ok (.aload_n 0, 1) := by decide +kernel
theorem dX7_word_25 : decode cX7_word 25 = .ok (.invokevirtual 69, 3) := by decide +kernel
theorem dX7_word_28 : decode cX7_word 28 = .ok (.aload_n 0, 1) := by decide +kernel
theorem dX7_word_29 : decode cX7_word 29 = .ok (.getfield 12, 3) := by decide +kernel
theorem dX7_word_32 : decode cX7_word 32 = .ok (.dup, 1) := by decide +kernel
theorem dX7_word_33 : decode cX7_word 33 = .ok (.getfield 201, 3) := by decide +kernel
theorem dX7_word_36 : decode cX7_word 36 = .ok (.iconst 1, 1) := by decide +kernel
theorem dX7_word_37 : decode cX7_word 37 = .ok (.iload_n 1, 1) := by decide +kernel
theorem dX7_word_38 : decode cX7_word 38 = .ok (.ishl, 1) := by decide +kernel
theorem dX7_word_39 : decode cX7_word 39 = .ok (.ior, 1) := by decide +kernel
theorem dX7_word_40 : decode cX7_word 40 = .ok (.putfield 201, 3) := by decide +kernel
theorem dX7_word_43 : decode cX7_word 43 = .ok (.aload_n 0, 1) := by decide +kernel
theorem dX7_word_44 : decode cX7_word 44 = .ok (.getfield 12, 3) := by decide +kernel
theorem dX7_word_47 : decode cX7_word 47 = .ok (.getfield 204, 3) := by decide +kernel
theorem dX7_word_50 : decode cX7_word 50 = .ok (.iload_n 1, 1) := by decide +kernel
theorem dX7_word_51 : decode cX7_word 51 = .ok (.iload_n 2, 1) := by decide +kernel
theorem dX7_word_52 : decode cX7_word 52 = .ok (.iastore, 1) := by decide +kernel
theorem dX7_word_53 : decode cX7_word 53 = .ok (.aload_n 0, 1) := by decide +kernel
theorem dX7_word_54 : decode cX7_word 54 = .ok (.getfield 12, 3) := by decide +kernel
theorem dX7_word_57 : decode cX7_word 57 = .ok (.getfield 201, 3) := by decide +kernel
theorem dX7_word_60 : decode cX7_word 60 = .ok (.invokestatic 141, 3) := by decide +kernel
theorem dX7_word_63 : decode cX7_word 63 = .ok (.ireturn, 1) := by decide +kernel
theorem dX7_clear_0 : decode cX7_clear 0 = .ok (.aload_n 0, 1) := by decide +kernel
theorem dX7_clear_1 : decode cX7_clear 1 = .ok (.getfield 12, 3) := by decide +kernel
theorem dX7_clear_4 : decode cX7_clear 4 = .ok (.getfield 201, 3) := by decide +kernel
theorem dX7_clear_7 : decode cX7_clear 7 = .ok (.invokestatic 141, 3) := by decide +kernel
theorem dX7_clear_10 : decode cX7_clear 10 = .ok (.istore_n 1, 1) := by decide +kernel
theorem dX7_clear_11 : decode cX7_clear 11 = .ok (.aload_n 0, 1) := by decide +kernel
theorem dX7_clear_12 : decode cX7_clear 12 = .ok (.invokevirtual 69, 3) := by decide +kernel
theorem dX7_clear_15 : decode cX7_clear 15 = .ok (.aload_n 0, 1) := by decide +kernel
theorem dX7_clear_16 : decode cX7_clear 16 = .ok (.getfield 12, 3) := by decide +kernel
theorem dX7_clear_19 : decode cX7_clear 19 = .ok (.iconst 0, 1) := by decide +kernel
theorem dX7_clear_20 : decode cX7_clear 20 = .ok (.putfield 201, 3) := by decide +kernel
theorem dX7_clear_23 : decode cX7_clear 23 = .ok (.iload_n 1, 1) := by decide +kernel
theorem dX7_clear_24 : decode cX7_clear 24 = .ok (.ireturn, 1) := by decide +kernel
theorem dX7_fits_0 : decode cX7_fits 0 = .ok (.iconst 0, 1) := by decide +kernel
theorem dX7_fits_1 : decode cX7_fits 1 = .ok (.istore_n 1, 1) := by decide +kernel
theorem dX7_fits_2 : decode cX7_fits 2 = .ok (.iconst 0, 1) := by decide +kernel
theorem dX7_fits_3 : decode cX7_fits 3 = .ok (.istore_n 2, 1) := by decide +kernel
theorem dX7_fits_4 : decode cX7_fits 4 = .ok (.iload_n 2, 1) := by decide +kernel
theorem dX7_fits_5 : decode cX7_fits 5 = .ok (.aload_n 0, 1) := by decide +kernel
theorem dX7_fits_6 : decode cX7_fits 6 = .ok (.getfield 12, 3) := by decide +kernel
theorem dX7_fits_9 : decode cX7_fits 9 = .ok (.getfield 66, 3) := by decide +kernel
theorem dX7_fits_12 : decode cX7_fits 12 = .ok (.if_icmp .ge 20, 3) := by decide +kernel
theorem dX7_fits_15 : decode cX7_fits 15 = .ok (.aload_n 0, 1) := by decide +kernel
theorem dX7_fits_16 : decode cX7_fits 16 = .ok (.iload_n 2, 1) := by decide +kernel
theorem dX7_fits_17 : decode cX7_fits 17 = .ok (.invokevirtual 207, 3) := by decide +kernel
theorem dX7_fits_20 : decode cX7_fits 20 = .ok (.ifCond .eq 6, 3) := by decide +kernel
theorem dX7_fits_23 : decode cX7_fits 23 = .ok (.iinc 1 1, 3) := by decide +kernel
theorem dX7_fits_26 : decode cX7_fits 26 = .ok (.iinc 2 1, 3) := by decide +kernel
theorem dX7_fits_29 : decode cX7_fits 29 = .ok (.goto (-25), 3) := by decide +kernel
theorem dX7_fits_32 : decode cX7_fits 32 = .ok (.iload_n 1, 1) := by decide +kernel
theorem dX7_fits_33 : decode cX7_fits 33 = .ok (.ireturn, 1) := by decide +kernel
theorem dX7_where_0 : decode cX7_where 0 = .ok (.iconst 0, 1) := by decide +kernel
theorem dX7_where_1 : decode cX7_where 1 = .ok (.istore_n 2, 1) := by decide +kernel
theorem dX7_where_2 : decode cX7_where 2 = .ok (.iconst 0, 1) := by decide +kernel
theorem dX7_where_3 : decode cX7_where 3 = .ok (.istore_n 3, 1) := by decide +kernel
theorem dX7_where_4 : decode cX7_where 4 = .ok (.iload_n 3, 1) := by decide +kernel
theorem dX7_where_5 : decode cX7_where 5 = .ok (.aload_n 0, 1) := by decide +kernel
theorem dX7_where_6 : decode cX7_where 6 = .ok (.getfield 12, 3) := by decide +kernel
theorem dX7_where_9 : decode cX7_where 9 = .ok (.getfield 66, 3) := by decide +kernel
theorem dX7_where_12 : decode cX7_where 12 = .ok (.if_icmp .ge 27, 3) := by decide +kernel
theorem dX7_where_15 : decode cX7_where 15 = .ok (.aload_n 0, 1) := by decide +kernel
theorem dX7_where_16 : decode cX7_where 16 = .ok (.iload_n 3, 1) := by decide +kernel
theorem dX7_where_17 : decode cX7_where 17 = .ok (.invokevirtual 207, 3) := by decide +kernel
theorem dX7_where_20 : decode cX7_where 20 = .ok (.ifCond .eq 13, 3) := by decide +kernel
theorem dX7_where_23 : decode cX7_where 23 = .ok (.iload_n 2, 1) := by decide +kernel
theorem dX7_where_24 : decode cX7_where 24 = .ok (.iload_n 1, 1) := by decide +kernel
theorem dX7_where_25 : decode cX7_where 25 = .ok (.if_icmp .ne 5, 3) := by decide +kernel
theorem dX7_where_28 : decode cX7_where 28 = .ok (.iload_n 3, 1) := by decide +kernel
theorem dX7_where_29 : decode cX7_where 29 = .ok (.ireturn, 1) := by decide +kernel
theorem dX7_where_30 : decode cX7_where 30 = .ok (.iinc 2 1, 3) := by decide +kernel
theorem dX7_where_33 : decode cX7_where 33 = .ok (.iinc 3 1, 3) := by decide +kernel
theorem dX7_where_36 : decode cX7_where 36 = .ok (.goto (-32), 3) := by decide +kernel
theorem dX7_where_39 : decode cX7_where 39 = .ok (.iconst (-1), 1) := by decide +kernel
theorem dX7_where_40 : decode cX7_where 40 = .ok (.ireturn, 1) := by decide +kernel
theorem dX7_against_0 : decode cX7_against 0 = .ok (.aload_n 0, 1) := by decide +kernel
theorem dX7_against_1 : decode cX7_against 1 = .ok (.getfield 12, 3) := by decide +kernel
theorem dX7_against_4 : decode cX7_against 4 = .ok (.iload_n 1, 1) := by decide +kernel
theorem dX7_against_5 : decode cX7_against 5 = .ok (.invokevirtual 80, 3) := by decide +kernel
theorem dX7_against_8 : decode cX7_against 8 = .ok (.ifCond .eq 11, 3) := by decide +kernel
theorem dX7_against_11 : decode cX7_against 11 = .ok (.aload_n 0, 1) := by decide +kernel
theorem dX7_against_12 : decode cX7_against 12 = .ok (.iload_n 1, 1) := by decide +kernel
theorem dX7_against_13 : decode cX7_against 13 = .ok (.invokevirtual 210, 3) := by decide +kernel
theorem dX7_against_16 : decode cX7_against 16 = .ok (.goto 4, 3) := by decide +kernel
theorem dX7_against_19 : decode cX7_against 19 = .ok (.iconst (-1), 1) := by decide +kernel
theorem dX7_against_20 : decode cX7_against 20 = .ok (.ireturn, 1) := by decide +kernel
theorem dX7_worst_0 : decode cX7_worst 0 = .ok (.aload_n 0, 1) := by decide +kernel
theorem dX7_worst_1 : decode cX7_worst 1 = .ok (.iload_n 1, 1) := by decide +kernel
theorem dX7_worst_2 : decode cX7_worst 2 = .ok (.invokevirtual 213, 3) := by decide +kernel
theorem dX7_worst_5 : decode cX7_worst 5 = .ok (.ifCond .ne 5, 3) := by decide +kernel
theorem dX7_worst_8 : decode cX7_worst 8 = .ok (.iconst (-1), 1) := by decide +kernel
theorem dX7_worst_9 : decode cX7_worst 9 = .ok (.ireturn, 1) := by decide +kernel
theorem dX7_worst_10 : decode cX7_worst 10 = .ok (.aload_n 0, 1) := by decide +kernel
theorem dX7_worst_11 : decode cX7_worst 11 = .ok (.getfield 47, 3) := by decide +kernel
theorem dX7_worst_14 : decode cX7_worst 14 = .ok (.iload_n 1, 1) := by decide +kernel
theorem dX7_worst_15 : decode cX7_worst 15 = .ok (.aload_n 0, 1) := by decide +kernel
theorem dX7_worst_16 : decode cX7_worst 16 = .ok (.getfield 12, 3) := by decide +kernel
theorem dX7_worst_19 : decode cX7_worst 19 = .ok (.aload_n 0, 1) := by decide +kernel
theorem dX7_worst_20 : decode cX7_worst 20 = .ok (.invokevirtual 131, 3) := by decide +kernel
theorem dX7_worst_23 : decode cX7_worst 23 = .ok (.iconst 0, 1) := by decide +kernel
theorem dX7_worst_24 : decode cX7_worst 24 = .ok (.invokevirtual 216, 3) := by decide +kernel
theorem dX7_worst_27 : decode cX7_worst 27 = .ok (.aload_n 0, 1) := by decide +kernel
theorem dX7_worst_28 : decode cX7_worst 28 = .ok (.getfield 47, 3) := by decide +kernel
theorem dX7_worst_31 : decode cX7_worst 31 = .ok (.invokevirtual 220, 3) := by decide +kernel
theorem dX7_worst_34 : decode cX7_worst 34 = .ok (.ireturn, 1) := by decide +kernel
theorem dX7_next_0 : decode cX7_next 0 = .ok (.aload_n 0, 1) := by decide +kernel
theorem dX7_next_1 : decode cX7_next 1 = .ok (.iload_n 1, 1) := by decide +kernel
theorem dX7_next_2 : decode cX7_next 2 = .ok (.invokevirtual 213, 3) := by decide +kernel
theorem dX7_next_5 : decode cX7_next 5 = .ok (.ifCond .ne 5, 3) := by decide +kernel
theorem dX7_next_8 : decode cX7_next 8 = .ok (.iconst (-1), 1) := by decide +kernel
theorem dX7_next_9 : decode cX7_next 9 = .ok (.ireturn, 1) := by decide +kernel
theorem dX7_next_10 : decode cX7_next 10 = .ok (.aload_n 0, 1) := by decide +kernel
theorem dX7_next_11 : decode cX7_next 11 = .ok (.getfield 47, 3) := by decide +kernel
theorem dX7_next_14 : decode cX7_next 14 = .ok (.iload_n 1, 1) := by decide +kernel
theorem dX7_next_15 : decode cX7_next 15 = .ok (.aload_n 0, 1) := by decide +kernel
theorem dX7_next_16 : decode cX7_next 16 = .ok (.getfield 12, 3) := by decide +kernel
theorem dX7_next_19 : decode cX7_next 19 = .ok (.aload_n 0, 1) := by decide +kernel
theorem dX7_next_20 : decode cX7_next 20 = .ok (.invokevirtual 131, 3) := by decide +kernel
theorem dX7_next_23 : decode cX7_next 23 = .ok (.iconst 0, 1) := by decide +kernel
theorem dX7_next_24 : decode cX7_next 24 = .ok (.invokevirtual 216, 3) := by decide +kernel
theorem dX7_next_27 : decode cX7_next 27 = .ok (.aload_n 0, 1) := by decide +kernel
theorem dX7_next_28 : decode cX7_next 28 = .ok (.getfield 47, 3) := by decide +kernel
theorem dX7_next_31 : decode cX7_next 31 = .ok (.invokevirtual 223, 3) := by decide +kernel
theorem dX7_next_34 : decode cX7_next 34 = .ok (.ireturn, 1) := by decide +kernel
theorem dX7_mean_0 : decode cX7_mean 0 = .ok (.aload_n 0, 1) := by decide +kernel
theorem dX7_mean_1 : decode cX7_mean 1 = .ok (.iload_n 1, 1) := by decide +kernel
theorem dX7_mean_2 : decode cX7_mean 2 = .ok (.invokevirtual 213, 3) := by decide +kernel
theorem dX7_mean_5 : decode cX7_mean 5 = .ok (.ifCond .ne 5, 3) := by decide +kernel
theorem dX7_mean_8 : decode cX7_mean 8 = .ok (.iconst (-1), 1) := by decide +kernel
theorem dX7_mean_9 : decode cX7_mean 9 = .ok (.ireturn, 1) := by decide +kernel
theorem dX7_mean_10 : decode cX7_mean 10 = .ok (.aload_n 0, 1) := by decide +kernel
theorem dX7_mean_11 : decode cX7_mean 11 = .ok (.getfield 47, 3) := by decide +kernel
theorem dX7_mean_14 : decode cX7_mean 14 = .ok (.iload_n 1, 1) := by decide +kernel
theorem dX7_mean_15 : decode cX7_mean 15 = .ok (.aload_n 0, 1) := by decide +kernel
theorem dX7_mean_16 : decode cX7_mean 16 = .ok (.getfield 12, 3) := by decide +kernel
theorem dX7_mean_19 : decode cX7_mean 19 = .ok (.aload_n 0, 1) := by decide +kernel
theorem dX7_mean_20 : decode cX7_mean 20 = .ok (.invokevirtual 131, 3) := by decide +kernel
theorem dX7_mean_23 : decode cX7_mean 23 = .ok (.iconst 1, 1) := by decide +kernel
theorem dX7_mean_24 : decode cX7_mean 24 = .ok (.invokevirtual 216, 3) := by decide +kernel
theorem dX7_mean_27 : decode cX7_mean 27 = .ok (.aload_n 0, 1) := by decide +kernel
theorem dX7_mean_28 : decode cX7_mean 28 = .ok (.getfield 47, 3) := by decide +kernel
theorem dX7_mean_31 : decode cX7_mean 31 = .ok (.invokevirtual 220, 3) := by decide +kernel
theorem dX7_mean_34 : decode cX7_mean 34 = .ok (.ireturn, 1) := by decide +kernel
theorem dX7_seek_0 : decode cX7_seek 0 = .ok (.aload_n 0, 1) := by decide +kernel
theorem dX7_seek_1 : decode cX7_seek 1 = .ok (.getfield 12, 3) := by decide +kernel
theorem dX7_seek_4 : decode cX7_seek 4 = .ok (.iload_n 1, 1) := by decide +kernel
theorem dX7_seek_5 : decode cX7_seek 5 = .ok (.invokevirtual 152, 3) := by decide +kernel
theorem dX7_seek_8 : decode cX7_seek 8 = .ok (.ifCond .eq 15, 3) := by decide +kernel
theorem dX7_seek_11 : decode cX7_seek 11 = .ok (.aload_n 0, 1) := by decide +kernel
theorem dX7_seek_12 : decode cX7_seek 12 = .ok (.getfield 12, 3) := by decide +kernel
theorem dX7_seek_15 : decode cX7_seek 15 = .ok (.getfield 66, 3) := by decide +kernel
theorem dX7_seek_18 : decode cX7_seek 18 = .ok (.bipush 10, 2) := by decide +kernel
theorem dX7_seek_20 : decode cX7_seek 20 = .ok (.if_icmp .le 5, 3) := by decide +kernel
theorem dX7_seek_23 : decode cX7_seek 23 = .ok (.iconst (-1), 1) := by decide +kernel
theorem dX7_seek_24 : decode cX7_seek 24 = .ok (.ireturn, 1) := by decide +kernel
theorem dX7_seek_25 : decode cX7_seek 25 = .ok (.aload_n 0, 1) := by decide +kernel
theorem dX7_seek_26 : decode cX7_seek 26 = .ok (.getfield 54, 3) := by decide +kernel
theorem dX7_seek_29 : decode cX7_seek 29 = .ok (.iload_n 1, 1) := by decide +kernel
theorem dX7_seek_30 : decode cX7_seek 30 = .ok (.aload_n 0, 1) := by decide +kernel
theorem dX7_seek_31 : decode cX7_seek 31 = .ok (.invokevirtual 131, 3) := by decide +kernel
theorem dX7_seek_34 : decode cX7_seek 34 = .ok (.invokevirtual 226, 3) := by decide +kernel
theorem dX7_seek_37 : decode cX7_seek 37 = .ok (.ireturn, 1) := by decide +kernel
theorem dX7_tree_0 : decode cX7_tree 0 = .ok (.aload_n 0, 1) := by decide +kernel
theorem dX7_tree_1 : decode cX7_tree 1 = .ok (.invokevirtual 131, 3) := by decide +kernel
theorem dX7_tree_4 : decode cX7_tree 4 = .ok (.astore_n 1, 1) := by decide +kernel
theorem dX7_tree_5 : decode cX7_tree 5 = .ok (.aload_n 1, 1) := by decide +kernel
theorem dX7_tree_6 : decode cX7_tree 6 = .ok (.iconst 0, 1) := by decide +kernel
theorem dX7_tree_7 : decode cX7_tree 7 = .ok (.invokevirtual 146, 3) := by decide +kernel
theorem dX7_tree_10 : decode cX7_tree 10 = .ok (.aload_n 0, 1) := by decide +kernel
theorem dX7_tree_11 : decode cX7_tree 11 = .ok (.getfield 12, 3) := by decide +kernel
theorem dX7_tree_14 : decode cX7_tree 14 = .ok (.getfield 66, 3) := by decide +kernel
theorem dX7_tree_17 : decode cX7_tree 17 = .ok (.if_icmp .ne 7, 3) := by decide +kernel
theorem dX7_tree_20 : decode cX7_tree 20 = .ok (.iconst 1, 1) := by decide +kernel
theorem dX7_tree_21 : decode cX7_tree 21 = .ok (.goto 4, 3) := by decide +kernel
theorem dX7_tree_24 : decode cX7_tree 24 = .ok (.iconst 0, 1) := by decide +kernel
theorem dX7_tree_25 : decode cX7_tree 25 = .ok (.istore_n 2, 1) := by decide +kernel
theorem dX7_tree_26 : decode cX7_tree 26 = .ok (.iload_n 2, 1) := by decide +kernel
theorem dX7_tree_27 : decode cX7_tree 27 = .ok (.ifCond .eq 22, 3) := by decide +kernel
theorem dX7_tree_30 : decode cX7_tree 30 = .ok (.aload_n 0, 1) := by decide +kernel
theorem dX7_tree_31 : decode cX7_tree 31 = .ok (.getfield 12, 3) := by decide +kernel
theorem dX7_tree_34 : decode cX7_tree 34 = .ok (.invokevirtual 230, 3) := by decide +kernel
theorem dX7_tree_37 : decode cX7_tree 37 = .ok (.aload_n 0, 1) := by decide +kernel
theorem dX7_tree_38 : decode cX7_tree 38 = .ok (.getfield 12, 3) := by decide +kernel
theorem dX7_tree_41 : decode cX7_tree 41 = .ok (.getfield 66, 3) := by decide +kernel
theorem dX7_tree_44 : decode cX7_tree 44 = .ok (.iconst 1, 1) := by decide +kernel
theorem dX7_tree_45 : decode cX7_tree 45 = .ok (.isub, 1) := by decide +kernel
theorem dX7_tree_46 : decode cX7_tree 46 = .ok (.if_icmp .eq 5, 3) := by decide +kernel
theorem dX7_tree_49 : decode cX7_tree 49 = .ok (.iconst (-1), 1) := by decide +kernel
theorem dX7_tree_50 : decode cX7_tree 50 = .ok (.ireturn, 1) := by decide +kernel
theorem dX7_tree_51 : decode cX7_tree 51 = .ok (.aload_n 1, 1) := by decide +kernel
theorem dX7_tree_52 : decode cX7_tree 52 = .ok (.invokevirtual 233, 3) := by decide +kernel
theorem dX7_tree_55 : decode cX7_tree 55 = .ok (.ireturn, 1) := by decide +kernel
theorem dX7_undo_0 : decode cX7_undo 0 = .ok (.iload_n 1, 1) := by decide +kernel
theorem dX7_undo_1 : decode cX7_undo 1 = .ok (.ifCond .lt 14, 3) := by decide +kernel
theorem dX7_undo_4 : decode cX7_undo 4 = .ok (.iload_n 1, 1) := by decide +kernel
theorem dX7_undo_5 : decode cX7_undo 5 = .ok (.aload_n 0, 1) := by decide +kernel
theorem dX7_undo_6 : decode cX7_undo 6 = .ok (.getfield 19, 3) := by decide +kernel
theorem dX7_undo_9 : decode cX7_undo 9 = .ok (.getfield 236, 3) := by decide +kernel
theorem dX7_undo_12 : decode cX7_undo 12 = .ok (.if_icmp .le 5, 3) := by decide +kernel
theorem dX7_undo_15 : decode cX7_undo 15 = .ok (.iconst (-1), 1) := by decide +kernel
theorem dX7_undo_16 : decode cX7_undo 16 = .ok (.ireturn, 1) := by decide +kernel
theorem dX7_undo_17 : decode cX7_undo 17 = .ok (.iload_n 1, 1) := by decide +kernel
theorem dX7_undo_18 : decode cX7_undo 18 = .ok (.ifCond .le 20, 3) := by decide +kernel
theorem dX7_undo_21 : decode cX7_undo 21 = .ok (.aload_n 0, 1) := by decide +kernel
theorem dX7_undo_22 : decode cX7_undo 22 = .ok (.getfield 19, 3) := by decide +kernel
theorem dX7_undo_25 : decode cX7_undo 25 = .ok (.aload_n 0, 1) := by decide +kernel
theorem dX7_undo_26 : decode cX7_undo 26 = .ok (.getfield 12, 3) := by decide +kernel
theorem dX7_undo_29 : decode cX7_undo 29 = .ok (.iload_n 1, 1) := by decide +kernel
theorem dX7_undo_30 : decode cX7_undo 30 = .ok (.invokevirtual 237, 3) := by decide +kernel
theorem dX7_undo_33 : decode cX7_undo 33 = .ok (.aload_n 0, 1) := by decide +kernel
theorem dX7_undo_34 : decode cX7_undo 34 = .ok (.iconst 1, 1) := by decide +kernel
theorem dX7_undo_35 : decode cX7_undo 35 = .ok (.putfield 58, 3) := by decide +kernel
theorem dX7_undo_38 : decode cX7_undo 38 = .ok (.iload_n 1, 1) := by decide +kernel
theorem dX7_undo_39 : decode cX7_undo 39 = .ok (.ireturn, 1) := by decide +kernel
theorem dX7_about_0 : decode cX7_about 0 = .ok (.iload_n 1, 1) := by decide +kernel
theorem dX7_about_1 : decode cX7_about 1 = .ok (.tableswitch 134 0 8 #[51, 59, 67, 75, 83, 91, 107, 118, 126], 51) := by decide +kernel
theorem dX7_about_52 : decode cX7_about 52 = .ok (.aload_n 0, 1) := by decide +kernel
theorem dX7_about_53 : decode cX7_about 53 = .ok (.getfield 12, 3) := by decide +kernel
theorem dX7_about_56 : decode cX7_about 56 = .ok (.getfield 66, 3) := by decide +kernel
theorem dX7_about_59 : decode cX7_about 59 = .ok (.ireturn, 1) := by decide +kernel
theorem dX7_about_60 : decode cX7_about 60 = .ok (.aload_n 0, 1) := by decide +kernel
theorem dX7_about_61 : decode cX7_about 61 = .ok (.getfield 12, 3) := by decide +kernel
theorem dX7_about_64 : decode cX7_about 64 = .ok (.invokevirtual 230, 3) := by decide +kernel
theorem dX7_about_67 : decode cX7_about 67 = .ok (.ireturn, 1) := by decide +kernel
theorem dX7_about_68 : decode cX7_about 68 = .ok (.aload_n 0, 1) := by decide +kernel
theorem dX7_about_69 : decode cX7_about 69 = .ok (.getfield 12, 3) := by decide +kernel
theorem dX7_about_72 : decode cX7_about 72 = .ok (.getfield 112, 3) := by decide +kernel
theorem dX7_about_75 : decode cX7_about 75 = .ok (.ireturn, 1) := by decide +kernel
theorem dX7_about_76 : decode cX7_about 76 = .ok (.aload_n 0, 1) := by decide +kernel
theorem dX7_about_77 : decode cX7_about 77 = .ok (.getfield 12, 3) := by decide +kernel
theorem dX7_about_80 : decode cX7_about 80 = .ok (.getfield 115, 3) := by decide +kernel
theorem dX7_about_83 : decode cX7_about 83 = .ok (.ireturn, 1) := by decide +kernel
theorem dX7_about_84 : decode cX7_about 84 = .ok (.aload_n 0, 1) := by decide +kernel
theorem dX7_about_85 : decode cX7_about 85 = .ok (.getfield 12, 3) := by decide +kernel
theorem dX7_about_88 : decode cX7_about 88 = .ok (.invokevirtual 124, 3) := by decide +kernel
theorem dX7_about_91 : decode cX7_about 91 = .ok (.ireturn, 1) := by decide +kernel
theorem dX7_about_92 : decode cX7_about 92 = .ok (.aload_n 0, 1) := by decide +kernel
theorem dX7_about_93 : decode cX7_about 93 = .ok (.getfield 12, 3) := by decide +kernel
theorem dX7_about_96 : decode cX7_about 96 = .ok (.getfield 128, 3) := by decide +kernel
theorem dX7_about_99 : decode cX7_about 99 = .ok (.ifCond .eq 7, 3) := by decide +kernel
theorem dX7_about_102 : decode cX7_about 102 = .ok (.iconst 1, 1) := by decide +kernel
theorem dX7_about_103 : decode cX7_about 103 = .ok (.goto 4, 3) := by decide +kernel
theorem dX7_about_106 : decode cX7_about 106 = .ok (.iconst 0, 1) := by decide +kernel
theorem dX7_about_107 : decode cX7_about 107 = .ok (.ireturn, 1) := by decide +kernel
theorem dX7_about_108 : decode cX7_about 108 = .ok (.aload_n 0, 1) := by decide +kernel
theorem dX7_about_109 : decode cX7_about 109 = .ok (.getfield 12, 3) := by decide +kernel
theorem dX7_about_112 : decode cX7_about 112 = .ok (.getfield 201, 3) := by decide +kernel
theorem dX7_about_115 : decode cX7_about 115 = .ok (.invokestatic 141, 3) := by decide +kernel
theorem dX7_about_118 : decode cX7_about 118 = .ok (.ireturn, 1) := by decide +kernel
theorem dX7_about_119 : decode cX7_about 119 = .ok (.aload_n 0, 1) := by decide +kernel
theorem dX7_about_120 : decode cX7_about 120 = .ok (.getfield 19, 3) := by decide +kernel
theorem dX7_about_123 : decode cX7_about 123 = .ok (.getfield 236, 3) := by decide +kernel
theorem dX7_about_126 : decode cX7_about 126 = .ok (.ireturn, 1) := by decide +kernel
theorem dX7_about_127 : decode cX7_about 127 = .ok (.aload_n 0, 1) := by decide +kernel
theorem dX7_about_128 : decode cX7_about 128 = .ok (.getfield 26, 3) := by decide +kernel
theorem dX7_about_131 : decode cX7_about 131 = .ok (.getfield 95, 3) := by decide +kernel
theorem dX7_about_134 : decode cX7_about 134 = .ok (.ireturn, 1) := by decide +kernel
theorem dX7_about_135 : decode cX7_about 135 = .ok (.iconst (-1), 1) := by decide +kernel
theorem dX7_about_136 : decode cX7_about 136 = .ok (.ireturn, 1) := by decide +kernel
theorem dX7_beforeAct_0 : decode cX7_beforeAct 0 = .ok (.aload_n 0, 1) := by decide +kernel
theorem dX7_beforeAct_1 : decode cX7_beforeAct 1 = .ok (.getfield 19, 3) := by decide +kernel
theorem dX7_beforeAct_4 : decode cX7_beforeAct 4 = .ok (.aload_n 0, 1) := by decide +kernel
theorem dX7_beforeAct_5 : decode cX7_beforeAct 5 = .ok (.getfield 12, 3) := by decide +kernel
theorem dX7_beforeAct_8 : decode cX7_beforeAct 8 = .ok (.invokevirtual 241, 3) := by decide +kernel
theorem dX7_beforeAct_11 : decode cX7_beforeAct 11 = .ok (.aload_n 0, 1) := by decide +kernel
theorem dX7_beforeAct_12 : decode cX7_beforeAct 12 = .ok (.iconst 1, 1) := by decide +kernel
theorem dX7_beforeAct_13 : decode cX7_beforeAct 13 = .ok (.putfield 58, 3) := by decide +kernel
theorem dX7_beforeAct_16 : decode cX7_beforeAct 16 = .ok (.return_, 1) := by decide +kernel
theorem dX7_freshSight_0 : decode cX7_freshSight 0 = .ok (.aload_n 0, 1) := by decide +kernel
theorem dX7_freshSight_1 : decode cX7_freshSight 1 = .ok (.getfield 58, 3) := by decide +kernel
theorem dX7_freshSight_4 : decode cX7_freshSight 4 = .ok (.ifCond .eq 19, 3) := by decide +kernel
theorem dX7_freshSight_7 : decode cX7_freshSight 7 = .ok (.aload_n 0, 1) := by decide +kernel
theorem dX7_freshSight_8 : decode cX7_freshSight 8 = .ok (.getfield 33, 3) := by decide +kernel
theorem dX7_freshSight_11 : decode cX7_freshSight 11 = .ok (.aload_n 0, 1) := by decide +kernel
theorem dX7_freshSight_12 : decode cX7_freshSight 12 = .ok (.getfield 12, 3) := by decide +kernel
theorem dX7_freshSight_15 : decode cX7_freshSight 15 = .ok (.invokevirtual 245, 3) := by decide +kernel
theorem dX7_freshSight_18 : decode cX7_freshSight 18 = .ok (.aload_n 0, 1) := by decide +kernel
theorem dX7_freshSight_19 : decode cX7_freshSight 19 = .ok (.iconst 0, 1) := by decide +kernel
theorem dX7_freshSight_20 : decode cX7_freshSight 20 = .ok (.putfield 58, 3) := by decide +kernel
theorem dX7_freshSight_23 : decode cX7_freshSight 23 = .ok (.aload_n 0, 1) := by decide +kernel
theorem dX7_freshSight_24 : decode cX7_freshSight 24 = .ok (.getfield 33, 3) := by decide +kernel
theorem dX7_freshSight_27 : decode cX7_freshSight 27 = .ok (.areturn, 1) := by decide +kernel
theorem dX7_tellChoice_0 : decode cX7_tellChoice 0 = .ok (.aload_n 0, 1) := by decide +kernel
theorem dX7_tellChoice_1 : decode cX7_tellChoice 1 = .ok (.getfield 40, 3) := by decide +kernel
theorem dX7_tellChoice_4 : decode cX7_tellChoice 4 = .ok (.getfield 183, 3) := by decide +kernel
theorem dX7_tellChoice_7 : decode cX7_tellChoice 7 = .ok (.ifCond .ne 6, 3) := by decide +kernel
theorem dX7_tellChoice_10 : decode cX7_tellChoice 10 = .ok (.bipush (-2), 2) := by decide +kernel
theorem dX7_tellChoice_12 : decode cX7_tellChoice 12 = .ok (.ireturn, 1) := by decide +kernel
theorem dX7_tellChoice_13 : decode cX7_tellChoice 13 = .ok (.aload_n 0, 1) := by decide +kernel
theorem dX7_tellChoice_14 : decode cX7_tellChoice 14 = .ok (.aload_n 0, 1) := by decide +kernel
theorem dX7_tellChoice_15 : decode cX7_tellChoice 15 = .ok (.getfield 40, 3) := by decide +kernel
theorem dX7_tellChoice_18 : decode cX7_tellChoice 18 = .ok (.getfield 248, 3) := by decide +kernel
theorem dX7_tellChoice_21 : decode cX7_tellChoice 21 = .ok (.putfield 62, 3) := by decide +kernel
theorem dX7_tellChoice_24 : decode cX7_tellChoice 24 = .ok (.aload_n 0, 1) := by decide +kernel
theorem dX7_tellChoice_25 : decode cX7_tellChoice 25 = .ok (.getfield 40, 3) := by decide +kernel
theorem dX7_tellChoice_28 : decode cX7_tellChoice 28 = .ok (.getfield 251, 3) := by decide +kernel
theorem dX7_tellChoice_31 : decode cX7_tellChoice 31 = .ok (.ireturn, 1) := by decide +kernel
theorem dX7_wordsAgainst_0 : decode cX7_wordsAgainst 0 = .ok (.aload_n 0, 1) := by decide +kernel
theorem dX7_wordsAgainst_1 : decode cX7_wordsAgainst 1 = .ok (.invokevirtual 131, 3) := by decide +kernel
theorem dX7_wordsAgainst_4 : decode cX7_wordsAgainst 4 = .ok (.astore_n 2, 1) := by decide +kernel
theorem dX7_wordsAgainst_5 : decode cX7_wordsAgainst 5 = .ok (.iconst 0, 1) := by decide +kernel
theorem dX7_wordsAgainst_6 : decode cX7_wordsAgainst 6 = .ok (.istore_n 3, 1) := by decide +kernel
theorem dX7_wordsAgainst_7 : decode cX7_wordsAgainst 7 = .ok (.iconst 0, 1) := by decide +kernel
theorem dX7_wordsAgainst_8 : decode cX7_wordsAgainst 8 = .ok (.istore 4, 2) := by decide +kernel
theorem dX7_wordsAgainst_10 : decode cX7_wordsAgainst 10 = .ok (.iload 4, 2) := by decide +kernel
theorem dX7_wordsAgainst_12 : decode cX7_wordsAgainst 12 = .ok (.aload_n 0, 1) := by decide +kernel
theorem dX7_wordsAgainst_13 : decode cX7_wordsAgainst 13 = .ok (.getfield 12, 3) := by decide +kernel
theorem dX7_wordsAgainst_16 : decode cX7_wordsAgainst 16 = .ok (.getfield 66, 3) := by decide +kernel
theorem dX7_wordsAgainst_19 : decode cX7_wordsAgainst 19 = .ok (.if_icmp .ge 53, 3) := by decide +kernel
theorem dX7_wordsAgainst_22 : decode cX7_wordsAgainst 22 = .ok (.aload_n 0, 1) := by decide +kernel
theorem dX7_wordsAgainst_23 : decode cX7_wordsAgainst 23 = .ok (.getfield 12, 3) := by decide +kernel
theorem dX7_wordsAgainst_26 : decode cX7_wordsAgainst 26 = .ok (.iload 4, 2) := by decide +kernel
theorem dX7_wordsAgainst_28 : decode cX7_wordsAgainst 28 = .ok (.invokevirtual 198, 3) := by decide +kernel
theorem dX7_wordsAgainst_31 : decode cX7_wordsAgainst 31 = .ok (.ifCond .eq 35, 3) := by decide +kernel
theorem dX7_wordsAgainst_34 : decode cX7_wordsAgainst 34 = .ok (.aload_n 0, 1) := by decide +kernel
theorem dX7_wordsAgainst_35 : decode cX7_wordsAgainst 35 = .ok (.getfield 12, 3) := by decide +kernel
theorem dX7_wordsAgainst_38 : decode cX7_wordsAgainst 38 = .ok (.getfield 204, 3) := by decide +kernel
theorem dX7_wordsAgainst_41 : decode cX7_wordsAgainst 41 = .ok (.iload 4, 2) := by decide +kernel
theorem dX7_wordsAgainst_43 : decode cX7_wordsAgainst 43 = .ok (.iaload, 1) := by decide +kernel
theorem dX7_wordsAgainst_44 : decode cX7_wordsAgainst 44 = .ok (.aload_n 2, 1) := by decide +kernel
theorem dX7_wordsAgainst_45 : decode cX7_wordsAgainst 45 = .ok (.getfield 149, 3) := by decide +kernel
theorem dX7_wordsAgainst_48 : decode cX7_wordsAgainst 48 = .ok (.bipush 16, 2) := by decide +kernel
theorem dX7_wordsAgainst_50 : decode cX7_wordsAgainst 50 = .ok (.iload 4, 2) := by decide +kernel
theorem dX7_wordsAgainst_52 : decode cX7_wordsAgainst 52 = .ok (.imul, 1) := by decide +kernel
theorem dX7_wordsAgainst_53 : decode cX7_wordsAgainst 53 = .ok (.iload_n 1, 1) := by decide +kernel
theorem dX7_wordsAgainst_54 : decode cX7_wordsAgainst 54 = .ok (.iadd, 1) := by decide +kernel
theorem dX7_wordsAgainst_55 : decode cX7_wordsAgainst 55 = .ok (.iaload, 1) := by decide +kernel
theorem dX7_wordsAgainst_56 : decode cX7_wordsAgainst 56 = .ok (.if_icmp .eq 10, 3) := by decide +kernel
theorem dX7_wordsAgainst_59 : decode cX7_wordsAgainst 59 = .ok (.iload_n 3, 1) := by decide +kernel
theorem dX7_wordsAgainst_60 : decode cX7_wordsAgainst 60 = .ok (.iconst 1, 1) := by decide +kernel
theorem dX7_wordsAgainst_61 : decode cX7_wordsAgainst 61 = .ok (.iload 4, 2) := by decide +kernel
theorem dX7_wordsAgainst_63 : decode cX7_wordsAgainst 63 = .ok (.ishl, 1) := by decide +kernel
theorem dX7_wordsAgainst_64 : decode cX7_wordsAgainst 64 = .ok (.ior, 1) := by decide +kernel
theorem dX7_wordsAgainst_65 : decode cX7_wordsAgainst 65 = .ok (.istore_n 3, 1) := by decide +kernel
theorem dX7_wordsAgainst_66 : decode cX7_wordsAgainst 66 = .ok (.iinc 4 1, 3) := by decide +kernel
theorem dX7_wordsAgainst_69 : decode cX7_wordsAgainst 69 = .ok (.goto (-59), 3) := by decide +kernel
theorem dX7_wordsAgainst_72 : decode cX7_wordsAgainst 72 = .ok (.iload_n 3, 1) := by decide +kernel
theorem dX7_wordsAgainst_73 : decode cX7_wordsAgainst 73 = .ok (.ireturn, 1) := by decide +kernel
theorem dX7_fitsWords_0 : decode cX7_fitsWords 0 = .ok (.aload_n 0, 1) := by decide +kernel
theorem dX7_fitsWords_1 : decode cX7_fitsWords 1 = .ok (.getfield 12, 3) := by decide +kernel
theorem dX7_fitsWords_4 : decode cX7_fitsWords 4 = .ok (.getfield 121, 3) := by decide +kernel
theorem dX7_fitsWords_7 : decode cX7_fitsWords 7 = .ok (.ifCond .eq 13, 3) := by decide +kernel
theorem dX7_fitsWords_10 : decode cX7_fitsWords 10 = .ok (.aload_n 0, 1) := by decide +kernel
theorem dX7_fitsWords_11 : decode cX7_fitsWords 11 = .ok (.getfield 12, 3) := by decide +kernel
theorem dX7_fitsWords_14 : decode cX7_fitsWords 14 = .ok (.getfield 118, 3) := by decide +kernel
theorem dX7_fitsWords_17 : decode cX7_fitsWords 17 = .ok (.goto 4, 3) := by decide +kernel
theorem dX7_fitsWords_20 : decode cX7_fitsWords 20 = .ok (.iconst 0, 1) := by decide +kernel
theorem dX7_fitsWords_21 : decode cX7_fitsWords 21 = .ok (.istore_n 2, 1) := by decide +kernel
theorem dX7_fitsWords_22 : decode cX7_fitsWords 22 = .ok (.aload_n 0, 1) := by decide +kernel
theorem dX7_fitsWords_23 : decode cX7_fitsWords 23 = .ok (.iload_n 1, 1) := by decide +kernel
theorem dX7_fitsWords_24 : decode cX7_fitsWords 24 = .ok (.invokevirtual 210, 3) := by decide +kernel
theorem dX7_fitsWords_27 : decode cX7_fitsWords 27 = .ok (.invokestatic 141, 3) := by decide +kernel
theorem dX7_fitsWords_30 : decode cX7_fitsWords 30 = .ok (.iload_n 2, 1) := by decide +kernel
theorem dX7_fitsWords_31 : decode cX7_fitsWords 31 = .ok (.if_icmp .gt 7, 3) := by decide +kernel
theorem dX7_fitsWords_34 : decode cX7_fitsWords 34 = .ok (.iconst 1, 1) := by decide +kernel
theorem dX7_fitsWords_35 : decode cX7_fitsWords 35 = .ok (.goto 4, 3) := by decide +kernel
theorem dX7_fitsWords_38 : decode cX7_fitsWords 38 = .ok (.iconst 0, 1) := by decide +kernel
theorem dX7_fitsWords_39 : decode cX7_fitsWords 39 = .ok (.ireturn, 1) := by decide +kernel
theorem dX7_canBeAsked_0 : decode cX7_canBeAsked 0 = .ok (.aload_n 0, 1) := by decide +kernel
theorem dX7_canBeAsked_1 : decode cX7_canBeAsked 1 = .ok (.getfield 12, 3) := by decide +kernel
theorem dX7_canBeAsked_4 : decode cX7_canBeAsked 4 = .ok (.iload_n 1, 1) := by decide +kernel
theorem dX7_canBeAsked_5 : decode cX7_canBeAsked 5 = .ok (.invokevirtual 152, 3) := by decide +kernel
theorem dX7_canBeAsked_8 : decode cX7_canBeAsked 8 = .ok (.ifCond .eq 16, 3) := by decide +kernel
theorem dX7_canBeAsked_11 : decode cX7_canBeAsked 11 = .ok (.iload_n 1, 1) := by decide +kernel
theorem dX7_canBeAsked_12 : decode cX7_canBeAsked 12 = .ok (.invokestatic 141, 3) := by decide +kernel
theorem dX7_canBeAsked_15 : decode cX7_canBeAsked 15 = .ok (.bipush 12, 2) := by decide +kernel
theorem dX7_canBeAsked_17 : decode cX7_canBeAsked 17 = .ok (.if_icmp .gt 7, 3) := by decide +kernel
theorem dX7_canBeAsked_20 : decode cX7_canBeAsked 20 = .ok (.iconst 1, 1) := by decide +kernel
theorem dX7_canBeAsked_21 : decode cX7_canBeAsked 21 = .ok (.goto 4, 3) := by decide +kernel
theorem dX7_canBeAsked_24 : decode cX7_canBeAsked 24 = .ok (.iconst 0, 1) := by decide +kernel
theorem dX7_canBeAsked_25 : decode cX7_canBeAsked 25 = .ok (.ireturn, 1) := by decide +kernel
