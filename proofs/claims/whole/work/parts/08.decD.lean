theorem dX8_best_42 : decode cX8_best 42 = .ok (.iload_n 2, 1) := by decide +kernel
theorem dX8_best_43 : decode cX8_best 43 = .ok (.ifCond .lt 9, 3) := by decide +kernel
theorem dX8_best_46 : decode cX8_best 46 = .ok (.iload 5, 2) := by decide +kernel
theorem dX8_best_48 : decode cX8_best 48 = .ok (.iload_n 3, 1) := by decide +kernel
theorem dX8_best_49 : decode cX8_best 49 = .ok (.if_icmp .ge 21, 3) := by decide +kernel
theorem dX8_best_52 : decode cX8_best 52 = .ok (.aload_n 0, 1) := by decide +kernel
theorem dX8_best_53 : decode cX8_best 53 = .ok (.iload 4, 2) := by decide +kernel
theorem dX8_best_55 : decode cX8_best 55 = .ok (.invokevirtual 127, 3) := by decide +kernel
theorem dX8_best_58 : decode cX8_best 58 = .ok (.ifCond .lt 6, 3) := by decide +kernel
theorem dX8_best_61 : decode cX8_best 61 = .ok (.goto 9, 3) := by decide +kernel
theorem dX8_best_64 : decode cX8_best 64 = .ok (.iload 4, 2) := by decide +kernel
theorem dX8_best_66 : decode cX8_best 66 = .ok (.istore_n 2, 1) := by decide +kernel
theorem dX8_best_67 : decode cX8_best 67 = .ok (.iload 5, 2) := by decide +kernel
theorem dX8_best_69 : decode cX8_best 69 = .ok (.istore_n 3, 1) := by decide +kernel
theorem dX8_best_70 : decode cX8_best 70 = .ok (.iinc 4 1, 3) := by decide +kernel
theorem dX8_best_73 : decode cX8_best 73 = .ok (.goto (-62), 3) := by decide +kernel
theorem dX8_best_76 : decode cX8_best 76 = .ok (.iload_n 2, 1) := by decide +kernel
theorem dX8_best_77 : decode cX8_best 77 = .ok (.ireturn, 1) := by decide +kernel
theorem dX8_price__0 : decode cX8_price_ 0 = .ok (.iconst 0, 1) := by decide +kernel
theorem dX8_price__1 : decode cX8_price_ 1 = .ok (.istore_n 2, 1) := by decide +kernel
theorem dX8_price__2 : decode cX8_price_ 2 = .ok (.iconst 0, 1) := by decide +kernel
theorem dX8_price__3 : decode cX8_price_ 3 = .ok (.istore_n 3, 1) := by decide +kernel
theorem dX8_price__4 : decode cX8_price_ 4 = .ok (.iload_n 3, 1) := by decide +kernel
theorem dX8_price__5 : decode cX8_price_ 5 = .ok (.aload_n 0, 1) := by decide +kernel
theorem dX8_price__6 : decode cX8_price_ 6 = .ok (.invokevirtual 62, 3) := by decide +kernel
theorem dX8_price__9 : decode cX8_price_ 9 = .ok (.if_icmp .ge 35, 3) := by decide +kernel
theorem dX8_price__12 : decode cX8_price_ 12 = .ok (.iload_n 2, 1) := by decide +kernel
theorem dX8_price__13 : decode cX8_price_ 13 = .ok (.iload_n 1, 1) := by decide +kernel
theorem dX8_price__14 : decode cX8_price_ 14 = .ok (.iload_n 3, 1) := by decide +kernel
theorem dX8_price__15 : decode cX8_price_ 15 = .ok (.ishr, 1) := by decide +kernel
theorem dX8_price__16 : decode cX8_price_ 16 = .ok (.iconst 1, 1) := by decide +kernel
theorem dX8_price__17 : decode cX8_price_ 17 = .ok (.iand, 1) := by decide +kernel
theorem dX8_price__18 : decode cX8_price_ 18 = .ok (.iconst 1, 1) := by decide +kernel
theorem dX8_price__19 : decode cX8_price_ 19 = .ok (.if_icmp .ne 16, 3) := by decide +kernel
theorem dX8_price__22 : decode cX8_price_ 22 = .ok (.aload_n 0, 1) := by decide +kernel
theorem dX8_price__23 : decode cX8_price_ 23 = .ok (.getfield 7, 3) := by decide +kernel
theorem dX8_price__26 : decode cX8_price_ 26 = .ok (.sipush 279, 3) := by decide +kernel
theorem dX8_price__29 : decode cX8_price_ 29 = .ok (.iload_n 3, 1) := by decide +kernel
theorem dX8_price__30 : decode cX8_price_ 30 = .ok (.iadd, 1) := by decide +kernel
theorem dX8_price__31 : decode cX8_price_ 31 = .ok (.iaload, 1) := by decide +kernel
theorem dX8_price__32 : decode cX8_price_ 32 = .ok (.goto 4, 3) := by decide +kernel
theorem dX8_price__35 : decode cX8_price_ 35 = .ok (.iconst 0, 1) := by decide +kernel
theorem dX8_price__36 : decode cX8_price_ 36 = .ok (.iadd, 1) := by decide +kernel
theorem dX8_price__37 : decode cX8_price_ 37 = .ok (.istore_n 2, 1) := by decide +kernel
theorem dX8_price__38 : decode cX8_price_ 38 = .ok (.iinc 3 1, 3) := by decide +kernel
theorem dX8_price__41 : decode cX8_price_ 41 = .ok (.goto (-37), 3) := by decide +kernel
theorem dX8_price__44 : decode cX8_price_ 44 = .ok (.iload_n 2, 1) := by decide +kernel
theorem dX8_price__45 : decode cX8_price_ 45 = .ok (.ireturn, 1) := by decide +kernel
theorem dX8_least_0 : decode cX8_least 0 = .ok (.aload_n 0, 1) := by decide +kernel
theorem dX8_least_1 : decode cX8_least 1 = .ok (.iconst 0, 1) := by decide +kernel
theorem dX8_least_2 : decode cX8_least 2 = .ok (.invokevirtual 136, 3) := by decide +kernel
theorem dX8_least_5 : decode cX8_least 5 = .ok (.istore_n 1, 1) := by decide +kernel
theorem dX8_least_6 : decode cX8_least 6 = .ok (.iload_n 1, 1) := by decide +kernel
theorem dX8_least_7 : decode cX8_least 7 = .ok (.ifCond .ge 6, 3) := by decide +kernel
theorem dX8_least_10 : decode cX8_least 10 = .ok (.bipush (-2), 2) := by decide +kernel
theorem dX8_least_12 : decode cX8_least 12 = .ok (.ireturn, 1) := by decide +kernel
theorem dX8_least_13 : decode cX8_least 13 = .ok (.aload_n 0, 1) := by decide +kernel
theorem dX8_least_14 : decode cX8_least 14 = .ok (.iload_n 1, 1) := by decide +kernel
theorem dX8_least_15 : decode cX8_least 15 = .ok (.putfield 140, 3) := by decide +kernel
theorem dX8_least_18 : decode cX8_least 18 = .ok (.iload_n 1, 1) := by decide +kernel
theorem dX8_least_19 : decode cX8_least 19 = .ok (.invokestatic 102, 3) := by decide +kernel
theorem dX8_least_22 : decode cX8_least 22 = .ok (.ireturn, 1) := by decide +kernel
theorem dX8_every_0 : decode cX8_every 0 = .ok (.aload_n 0, 1) := by decide +kernel
theorem dX8_every_1 : decode cX8_every 1 = .ok (.iconst 0, 1) := by decide +kernel
theorem dX8_every_2 : decode cX8_every 2 = .ok (.invokevirtual 136, 3) := by decide +kernel
theorem dX8_every_5 : decode cX8_every 5 = .ok (.istore_n 1, 1) := by decide +kernel
theorem dX8_every_6 : decode cX8_every 6 = .ok (.iconst 0, 1) := by decide +kernel
theorem dX8_every_7 : decode cX8_every 7 = .ok (.istore_n 2, 1) := by decide +kernel
theorem dX8_every_8 : decode cX8_every 8 = .ok (.iconst 0, 1) := by decide +kernel
theorem dX8_every_9 : decode cX8_every 9 = .ok (.istore_n 3, 1) := by decide +kernel
theorem dX8_every_10 : decode cX8_every 10 = .ok (.iload_n 3, 1) := by decide +kernel
theorem dX8_every_11 : decode cX8_every 11 = .ok (.iconst 1, 1) := by decide +kernel
theorem dX8_every_12 : decode cX8_every 12 = .ok (.aload_n 0, 1) := by decide +kernel
theorem dX8_every_13 : decode cX8_every 13 = .ok (.invokevirtual 62, 3) := by decide +kernel
theorem dX8_every_16 : decode cX8_every 16 = .ok (.ishl, 1) := by decide +kernel
theorem dX8_every_17 : decode cX8_every 17 = .ok (.if_icmp .ge 40, 3) := by decide +kernel
theorem dX8_every_20 : decode cX8_every 20 = .ok (.iload_n 1, 1) := by decide +kernel
theorem dX8_every_21 : decode cX8_every 21 = .ok (.ifCond .lt 36, 3) := by decide +kernel
theorem dX8_every_24 : decode cX8_every 24 = .ok (.iload_n 2, 1) := by decide +kernel
theorem dX8_every_25 : decode cX8_every 25 = .ok (.iload_n 3, 1) := by decide +kernel
theorem dX8_every_26 : decode cX8_every 26 = .ok (.invokestatic 102, 3) := by decide +kernel
theorem dX8_every_29 : decode cX8_every 29 = .ok (.iload_n 1, 1) := by decide +kernel
theorem dX8_every_30 : decode cX8_every 30 = .ok (.invokestatic 102, 3) := by decide +kernel
theorem dX8_every_33 : decode cX8_every 33 = .ok (.if_icmp .ne 15, 3) := by decide +kernel
theorem dX8_every_36 : decode cX8_every 36 = .ok (.aload_n 0, 1) := by decide +kernel
theorem dX8_every_37 : decode cX8_every 37 = .ok (.iload_n 3, 1) := by decide +kernel
theorem dX8_every_38 : decode cX8_every 38 = .ok (.invokevirtual 127, 3) := by decide +kernel
theorem dX8_every_41 : decode cX8_every 41 = .ok (.ifCond .ge 7, 3) := by decide +kernel
theorem dX8_every_44 : decode cX8_every 44 = .ok (.iconst 1, 1) := by decide +kernel
theorem dX8_every_45 : decode cX8_every 45 = .ok (.goto 4, 3) := by decide +kernel
theorem dX8_every_48 : decode cX8_every 48 = .ok (.iconst 0, 1) := by decide +kernel
theorem dX8_every_49 : decode cX8_every 49 = .ok (.iadd, 1) := by decide +kernel
theorem dX8_every_50 : decode cX8_every 50 = .ok (.istore_n 2, 1) := by decide +kernel
theorem dX8_every_51 : decode cX8_every 51 = .ok (.iinc 3 1, 3) := by decide +kernel
theorem dX8_every_54 : decode cX8_every 54 = .ok (.goto (-44), 3) := by decide +kernel
theorem dX8_every_57 : decode cX8_every 57 = .ok (.iload_n 2, 1) := by decide +kernel
theorem dX8_every_58 : decode cX8_every 58 = .ok (.ireturn, 1) := by decide +kernel
theorem dX8_cheapest_0 : decode cX8_cheapest 0 = .ok (.aload_n 0, 1) := by decide +kernel
theorem dX8_cheapest_1 : decode cX8_cheapest 1 = .ok (.iconst 1, 1) := by decide +kernel
theorem dX8_cheapest_2 : decode cX8_cheapest 2 = .ok (.invokevirtual 136, 3) := by decide +kernel
theorem dX8_cheapest_5 : decode cX8_cheapest 5 = .ok (.istore_n 1, 1) := by decide +kernel
theorem dX8_cheapest_6 : decode cX8_cheapest 6 = .ok (.iload_n 1, 1) := by decide +kernel
theorem dX8_cheapest_7 : decode cX8_cheapest 7 = .ok (.ifCond .ge 6, 3) := by decide +kernel
theorem dX8_cheapest_10 : decode cX8_cheapest 10 = .ok (.bipush (-2), 2) := by decide +kernel
theorem dX8_cheapest_12 : decode cX8_cheapest 12 = .ok (.ireturn, 1) := by decide +kernel
theorem dX8_cheapest_13 : decode cX8_cheapest 13 = .ok (.aload_n 0, 1) := by decide +kernel
theorem dX8_cheapest_14 : decode cX8_cheapest 14 = .ok (.iload_n 1, 1) := by decide +kernel
theorem dX8_cheapest_15 : decode cX8_cheapest 15 = .ok (.putfield 140, 3) := by decide +kernel
theorem dX8_cheapest_18 : decode cX8_cheapest 18 = .ok (.aload_n 0, 1) := by decide +kernel
theorem dX8_cheapest_19 : decode cX8_cheapest 19 = .ok (.iload_n 1, 1) := by decide +kernel
theorem dX8_cheapest_20 : decode cX8_cheapest 20 = .ok (.invokevirtual 133, 3) := by decide +kernel
theorem dX8_cheapest_23 : decode cX8_cheapest 23 = .ok (.ireturn, 1) := by decide +kernel
theorem dX8_set_0 : decode cX8_set 0 = .ok (.aload_n 0, 1) := by decide +kernel
theorem dX8_set_1 : decode cX8_set 1 = .ok (.getfield 140, 3) := by decide +kernel
theorem dX8_set_4 : decode cX8_set 4 = .ok (.ireturn, 1) := by decide +kernel
theorem dX8_show_0 : decode cX8_show 0 = .ok (.iconst 0, 1) := by decide +kernel
theorem dX8_show_1 : decode cX8_show 1 = .ok (.istore_n 1, 1) := by decide +kernel
theorem dX8_show_2 : decode cX8_show 2 = .ok (.iconst 0, 1) := by decide +kernel
theorem dX8_show_3 : decode cX8_show 3 = .ok (.istore_n 2, 1) := by decide +kernel
theorem dX8_show_4 : decode cX8_show 4 = .ok (.iconst 0, 1) := by decide +kernel
theorem dX8_show_5 : decode cX8_show 5 = .ok (.istore_n 3, 1) := by decide +kernel
theorem dX8_show_6 : decode cX8_show 6 = .ok (.iload_n 3, 1) := by decide +kernel
theorem dX8_show_7 : decode cX8_show 7 = .ok (.aload_n 0, 1) := by decide +kernel
theorem dX8_show_8 : decode cX8_show 8 = .ok (.invokevirtual 62, 3) := by decide +kernel
theorem dX8_show_11 : decode cX8_show 11 = .ok (.if_icmp .ge 74, 3) := by decide +kernel
theorem dX8_show_14 : decode cX8_show 14 = .ok (.iload_n 3, 1) := by decide +kernel
theorem dX8_show_15 : decode cX8_show 15 = .ok (.iconst 1, 1) := by decide +kernel
theorem dX8_show_16 : decode cX8_show 16 = .ok (.iadd, 1) := by decide +kernel
theorem dX8_show_17 : decode cX8_show 17 = .ok (.istore 4, 2) := by decide +kernel
theorem dX8_show_19 : decode cX8_show 19 = .ok (.iload 4, 2) := by decide +kernel
theorem dX8_show_21 : decode cX8_show 21 = .ok (.aload_n 0, 1) := by decide +kernel
theorem dX8_show_22 : decode cX8_show 22 = .ok (.invokevirtual 62, 3) := by decide +kernel
theorem dX8_show_25 : decode cX8_show 25 = .ok (.if_icmp .ge 54, 3) := by decide +kernel
theorem dX8_show_28 : decode cX8_show 28 = .ok (.aload_n 0, 1) := by decide +kernel
theorem dX8_show_29 : decode cX8_show 29 = .ok (.iload_n 3, 1) := by decide +kernel
theorem dX8_show_30 : decode cX8_show 30 = .ok (.iload 4, 2) := by decide +kernel
theorem dX8_show_32 : decode cX8_show 32 = .ok (.invokevirtual 111, 3) := by decide +kernel
theorem dX8_show_35 : decode cX8_show 35 = .ok (.istore 5, 2) := by decide +kernel
theorem dX8_show_37 : decode cX8_show 37 = .ok (.iload 5, 2) := by decide +kernel
theorem dX8_show_39 : decode cX8_show 39 = .ok (.ifCond .eq 34, 3) := by decide +kernel
theorem dX8_show_42 : decode cX8_show 42 = .ok (.iload 5, 2) := by decide +kernel
theorem dX8_show_44 : decode cX8_show 44 = .ok (.iload_n 2, 1) := by decide +kernel
theorem dX8_show_45 : decode cX8_show 45 = .ok (.iand, 1) := by decide +kernel
theorem dX8_show_46 : decode cX8_show 46 = .ok (.ifCond .eq 6, 3) := by decide +kernel
theorem dX8_show_49 : decode cX8_show 49 = .ok (.goto 24, 3) := by decide +kernel
theorem dX8_show_52 : decode cX8_show 52 = .ok (.iload_n 2, 1) := by decide +kernel
theorem dX8_show_53 : decode cX8_show 53 = .ok (.iload 5, 2) := by decide +kernel
theorem dX8_show_55 : decode cX8_show 55 = .ok (.ior, 1) := by decide +kernel
theorem dX8_show_56 : decode cX8_show 56 = .ok (.istore_n 2, 1) := by decide +kernel
theorem dX8_show_57 : decode cX8_show 57 = .ok (.aload_n 0, 1) := by decide +kernel
theorem dX8_show_58 : decode cX8_show 58 = .ok (.getfield 32, 3) := by decide +kernel
theorem dX8_show_61 : decode cX8_show 61 = .ok (.iload_n 1, 1) := by decide +kernel
theorem dX8_show_62 : decode cX8_show 62 = .ok (.bipush 16, 2) := by decide +kernel
theorem dX8_show_64 : decode cX8_show 64 = .ok (.iload_n 3, 1) := by decide +kernel
theorem dX8_show_65 : decode cX8_show 65 = .ok (.imul, 1) := by decide +kernel
theorem dX8_show_66 : decode cX8_show 66 = .ok (.iload 4, 2) := by decide +kernel
theorem dX8_show_68 : decode cX8_show 68 = .ok (.iadd, 1) := by decide +kernel
theorem dX8_show_69 : decode cX8_show 69 = .ok (.iastore, 1) := by decide +kernel
theorem dX8_show_70 : decode cX8_show 70 = .ok (.iinc 1 1, 3) := by decide +kernel
theorem dX8_show_73 : decode cX8_show 73 = .ok (.iinc 4 1, 3) := by decide +kernel
theorem dX8_show_76 : decode cX8_show 76 = .ok (.goto (-57), 3) := by decide +kernel
theorem dX8_show_79 : decode cX8_show 79 = .ok (.iinc 3 1, 3) := by decide +kernel
theorem dX8_show_82 : decode cX8_show 82 = .ok (.goto (-76), 3) := by decide +kernel
theorem dX8_show_85 : decode cX8_show 85 = .ok (.iload_n 1, 1) := by decide +kernel
theorem dX8_show_86 : decode cX8_show 86 = .ok (.ireturn, 1) := by decide +kernel
theorem dX8_shown_0 : decode cX8_shown 0 = .ok (.aload_n 0, 1) := by decide +kernel
theorem dX8_shown_1 : decode cX8_shown 1 = .ok (.invokevirtual 143, 3) := by decide +kernel
theorem dX8_shown_4 : decode cX8_shown 4 = .ok (.ireturn, 1) := by decide +kernel
theorem dX8_pair_0 : decode cX8_pair 0 = .ok (.aload_n 0, 1) := by decide +kernel
theorem dX8_pair_1 : decode cX8_pair 1 = .ok (.invokevirtual 143, 3) := by decide +kernel
theorem dX8_pair_4 : decode cX8_pair 4 = .ok (.istore_n 2, 1) := by decide +kernel
theorem dX8_pair_5 : decode cX8_pair 5 = .ok (.iload_n 1, 1) := by decide +kernel
theorem dX8_pair_6 : decode cX8_pair 6 = .ok (.ifCond .lt 17, 3) := by decide +kernel
theorem dX8_pair_9 : decode cX8_pair 9 = .ok (.iload_n 1, 1) := by decide +kernel
theorem dX8_pair_10 : decode cX8_pair 10 = .ok (.iload_n 2, 1) := by decide +kernel
theorem dX8_pair_11 : decode cX8_pair 11 = .ok (.if_icmp .ge 12, 3) := by decide +kernel
theorem dX8_pair_14 : decode cX8_pair 14 = .ok (.aload_n 0, 1) := by decide +kernel
theorem dX8_pair_15 : decode cX8_pair 15 = .ok (.getfield 32, 3) := by decide +kernel
theorem dX8_pair_18 : decode cX8_pair 18 = .ok (.iload_n 1, 1) := by decide +kernel
theorem dX8_pair_19 : decode cX8_pair 19 = .ok (.iaload, 1) := by decide +kernel
theorem dX8_pair_20 : decode cX8_pair 20 = .ok (.goto 4, 3) := by decide +kernel
theorem dX8_pair_23 : decode cX8_pair 23 = .ok (.iconst (-1), 1) := by decide +kernel
theorem dX8_pair_24 : decode cX8_pair 24 = .ok (.ireturn, 1) := by decide +kernel
theorem dX8_lacks_0 : decode cX8_lacks 0 = .ok (.iload_n 1, 1) := by decide +kernel
theorem dX8_lacks_1 : decode cX8_lacks 1 = .ok (.ifCond .eq 20, 3) := by decide +kernel
theorem dX8_lacks_4 : decode cX8_lacks 4 = .ok (.iload_n 1, 1) := by decide +kernel
theorem dX8_lacks_5 : decode cX8_lacks 5 = .ok (.iload_n 2, 1) := by decide +kernel
theorem dX8_lacks_6 : decode cX8_lacks 6 = .ok (.iand, 1) := by decide +kernel
theorem dX8_lacks_7 : decode cX8_lacks 7 = .ok (.invokestatic 102, 3) := by decide +kernel
theorem dX8_lacks_10 : decode cX8_lacks 10 = .ok (.aload_n 0, 1) := by decide +kernel
theorem dX8_lacks_11 : decode cX8_lacks 11 = .ok (.invokevirtual 95, 3) := by decide +kernel
theorem dX8_lacks_14 : decode cX8_lacks 14 = .ok (.if_icmp .ge 7, 3) := by decide +kernel
theorem dX8_lacks_17 : decode cX8_lacks 17 = .ok (.iconst 1, 1) := by decide +kernel
theorem dX8_lacks_18 : decode cX8_lacks 18 = .ok (.goto 4, 3) := by decide +kernel
theorem dX8_lacks_21 : decode cX8_lacks 21 = .ok (.iconst 0, 1) := by decide +kernel
theorem dX8_lacks_22 : decode cX8_lacks 22 = .ok (.ireturn, 1) := by decide +kernel
theorem dX8_greedy_0 : decode cX8_greedy 0 = .ok (.aload_n 0, 1) := by decide +kernel
theorem dX8_greedy_1 : decode cX8_greedy 1 = .ok (.invokevirtual 124, 3) := by decide +kernel
theorem dX8_greedy_4 : decode cX8_greedy 4 = .ok (.iconst 0, 1) := by decide +kernel
theorem dX8_greedy_5 : decode cX8_greedy 5 = .ok (.istore_n 1, 1) := by decide +kernel
theorem dX8_greedy_6 : decode cX8_greedy 6 = .ok (.iconst 1, 1) := by decide +kernel
theorem dX8_greedy_7 : decode cX8_greedy 7 = .ok (.istore_n 2, 1) := by decide +kernel
theorem dX8_greedy_8 : decode cX8_greedy 8 = .ok (.iconst 1, 1) := by decide +kernel
theorem dX8_greedy_9 : decode cX8_greedy 9 = .ok (.istore_n 3, 1) := by decide +kernel
theorem dX8_greedy_10 : decode cX8_greedy 10 = .ok (.iload_n 3, 1) := by decide +kernel
theorem dX8_greedy_11 : decode cX8_greedy 11 = .ok (.ifCond .eq 249, 3) := by decide +kernel
theorem dX8_greedy_14 : decode cX8_greedy 14 = .ok (.iconst 0, 1) := by decide +kernel
theorem dX8_greedy_15 : decode cX8_greedy 15 = .ok (.istore_n 2, 1) := by decide +kernel
theorem dX8_greedy_16 : decode cX8_greedy 16 = .ok (.iconst (-1), 1) := by decide +kernel
theorem dX8_greedy_17 : decode cX8_greedy 17 = .ok (.istore 4, 2) := by decide +kernel
theorem dX8_greedy_19 : decode cX8_greedy 19 = .ok (.iconst 0, 1) := by decide +kernel
theorem dX8_greedy_20 : decode cX8_greedy 20 = .ok (.istore 5, 2) := by decide +kernel
theorem dX8_greedy_22 : decode cX8_greedy 22 = .ok (.iconst 0, 1) := by decide +kernel
theorem dX8_greedy_23 : decode cX8_greedy 23 = .ok (.istore 6, 2) := by decide +kernel
theorem dX8_greedy_25 : decode cX8_greedy 25 = .ok (.iload 6, 2) := by decide +kernel
theorem dX8_greedy_27 : decode cX8_greedy 27 = .ok (.aload_n 0, 1) := by decide +kernel
theorem dX8_greedy_28 : decode cX8_greedy 28 = .ok (.invokevirtual 62, 3) := by decide +kernel
theorem dX8_greedy_31 : decode cX8_greedy 31 = .ok (.if_icmp .ge 132, 3) := by decide +kernel
theorem dX8_greedy_34 : decode cX8_greedy 34 = .ok (.iconst 0, 1) := by decide +kernel
theorem dX8_greedy_35 : decode cX8_greedy 35 = .ok (.istore 7, 2) := by decide +kernel
theorem dX8_greedy_37 : decode cX8_greedy 37 = .ok (.iconst 0, 1) := by decide +kernel
theorem dX8_greedy_38 : decode cX8_greedy 38 = .ok (.istore 8, 2) := by decide +kernel
theorem dX8_greedy_40 : decode cX8_greedy 40 = .ok (.iload 8, 2) := by decide +kernel
theorem dX8_greedy_42 : decode cX8_greedy 42 = .ok (.aload_n 0, 1) := by decide +kernel
theorem dX8_greedy_43 : decode cX8_greedy 43 = .ok (.invokevirtual 62, 3) := by decide +kernel
theorem dX8_greedy_46 : decode cX8_greedy 46 = .ok (.if_icmp .ge 83, 3) := by decide +kernel
theorem dX8_greedy_49 : decode cX8_greedy 49 = .ok (.iload 8, 2) := by decide +kernel
theorem dX8_greedy_51 : decode cX8_greedy 51 = .ok (.iconst 1, 1) := by decide +kernel
theorem dX8_greedy_52 : decode cX8_greedy 52 = .ok (.iadd, 1) := by decide +kernel
theorem dX8_greedy_53 : decode cX8_greedy 53 = .ok (.istore 9, 2) := by decide +kernel
theorem dX8_greedy_55 : decode cX8_greedy 55 = .ok (.iload 9, 2) := by decide +kernel
theorem dX8_greedy_57 : decode cX8_greedy 57 = .ok (.aload_n 0, 1) := by decide +kernel
theorem dX8_greedy_58 : decode cX8_greedy 58 = .ok (.invokevirtual 62, 3) := by decide +kernel
theorem dX8_greedy_61 : decode cX8_greedy 61 = .ok (.if_icmp .ge 62, 3) := by decide +kernel
theorem dX8_greedy_64 : decode cX8_greedy 64 = .ok (.iload 7, 2) := by decide +kernel
theorem dX8_greedy_66 : decode cX8_greedy 66 = .ok (.aload_n 0, 1) := by decide +kernel
theorem dX8_greedy_67 : decode cX8_greedy 67 = .ok (.aload_n 0, 1) := by decide +kernel
theorem dX8_greedy_68 : decode cX8_greedy 68 = .ok (.getfield 26, 3) := by decide +kernel
theorem dX8_greedy_71 : decode cX8_greedy 71 = .ok (.bipush 16, 2) := by decide +kernel
theorem dX8_greedy_73 : decode cX8_greedy 73 = .ok (.iload 8, 2) := by decide +kernel
theorem dX8_greedy_75 : decode cX8_greedy 75 = .ok (.imul, 1) := by decide +kernel
theorem dX8_greedy_76 : decode cX8_greedy 76 = .ok (.iload 9, 2) := by decide +kernel
theorem dX8_greedy_78 : decode cX8_greedy 78 = .ok (.iadd, 1) := by decide +kernel
theorem dX8_greedy_79 : decode cX8_greedy 79 = .ok (.iaload, 1) := by decide +kernel
theorem dX8_greedy_80 : decode cX8_greedy 80 = .ok (.iload_n 1, 1) := by decide +kernel
theorem dX8_greedy_81 : decode cX8_greedy 81 = .ok (.invokevirtual 146, 3) := by decide +kernel
theorem dX8_greedy_84 : decode cX8_greedy 84 = .ok (.ifCond .eq 29, 3) := by decide +kernel
theorem dX8_greedy_87 : decode cX8_greedy 87 = .ok (.aload_n 0, 1) := by decide +kernel
theorem dX8_greedy_88 : decode cX8_greedy 88 = .ok (.getfield 26, 3) := by decide +kernel
theorem dX8_greedy_91 : decode cX8_greedy 91 = .ok (.bipush 16, 2) := by decide +kernel
theorem dX8_greedy_93 : decode cX8_greedy 93 = .ok (.iload 8, 2) := by decide +kernel
theorem dX8_greedy_95 : decode cX8_greedy 95 = .ok (.imul, 1) := by decide +kernel
theorem dX8_greedy_96 : decode cX8_greedy 96 = .ok (.iload 9, 2) := by decide +kernel
theorem dX8_greedy_98 : decode cX8_greedy 98 = .ok (.iadd, 1) := by decide +kernel
theorem dX8_greedy_99 : decode cX8_greedy 99 = .ok (.iaload, 1) := by decide +kernel
theorem dX8_greedy_100 : decode cX8_greedy 100 = .ok (.iload 6, 2) := by decide +kernel
theorem dX8_greedy_102 : decode cX8_greedy 102 = .ok (.ishr, 1) := by decide +kernel
theorem dX8_greedy_103 : decode cX8_greedy 103 = .ok (.iconst 1, 1) := by decide +kernel
theorem dX8_greedy_104 : decode cX8_greedy 104 = .ok (.iand, 1) := by decide +kernel
theorem dX8_greedy_105 : decode cX8_greedy 105 = .ok (.iconst 1, 1) := by decide +kernel
theorem dX8_greedy_106 : decode cX8_greedy 106 = .ok (.if_icmp .ne 7, 3) := by decide +kernel
theorem dX8_greedy_109 : decode cX8_greedy 109 = .ok (.iconst 1, 1) := by decide +kernel
theorem dX8_greedy_110 : decode cX8_greedy 110 = .ok (.goto 4, 3) := by decide +kernel
theorem dX8_greedy_113 : decode cX8_greedy 113 = .ok (.iconst 0, 1) := by decide +kernel
theorem dX8_greedy_114 : decode cX8_greedy 114 = .ok (.iadd, 1) := by decide +kernel
theorem dX8_greedy_115 : decode cX8_greedy 115 = .ok (.istore 7, 2) := by decide +kernel
theorem dX8_greedy_117 : decode cX8_greedy 117 = .ok (.iinc 9 1, 3) := by decide +kernel
theorem dX8_greedy_120 : decode cX8_greedy 120 = .ok (.goto (-65), 3) := by decide +kernel
theorem dX8_greedy_123 : decode cX8_greedy 123 = .ok (.iinc 8 1, 3) := by decide +kernel
theorem dX8_greedy_126 : decode cX8_greedy 126 = .ok (.goto (-86), 3) := by decide +kernel
theorem dX8_greedy_129 : decode cX8_greedy 129 = .ok (.iload_n 1, 1) := by decide +kernel
theorem dX8_greedy_130 : decode cX8_greedy 130 = .ok (.iload 6, 2) := by decide +kernel
theorem dX8_greedy_132 : decode cX8_greedy 132 = .ok (.ishr, 1) := by decide +kernel
theorem dX8_greedy_133 : decode cX8_greedy 133 = .ok (.iconst 1, 1) := by decide +kernel
theorem dX8_greedy_134 : decode cX8_greedy 134 = .ok (.iand, 1) := by decide +kernel
theorem dX8_greedy_135 : decode cX8_greedy 135 = .ok (.iconst 1, 1) := by decide +kernel
theorem dX8_greedy_136 : decode cX8_greedy 136 = .ok (.if_icmp .eq 21, 3) := by decide +kernel
theorem dX8_greedy_139 : decode cX8_greedy 139 = .ok (.iload 7, 2) := by decide +kernel
theorem dX8_greedy_141 : decode cX8_greedy 141 = .ok (.iload 5, 2) := by decide +kernel
theorem dX8_greedy_143 : decode cX8_greedy 143 = .ok (.if_icmp .gt 6, 3) := by decide +kernel
theorem dX8_greedy_146 : decode cX8_greedy 146 = .ok (.goto 11, 3) := by decide +kernel
theorem dX8_greedy_149 : decode cX8_greedy 149 = .ok (.iload 6, 2) := by decide +kernel
theorem dX8_greedy_151 : decode cX8_greedy 151 = .ok (.istore 4, 2) := by decide +kernel
theorem dX8_greedy_153 : decode cX8_greedy 153 = .ok (.iload 7, 2) := by decide +kernel
theorem dX8_greedy_155 : decode cX8_greedy 155 = .ok (.istore 5, 2) := by decide +kernel
theorem dX8_greedy_157 : decode cX8_greedy 157 = .ok (.iinc 6 1, 3) := by decide +kernel
theorem dX8_greedy_160 : decode cX8_greedy 160 = .ok (.goto (-135), 3) := by decide +kernel
theorem dX8_greedy_163 : decode cX8_greedy 163 = .ok (.iconst 0, 1) := by decide +kernel
theorem dX8_greedy_164 : decode cX8_greedy 164 = .ok (.istore 6, 2) := by decide +kernel
theorem dX8_greedy_166 : decode cX8_greedy 166 = .ok (.iload 6, 2) := by decide +kernel
theorem dX8_greedy_168 : decode cX8_greedy 168 = .ok (.aload_n 0, 1) := by decide +kernel
theorem dX8_greedy_169 : decode cX8_greedy 169 = .ok (.invokevirtual 62, 3) := by decide +kernel
theorem dX8_greedy_172 : decode cX8_greedy 172 = .ok (.if_icmp .ge 59, 3) := by decide +kernel
theorem dX8_greedy_175 : decode cX8_greedy 175 = .ok (.iload 6, 2) := by decide +kernel
theorem dX8_greedy_177 : decode cX8_greedy 177 = .ok (.iconst 1, 1) := by decide +kernel
theorem dX8_greedy_178 : decode cX8_greedy 178 = .ok (.iadd, 1) := by decide +kernel
theorem dX8_greedy_179 : decode cX8_greedy 179 = .ok (.istore 7, 2) := by decide +kernel
theorem dX8_greedy_181 : decode cX8_greedy 181 = .ok (.iload 7, 2) := by decide +kernel
theorem dX8_greedy_183 : decode cX8_greedy 183 = .ok (.aload_n 0, 1) := by decide +kernel
theorem dX8_greedy_184 : decode cX8_greedy 184 = .ok (.invokevirtual 62, 3) := by decide +kernel
theorem dX8_greedy_187 : decode cX8_greedy 187 = .ok (.if_icmp .ge 38, 3) := by decide +kernel
theorem dX8_greedy_190 : decode cX8_greedy 190 = .ok (.iload_n 2, 1) := by decide +kernel
theorem dX8_greedy_191 : decode cX8_greedy 191 = .ok (.aload_n 0, 1) := by decide +kernel
theorem dX8_greedy_192 : decode cX8_greedy 192 = .ok (.aload_n 0, 1) := by decide +kernel
theorem dX8_greedy_193 : decode cX8_greedy 193 = .ok (.getfield 26, 3) := by decide +kernel
theorem dX8_greedy_196 : decode cX8_greedy 196 = .ok (.bipush 16, 2) := by decide +kernel
theorem dX8_greedy_198 : decode cX8_greedy 198 = .ok (.iload 6, 2) := by decide +kernel
theorem dX8_greedy_200 : decode cX8_greedy 200 = .ok (.imul, 1) := by decide +kernel
theorem dX8_greedy_201 : decode cX8_greedy 201 = .ok (.iload 7, 2) := by decide +kernel
theorem dX8_greedy_203 : decode cX8_greedy 203 = .ok (.iadd, 1) := by decide +kernel
theorem dX8_greedy_204 : decode cX8_greedy 204 = .ok (.iaload, 1) := by decide +kernel
theorem dX8_greedy_205 : decode cX8_greedy 205 = .ok (.iload_n 1, 1) := by decide +kernel
theorem dX8_greedy_206 : decode cX8_greedy 206 = .ok (.invokevirtual 146, 3) := by decide +kernel
theorem dX8_greedy_209 : decode cX8_greedy 209 = .ok (.ifCond .eq 7, 3) := by decide +kernel
theorem dX8_greedy_212 : decode cX8_greedy 212 = .ok (.iconst 1, 1) := by decide +kernel
theorem dX8_greedy_213 : decode cX8_greedy 213 = .ok (.goto 4, 3) := by decide +kernel
theorem dX8_greedy_216 : decode cX8_greedy 216 = .ok (.iconst 0, 1) := by decide +kernel
theorem dX8_greedy_217 : decode cX8_greedy 217 = .ok (.iadd, 1) := by decide +kernel
theorem dX8_greedy_218 : decode cX8_greedy 218 = .ok (.istore_n 2, 1) := by decide +kernel
theorem dX8_greedy_219 : decode cX8_greedy 219 = .ok (.iinc 7 1, 3) := by decide +kernel
theorem dX8_greedy_222 : decode cX8_greedy 222 = .ok (.goto (-41), 3) := by decide +kernel
theorem dX8_greedy_225 : decode cX8_greedy 225 = .ok (.iinc 6 1, 3) := by decide +kernel
theorem dX8_greedy_228 : decode cX8_greedy 228 = .ok (.goto (-62), 3) := by decide +kernel
theorem dX8_greedy_231 : decode cX8_greedy 231 = .ok (.iload_n 2, 1) := by decide +kernel
theorem dX8_greedy_232 : decode cX8_greedy 232 = .ok (.ifCond .le 12, 3) := by decide +kernel
theorem dX8_greedy_235 : decode cX8_greedy 235 = .ok (.iload 4, 2) := by decide +kernel
theorem dX8_greedy_237 : decode cX8_greedy 237 = .ok (.ifCond .lt 7, 3) := by decide +kernel
theorem dX8_greedy_240 : decode cX8_greedy 240 = .ok (.iconst 1, 1) := by decide +kernel
theorem dX8_greedy_241 : decode cX8_greedy 241 = .ok (.goto 4, 3) := by decide +kernel
theorem dX8_greedy_244 : decode cX8_greedy 244 = .ok (.iconst 0, 1) := by decide +kernel
theorem dX8_greedy_245 : decode cX8_greedy 245 = .ok (.istore_n 3, 1) := by decide +kernel
theorem dX8_greedy_246 : decode cX8_greedy 246 = .ok (.iload_n 3, 1) := by decide +kernel
theorem dX8_greedy_247 : decode cX8_greedy 247 = .ok (.ifCond .eq 10, 3) := by decide +kernel
theorem dX8_greedy_250 : decode cX8_greedy 250 = .ok (.iload_n 1, 1) := by decide +kernel
theorem dX8_greedy_251 : decode cX8_greedy 251 = .ok (.iconst 1, 1) := by decide +kernel
theorem dX8_greedy_252 : decode cX8_greedy 252 = .ok (.iload 4, 2) := by decide +kernel
theorem dX8_greedy_254 : decode cX8_greedy 254 = .ok (.ishl, 1) := by decide +kernel
theorem dX8_greedy_255 : decode cX8_greedy 255 = .ok (.ior, 1) := by decide +kernel
theorem dX8_greedy_256 : decode cX8_greedy 256 = .ok (.istore_n 1, 1) := by decide +kernel
theorem dX8_greedy_257 : decode cX8_greedy 257 = .ok (.goto (-247), 3) := by decide +kernel
theorem dX8_greedy_260 : decode cX8_greedy 260 = .ok (.iload_n 2, 1) := by decide +kernel
theorem dX8_greedy_261 : decode cX8_greedy 261 = .ok (.ifCond .le 8, 3) := by decide +kernel
theorem dX8_greedy_264 : decode cX8_greedy 264 = .ok (.bipush (-2), 2) := by decide +kernel
theorem dX8_greedy_266 : decode cX8_greedy 266 = .ok (.iload_n 2, 1) := by decide +kernel
theorem dX8_greedy_267 : decode cX8_greedy 267 = .ok (.isub, 1) := by decide +kernel
theorem dX8_greedy_268 : decode cX8_greedy 268 = .ok (.ireturn, 1) := by decide +kernel
theorem dX8_greedy_269 : decode cX8_greedy 269 = .ok (.aload_n 0, 1) := by decide +kernel
theorem dX8_greedy_270 : decode cX8_greedy 270 = .ok (.iload_n 1, 1) := by decide +kernel
theorem dX8_greedy_271 : decode cX8_greedy 271 = .ok (.putfield 140, 3) := by decide +kernel
theorem dX8_greedy_274 : decode cX8_greedy 274 = .ok (.iload_n 1, 1) := by decide +kernel
theorem dX8_greedy_275 : decode cX8_greedy 275 = .ok (.invokestatic 102, 3) := by decide +kernel
theorem dX8_greedy_278 : decode cX8_greedy 278 = .ok (.ireturn, 1) := by decide +kernel
theorem dX8_word_0 : decode cX8_word 0 = .ok (.aload_n 0, 1) := by decide +kernel
theorem dX8_word_1 : decode cX8_word 1 = .ok (.iload_n 1, 1) := by decide +kernel
theorem dX8_word_2 : decode cX8_word 2 = .ok (.invokevirtual 66, 3) := by decide +kernel
theorem dX8_word_5 : decode cX8_word 5 = .ok (.ifCond .eq 17, 3) := by decide +kernel
theorem dX8_word_8 : decode cX8_word 8 = .ok (.aload_n 0, 1) := by decide +kernel
theorem dX8_word_9 : decode cX8_word 9 = .ok (.getfield 7, 3) := by decide +kernel
theorem dX8_word_12 : decode cX8_word 12 = .ok (.sipush 311, 3) := by decide +kernel
theorem dX8_word_15 : decode cX8_word 15 = .ok (.iload_n 1, 1) := by decide +kernel
theorem dX8_word_16 : decode cX8_word 16 = .ok (.iadd, 1) := by decide +kernel
theorem dX8_word_17 : decode cX8_word 17 = .ok (.iaload, 1) := by decide +kernel
theorem dX8_word_18 : decode cX8_word 18 = .ok (.iconst 1, 1) := by decide +kernel
theorem dX8_word_19 : decode cX8_word 19 = .ok (.if_icmp .ne 5, 3) := by decide +kernel
theorem dX8_word_22 : decode cX8_word 22 = .ok (.iconst (-1), 1) := by decide +kernel
theorem dX8_word_23 : decode cX8_word 23 = .ok (.ireturn, 1) := by decide +kernel
theorem dX8_word_24 : decode cX8_word 24 = .ok (.aload_n 0, 1) := by decide +kernel
theorem dX8_word_25 : decode cX8_word 25 = .ok (.invokevirtual 78, 3) := by decide +kernel
theorem dX8_word_28 : decode cX8_word 28 = .ok (.aload_n 0, 1) := by decide +kernel
theorem dX8_word_29 : decode cX8_word 29 = .ok (.getfield 7, 3) := by decide +kernel
theorem dX8_word_32 : decode cX8_word 32 = .ok (.sipush 311, 3) := by decide +kernel
theorem dX8_word_35 : decode cX8_word 35 = .ok (.iload_n 1, 1) := by decide +kernel
theorem dX8_word_36 : decode cX8_word 36 = .ok (.iadd, 1) := by decide +kernel
theorem dX8_word_37 : decode cX8_word 37 = .ok (.iconst 1, 1) := by decide +kernel
theorem dX8_word_38 : decode cX8_word 38 = .ok (.iastore, 1) := by decide +kernel
theorem dX8_word_39 : decode cX8_word 39 = .ok (.aload_n 0, 1) := by decide +kernel
theorem dX8_word_40 : decode cX8_word 40 = .ok (.getfield 7, 3) := by decide +kernel
theorem dX8_word_43 : decode cX8_word 43 = .ok (.sipush 327, 3) := by decide +kernel
theorem dX8_word_46 : decode cX8_word 46 = .ok (.iload_n 1, 1) := by decide +kernel
theorem dX8_word_47 : decode cX8_word 47 = .ok (.iadd, 1) := by decide +kernel
theorem dX8_word_48 : decode cX8_word 48 = .ok (.iload_n 2, 1) := by decide +kernel
theorem dX8_word_49 : decode cX8_word 49 = .ok (.iastore, 1) := by decide +kernel
theorem dX8_word_50 : decode cX8_word 50 = .ok (.aload_n 0, 1) := by decide +kernel
theorem dX8_word_51 : decode cX8_word 51 = .ok (.getfield 7, 3) := by decide +kernel
theorem dX8_word_54 : decode cX8_word 54 = .ok (.bipush 6, 2) := by decide +kernel
theorem dX8_word_56 : decode cX8_word 56 = .ok (.dup2, 1) := by decide +kernel
theorem dX8_word_57 : decode cX8_word 57 = .ok (.iaload, 1) := by decide +kernel
theorem dX8_word_58 : decode cX8_word 58 = .ok (.iconst 1, 1) := by decide +kernel
theorem dX8_word_59 : decode cX8_word 59 = .ok (.iadd, 1) := by decide +kernel
theorem dX8_word_60 : decode cX8_word 60 = .ok (.iastore, 1) := by decide +kernel
theorem dX8_word_61 : decode cX8_word 61 = .ok (.aload_n 0, 1) := by decide +kernel
theorem dX8_word_62 : decode cX8_word 62 = .ok (.getfield 7, 3) := by decide +kernel
theorem dX8_word_65 : decode cX8_word 65 = .ok (.bipush 6, 2) := by decide +kernel
theorem dX8_word_67 : decode cX8_word 67 = .ok (.iaload, 1) := by decide +kernel
theorem dX8_word_68 : decode cX8_word 68 = .ok (.ireturn, 1) := by decide +kernel
theorem dX8_clear_0 : decode cX8_clear 0 = .ok (.aload_n 0, 1) := by decide +kernel
theorem dX8_clear_1 : decode cX8_clear 1 = .ok (.getfield 7, 3) := by decide +kernel
theorem dX8_clear_4 : decode cX8_clear 4 = .ok (.bipush 6, 2) := by decide +kernel
theorem dX8_clear_6 : decode cX8_clear 6 = .ok (.iaload, 1) := by decide +kernel
theorem dX8_clear_7 : decode cX8_clear 7 = .ok (.istore_n 1, 1) := by decide +kernel
theorem dX8_clear_8 : decode cX8_clear 8 = .ok (.aload_n 0, 1) := by decide +kernel
theorem dX8_clear_9 : decode cX8_clear 9 = .ok (.invokevirtual 78, 3) := by decide +kernel
theorem dX8_clear_12 : decode cX8_clear 12 = .ok (.iconst 0, 1) := by decide +kernel
theorem dX8_clear_13 : decode cX8_clear 13 = .ok (.istore_n 2, 1) := by decide +kernel
theorem dX8_clear_14 : decode cX8_clear 14 = .ok (.iload_n 2, 1) := by decide +kernel
theorem dX8_clear_15 : decode cX8_clear 15 = .ok (.bipush 16, 2) := by decide +kernel
theorem dX8_clear_17 : decode cX8_clear 17 = .ok (.if_icmp .ge 31, 3) := by decide +kernel
theorem dX8_clear_20 : decode cX8_clear 20 = .ok (.aload_n 0, 1) := by decide +kernel
theorem dX8_clear_21 : decode cX8_clear 21 = .ok (.getfield 7, 3) := by decide +kernel
theorem dX8_clear_24 : decode cX8_clear 24 = .ok (.sipush 311, 3) := by decide +kernel
theorem dX8_clear_27 : decode cX8_clear 27 = .ok (.iload_n 2, 1) := by decide +kernel
theorem dX8_clear_28 : decode cX8_clear 28 = .ok (.iadd, 1) := by decide +kernel
theorem dX8_clear_29 : decode cX8_clear 29 = .ok (.iconst 0, 1) := by decide +kernel
theorem dX8_clear_30 : decode cX8_clear 30 = .ok (.iastore, 1) := by decide +kernel
theorem dX8_clear_31 : decode cX8_clear 31 = .ok (.aload_n 0, 1) := by decide +kernel
theorem dX8_clear_32 : decode cX8_clear 32 = .ok (.getfield 7, 3) := by decide +kernel
theorem dX8_clear_35 : decode cX8_clear 35 = .ok (.sipush 327, 3) := by decide +kernel
theorem dX8_clear_38 : decode cX8_clear 38 = .ok (.iload_n 2, 1) := by decide +kernel
theorem dX8_clear_39 : decode cX8_clear 39 = .ok (.iadd, 1) := by decide +kernel
theorem dX8_clear_40 : decode cX8_clear 40 = .ok (.iconst 0, 1) := by decide +kernel
theorem dX8_clear_41 : decode cX8_clear 41 = .ok (.iastore, 1) := by decide +kernel
theorem dX8_clear_42 : decode cX8_clear 42 = .ok (.iinc 2 1, 3) := by decide +kernel
theorem dX8_clear_45 : decode cX8_clear 45 = .ok (.goto (-31), 3) := by decide +kernel
theorem dX8_clear_48 : decode cX8_clear 48 = .ok (.aload_n 0, 1) := by decide +kernel
theorem dX8_clear_49 : decode cX8_clear 49 = .ok (.getfield 7, 3) := by decide +kernel
theorem dX8_clear_52 : decode cX8_clear 52 = .ok (.bipush 6, 2) := by decide +kernel
theorem dX8_clear_54 : decode cX8_clear 54 = .ok (.iconst 0, 1) := by decide +kernel
theorem dX8_clear_55 : decode cX8_clear 55 = .ok (.iastore, 1) := by decide +kernel
theorem dX8_clear_56 : decode cX8_clear 56 = .ok (.iload_n 1, 1) := by decide +kernel
theorem dX8_clear_57 : decode cX8_clear 57 = .ok (.ireturn, 1) := by decide +kernel
theorem dX8_againstBits_0 : decode cX8_againstBits 0 = .ok (.iconst 0, 1) := by decide +kernel
theorem dX8_againstBits_1 : decode cX8_againstBits 1 = .ok (.istore_n 2, 1) := by decide +kernel
theorem dX8_againstBits_2 : decode cX8_againstBits 2 = .ok (.iconst 0, 1) := by decide +kernel
theorem dX8_againstBits_3 : decode cX8_againstBits 3 = .ok (.istore_n 3, 1) := by decide +kernel
theorem dX8_againstBits_4 : decode cX8_againstBits 4 = .ok (.iload_n 3, 1) := by decide +kernel
theorem dX8_againstBits_5 : decode cX8_againstBits 5 = .ok (.aload_n 0, 1) := by decide +kernel
theorem dX8_againstBits_6 : decode cX8_againstBits 6 = .ok (.invokevirtual 62, 3) := by decide +kernel
theorem dX8_againstBits_9 : decode cX8_againstBits 9 = .ok (.if_icmp .ge 52, 3) := by decide +kernel
theorem dX8_againstBits_12 : decode cX8_againstBits 12 = .ok (.iload_n 2, 1) := by decide +kernel
theorem dX8_againstBits_13 : decode cX8_againstBits 13 = .ok (.aload_n 0, 1) := by decide +kernel
theorem dX8_againstBits_14 : decode cX8_againstBits 14 = .ok (.getfield 7, 3) := by decide +kernel
theorem dX8_againstBits_17 : decode cX8_againstBits 17 = .ok (.sipush 311, 3) := by decide +kernel
theorem dX8_againstBits_20 : decode cX8_againstBits 20 = .ok (.iload_n 3, 1) := by decide +kernel
theorem dX8_againstBits_21 : decode cX8_againstBits 21 = .ok (.iadd, 1) := by decide +kernel
theorem dX8_againstBits_22 : decode cX8_againstBits 22 = .ok (.iaload, 1) := by decide +kernel
theorem dX8_againstBits_23 : decode cX8_againstBits 23 = .ok (.iconst 1, 1) := by decide +kernel
theorem dX8_againstBits_24 : decode cX8_againstBits 24 = .ok (.if_icmp .ne 28, 3) := by decide +kernel
theorem dX8_againstBits_27 : decode cX8_againstBits 27 = .ok (.aload_n 0, 1) := by decide +kernel
theorem dX8_againstBits_28 : decode cX8_againstBits 28 = .ok (.getfield 7, 3) := by decide +kernel
theorem dX8_againstBits_31 : decode cX8_againstBits 31 = .ok (.sipush 327, 3) := by decide +kernel
theorem dX8_againstBits_34 : decode cX8_againstBits 34 = .ok (.iload_n 3, 1) := by decide +kernel
theorem dX8_againstBits_35 : decode cX8_againstBits 35 = .ok (.iadd, 1) := by decide +kernel
theorem dX8_againstBits_36 : decode cX8_againstBits 36 = .ok (.iaload, 1) := by decide +kernel
theorem dX8_againstBits_37 : decode cX8_againstBits 37 = .ok (.aload_n 0, 1) := by decide +kernel
theorem dX8_againstBits_38 : decode cX8_againstBits 38 = .ok (.iload_n 3, 1) := by decide +kernel
theorem dX8_againstBits_39 : decode cX8_againstBits 39 = .ok (.iload_n 1, 1) := by decide +kernel
theorem dX8_againstBits_40 : decode cX8_againstBits 40 = .ok (.invokevirtual 105, 3) := by decide +kernel
theorem dX8_againstBits_43 : decode cX8_againstBits 43 = .ok (.if_icmp .eq 9, 3) := by decide +kernel
theorem dX8_againstBits_46 : decode cX8_againstBits 46 = .ok (.iconst 1, 1) := by decide +kernel
theorem dX8_againstBits_47 : decode cX8_againstBits 47 = .ok (.iload_n 3, 1) := by decide +kernel
theorem dX8_againstBits_48 : decode cX8_againstBits 48 = .ok (.ishl, 1) := by decide +kernel
theorem dX8_againstBits_49 : decode cX8_againstBits 49 = .ok (.goto 4, 3) := by decide +kernel
theorem dX8_againstBits_52 : decode cX8_againstBits 52 = .ok (.iconst 0, 1) := by decide +kernel
theorem dX8_againstBits_53 : decode cX8_againstBits 53 = .ok (.ior, 1) := by decide +kernel
theorem dX8_againstBits_54 : decode cX8_againstBits 54 = .ok (.istore_n 2, 1) := by decide +kernel
theorem dX8_againstBits_55 : decode cX8_againstBits 55 = .ok (.iinc 3 1, 3) := by decide +kernel
theorem dX8_againstBits_58 : decode cX8_againstBits 58 = .ok (.goto (-54), 3) := by decide +kernel
theorem dX8_againstBits_61 : decode cX8_againstBits 61 = .ok (.iload_n 2, 1) := by decide +kernel
theorem dX8_againstBits_62 : decode cX8_againstBits 62 = .ok (.ireturn, 1) := by decide +kernel
theorem dX8_isFit_0 : decode cX8_isFit 0 = .ok (.aload_n 0, 1) := by decide +kernel
theorem dX8_isFit_1 : decode cX8_isFit 1 = .ok (.iload_n 1, 1) := by decide +kernel
theorem dX8_isFit_2 : decode cX8_isFit 2 = .ok (.invokevirtual 149, 3) := by decide +kernel
theorem dX8_isFit_5 : decode cX8_isFit 5 = .ok (.invokestatic 102, 3) := by decide +kernel
theorem dX8_isFit_8 : decode cX8_isFit 8 = .ok (.aload_n 0, 1) := by decide +kernel
theorem dX8_isFit_9 : decode cX8_isFit 9 = .ok (.getfield 7, 3) := by decide +kernel
theorem dX8_isFit_12 : decode cX8_isFit 12 = .ok (.iconst 4, 1) := by decide +kernel
theorem dX8_isFit_13 : decode cX8_isFit 13 = .ok (.iaload, 1) := by decide +kernel
theorem dX8_isFit_14 : decode cX8_isFit 14 = .ok (.iconst 1, 1) := by decide +kernel
theorem dX8_isFit_15 : decode cX8_isFit 15 = .ok (.if_icmp .ne 12, 3) := by decide +kernel
theorem dX8_isFit_18 : decode cX8_isFit 18 = .ok (.aload_n 0, 1) := by decide +kernel
theorem dX8_isFit_19 : decode cX8_isFit 19 = .ok (.getfield 7, 3) := by decide +kernel
theorem dX8_isFit_22 : decode cX8_isFit 22 = .ok (.iconst 3, 1) := by decide +kernel
theorem dX8_isFit_23 : decode cX8_isFit 23 = .ok (.iaload, 1) := by decide +kernel
theorem dX8_isFit_24 : decode cX8_isFit 24 = .ok (.goto 4, 3) := by decide +kernel
theorem dX8_isFit_27 : decode cX8_isFit 27 = .ok (.iconst 0, 1) := by decide +kernel
theorem dX8_isFit_28 : decode cX8_isFit 28 = .ok (.if_icmp .gt 7, 3) := by decide +kernel
theorem dX8_isFit_31 : decode cX8_isFit 31 = .ok (.iconst 1, 1) := by decide +kernel
theorem dX8_isFit_32 : decode cX8_isFit 32 = .ok (.goto 4, 3) := by decide +kernel
theorem dX8_isFit_35 : decode cX8_isFit 35 = .ok (.iconst 0, 1) := by decide +kernel
theorem dX8_isFit_36 : decode cX8_isFit 36 = .ok (.ireturn, 1) := by decide +kernel
theorem dX8_fits_0 : decode cX8_fits 0 = .ok (.iconst 0, 1) := by decide +kernel
theorem dX8_fits_1 : decode cX8_fits 1 = .ok (.istore_n 1, 1) := by decide +kernel
theorem dX8_fits_2 : decode cX8_fits 2 = .ok (.iconst 0, 1) := by decide +kernel
theorem dX8_fits_3 : decode cX8_fits 3 = .ok (.istore_n 2, 1) := by decide +kernel
theorem dX8_fits_4 : decode cX8_fits 4 = .ok (.iload_n 2, 1) := by decide +kernel
theorem dX8_fits_5 : decode cX8_fits 5 = .ok (.aload_n 0, 1) := by decide +kernel
theorem dX8_fits_6 : decode cX8_fits 6 = .ok (.invokevirtual 62, 3) := by decide +kernel
theorem dX8_fits_9 : decode cX8_fits 9 = .ok (.if_icmp .ge 25, 3) := by decide +kernel
theorem dX8_fits_12 : decode cX8_fits 12 = .ok (.iload_n 1, 1) := by decide +kernel
theorem dX8_fits_13 : decode cX8_fits 13 = .ok (.aload_n 0, 1) := by decide +kernel
theorem dX8_fits_14 : decode cX8_fits 14 = .ok (.iload_n 2, 1) := by decide +kernel
theorem dX8_fits_15 : decode cX8_fits 15 = .ok (.invokevirtual 152, 3) := by decide +kernel
theorem dX8_fits_18 : decode cX8_fits 18 = .ok (.ifCond .eq 7, 3) := by decide +kernel
theorem dX8_fits_21 : decode cX8_fits 21 = .ok (.iconst 1, 1) := by decide +kernel
theorem dX8_fits_22 : decode cX8_fits 22 = .ok (.goto 4, 3) := by decide +kernel
theorem dX8_fits_25 : decode cX8_fits 25 = .ok (.iconst 0, 1) := by decide +kernel
theorem dX8_fits_26 : decode cX8_fits 26 = .ok (.iadd, 1) := by decide +kernel
theorem dX8_fits_27 : decode cX8_fits 27 = .ok (.istore_n 1, 1) := by decide +kernel
theorem dX8_fits_28 : decode cX8_fits 28 = .ok (.iinc 2 1, 3) := by decide +kernel
theorem dX8_fits_31 : decode cX8_fits 31 = .ok (.goto (-27), 3) := by decide +kernel
theorem dX8_fits_34 : decode cX8_fits 34 = .ok (.iload_n 1, 1) := by decide +kernel
theorem dX8_fits_35 : decode cX8_fits 35 = .ok (.ireturn, 1) := by decide +kernel
theorem dX8_where_0 : decode cX8_where 0 = .ok (.iconst 0, 1) := by decide +kernel
theorem dX8_where_1 : decode cX8_where 1 = .ok (.istore_n 2, 1) := by decide +kernel
theorem dX8_where_2 : decode cX8_where 2 = .ok (.iconst 0, 1) := by decide +kernel
theorem dX8_where_3 : decode cX8_where 3 = .ok (.istore_n 3, 1) := by decide +kernel
theorem dX8_where_4 : decode cX8_where 4 = .ok (.iload_n 3, 1) := by decide +kernel
theorem dX8_where_5 : decode cX8_where 5 = .ok (.aload_n 0, 1) := by decide +kernel
theorem dX8_where_6 : decode cX8_where 6 = .ok (.invokevirtual 62, 3) := by decide +kernel
theorem dX8_where_9 : decode cX8_where 9 = .ok (.if_icmp .ge 34, 3) := by decide +kernel
theorem dX8_where_12 : decode cX8_where 12 = .ok (.iload_n 1, 1) := by decide +kernel
theorem dX8_where_13 : decode cX8_where 13 = .ok (.ifCond .lt 30, 3) := by decide +kernel
theorem dX8_where_16 : decode cX8_where 16 = .ok (.aload_n 0, 1) := by decide +kernel
theorem dX8_where_17 : decode cX8_where 17 = .ok (.iload_n 3, 1) := by decide +kernel
theorem dX8_where_18 : decode cX8_where 18 = .ok (.invokevirtual 152, 3) := by decide +kernel
theorem dX8_where_21 : decode cX8_where 21 = .ok (.ifCond .ne 6, 3) := by decide +kernel
theorem dX8_where_24 : decode cX8_where 24 = .ok (.goto 13, 3) := by decide +kernel
theorem dX8_where_27 : decode cX8_where 27 = .ok (.iload_n 2, 1) := by decide +kernel
theorem dX8_where_28 : decode cX8_where 28 = .ok (.iload_n 1, 1) := by decide +kernel
theorem dX8_where_29 : decode cX8_where 29 = .ok (.if_icmp .ne 5, 3) := by decide +kernel
theorem dX8_where_32 : decode cX8_where 32 = .ok (.iload_n 3, 1) := by decide +kernel
theorem dX8_where_33 : decode cX8_where 33 = .ok (.ireturn, 1) := by decide +kernel
theorem dX8_where_34 : decode cX8_where 34 = .ok (.iinc 2 1, 3) := by decide +kernel
theorem dX8_where_37 : decode cX8_where 37 = .ok (.iinc 3 1, 3) := by decide +kernel
theorem dX8_where_40 : decode cX8_where 40 = .ok (.goto (-36), 3) := by decide +kernel
theorem dX8_where_43 : decode cX8_where 43 = .ok (.iconst (-1), 1) := by decide +kernel
theorem dX8_where_44 : decode cX8_where 44 = .ok (.ireturn, 1) := by decide +kernel
theorem dX8_against_0 : decode cX8_against 0 = .ok (.aload_n 0, 1) := by decide +kernel
theorem dX8_against_1 : decode cX8_against 1 = .ok (.iload_n 1, 1) := by decide +kernel
theorem dX8_against_2 : decode cX8_against 2 = .ok (.invokevirtual 66, 3) := by decide +kernel
theorem dX8_against_5 : decode cX8_against 5 = .ok (.ifCond .eq 11, 3) := by decide +kernel
theorem dX8_against_8 : decode cX8_against 8 = .ok (.aload_n 0, 1) := by decide +kernel
theorem dX8_against_9 : decode cX8_against 9 = .ok (.iload_n 1, 1) := by decide +kernel
theorem dX8_against_10 : decode cX8_against 10 = .ok (.invokevirtual 149, 3) := by decide +kernel
theorem dX8_against_13 : decode cX8_against 13 = .ok (.goto 4, 3) := by decide +kernel
theorem dX8_against_16 : decode cX8_against 16 = .ok (.iconst (-1), 1) := by decide +kernel
theorem dX8_against_17 : decode cX8_against 17 = .ok (.ireturn, 1) := by decide +kernel
theorem dX8_isDone_0 : decode cX8_isDone 0 = .ok (.iconst 1, 1) := by decide +kernel
theorem dX8_isDone_1 : decode cX8_isDone 1 = .ok (.istore_n 2, 1) := by decide +kernel
theorem dX8_isDone_2 : decode cX8_isDone 2 = .ok (.iconst 0, 1) := by decide +kernel
theorem dX8_isDone_3 : decode cX8_isDone 3 = .ok (.istore_n 3, 1) := by decide +kernel
theorem dX8_isDone_4 : decode cX8_isDone 4 = .ok (.iload_n 3, 1) := by decide +kernel
theorem dX8_isDone_5 : decode cX8_isDone 5 = .ok (.aload_n 0, 1) := by decide +kernel
theorem dX8_isDone_6 : decode cX8_isDone 6 = .ok (.invokevirtual 62, 3) := by decide +kernel
theorem dX8_isDone_9 : decode cX8_isDone 9 = .ok (.if_icmp .ge 70, 3) := by decide +kernel
theorem dX8_isDone_12 : decode cX8_isDone 12 = .ok (.iload_n 2, 1) := by decide +kernel
theorem dX8_isDone_13 : decode cX8_isDone 13 = .ok (.ifCond .eq 66, 3) := by decide +kernel
theorem dX8_isDone_16 : decode cX8_isDone 16 = .ok (.iload_n 3, 1) := by decide +kernel
theorem dX8_isDone_17 : decode cX8_isDone 17 = .ok (.iconst 1, 1) := by decide +kernel
theorem dX8_isDone_18 : decode cX8_isDone 18 = .ok (.iadd, 1) := by decide +kernel
theorem dX8_isDone_19 : decode cX8_isDone 19 = .ok (.istore 4, 2) := by decide +kernel
theorem dX8_isDone_21 : decode cX8_isDone 21 = .ok (.iload 4, 2) := by decide +kernel
theorem dX8_isDone_23 : decode cX8_isDone 23 = .ok (.aload_n 0, 1) := by decide +kernel
theorem dX8_isDone_24 : decode cX8_isDone 24 = .ok (.invokevirtual 62, 3) := by decide +kernel
theorem dX8_isDone_27 : decode cX8_isDone 27 = .ok (.if_icmp .ge 46, 3) := by decide +kernel
theorem dX8_isDone_30 : decode cX8_isDone 30 = .ok (.iload_n 2, 1) := by decide +kernel
theorem dX8_isDone_31 : decode cX8_isDone 31 = .ok (.ifCond .eq 42, 3) := by decide +kernel
theorem dX8_isDone_34 : decode cX8_isDone 34 = .ok (.iload_n 1, 1) := by decide +kernel
theorem dX8_isDone_35 : decode cX8_isDone 35 = .ok (.iload_n 3, 1) := by decide +kernel
theorem dX8_isDone_36 : decode cX8_isDone 36 = .ok (.ishr, 1) := by decide +kernel
theorem dX8_isDone_37 : decode cX8_isDone 37 = .ok (.iconst 1, 1) := by decide +kernel
theorem dX8_isDone_38 : decode cX8_isDone 38 = .ok (.iand, 1) := by decide +kernel
theorem dX8_isDone_39 : decode cX8_isDone 39 = .ok (.ifCond .eq 22, 3) := by decide +kernel
theorem dX8_isDone_42 : decode cX8_isDone 42 = .ok (.iload_n 1, 1) := by decide +kernel
theorem dX8_isDone_43 : decode cX8_isDone 43 = .ok (.iload 4, 2) := by decide +kernel
theorem dX8_isDone_45 : decode cX8_isDone 45 = .ok (.ishr, 1) := by decide +kernel
theorem dX8_isDone_46 : decode cX8_isDone 46 = .ok (.iconst 1, 1) := by decide +kernel
theorem dX8_isDone_47 : decode cX8_isDone 47 = .ok (.iand, 1) := by decide +kernel
theorem dX8_isDone_48 : decode cX8_isDone 48 = .ok (.ifCond .eq 13, 3) := by decide +kernel
theorem dX8_isDone_51 : decode cX8_isDone 51 = .ok (.aload_n 0, 1) := by decide +kernel
theorem dX8_isDone_52 : decode cX8_isDone 52 = .ok (.iload_n 3, 1) := by decide +kernel
theorem dX8_isDone_53 : decode cX8_isDone 53 = .ok (.iload 4, 2) := by decide +kernel
theorem dX8_isDone_55 : decode cX8_isDone 55 = .ok (.invokevirtual 130, 3) := by decide +kernel
theorem dX8_isDone_58 : decode cX8_isDone 58 = .ok (.ifCond .eq 7, 3) := by decide +kernel
theorem dX8_isDone_61 : decode cX8_isDone 61 = .ok (.iconst 1, 1) := by decide +kernel
theorem dX8_isDone_62 : decode cX8_isDone 62 = .ok (.goto 4, 3) := by decide +kernel
theorem dX8_isDone_65 : decode cX8_isDone 65 = .ok (.iconst 0, 1) := by decide +kernel
theorem dX8_isDone_66 : decode cX8_isDone 66 = .ok (.istore_n 2, 1) := by decide +kernel
theorem dX8_isDone_67 : decode cX8_isDone 67 = .ok (.iinc 4 1, 3) := by decide +kernel
theorem dX8_isDone_70 : decode cX8_isDone 70 = .ok (.goto (-49), 3) := by decide +kernel
theorem dX8_isDone_73 : decode cX8_isDone 73 = .ok (.iinc 3 1, 3) := by decide +kernel
theorem dX8_isDone_76 : decode cX8_isDone 76 = .ok (.goto (-72), 3) := by decide +kernel
theorem dX8_isDone_79 : decode cX8_isDone 79 = .ok (.iload_n 2, 1) := by decide +kernel
theorem dX8_isDone_80 : decode cX8_isDone 80 = .ok (.ireturn, 1) := by decide +kernel
theorem dX8_staying_0 : decode cX8_staying 0 = .ok (.iconst 0, 1) := by decide +kernel
theorem dX8_staying_1 : decode cX8_staying 1 = .ok (.istore 4, 2) := by decide +kernel
theorem dX8_staying_3 : decode cX8_staying 3 = .ok (.iconst 0, 1) := by decide +kernel
theorem dX8_staying_4 : decode cX8_staying 4 = .ok (.istore 5, 2) := by decide +kernel
theorem dX8_staying_6 : decode cX8_staying 6 = .ok (.iload 5, 2) := by decide +kernel
theorem dX8_staying_8 : decode cX8_staying 8 = .ok (.aload_n 0, 1) := by decide +kernel
theorem dX8_staying_9 : decode cX8_staying 9 = .ok (.invokevirtual 62, 3) := by decide +kernel
theorem dX8_staying_12 : decode cX8_staying 12 = .ok (.if_icmp .ge 48, 3) := by decide +kernel
theorem dX8_staying_15 : decode cX8_staying 15 = .ok (.iload 4, 2) := by decide +kernel
theorem dX8_staying_17 : decode cX8_staying 17 = .ok (.iload_n 1, 1) := by decide +kernel
theorem dX8_staying_18 : decode cX8_staying 18 = .ok (.iload 5, 2) := by decide +kernel
theorem dX8_staying_20 : decode cX8_staying 20 = .ok (.ishr, 1) := by decide +kernel
theorem dX8_staying_21 : decode cX8_staying 21 = .ok (.iconst 1, 1) := by decide +kernel
theorem dX8_staying_22 : decode cX8_staying 22 = .ok (.iand, 1) := by decide +kernel
theorem dX8_staying_23 : decode cX8_staying 23 = .ok (.iconst 1, 1) := by decide +kernel
theorem dX8_staying_24 : decode cX8_staying 24 = .ok (.if_icmp .ne 26, 3) := by decide +kernel
theorem dX8_staying_27 : decode cX8_staying 27 = .ok (.aload_n 0, 1) := by decide +kernel
theorem dX8_staying_28 : decode cX8_staying 28 = .ok (.iload_n 2, 1) := by decide +kernel
theorem dX8_staying_29 : decode cX8_staying 29 = .ok (.iload 5, 2) := by decide +kernel
theorem dX8_staying_31 : decode cX8_staying 31 = .ok (.invokevirtual 105, 3) := by decide +kernel
theorem dX8_staying_34 : decode cX8_staying 34 = .ok (.aload_n 0, 1) := by decide +kernel
theorem dX8_staying_35 : decode cX8_staying 35 = .ok (.iload_n 2, 1) := by decide +kernel
theorem dX8_staying_36 : decode cX8_staying 36 = .ok (.iload_n 3, 1) := by decide +kernel
theorem dX8_staying_37 : decode cX8_staying 37 = .ok (.invokevirtual 105, 3) := by decide +kernel
theorem dX8_staying_40 : decode cX8_staying 40 = .ok (.if_icmp .ne 10, 3) := by decide +kernel
theorem dX8_staying_43 : decode cX8_staying 43 = .ok (.iconst 1, 1) := by decide +kernel
theorem dX8_staying_44 : decode cX8_staying 44 = .ok (.iload 5, 2) := by decide +kernel
theorem dX8_staying_46 : decode cX8_staying 46 = .ok (.ishl, 1) := by decide +kernel
theorem dX8_staying_47 : decode cX8_staying 47 = .ok (.goto 4, 3) := by decide +kernel
theorem dX8_staying_50 : decode cX8_staying 50 = .ok (.iconst 0, 1) := by decide +kernel
theorem dX8_staying_51 : decode cX8_staying 51 = .ok (.ior, 1) := by decide +kernel
theorem dX8_staying_52 : decode cX8_staying 52 = .ok (.istore 4, 2) := by decide +kernel
theorem dX8_staying_54 : decode cX8_staying 54 = .ok (.iinc 5 1, 3) := by decide +kernel
theorem dX8_staying_57 : decode cX8_staying 57 = .ok (.goto (-51), 3) := by decide +kernel
theorem dX8_staying_60 : decode cX8_staying 60 = .ok (.iload 4, 2) := by decide +kernel
theorem dX8_staying_62 : decode cX8_staying 62 = .ok (.ireturn, 1) := by decide +kernel
theorem dX8_isAsked_0 : decode cX8_isAsked 0 = .ok (.aload_n 0, 1) := by decide +kernel
theorem dX8_isAsked_1 : decode cX8_isAsked 1 = .ok (.iload_n 1, 1) := by decide +kernel
theorem dX8_isAsked_2 : decode cX8_isAsked 2 = .ok (.invokevirtual 118, 3) := by decide +kernel
theorem dX8_isAsked_5 : decode cX8_isAsked 5 = .ok (.ifCond .eq 16, 3) := by decide +kernel
theorem dX8_isAsked_8 : decode cX8_isAsked 8 = .ok (.iload_n 1, 1) := by decide +kernel
theorem dX8_isAsked_9 : decode cX8_isAsked 9 = .ok (.invokestatic 102, 3) := by decide +kernel
theorem dX8_isAsked_12 : decode cX8_isAsked 12 = .ok (.bipush 12, 2) := by decide +kernel
theorem dX8_isAsked_14 : decode cX8_isAsked 14 = .ok (.if_icmp .gt 7, 3) := by decide +kernel
theorem dX8_isAsked_17 : decode cX8_isAsked 17 = .ok (.iconst 1, 1) := by decide +kernel
theorem dX8_isAsked_18 : decode cX8_isAsked 18 = .ok (.goto 4, 3) := by decide +kernel
theorem dX8_isAsked_21 : decode cX8_isAsked 21 = .ok (.iconst 0, 1) := by decide +kernel
theorem dX8_isAsked_22 : decode cX8_isAsked 22 = .ok (.ireturn, 1) := by decide +kernel
theorem dX8_fill_0 : decode cX8_fill 0 = .ok (.iconst 0, 1) := by decide +kernel
theorem dX8_fill_1 : decode cX8_fill 1 = .ok (.istore_n 2, 1) := by decide +kernel
theorem dX8_fill_2 : decode cX8_fill 2 = .ok (.iload_n 2, 1) := by decide +kernel
theorem dX8_fill_3 : decode cX8_fill 3 = .ok (.iload_n 1, 1) := by decide +kernel
theorem dX8_fill_4 : decode cX8_fill 4 = .ok (.if_icmp .gt 22, 3) := by decide +kernel
theorem dX8_fill_7 : decode cX8_fill 7 = .ok (.iload_n 2, 1) := by decide +kernel
theorem dX8_fill_8 : decode cX8_fill 8 = .ok (.iload_n 1, 1) := by decide +kernel
theorem dX8_fill_9 : decode cX8_fill 9 = .ok (.iconst (-1), 1) := by decide +kernel
theorem dX8_fill_10 : decode cX8_fill 10 = .ok (.ixor, 1) := by decide +kernel
theorem dX8_fill_11 : decode cX8_fill 11 = .ok (.iand, 1) := by decide +kernel
theorem dX8_fill_12 : decode cX8_fill 12 = .ok (.ifCond .ne 8, 3) := by decide +kernel
theorem dX8_fill_15 : decode cX8_fill 15 = .ok (.aload_n 0, 1) := by decide +kernel
theorem dX8_fill_16 : decode cX8_fill 16 = .ok (.iload_n 2, 1) := by decide +kernel
theorem dX8_fill_17 : decode cX8_fill 17 = .ok (.invokevirtual 155, 3) := by decide +kernel
theorem dX8_fill_20 : decode cX8_fill 20 = .ok (.iinc 2 1, 3) := by decide +kernel
theorem dX8_fill_23 : decode cX8_fill 23 = .ok (.goto (-21), 3) := by decide +kernel
theorem dX8_fill_26 : decode cX8_fill 26 = .ok (.return_, 1) := by decide +kernel
theorem dX8_fillOne_0 : decode cX8_fillOne 0 = .ok (.aload_n 0, 1) := by decide +kernel
theorem dX8_fillOne_1 : decode cX8_fillOne 1 = .ok (.getfield 36, 3) := by decide +kernel
theorem dX8_fillOne_4 : decode cX8_fillOne 4 = .ok (.iload_n 1, 1) := by decide +kernel
theorem dX8_fillOne_5 : decode cX8_fillOne 5 = .ok (.iconst 0, 1) := by decide +kernel
theorem dX8_fillOne_6 : decode cX8_fillOne 6 = .ok (.iastore, 1) := by decide +kernel
theorem dX8_fillOne_7 : decode cX8_fillOne 7 = .ok (.aload_n 0, 1) := by decide +kernel
theorem dX8_fillOne_8 : decode cX8_fillOne 8 = .ok (.getfield 39, 3) := by decide +kernel
theorem dX8_fillOne_11 : decode cX8_fillOne 11 = .ok (.iload_n 1, 1) := by decide +kernel
theorem dX8_fillOne_12 : decode cX8_fillOne 12 = .ok (.iconst 0, 1) := by decide +kernel
theorem dX8_fillOne_13 : decode cX8_fillOne 13 = .ok (.iastore, 1) := by decide +kernel
theorem dX8_fillOne_14 : decode cX8_fillOne 14 = .ok (.aload_n 0, 1) := by decide +kernel
theorem dX8_fillOne_15 : decode cX8_fillOne 15 = .ok (.getfield 42, 3) := by decide +kernel
theorem dX8_fillOne_18 : decode cX8_fillOne 18 = .ok (.iload_n 1, 1) := by decide +kernel
theorem dX8_fillOne_19 : decode cX8_fillOne 19 = .ok (.iconst (-1), 1) := by decide +kernel
theorem dX8_fillOne_20 : decode cX8_fillOne 20 = .ok (.iastore, 1) := by decide +kernel
theorem dX8_fillOne_21 : decode cX8_fillOne 21 = .ok (.aload_n 0, 1) := by decide +kernel
theorem dX8_fillOne_22 : decode cX8_fillOne 22 = .ok (.iload_n 1, 1) := by decide +kernel
theorem dX8_fillOne_23 : decode cX8_fillOne 23 = .ok (.invokevirtual 158, 3) := by decide +kernel
theorem dX8_fillOne_26 : decode cX8_fillOne 26 = .ok (.ifCond .eq 4, 3) := by decide +kernel
theorem dX8_fillOne_29 : decode cX8_fillOne 29 = .ok (.return_, 1) := by decide +kernel
theorem dX8_fillOne_30 : decode cX8_fillOne 30 = .ok (.aload_n 0, 1) := by decide +kernel
theorem dX8_fillOne_31 : decode cX8_fillOne 31 = .ok (.getfield 36, 3) := by decide +kernel
theorem dX8_fillOne_34 : decode cX8_fillOne 34 = .ok (.iload_n 1, 1) := by decide +kernel
theorem dX8_fillOne_35 : decode cX8_fillOne 35 = .ok (.ldc 74, 2) := by decide +kernel
theorem dX8_fillOne_37 : decode cX8_fillOne 37 = .ok (.iastore, 1) := by decide +kernel
theorem dX8_fillOne_38 : decode cX8_fillOne 38 = .ok (.aload_n 0, 1) := by decide +kernel
theorem dX8_fillOne_39 : decode cX8_fillOne 39 = .ok (.getfield 39, 3) := by decide +kernel
theorem dX8_fillOne_42 : decode cX8_fillOne 42 = .ok (.iload_n 1, 1) := by decide +kernel
theorem dX8_fillOne_43 : decode cX8_fillOne 43 = .ok (.ldc 161, 2) := by decide +kernel
theorem dX8_fillOne_45 : decode cX8_fillOne 45 = .ok (.iastore, 1) := by decide +kernel
theorem dX8_fillOne_46 : decode cX8_fillOne 46 = .ok (.iconst 0, 1) := by decide +kernel
theorem dX8_fillOne_47 : decode cX8_fillOne 47 = .ok (.istore_n 2, 1) := by decide +kernel
theorem dX8_fillOne_48 : decode cX8_fillOne 48 = .ok (.iconst 0, 1) := by decide +kernel
theorem dX8_fillOne_49 : decode cX8_fillOne 49 = .ok (.istore_n 3, 1) := by decide +kernel
theorem dX8_fillOne_50 : decode cX8_fillOne 50 = .ok (.iload_n 3, 1) := by decide +kernel
theorem dX8_fillOne_51 : decode cX8_fillOne 51 = .ok (.aload_n 0, 1) := by decide +kernel
theorem dX8_fillOne_52 : decode cX8_fillOne 52 = .ok (.invokevirtual 62, 3) := by decide +kernel
theorem dX8_fillOne_55 : decode cX8_fillOne 55 = .ok (.if_icmp .ge 35, 3) := by decide +kernel
theorem dX8_fillOne_58 : decode cX8_fillOne 58 = .ok (.iload_n 2, 1) := by decide +kernel
theorem dX8_fillOne_59 : decode cX8_fillOne 59 = .ok (.iload_n 1, 1) := by decide +kernel
theorem dX8_fillOne_60 : decode cX8_fillOne 60 = .ok (.iload_n 3, 1) := by decide +kernel
theorem dX8_fillOne_61 : decode cX8_fillOne 61 = .ok (.ishr, 1) := by decide +kernel
theorem dX8_fillOne_62 : decode cX8_fillOne 62 = .ok (.iconst 1, 1) := by decide +kernel
theorem dX8_fillOne_63 : decode cX8_fillOne 63 = .ok (.iand, 1) := by decide +kernel
theorem dX8_fillOne_64 : decode cX8_fillOne 64 = .ok (.iconst 1, 1) := by decide +kernel
theorem dX8_fillOne_65 : decode cX8_fillOne 65 = .ok (.if_icmp .ne 16, 3) := by decide +kernel
theorem dX8_fillOne_68 : decode cX8_fillOne 68 = .ok (.aload_n 0, 1) := by decide +kernel
theorem dX8_fillOne_69 : decode cX8_fillOne 69 = .ok (.getfield 7, 3) := by decide +kernel
theorem dX8_fillOne_72 : decode cX8_fillOne 72 = .ok (.sipush 295, 3) := by decide +kernel
theorem dX8_fillOne_75 : decode cX8_fillOne 75 = .ok (.iload_n 3, 1) := by decide +kernel
theorem dX8_fillOne_76 : decode cX8_fillOne 76 = .ok (.iadd, 1) := by decide +kernel
theorem dX8_fillOne_77 : decode cX8_fillOne 77 = .ok (.iaload, 1) := by decide +kernel
theorem dX8_fillOne_78 : decode cX8_fillOne 78 = .ok (.goto 4, 3) := by decide +kernel
theorem dX8_fillOne_81 : decode cX8_fillOne 81 = .ok (.iconst 0, 1) := by decide +kernel
theorem dX8_fillOne_82 : decode cX8_fillOne 82 = .ok (.iadd, 1) := by decide +kernel
theorem dX8_fillOne_83 : decode cX8_fillOne 83 = .ok (.istore_n 2, 1) := by decide +kernel
theorem dX8_fillOne_84 : decode cX8_fillOne 84 = .ok (.iinc 3 1, 3) := by decide +kernel
theorem dX8_fillOne_87 : decode cX8_fillOne 87 = .ok (.goto (-37), 3) := by decide +kernel
theorem dX8_fillOne_90 : decode cX8_fillOne 90 = .ok (.iconst 0, 1) := by decide +kernel
theorem dX8_fillOne_91 : decode cX8_fillOne 91 = .ok (.istore_n 3, 1) := by decide +kernel
theorem dX8_fillOne_92 : decode cX8_fillOne 92 = .ok (.iload_n 3, 1) := by decide +kernel
theorem dX8_fillOne_93 : decode cX8_fillOne 93 = .ok (.aload_n 0, 1) := by decide +kernel
theorem dX8_fillOne_94 : decode cX8_fillOne 94 = .ok (.invokevirtual 62, 3) := by decide +kernel
theorem dX8_fillOne_97 : decode cX8_fillOne 97 = .ok (.if_icmp .ge 209, 3) := by decide +kernel
theorem dX8_fillOne_100 : decode cX8_fillOne 100 = .ok (.iconst 0, 1) := by decide +kernel
theorem dX8_fillOne_101 : decode cX8_fillOne 101 = .ok (.istore 4, 2) := by decide +kernel
theorem dX8_fillOne_103 : decode cX8_fillOne 103 = .ok (.iload_n 2, 1) := by decide +kernel
theorem dX8_fillOne_104 : decode cX8_fillOne 104 = .ok (.istore 5, 2) := by decide +kernel
theorem dX8_fillOne_106 : decode cX8_fillOne 106 = .ok (.iconst 0, 1) := by decide +kernel
theorem dX8_fillOne_107 : decode cX8_fillOne 107 = .ok (.istore 6, 2) := by decide +kernel
theorem dX8_fillOne_109 : decode cX8_fillOne 109 = .ok (.iconst 0, 1) := by decide +kernel
theorem dX8_fillOne_110 : decode cX8_fillOne 110 = .ok (.istore 7, 2) := by decide +kernel
theorem dX8_fillOne_112 : decode cX8_fillOne 112 = .ok (.iconst 0, 1) := by decide +kernel
theorem dX8_fillOne_113 : decode cX8_fillOne 113 = .ok (.istore 8, 2) := by decide +kernel
theorem dX8_fillOne_115 : decode cX8_fillOne 115 = .ok (.iload 8, 2) := by decide +kernel
theorem dX8_fillOne_117 : decode cX8_fillOne 117 = .ok (.aload_n 0, 1) := by decide +kernel
theorem dX8_fillOne_118 : decode cX8_fillOne 118 = .ok (.invokevirtual 62, 3) := by decide +kernel
theorem dX8_fillOne_121 : decode cX8_fillOne 121 = .ok (.if_icmp .ge 113, 3) := by decide +kernel
theorem dX8_fillOne_124 : decode cX8_fillOne 124 = .ok (.iload_n 1, 1) := by decide +kernel
theorem dX8_fillOne_125 : decode cX8_fillOne 125 = .ok (.iload 8, 2) := by decide +kernel
theorem dX8_fillOne_127 : decode cX8_fillOne 127 = .ok (.ishr, 1) := by decide +kernel
theorem dX8_fillOne_128 : decode cX8_fillOne 128 = .ok (.iconst 1, 1) := by decide +kernel
theorem dX8_fillOne_129 : decode cX8_fillOne 129 = .ok (.iand, 1) := by decide +kernel
theorem dX8_fillOne_130 : decode cX8_fillOne 130 = .ok (.ifCond .eq 98, 3) := by decide +kernel
theorem dX8_fillOne_133 : decode cX8_fillOne 133 = .ok (.iload 6, 2) := by decide +kernel
theorem dX8_fillOne_135 : decode cX8_fillOne 135 = .ok (.iload 8, 2) := by decide +kernel
theorem dX8_fillOne_137 : decode cX8_fillOne 137 = .ok (.ishr, 1) := by decide +kernel
theorem dX8_fillOne_138 : decode cX8_fillOne 138 = .ok (.iconst 1, 1) := by decide +kernel
theorem dX8_fillOne_139 : decode cX8_fillOne 139 = .ok (.iand, 1) := by decide +kernel
theorem dX8_fillOne_140 : decode cX8_fillOne 140 = .ok (.iconst 1, 1) := by decide +kernel
theorem dX8_fillOne_141 : decode cX8_fillOne 141 = .ok (.if_icmp .ne 6, 3) := by decide +kernel
theorem dX8_fillOne_144 : decode cX8_fillOne 144 = .ok (.goto 84, 3) := by decide +kernel
theorem dX8_fillOne_147 : decode cX8_fillOne 147 = .ok (.aload_n 0, 1) := by decide +kernel
theorem dX8_fillOne_148 : decode cX8_fillOne 148 = .ok (.iload_n 1, 1) := by decide +kernel
theorem dX8_fillOne_149 : decode cX8_fillOne 149 = .ok (.iload_n 3, 1) := by decide +kernel
theorem dX8_fillOne_150 : decode cX8_fillOne 150 = .ok (.iload 8, 2) := by decide +kernel
theorem dX8_fillOne_152 : decode cX8_fillOne 152 = .ok (.invokevirtual 162, 3) := by decide +kernel
theorem dX8_fillOne_155 : decode cX8_fillOne 155 = .ok (.istore 9, 2) := by decide +kernel
theorem dX8_fillOne_157 : decode cX8_fillOne 157 = .ok (.iload 7, 2) := by decide +kernel
theorem dX8_fillOne_159 : decode cX8_fillOne 159 = .ok (.ifCond .ne 9, 3) := by decide +kernel
theorem dX8_fillOne_162 : decode cX8_fillOne 162 = .ok (.iload 9, 2) := by decide +kernel
theorem dX8_fillOne_164 : decode cX8_fillOne 164 = .ok (.iload_n 1, 1) := by decide +kernel
theorem dX8_fillOne_165 : decode cX8_fillOne 165 = .ok (.if_icmp .ne 7, 3) := by decide +kernel
theorem dX8_fillOne_168 : decode cX8_fillOne 168 = .ok (.iconst 1, 1) := by decide +kernel
theorem dX8_fillOne_169 : decode cX8_fillOne 169 = .ok (.goto 4, 3) := by decide +kernel
theorem dX8_fillOne_172 : decode cX8_fillOne 172 = .ok (.iconst 0, 1) := by decide +kernel
theorem dX8_fillOne_173 : decode cX8_fillOne 173 = .ok (.istore 7, 2) := by decide +kernel
theorem dX8_fillOne_175 : decode cX8_fillOne 175 = .ok (.iload 6, 2) := by decide +kernel
theorem dX8_fillOne_177 : decode cX8_fillOne 177 = .ok (.iload 9, 2) := by decide +kernel
theorem dX8_fillOne_179 : decode cX8_fillOne 179 = .ok (.ior, 1) := by decide +kernel
theorem dX8_fillOne_180 : decode cX8_fillOne 180 = .ok (.istore 6, 2) := by decide +kernel
theorem dX8_fillOne_182 : decode cX8_fillOne 182 = .ok (.iload 7, 2) := by decide +kernel
theorem dX8_fillOne_184 : decode cX8_fillOne 184 = .ok (.ifCond .eq 6, 3) := by decide +kernel
theorem dX8_fillOne_187 : decode cX8_fillOne 187 = .ok (.goto 41, 3) := by decide +kernel
theorem dX8_fillOne_190 : decode cX8_fillOne 190 = .ok (.aload_n 0, 1) := by decide +kernel
theorem dX8_fillOne_191 : decode cX8_fillOne 191 = .ok (.getfield 36, 3) := by decide +kernel
theorem dX8_fillOne_194 : decode cX8_fillOne 194 = .ok (.iload 9, 2) := by decide +kernel
theorem dX8_fillOne_196 : decode cX8_fillOne 196 = .ok (.iaload, 1) := by decide +kernel
theorem dX8_fillOne_197 : decode cX8_fillOne 197 = .ok (.iload 4, 2) := by decide +kernel
theorem dX8_fillOne_199 : decode cX8_fillOne 199 = .ok (.if_icmp .le 13, 3) := by decide +kernel
theorem dX8_fillOne_202 : decode cX8_fillOne 202 = .ok (.aload_n 0, 1) := by decide +kernel
theorem dX8_fillOne_203 : decode cX8_fillOne 203 = .ok (.getfield 36, 3) := by decide +kernel
theorem dX8_fillOne_206 : decode cX8_fillOne 206 = .ok (.iload 9, 2) := by decide +kernel
theorem dX8_fillOne_208 : decode cX8_fillOne 208 = .ok (.iaload, 1) := by decide +kernel
theorem dX8_fillOne_209 : decode cX8_fillOne 209 = .ok (.goto 5, 3) := by decide +kernel
theorem dX8_fillOne_212 : decode cX8_fillOne 212 = .ok (.iload 4, 2) := by decide +kernel
theorem dX8_fillOne_214 : decode cX8_fillOne 214 = .ok (.istore 4, 2) := by decide +kernel
theorem dX8_fillOne_216 : decode cX8_fillOne 216 = .ok (.iload 5, 2) := by decide +kernel
theorem dX8_fillOne_218 : decode cX8_fillOne 218 = .ok (.aload_n 0, 1) := by decide +kernel
theorem dX8_fillOne_219 : decode cX8_fillOne 219 = .ok (.getfield 39, 3) := by decide +kernel
theorem dX8_fillOne_222 : decode cX8_fillOne 222 = .ok (.iload 9, 2) := by decide +kernel
theorem dX8_fillOne_224 : decode cX8_fillOne 224 = .ok (.iaload, 1) := by decide +kernel
theorem dX8_fillOne_225 : decode cX8_fillOne 225 = .ok (.iadd, 1) := by decide +kernel
theorem dX8_fillOne_226 : decode cX8_fillOne 226 = .ok (.istore 5, 2) := by decide +kernel
theorem dX8_fillOne_228 : decode cX8_fillOne 228 = .ok (.iinc 8 1, 3) := by decide +kernel
theorem dX8_fillOne_231 : decode cX8_fillOne 231 = .ok (.goto (-116), 3) := by decide +kernel
theorem dX8_fillOne_234 : decode cX8_fillOne 234 = .ok (.iload 7, 2) := by decide +kernel
theorem dX8_fillOne_236 : decode cX8_fillOne 236 = .ok (.ifCond .eq 6, 3) := by decide +kernel
theorem dX8_fillOne_239 : decode cX8_fillOne 239 = .ok (.goto 61, 3) := by decide +kernel
theorem dX8_fillOne_242 : decode cX8_fillOne 242 = .ok (.iload 4, 2) := by decide +kernel
theorem dX8_fillOne_244 : decode cX8_fillOne 244 = .ok (.iconst 1, 1) := by decide +kernel
theorem dX8_fillOne_245 : decode cX8_fillOne 245 = .ok (.iadd, 1) := by decide +kernel
theorem dX8_fillOne_246 : decode cX8_fillOne 246 = .ok (.aload_n 0, 1) := by decide +kernel
theorem dX8_fillOne_247 : decode cX8_fillOne 247 = .ok (.getfield 36, 3) := by decide +kernel
theorem dX8_fillOne_250 : decode cX8_fillOne 250 = .ok (.iload_n 1, 1) := by decide +kernel
theorem dX8_fillOne_251 : decode cX8_fillOne 251 = .ok (.iaload, 1) := by decide +kernel
theorem dX8_fillOne_252 : decode cX8_fillOne 252 = .ok (.if_icmp .ge 20, 3) := by decide +kernel
theorem dX8_fillOne_255 : decode cX8_fillOne 255 = .ok (.aload_n 0, 1) := by decide +kernel
theorem dX8_fillOne_256 : decode cX8_fillOne 256 = .ok (.getfield 36, 3) := by decide +kernel
theorem dX8_fillOne_259 : decode cX8_fillOne 259 = .ok (.iload_n 1, 1) := by decide +kernel
theorem dX8_fillOne_260 : decode cX8_fillOne 260 = .ok (.iload 4, 2) := by decide +kernel
theorem dX8_fillOne_262 : decode cX8_fillOne 262 = .ok (.iconst 1, 1) := by decide +kernel
theorem dX8_fillOne_263 : decode cX8_fillOne 263 = .ok (.iadd, 1) := by decide +kernel
theorem dX8_fillOne_264 : decode cX8_fillOne 264 = .ok (.iastore, 1) := by decide +kernel
theorem dX8_fillOne_265 : decode cX8_fillOne 265 = .ok (.aload_n 0, 1) := by decide +kernel
theorem dX8_fillOne_266 : decode cX8_fillOne 266 = .ok (.getfield 42, 3) := by decide +kernel
theorem dX8_fillOne_269 : decode cX8_fillOne 269 = .ok (.iload_n 1, 1) := by decide +kernel
theorem dX8_fillOne_270 : decode cX8_fillOne 270 = .ok (.iload_n 3, 1) := by decide +kernel
theorem dX8_fillOne_271 : decode cX8_fillOne 271 = .ok (.iastore, 1) := by decide +kernel
theorem dX8_fillOne_272 : decode cX8_fillOne 272 = .ok (.aload_n 0, 1) := by decide +kernel
theorem dX8_fillOne_273 : decode cX8_fillOne 273 = .ok (.getfield 39, 3) := by decide +kernel
theorem dX8_fillOne_276 : decode cX8_fillOne 276 = .ok (.iload_n 1, 1) := by decide +kernel
theorem dX8_fillOne_277 : decode cX8_fillOne 277 = .ok (.iload 5, 2) := by decide +kernel
theorem dX8_fillOne_279 : decode cX8_fillOne 279 = .ok (.aload_n 0, 1) := by decide +kernel
theorem dX8_fillOne_280 : decode cX8_fillOne 280 = .ok (.getfield 39, 3) := by decide +kernel
theorem dX8_fillOne_283 : decode cX8_fillOne 283 = .ok (.iload_n 1, 1) := by decide +kernel
theorem dX8_fillOne_284 : decode cX8_fillOne 284 = .ok (.iaload, 1) := by decide +kernel
theorem dX8_fillOne_285 : decode cX8_fillOne 285 = .ok (.if_icmp .ge 8, 3) := by decide +kernel
theorem dX8_fillOne_288 : decode cX8_fillOne 288 = .ok (.iload 5, 2) := by decide +kernel
theorem dX8_fillOne_290 : decode cX8_fillOne 290 = .ok (.goto 9, 3) := by decide +kernel
theorem dX8_fillOne_293 : decode cX8_fillOne 293 = .ok (.aload_n 0, 1) := by decide +kernel
theorem dX8_fillOne_294 : decode cX8_fillOne 294 = .ok (.getfield 39, 3) := by decide +kernel
theorem dX8_fillOne_297 : decode cX8_fillOne 297 = .ok (.iload_n 1, 1) := by decide +kernel
theorem dX8_fillOne_298 : decode cX8_fillOne 298 = .ok (.iaload, 1) := by decide +kernel
theorem dX8_fillOne_299 : decode cX8_fillOne 299 = .ok (.iastore, 1) := by decide +kernel
theorem dX8_fillOne_300 : decode cX8_fillOne 300 = .ok (.iinc 3 1, 3) := by decide +kernel
theorem dX8_fillOne_303 : decode cX8_fillOne 303 = .ok (.goto (-211), 3) := by decide +kernel
theorem dX8_fillOne_306 : decode cX8_fillOne 306 = .ok (.return_, 1) := by decide +kernel
theorem dX8_worst_0 : decode cX8_worst 0 = .ok (.aload_n 0, 1) := by decide +kernel
theorem dX8_worst_1 : decode cX8_worst 1 = .ok (.iload_n 1, 1) := by decide +kernel
theorem dX8_worst_2 : decode cX8_worst 2 = .ok (.invokevirtual 166, 3) := by decide +kernel
theorem dX8_worst_5 : decode cX8_worst 5 = .ok (.ifCond .ne 5, 3) := by decide +kernel
theorem dX8_worst_8 : decode cX8_worst 8 = .ok (.iconst (-1), 1) := by decide +kernel
theorem dX8_worst_9 : decode cX8_worst 9 = .ok (.ireturn, 1) := by decide +kernel
theorem dX8_worst_10 : decode cX8_worst 10 = .ok (.aload_n 0, 1) := by decide +kernel
theorem dX8_worst_11 : decode cX8_worst 11 = .ok (.iload_n 1, 1) := by decide +kernel
theorem dX8_worst_12 : decode cX8_worst 12 = .ok (.invokevirtual 169, 3) := by decide +kernel
theorem dX8_worst_15 : decode cX8_worst 15 = .ok (.aload_n 0, 1) := by decide +kernel
theorem dX8_worst_16 : decode cX8_worst 16 = .ok (.getfield 36, 3) := by decide +kernel
theorem dX8_worst_19 : decode cX8_worst 19 = .ok (.iload_n 1, 1) := by decide +kernel
theorem dX8_worst_20 : decode cX8_worst 20 = .ok (.iaload, 1) := by decide +kernel
theorem dX8_worst_21 : decode cX8_worst 21 = .ok (.ldc 74, 2) := by decide +kernel
theorem dX8_worst_23 : decode cX8_worst 23 = .ok (.if_icmp .ne 8, 3) := by decide +kernel
theorem dX8_worst_26 : decode cX8_worst 26 = .ok (.bipush (-2), 2) := by decide +kernel
theorem dX8_worst_28 : decode cX8_worst 28 = .ok (.goto 9, 3) := by decide +kernel
theorem dX8_worst_31 : decode cX8_worst 31 = .ok (.aload_n 0, 1) := by decide +kernel
theorem dX8_worst_32 : decode cX8_worst 32 = .ok (.getfield 36, 3) := by decide +kernel
theorem dX8_worst_35 : decode cX8_worst 35 = .ok (.iload_n 1, 1) := by decide +kernel
theorem dX8_worst_36 : decode cX8_worst 36 = .ok (.iaload, 1) := by decide +kernel
theorem dX8_worst_37 : decode cX8_worst 37 = .ok (.ireturn, 1) := by decide +kernel
theorem dX8_next_0 : decode cX8_next 0 = .ok (.aload_n 0, 1) := by decide +kernel
theorem dX8_next_1 : decode cX8_next 1 = .ok (.iload_n 1, 1) := by decide +kernel
theorem dX8_next_2 : decode cX8_next 2 = .ok (.invokevirtual 166, 3) := by decide +kernel
theorem dX8_next_5 : decode cX8_next 5 = .ok (.ifCond .ne 5, 3) := by decide +kernel
theorem dX8_next_8 : decode cX8_next 8 = .ok (.iconst (-1), 1) := by decide +kernel
theorem dX8_next_9 : decode cX8_next 9 = .ok (.ireturn, 1) := by decide +kernel
theorem dX8_next_10 : decode cX8_next 10 = .ok (.aload_n 0, 1) := by decide +kernel
theorem dX8_next_11 : decode cX8_next 11 = .ok (.iload_n 1, 1) := by decide +kernel
theorem dX8_next_12 : decode cX8_next 12 = .ok (.invokevirtual 169, 3) := by decide +kernel
theorem dX8_next_15 : decode cX8_next 15 = .ok (.aload_n 0, 1) := by decide +kernel
theorem dX8_next_16 : decode cX8_next 16 = .ok (.getfield 42, 3) := by decide +kernel
theorem dX8_next_19 : decode cX8_next 19 = .ok (.iload_n 1, 1) := by decide +kernel
theorem dX8_next_20 : decode cX8_next 20 = .ok (.iaload, 1) := by decide +kernel
theorem dX8_next_21 : decode cX8_next 21 = .ok (.ireturn, 1) := by decide +kernel
theorem dX8_mean_0 : decode cX8_mean 0 = .ok (.aload_n 0, 1) := by decide +kernel
theorem dX8_mean_1 : decode cX8_mean 1 = .ok (.iload_n 1, 1) := by decide +kernel
theorem dX8_mean_2 : decode cX8_mean 2 = .ok (.invokevirtual 166, 3) := by decide +kernel
theorem dX8_mean_5 : decode cX8_mean 5 = .ok (.ifCond .ne 5, 3) := by decide +kernel
theorem dX8_mean_8 : decode cX8_mean 8 = .ok (.iconst (-1), 1) := by decide +kernel
theorem dX8_mean_9 : decode cX8_mean 9 = .ok (.ireturn, 1) := by decide +kernel
theorem dX8_mean_10 : decode cX8_mean 10 = .ok (.aload_n 0, 1) := by decide +kernel
theorem dX8_mean_11 : decode cX8_mean 11 = .ok (.iload_n 1, 1) := by decide +kernel
theorem dX8_mean_12 : decode cX8_mean 12 = .ok (.invokevirtual 169, 3) := by decide +kernel
theorem dX8_mean_15 : decode cX8_mean 15 = .ok (.aload_n 0, 1) := by decide +kernel
theorem dX8_mean_16 : decode cX8_mean 16 = .ok (.getfield 39, 3) := by decide +kernel
theorem dX8_mean_19 : decode cX8_mean 19 = .ok (.iload_n 1, 1) := by decide +kernel
theorem dX8_mean_20 : decode cX8_mean 20 = .ok (.iaload, 1) := by decide +kernel
theorem dX8_mean_21 : decode cX8_mean 21 = .ok (.ireturn, 1) := by decide +kernel
theorem dX8_moved_0 : decode cX8_moved 0 = .ok (.iload_n 1, 1) := by decide +kernel
theorem dX8_moved_1 : decode cX8_moved 1 = .ok (.istore_n 2, 1) := by decide +kernel
theorem dX8_moved_2 : decode cX8_moved 2 = .ok (.iconst 0, 1) := by decide +kernel
theorem dX8_moved_3 : decode cX8_moved 3 = .ok (.istore_n 3, 1) := by decide +kernel
theorem dX8_moved_4 : decode cX8_moved 4 = .ok (.iload_n 3, 1) := by decide +kernel
theorem dX8_moved_5 : decode cX8_moved 5 = .ok (.aload_n 0, 1) := by decide +kernel
theorem dX8_moved_6 : decode cX8_moved 6 = .ok (.invokevirtual 62, 3) := by decide +kernel
theorem dX8_moved_9 : decode cX8_moved 9 = .ok (.if_icmp .ge 30, 3) := by decide +kernel
theorem dX8_moved_12 : decode cX8_moved 12 = .ok (.iload_n 2, 1) := by decide +kernel
theorem dX8_moved_13 : decode cX8_moved 13 = .ok (.iload_n 1, 1) := by decide +kernel
theorem dX8_moved_14 : decode cX8_moved 14 = .ok (.iload_n 3, 1) := by decide +kernel
theorem dX8_moved_15 : decode cX8_moved 15 = .ok (.ishr, 1) := by decide +kernel
theorem dX8_moved_16 : decode cX8_moved 16 = .ok (.iconst 1, 1) := by decide +kernel
theorem dX8_moved_17 : decode cX8_moved 17 = .ok (.iand, 1) := by decide +kernel
theorem dX8_moved_18 : decode cX8_moved 18 = .ok (.iconst 1, 1) := by decide +kernel
theorem dX8_moved_19 : decode cX8_moved 19 = .ok (.if_icmp .ne 11, 3) := by decide +kernel
theorem dX8_moved_22 : decode cX8_moved 22 = .ok (.aload_n 0, 1) := by decide +kernel
theorem dX8_moved_23 : decode cX8_moved 23 = .ok (.iload_n 3, 1) := by decide +kernel
theorem dX8_moved_24 : decode cX8_moved 24 = .ok (.invokevirtual 98, 3) := by decide +kernel
theorem dX8_moved_27 : decode cX8_moved 27 = .ok (.goto 4, 3) := by decide +kernel
theorem dX8_moved_30 : decode cX8_moved 30 = .ok (.iconst 0, 1) := by decide +kernel
theorem dX8_moved_31 : decode cX8_moved 31 = .ok (.ior, 1) := by decide +kernel
theorem dX8_moved_32 : decode cX8_moved 32 = .ok (.istore_n 2, 1) := by decide +kernel
theorem dX8_moved_33 : decode cX8_moved 33 = .ok (.iinc 3 1, 3) := by decide +kernel
theorem dX8_moved_36 : decode cX8_moved 36 = .ok (.goto (-32), 3) := by decide +kernel
theorem dX8_moved_39 : decode cX8_moved 39 = .ok (.iload_n 2, 1) := by decide +kernel
theorem dX8_moved_40 : decode cX8_moved 40 = .ok (.ireturn, 1) := by decide +kernel
theorem dX8_seek_0 : decode cX8_seek 0 = .ok (.aload_n 0, 1) := by decide +kernel
theorem dX8_seek_1 : decode cX8_seek 1 = .ok (.invokevirtual 62, 3) := by decide +kernel
theorem dX8_seek_4 : decode cX8_seek 4 = .ok (.bipush 10, 2) := by decide +kernel
theorem dX8_seek_6 : decode cX8_seek 6 = .ok (.if_icmp .gt 11, 3) := by decide +kernel
theorem dX8_seek_9 : decode cX8_seek 9 = .ok (.aload_n 0, 1) := by decide +kernel
theorem dX8_seek_10 : decode cX8_seek 10 = .ok (.iload_n 1, 1) := by decide +kernel
theorem dX8_seek_11 : decode cX8_seek 11 = .ok (.invokevirtual 118, 3) := by decide +kernel
theorem dX8_seek_14 : decode cX8_seek 14 = .ok (.ifCond .ne 5, 3) := by decide +kernel
theorem dX8_seek_17 : decode cX8_seek 17 = .ok (.iconst (-1), 1) := by decide +kernel
theorem dX8_seek_18 : decode cX8_seek 18 = .ok (.ireturn, 1) := by decide +kernel
theorem dX8_seek_19 : decode cX8_seek 19 = .ok (.iconst 1, 1) := by decide +kernel
theorem dX8_seek_20 : decode cX8_seek 20 = .ok (.aload_n 0, 1) := by decide +kernel
theorem dX8_seek_21 : decode cX8_seek 21 = .ok (.invokevirtual 62, 3) := by decide +kernel
theorem dX8_seek_24 : decode cX8_seek 24 = .ok (.ishl, 1) := by decide +kernel
theorem dX8_seek_25 : decode cX8_seek 25 = .ok (.istore_n 2, 1) := by decide +kernel
theorem dX8_seek_26 : decode cX8_seek 26 = .ok (.iconst 0, 1) := by decide +kernel
theorem dX8_seek_27 : decode cX8_seek 27 = .ok (.istore_n 3, 1) := by decide +kernel
theorem dX8_seek_28 : decode cX8_seek 28 = .ok (.iload_n 3, 1) := by decide +kernel
theorem dX8_seek_29 : decode cX8_seek 29 = .ok (.iload_n 2, 1) := by decide +kernel
theorem dX8_seek_30 : decode cX8_seek 30 = .ok (.if_icmp .ge 29, 3) := by decide +kernel
theorem dX8_seek_33 : decode cX8_seek 33 = .ok (.aload_n 0, 1) := by decide +kernel
theorem dX8_seek_34 : decode cX8_seek 34 = .ok (.getfield 45, 3) := by decide +kernel
theorem dX8_seek_37 : decode cX8_seek 37 = .ok (.iload_n 3, 1) := by decide +kernel
theorem dX8_seek_38 : decode cX8_seek 38 = .ok (.iload_n 3, 1) := by decide +kernel
theorem dX8_seek_39 : decode cX8_seek 39 = .ok (.invokestatic 102, 3) := by decide +kernel
theorem dX8_seek_42 : decode cX8_seek 42 = .ok (.iconst 2, 1) := by decide +kernel
theorem dX8_seek_43 : decode cX8_seek 43 = .ok (.if_icmp .ge 7, 3) := by decide +kernel
theorem dX8_seek_46 : decode cX8_seek 46 = .ok (.iconst 0, 1) := by decide +kernel
theorem dX8_seek_47 : decode cX8_seek 47 = .ok (.goto 5, 3) := by decide +kernel
theorem dX8_seek_50 : decode cX8_seek 50 = .ok (.ldc 74, 2) := by decide +kernel
theorem dX8_seek_52 : decode cX8_seek 52 = .ok (.iastore, 1) := by decide +kernel
theorem dX8_seek_53 : decode cX8_seek 53 = .ok (.iinc 3 1, 3) := by decide +kernel
theorem dX8_seek_56 : decode cX8_seek 56 = .ok (.goto (-28), 3) := by decide +kernel
theorem dX8_seek_59 : decode cX8_seek 59 = .ok (.iconst 1, 1) := by decide +kernel
theorem dX8_seek_60 : decode cX8_seek 60 = .ok (.istore_n 3, 1) := by decide +kernel
theorem dX8_seek_61 : decode cX8_seek 61 = .ok (.iconst 1, 1) := by decide +kernel
theorem dX8_seek_62 : decode cX8_seek 62 = .ok (.istore 4, 2) := by decide +kernel
theorem dX8_seek_64 : decode cX8_seek 64 = .ok (.iload_n 3, 1) := by decide +kernel
theorem dX8_seek_65 : decode cX8_seek 65 = .ok (.ifCond .eq 63, 3) := by decide +kernel
theorem dX8_seek_68 : decode cX8_seek 68 = .ok (.iconst 0, 1) := by decide +kernel
theorem dX8_seek_69 : decode cX8_seek 69 = .ok (.istore_n 3, 1) := by decide +kernel
theorem dX8_seek_70 : decode cX8_seek 70 = .ok (.iconst 0, 1) := by decide +kernel
theorem dX8_seek_71 : decode cX8_seek 71 = .ok (.istore 5, 2) := by decide +kernel
theorem dX8_seek_73 : decode cX8_seek 73 = .ok (.iload 5, 2) := by decide +kernel
theorem dX8_seek_75 : decode cX8_seek 75 = .ok (.iload_n 2, 1) := by decide +kernel
theorem dX8_seek_76 : decode cX8_seek 76 = .ok (.if_icmp .ge 46, 3) := by decide +kernel
theorem dX8_seek_79 : decode cX8_seek 79 = .ok (.aload_n 0, 1) := by decide +kernel
theorem dX8_seek_80 : decode cX8_seek 80 = .ok (.getfield 45, 3) := by decide +kernel
theorem dX8_seek_83 : decode cX8_seek 83 = .ok (.iload 5, 2) := by decide +kernel
theorem dX8_seek_85 : decode cX8_seek 85 = .ok (.iaload, 1) := by decide +kernel
theorem dX8_seek_86 : decode cX8_seek 86 = .ok (.ldc 74, 2) := by decide +kernel
theorem dX8_seek_88 : decode cX8_seek 88 = .ok (.if_icmp .lt 28, 3) := by decide +kernel
theorem dX8_seek_91 : decode cX8_seek 91 = .ok (.aload_n 0, 1) := by decide +kernel
theorem dX8_seek_92 : decode cX8_seek 92 = .ok (.iload 5, 2) := by decide +kernel
theorem dX8_seek_94 : decode cX8_seek 94 = .ok (.iload 4, 2) := by decide +kernel
theorem dX8_seek_96 : decode cX8_seek 96 = .ok (.invokevirtual 172, 3) := by decide +kernel
theorem dX8_seek_99 : decode cX8_seek 99 = .ok (.ifCond .ne 6, 3) := by decide +kernel
theorem dX8_seek_102 : decode cX8_seek 102 = .ok (.goto 14, 3) := by decide +kernel
theorem dX8_seek_105 : decode cX8_seek 105 = .ok (.aload_n 0, 1) := by decide +kernel
theorem dX8_seek_106 : decode cX8_seek 106 = .ok (.getfield 45, 3) := by decide +kernel
theorem dX8_seek_109 : decode cX8_seek 109 = .ok (.iload 5, 2) := by decide +kernel
theorem dX8_seek_111 : decode cX8_seek 111 = .ok (.iload 4, 2) := by decide +kernel
theorem dX8_seek_113 : decode cX8_seek 113 = .ok (.iastore, 1) := by decide +kernel
theorem dX8_seek_114 : decode cX8_seek 114 = .ok (.iconst 1, 1) := by decide +kernel
theorem dX8_seek_115 : decode cX8_seek 115 = .ok (.istore_n 3, 1) := by decide +kernel
theorem dX8_seek_116 : decode cX8_seek 116 = .ok (.iinc 5 1, 3) := by decide +kernel
theorem dX8_seek_119 : decode cX8_seek 119 = .ok (.goto (-46), 3) := by decide +kernel
theorem dX8_seek_122 : decode cX8_seek 122 = .ok (.iinc 4 1, 3) := by decide +kernel
theorem dX8_seek_125 : decode cX8_seek 125 = .ok (.goto (-61), 3) := by decide +kernel
theorem dX8_seek_128 : decode cX8_seek 128 = .ok (.aload_n 0, 1) := by decide +kernel
theorem dX8_seek_129 : decode cX8_seek 129 = .ok (.getfield 45, 3) := by decide +kernel
theorem dX8_seek_132 : decode cX8_seek 132 = .ok (.iload_n 1, 1) := by decide +kernel
theorem dX8_seek_133 : decode cX8_seek 133 = .ok (.iaload, 1) := by decide +kernel
theorem dX8_seek_134 : decode cX8_seek 134 = .ok (.ldc 74, 2) := by decide +kernel
theorem dX8_seek_136 : decode cX8_seek 136 = .ok (.if_icmp .ne 8, 3) := by decide +kernel
theorem dX8_seek_139 : decode cX8_seek 139 = .ok (.bipush (-2), 2) := by decide +kernel
theorem dX8_seek_141 : decode cX8_seek 141 = .ok (.goto 9, 3) := by decide +kernel
theorem dX8_seek_144 : decode cX8_seek 144 = .ok (.aload_n 0, 1) := by decide +kernel
theorem dX8_seek_145 : decode cX8_seek 145 = .ok (.getfield 45, 3) := by decide +kernel
theorem dX8_seek_148 : decode cX8_seek 148 = .ok (.iload_n 1, 1) := by decide +kernel
theorem dX8_seek_149 : decode cX8_seek 149 = .ok (.iaload, 1) := by decide +kernel
theorem dX8_seek_150 : decode cX8_seek 150 = .ok (.ireturn, 1) := by decide +kernel
theorem dX8_isFoundIn_0 : decode cX8_isFoundIn 0 = .ok (.iconst 0, 1) := by decide +kernel
theorem dX8_isFoundIn_1 : decode cX8_isFoundIn 1 = .ok (.istore_n 3, 1) := by decide +kernel
theorem dX8_isFoundIn_2 : decode cX8_isFoundIn 2 = .ok (.iconst 0, 1) := by decide +kernel
theorem dX8_isFoundIn_3 : decode cX8_isFoundIn 3 = .ok (.istore 4, 2) := by decide +kernel
theorem dX8_isFoundIn_5 : decode cX8_isFoundIn 5 = .ok (.iload 4, 2) := by decide +kernel
theorem dX8_isFoundIn_7 : decode cX8_isFoundIn 7 = .ok (.aload_n 0, 1) := by decide +kernel
theorem dX8_isFoundIn_8 : decode cX8_isFoundIn 8 = .ok (.invokevirtual 62, 3) := by decide +kernel
theorem dX8_isFoundIn_11 : decode cX8_isFoundIn 11 = .ok (.if_icmp .ge 96, 3) := by decide +kernel
theorem dX8_isFoundIn_14 : decode cX8_isFoundIn 14 = .ok (.iload_n 3, 1) := by decide +kernel
theorem dX8_isFoundIn_15 : decode cX8_isFoundIn 15 = .ok (.ifCond .ne 92, 3) := by decide +kernel
theorem dX8_isFoundIn_18 : decode cX8_isFoundIn 18 = .ok (.iconst 1, 1) := by decide +kernel
theorem dX8_isFoundIn_19 : decode cX8_isFoundIn 19 = .ok (.istore 5, 2) := by decide +kernel
theorem dX8_isFoundIn_21 : decode cX8_isFoundIn 21 = .ok (.iconst 0, 1) := by decide +kernel
theorem dX8_isFoundIn_22 : decode cX8_isFoundIn 22 = .ok (.istore 6, 2) := by decide +kernel
theorem dX8_isFoundIn_24 : decode cX8_isFoundIn 24 = .ok (.iload 6, 2) := by decide +kernel
theorem dX8_isFoundIn_26 : decode cX8_isFoundIn 26 = .ok (.aload_n 0, 1) := by decide +kernel
theorem dX8_isFoundIn_27 : decode cX8_isFoundIn 27 = .ok (.invokevirtual 62, 3) := by decide +kernel
theorem dX8_isFoundIn_30 : decode cX8_isFoundIn 30 = .ok (.if_icmp .ge 68, 3) := by decide +kernel
theorem dX8_isFoundIn_33 : decode cX8_isFoundIn 33 = .ok (.iload 5, 2) := by decide +kernel
theorem dX8_isFoundIn_35 : decode cX8_isFoundIn 35 = .ok (.ifCond .eq 63, 3) := by decide +kernel
theorem dX8_isFoundIn_38 : decode cX8_isFoundIn 38 = .ok (.iload_n 1, 1) := by decide +kernel
theorem dX8_isFoundIn_39 : decode cX8_isFoundIn 39 = .ok (.iload 6, 2) := by decide +kernel
theorem dX8_isFoundIn_41 : decode cX8_isFoundIn 41 = .ok (.ishr, 1) := by decide +kernel
theorem dX8_isFoundIn_42 : decode cX8_isFoundIn 42 = .ok (.iconst 1, 1) := by decide +kernel
theorem dX8_isFoundIn_43 : decode cX8_isFoundIn 43 = .ok (.iand, 1) := by decide +kernel
theorem dX8_isFoundIn_44 : decode cX8_isFoundIn 44 = .ok (.ifCond .ne 6, 3) := by decide +kernel
theorem dX8_isFoundIn_47 : decode cX8_isFoundIn 47 = .ok (.goto 45, 3) := by decide +kernel
theorem dX8_isFoundIn_50 : decode cX8_isFoundIn 50 = .ok (.aload_n 0, 1) := by decide +kernel
theorem dX8_isFoundIn_51 : decode cX8_isFoundIn 51 = .ok (.iload_n 1, 1) := by decide +kernel
theorem dX8_isFoundIn_52 : decode cX8_isFoundIn 52 = .ok (.iload 4, 2) := by decide +kernel
theorem dX8_isFoundIn_54 : decode cX8_isFoundIn 54 = .ok (.iload 6, 2) := by decide +kernel
theorem dX8_isFoundIn_56 : decode cX8_isFoundIn 56 = .ok (.invokevirtual 162, 3) := by decide +kernel
theorem dX8_isFoundIn_59 : decode cX8_isFoundIn 59 = .ok (.istore 7, 2) := by decide +kernel
theorem dX8_isFoundIn_61 : decode cX8_isFoundIn 61 = .ok (.iload 7, 2) := by decide +kernel
theorem dX8_isFoundIn_63 : decode cX8_isFoundIn 63 = .ok (.invokestatic 102, 3) := by decide +kernel
theorem dX8_isFoundIn_66 : decode cX8_isFoundIn 66 = .ok (.iconst 2, 1) := by decide +kernel
theorem dX8_isFoundIn_67 : decode cX8_isFoundIn 67 = .ok (.if_icmp .lt 18, 3) := by decide +kernel
theorem dX8_isFoundIn_70 : decode cX8_isFoundIn 70 = .ok (.aload_n 0, 1) := by decide +kernel
theorem dX8_isFoundIn_71 : decode cX8_isFoundIn 71 = .ok (.getfield 45, 3) := by decide +kernel
theorem dX8_isFoundIn_74 : decode cX8_isFoundIn 74 = .ok (.aload_n 0, 1) := by decide +kernel
theorem dX8_isFoundIn_75 : decode cX8_isFoundIn 75 = .ok (.iload 7, 2) := by decide +kernel
theorem dX8_isFoundIn_77 : decode cX8_isFoundIn 77 = .ok (.invokevirtual 175, 3) := by decide +kernel
theorem dX8_isFoundIn_80 : decode cX8_isFoundIn 80 = .ok (.iaload, 1) := by decide +kernel
theorem dX8_isFoundIn_81 : decode cX8_isFoundIn 81 = .ok (.iload_n 2, 1) := by decide +kernel
theorem dX8_isFoundIn_82 : decode cX8_isFoundIn 82 = .ok (.if_icmp .ge 7, 3) := by decide +kernel
theorem dX8_isFoundIn_85 : decode cX8_isFoundIn 85 = .ok (.iconst 1, 1) := by decide +kernel
theorem dX8_isFoundIn_86 : decode cX8_isFoundIn 86 = .ok (.goto 4, 3) := by decide +kernel
theorem dX8_isFoundIn_89 : decode cX8_isFoundIn 89 = .ok (.iconst 0, 1) := by decide +kernel
theorem dX8_isFoundIn_90 : decode cX8_isFoundIn 90 = .ok (.istore 5, 2) := by decide +kernel
theorem dX8_isFoundIn_92 : decode cX8_isFoundIn 92 = .ok (.iinc 6 1, 3) := by decide +kernel
theorem dX8_isFoundIn_95 : decode cX8_isFoundIn 95 = .ok (.goto (-71), 3) := by decide +kernel
theorem dX8_isFoundIn_98 : decode cX8_isFoundIn 98 = .ok (.iload 5, 2) := by decide +kernel
theorem dX8_isFoundIn_100 : decode cX8_isFoundIn 100 = .ok (.istore_n 3, 1) := by decide +kernel
theorem dX8_isFoundIn_101 : decode cX8_isFoundIn 101 = .ok (.iinc 4 1, 3) := by decide +kernel
theorem dX8_isFoundIn_104 : decode cX8_isFoundIn 104 = .ok (.goto (-99), 3) := by decide +kernel
theorem dX8_isFoundIn_107 : decode cX8_isFoundIn 107 = .ok (.iload_n 3, 1) := by decide +kernel
theorem dX8_isFoundIn_108 : decode cX8_isFoundIn 108 = .ok (.ireturn, 1) := by decide +kernel
theorem dX8_tree_0 : decode cX8_tree 0 = .ok (.iconst 0, 1) := by decide +kernel
theorem dX8_tree_1 : decode cX8_tree 1 = .ok (.istore_n 1, 1) := by decide +kernel
theorem dX8_tree_2 : decode cX8_tree 2 = .ok (.iconst 0, 1) := by decide +kernel
theorem dX8_tree_3 : decode cX8_tree 3 = .ok (.istore_n 2, 1) := by decide +kernel
theorem dX8_tree_4 : decode cX8_tree 4 = .ok (.iload_n 2, 1) := by decide +kernel
theorem dX8_tree_5 : decode cX8_tree 5 = .ok (.aload_n 0, 1) := by decide +kernel
theorem dX8_tree_6 : decode cX8_tree 6 = .ok (.invokevirtual 62, 3) := by decide +kernel
theorem dX8_tree_9 : decode cX8_tree 9 = .ok (.if_icmp .ge 20, 3) := by decide +kernel
theorem dX8_tree_12 : decode cX8_tree 12 = .ok (.iload_n 1, 1) := by decide +kernel
theorem dX8_tree_13 : decode cX8_tree 13 = .ok (.aload_n 0, 1) := by decide +kernel
theorem dX8_tree_14 : decode cX8_tree 14 = .ok (.iload_n 2, 1) := by decide +kernel
theorem dX8_tree_15 : decode cX8_tree 15 = .ok (.invokevirtual 98, 3) := by decide +kernel
theorem dX8_tree_18 : decode cX8_tree 18 = .ok (.invokestatic 102, 3) := by decide +kernel
theorem dX8_tree_21 : decode cX8_tree 21 = .ok (.iadd, 1) := by decide +kernel
theorem dX8_tree_22 : decode cX8_tree 22 = .ok (.istore_n 1, 1) := by decide +kernel
theorem dX8_tree_23 : decode cX8_tree 23 = .ok (.iinc 2 1, 3) := by decide +kernel
theorem dX8_tree_26 : decode cX8_tree 26 = .ok (.goto (-22), 3) := by decide +kernel
theorem dX8_tree_29 : decode cX8_tree 29 = .ok (.iload_n 1, 1) := by decide +kernel
theorem dX8_tree_30 : decode cX8_tree 30 = .ok (.iconst 2, 1) := by decide +kernel
theorem dX8_tree_31 : decode cX8_tree 31 = .ok (.aload_n 0, 1) := by decide +kernel
theorem dX8_tree_32 : decode cX8_tree 32 = .ok (.invokevirtual 62, 3) := by decide +kernel
theorem dX8_tree_35 : decode cX8_tree 35 = .ok (.iconst 1, 1) := by decide +kernel
theorem dX8_tree_36 : decode cX8_tree 36 = .ok (.isub, 1) := by decide +kernel
theorem dX8_tree_37 : decode cX8_tree 37 = .ok (.imul, 1) := by decide +kernel
theorem dX8_tree_38 : decode cX8_tree 38 = .ok (.if_icmp .ne 16, 3) := by decide +kernel
theorem dX8_tree_41 : decode cX8_tree 41 = .ok (.aload_n 0, 1) := by decide +kernel
theorem dX8_tree_42 : decode cX8_tree 42 = .ok (.iconst 0, 1) := by decide +kernel
theorem dX8_tree_43 : decode cX8_tree 43 = .ok (.iconst 5, 1) := by decide +kernel
theorem dX8_tree_44 : decode cX8_tree 44 = .ok (.invokevirtual 178, 3) := by decide +kernel
theorem dX8_tree_47 : decode cX8_tree 47 = .ok (.aload_n 0, 1) := by decide +kernel
theorem dX8_tree_48 : decode cX8_tree 48 = .ok (.invokevirtual 62, 3) := by decide +kernel
theorem dX8_tree_51 : decode cX8_tree 51 = .ok (.if_icmp .eq 5, 3) := by decide +kernel
theorem dX8_tree_54 : decode cX8_tree 54 = .ok (.iconst (-1), 1) := by decide +kernel
theorem dX8_tree_55 : decode cX8_tree 55 = .ok (.ireturn, 1) := by decide +kernel
theorem dX8_tree_56 : decode cX8_tree 56 = .ok (.aload_n 0, 1) := by decide +kernel
theorem dX8_tree_57 : decode cX8_tree 57 = .ok (.invokevirtual 62, 3) := by decide +kernel
theorem dX8_tree_60 : decode cX8_tree 60 = .ok (.iconst 1, 1) := by decide +kernel
theorem dX8_tree_61 : decode cX8_tree 61 = .ok (.if_icmp .ne 5, 3) := by decide +kernel
theorem dX8_tree_64 : decode cX8_tree 64 = .ok (.iconst 0, 1) := by decide +kernel
theorem dX8_tree_65 : decode cX8_tree 65 = .ok (.ireturn, 1) := by decide +kernel
theorem dX8_tree_66 : decode cX8_tree 66 = .ok (.iconst 0, 1) := by decide +kernel
theorem dX8_tree_67 : decode cX8_tree 67 = .ok (.istore_n 2, 1) := by decide +kernel
theorem dX8_tree_68 : decode cX8_tree 68 = .ok (.iconst 0, 1) := by decide +kernel
theorem dX8_tree_69 : decode cX8_tree 69 = .ok (.istore_n 3, 1) := by decide +kernel
theorem dX8_tree_70 : decode cX8_tree 70 = .ok (.iconst 0, 1) := by decide +kernel
theorem dX8_tree_71 : decode cX8_tree 71 = .ok (.istore 4, 2) := by decide +kernel
theorem dX8_tree_73 : decode cX8_tree 73 = .ok (.iload 4, 2) := by decide +kernel
theorem dX8_tree_75 : decode cX8_tree 75 = .ok (.aload_n 0, 1) := by decide +kernel
theorem dX8_tree_76 : decode cX8_tree 76 = .ok (.invokevirtual 62, 3) := by decide +kernel
theorem dX8_tree_79 : decode cX8_tree 79 = .ok (.if_icmp .ge 60, 3) := by decide +kernel
theorem dX8_tree_82 : decode cX8_tree 82 = .ok (.iload_n 2, 1) := by decide +kernel
theorem dX8_tree_83 : decode cX8_tree 83 = .ok (.aload_n 0, 1) := by decide +kernel
theorem dX8_tree_84 : decode cX8_tree 84 = .ok (.iload 4, 2) := by decide +kernel
theorem dX8_tree_86 : decode cX8_tree 86 = .ok (.invokevirtual 98, 3) := by decide +kernel
theorem dX8_tree_89 : decode cX8_tree 89 = .ok (.invokestatic 102, 3) := by decide +kernel
theorem dX8_tree_92 : decode cX8_tree 92 = .ok (.iconst 1, 1) := by decide +kernel
theorem dX8_tree_93 : decode cX8_tree 93 = .ok (.if_icmp .ne 7, 3) := by decide +kernel
theorem dX8_tree_96 : decode cX8_tree 96 = .ok (.iconst 1, 1) := by decide +kernel
theorem dX8_tree_97 : decode cX8_tree 97 = .ok (.goto 4, 3) := by decide +kernel
theorem dX8_tree_100 : decode cX8_tree 100 = .ok (.iconst 0, 1) := by decide +kernel
theorem dX8_tree_101 : decode cX8_tree 101 = .ok (.iadd, 1) := by decide +kernel
theorem dX8_tree_102 : decode cX8_tree 102 = .ok (.istore_n 2, 1) := by decide +kernel
theorem dX8_tree_103 : decode cX8_tree 103 = .ok (.iload_n 3, 1) := by decide +kernel
theorem dX8_tree_104 : decode cX8_tree 104 = .ok (.aload_n 0, 1) := by decide +kernel
theorem dX8_tree_105 : decode cX8_tree 105 = .ok (.iload 4, 2) := by decide +kernel
theorem dX8_tree_107 : decode cX8_tree 107 = .ok (.invokevirtual 98, 3) := by decide +kernel
theorem dX8_tree_110 : decode cX8_tree 110 = .ok (.invokestatic 102, 3) := by decide +kernel
theorem dX8_tree_113 : decode cX8_tree 113 = .ok (.iconst 2, 1) := by decide +kernel
theorem dX8_tree_114 : decode cX8_tree 114 = .ok (.if_icmp .le 16, 3) := by decide +kernel
theorem dX8_tree_117 : decode cX8_tree 117 = .ok (.aload_n 0, 1) := by decide +kernel
theorem dX8_tree_118 : decode cX8_tree 118 = .ok (.iload 4, 2) := by decide +kernel
theorem dX8_tree_120 : decode cX8_tree 120 = .ok (.invokevirtual 181, 3) := by decide +kernel
theorem dX8_tree_123 : decode cX8_tree 123 = .ok (.ifCond .eq 7, 3) := by decide +kernel
theorem dX8_tree_126 : decode cX8_tree 126 = .ok (.iconst 1, 1) := by decide +kernel
theorem dX8_tree_127 : decode cX8_tree 127 = .ok (.goto 4, 3) := by decide +kernel
theorem dX8_tree_130 : decode cX8_tree 130 = .ok (.iconst 0, 1) := by decide +kernel
theorem dX8_tree_131 : decode cX8_tree 131 = .ok (.iadd, 1) := by decide +kernel
theorem dX8_tree_132 : decode cX8_tree 132 = .ok (.istore_n 3, 1) := by decide +kernel
theorem dX8_tree_133 : decode cX8_tree 133 = .ok (.iinc 4 1, 3) := by decide +kernel
theorem dX8_tree_136 : decode cX8_tree 136 = .ok (.goto (-63), 3) := by decide +kernel
theorem dX8_tree_139 : decode cX8_tree 139 = .ok (.iload_n 2, 1) := by decide +kernel
theorem dX8_tree_140 : decode cX8_tree 140 = .ok (.iconst 2, 1) := by decide +kernel
theorem dX8_tree_141 : decode cX8_tree 141 = .ok (.if_icmp .ne 11, 3) := by decide +kernel
theorem dX8_tree_144 : decode cX8_tree 144 = .ok (.iload_n 3, 1) := by decide +kernel
theorem dX8_tree_145 : decode cX8_tree 145 = .ok (.ifCond .ne 7, 3) := by decide +kernel
theorem dX8_tree_148 : decode cX8_tree 148 = .ok (.iconst 1, 1) := by decide +kernel
theorem dX8_tree_149 : decode cX8_tree 149 = .ok (.goto 6, 3) := by decide +kernel
theorem dX8_tree_152 : decode cX8_tree 152 = .ok (.iload_n 2, 1) := by decide +kernel
theorem dX8_tree_153 : decode cX8_tree 153 = .ok (.iload_n 3, 1) := by decide +kernel
theorem dX8_tree_154 : decode cX8_tree 154 = .ok (.isub, 1) := by decide +kernel
theorem dX8_tree_155 : decode cX8_tree 155 = .ok (.ireturn, 1) := by decide +kernel
theorem dX8_isLed_0 : decode cX8_isLed 0 = .ok (.iconst 0, 1) := by decide +kernel
theorem dX8_isLed_1 : decode cX8_isLed 1 = .ok (.istore_n 2, 1) := by decide +kernel
theorem dX8_isLed_2 : decode cX8_isLed 2 = .ok (.iconst 0, 1) := by decide +kernel
theorem dX8_isLed_3 : decode cX8_isLed 3 = .ok (.istore_n 3, 1) := by decide +kernel
theorem dX8_isLed_4 : decode cX8_isLed 4 = .ok (.iload_n 3, 1) := by decide +kernel
theorem dX8_isLed_5 : decode cX8_isLed 5 = .ok (.aload_n 0, 1) := by decide +kernel
theorem dX8_isLed_6 : decode cX8_isLed 6 = .ok (.invokevirtual 62, 3) := by decide +kernel
theorem dX8_isLed_9 : decode cX8_isLed 9 = .ok (.if_icmp .ge 95, 3) := by decide +kernel
theorem dX8_isLed_12 : decode cX8_isLed 12 = .ok (.iload_n 2, 1) := by decide +kernel
theorem dX8_isLed_13 : decode cX8_isLed 13 = .ok (.ifCond .ne 91, 3) := by decide +kernel
theorem dX8_isLed_16 : decode cX8_isLed 16 = .ok (.aload_n 0, 1) := by decide +kernel
theorem dX8_isLed_17 : decode cX8_isLed 17 = .ok (.iload_n 3, 1) := by decide +kernel
theorem dX8_isLed_18 : decode cX8_isLed 18 = .ok (.invokevirtual 98, 3) := by decide +kernel
theorem dX8_isLed_21 : decode cX8_isLed 21 = .ok (.invokestatic 102, 3) := by decide +kernel
theorem dX8_isLed_24 : decode cX8_isLed 24 = .ok (.iconst 1, 1) := by decide +kernel
theorem dX8_isLed_25 : decode cX8_isLed 25 = .ok (.if_icmp .eq 6, 3) := by decide +kernel
theorem dX8_isLed_28 : decode cX8_isLed 28 = .ok (.goto 70, 3) := by decide +kernel
theorem dX8_isLed_31 : decode cX8_isLed 31 = .ok (.iload_n 3, 1) := by decide +kernel
theorem dX8_isLed_32 : decode cX8_isLed 32 = .ok (.istore 4, 2) := by decide +kernel
theorem dX8_isLed_34 : decode cX8_isLed 34 = .ok (.aload_n 0, 1) := by decide +kernel
theorem dX8_isLed_35 : decode cX8_isLed 35 = .ok (.iload_n 3, 1) := by decide +kernel
theorem dX8_isLed_36 : decode cX8_isLed 36 = .ok (.invokevirtual 98, 3) := by decide +kernel
theorem dX8_isLed_39 : decode cX8_isLed 39 = .ok (.invokestatic 184, 3) := by decide +kernel
theorem dX8_isLed_42 : decode cX8_isLed 42 = .ok (.istore 5, 2) := by decide +kernel
theorem dX8_isLed_44 : decode cX8_isLed 44 = .ok (.aload_n 0, 1) := by decide +kernel
theorem dX8_isLed_45 : decode cX8_isLed 45 = .ok (.iload 5, 2) := by decide +kernel
theorem dX8_isLed_47 : decode cX8_isLed 47 = .ok (.invokevirtual 98, 3) := by decide +kernel
theorem dX8_isLed_50 : decode cX8_isLed 50 = .ok (.invokestatic 102, 3) := by decide +kernel
theorem dX8_isLed_53 : decode cX8_isLed 53 = .ok (.iconst 2, 1) := by decide +kernel
theorem dX8_isLed_54 : decode cX8_isLed 54 = .ok (.if_icmp .ne 32, 3) := by decide +kernel
theorem dX8_isLed_57 : decode cX8_isLed 57 = .ok (.aload_n 0, 1) := by decide +kernel
theorem dX8_isLed_58 : decode cX8_isLed 58 = .ok (.iload 5, 2) := by decide +kernel
theorem dX8_isLed_60 : decode cX8_isLed 60 = .ok (.invokevirtual 98, 3) := by decide +kernel
theorem dX8_isLed_63 : decode cX8_isLed 63 = .ok (.iconst 1, 1) := by decide +kernel
theorem dX8_isLed_64 : decode cX8_isLed 64 = .ok (.iload 4, 2) := by decide +kernel
theorem dX8_isLed_66 : decode cX8_isLed 66 = .ok (.ishl, 1) := by decide +kernel
theorem dX8_isLed_67 : decode cX8_isLed 67 = .ok (.iconst (-1), 1) := by decide +kernel
theorem dX8_isLed_68 : decode cX8_isLed 68 = .ok (.ixor, 1) := by decide +kernel
theorem dX8_isLed_69 : decode cX8_isLed 69 = .ok (.iand, 1) := by decide +kernel
theorem dX8_isLed_70 : decode cX8_isLed 70 = .ok (.invokestatic 184, 3) := by decide +kernel
theorem dX8_isLed_73 : decode cX8_isLed 73 = .ok (.istore 6, 2) := by decide +kernel
theorem dX8_isLed_75 : decode cX8_isLed 75 = .ok (.iload 5, 2) := by decide +kernel
theorem dX8_isLed_77 : decode cX8_isLed 77 = .ok (.istore 4, 2) := by decide +kernel
theorem dX8_isLed_79 : decode cX8_isLed 79 = .ok (.iload 6, 2) := by decide +kernel
theorem dX8_isLed_81 : decode cX8_isLed 81 = .ok (.istore 5, 2) := by decide +kernel
theorem dX8_isLed_83 : decode cX8_isLed 83 = .ok (.goto (-39), 3) := by decide +kernel
theorem dX8_isLed_86 : decode cX8_isLed 86 = .ok (.iload 5, 2) := by decide +kernel
theorem dX8_isLed_88 : decode cX8_isLed 88 = .ok (.iload_n 1, 1) := by decide +kernel
theorem dX8_isLed_89 : decode cX8_isLed 89 = .ok (.if_icmp .ne 7, 3) := by decide +kernel
theorem dX8_isLed_92 : decode cX8_isLed 92 = .ok (.iconst 1, 1) := by decide +kernel
theorem dX8_isLed_93 : decode cX8_isLed 93 = .ok (.goto 4, 3) := by decide +kernel
theorem dX8_isLed_96 : decode cX8_isLed 96 = .ok (.iconst 0, 1) := by decide +kernel
theorem dX8_isLed_97 : decode cX8_isLed 97 = .ok (.istore_n 2, 1) := by decide +kernel
theorem dX8_isLed_98 : decode cX8_isLed 98 = .ok (.iinc 3 1, 3) := by decide +kernel
theorem dX8_isLed_101 : decode cX8_isLed 101 = .ok (.goto (-97), 3) := by decide +kernel
theorem dX8_isLed_104 : decode cX8_isLed 104 = .ok (.iload_n 2, 1) := by decide +kernel
theorem dX8_isLed_105 : decode cX8_isLed 105 = .ok (.ireturn, 1) := by decide +kernel
theorem dX8_only_0 : decode cX8_only 0 = .ok (.iconst 0, 1) := by decide +kernel
theorem dX8_only_1 : decode cX8_only 1 = .ok (.istore_n 1, 1) := by decide +kernel
theorem dX8_only_2 : decode cX8_only 2 = .ok (.iload_n 0, 1) := by decide +kernel
theorem dX8_only_3 : decode cX8_only 3 = .ok (.iload_n 1, 1) := by decide +kernel
theorem dX8_only_4 : decode cX8_only 4 = .ok (.ishr, 1) := by decide +kernel
theorem dX8_only_5 : decode cX8_only 5 = .ok (.iconst 1, 1) := by decide +kernel
theorem dX8_only_6 : decode cX8_only 6 = .ok (.iand, 1) := by decide +kernel
theorem dX8_only_7 : decode cX8_only 7 = .ok (.ifCond .ne 9, 3) := by decide +kernel
theorem dX8_only_10 : decode cX8_only 10 = .ok (.iinc 1 1, 3) := by decide +kernel
theorem dX8_only_13 : decode cX8_only 13 = .ok (.goto (-11), 3) := by decide +kernel
theorem dX8_only_16 : decode cX8_only 16 = .ok (.iload_n 1, 1) := by decide +kernel
theorem dX8_only_17 : decode cX8_only 17 = .ok (.ireturn, 1) := by decide +kernel
theorem dX8_about_0 : decode cX8_about 0 = .ok (.iload_n 1, 1) := by decide +kernel
theorem dX8_about_1 : decode cX8_about 1 = .ok (.tableswitch 133 0 8 #[51, 56, 89, 96, 103, 108, 115, 123, 128], 51) := by decide +kernel
theorem dX8_about_52 : decode cX8_about 52 = .ok (.aload_n 0, 1) := by decide +kernel
theorem dX8_about_53 : decode cX8_about 53 = .ok (.invokevirtual 62, 3) := by decide +kernel
theorem dX8_about_56 : decode cX8_about 56 = .ok (.ireturn, 1) := by decide +kernel
theorem dX8_about_57 : decode cX8_about 57 = .ok (.iconst 0, 1) := by decide +kernel
theorem dX8_about_58 : decode cX8_about 58 = .ok (.istore_n 2, 1) := by decide +kernel
theorem dX8_about_59 : decode cX8_about 59 = .ok (.iconst 0, 1) := by decide +kernel
theorem dX8_about_60 : decode cX8_about 60 = .ok (.istore_n 3, 1) := by decide +kernel
theorem dX8_about_61 : decode cX8_about 61 = .ok (.iload_n 3, 1) := by decide +kernel
theorem dX8_about_62 : decode cX8_about 62 = .ok (.aload_n 0, 1) := by decide +kernel
theorem dX8_about_63 : decode cX8_about 63 = .ok (.invokevirtual 62, 3) := by decide +kernel
theorem dX8_about_66 : decode cX8_about 66 = .ok (.if_icmp .ge 20, 3) := by decide +kernel
theorem dX8_about_69 : decode cX8_about 69 = .ok (.iload_n 2, 1) := by decide +kernel
theorem dX8_about_70 : decode cX8_about 70 = .ok (.aload_n 0, 1) := by decide +kernel
theorem dX8_about_71 : decode cX8_about 71 = .ok (.iload_n 3, 1) := by decide +kernel
theorem dX8_about_72 : decode cX8_about 72 = .ok (.invokevirtual 98, 3) := by decide +kernel
theorem dX8_about_75 : decode cX8_about 75 = .ok (.invokestatic 102, 3) := by decide +kernel
theorem dX8_about_78 : decode cX8_about 78 = .ok (.iadd, 1) := by decide +kernel
theorem dX8_about_79 : decode cX8_about 79 = .ok (.istore_n 2, 1) := by decide +kernel
theorem dX8_about_80 : decode cX8_about 80 = .ok (.iinc 3 1, 3) := by decide +kernel
theorem dX8_about_83 : decode cX8_about 83 = .ok (.goto (-22), 3) := by decide +kernel
theorem dX8_about_86 : decode cX8_about 86 = .ok (.iload_n 2, 1) := by decide +kernel
theorem dX8_about_87 : decode cX8_about 87 = .ok (.iconst 2, 1) := by decide +kernel
theorem dX8_about_88 : decode cX8_about 88 = .ok (.idiv, 1) := by decide +kernel
theorem dX8_about_89 : decode cX8_about 89 = .ok (.ireturn, 1) := by decide +kernel
theorem dX8_about_90 : decode cX8_about 90 = .ok (.aload_n 0, 1) := by decide +kernel
theorem dX8_about_91 : decode cX8_about 91 = .ok (.getfield 7, 3) := by decide +kernel
theorem dX8_about_94 : decode cX8_about 94 = .ok (.iconst 1, 1) := by decide +kernel
theorem dX8_about_95 : decode cX8_about 95 = .ok (.iaload, 1) := by decide +kernel
theorem dX8_about_96 : decode cX8_about 96 = .ok (.ireturn, 1) := by decide +kernel
theorem dX8_about_97 : decode cX8_about 97 = .ok (.aload_n 0, 1) := by decide +kernel
theorem dX8_about_98 : decode cX8_about 98 = .ok (.getfield 7, 3) := by decide +kernel
theorem dX8_about_101 : decode cX8_about 101 = .ok (.iconst 2, 1) := by decide +kernel
theorem dX8_about_102 : decode cX8_about 102 = .ok (.iaload, 1) := by decide +kernel
theorem dX8_about_103 : decode cX8_about 103 = .ok (.ireturn, 1) := by decide +kernel
theorem dX8_about_104 : decode cX8_about 104 = .ok (.aload_n 0, 1) := by decide +kernel
theorem dX8_about_105 : decode cX8_about 105 = .ok (.invokevirtual 95, 3) := by decide +kernel
theorem dX8_about_108 : decode cX8_about 108 = .ok (.ireturn, 1) := by decide +kernel
theorem dX8_about_109 : decode cX8_about 109 = .ok (.aload_n 0, 1) := by decide +kernel
theorem dX8_about_110 : decode cX8_about 110 = .ok (.getfield 7, 3) := by decide +kernel
theorem dX8_about_113 : decode cX8_about 113 = .ok (.iconst 5, 1) := by decide +kernel
theorem dX8_about_114 : decode cX8_about 114 = .ok (.iaload, 1) := by decide +kernel
theorem dX8_about_115 : decode cX8_about 115 = .ok (.ireturn, 1) := by decide +kernel
theorem dX8_about_116 : decode cX8_about 116 = .ok (.aload_n 0, 1) := by decide +kernel
theorem dX8_about_117 : decode cX8_about 117 = .ok (.getfield 7, 3) := by decide +kernel
theorem dX8_about_120 : decode cX8_about 120 = .ok (.bipush 6, 2) := by decide +kernel
theorem dX8_about_122 : decode cX8_about 122 = .ok (.iaload, 1) := by decide +kernel
theorem dX8_about_123 : decode cX8_about 123 = .ok (.ireturn, 1) := by decide +kernel
theorem dX8_about_124 : decode cX8_about 124 = .ok (.aload_n 0, 1) := by decide +kernel
theorem dX8_about_125 : decode cX8_about 125 = .ok (.getfield 59, 3) := by decide +kernel
theorem dX8_about_128 : decode cX8_about 128 = .ok (.ireturn, 1) := by decide +kernel
theorem dX8_about_129 : decode cX8_about 129 = .ok (.aload_n 0, 1) := by decide +kernel
theorem dX8_about_130 : decode cX8_about 130 = .ok (.getfield 89, 3) := by decide +kernel
theorem dX8_about_133 : decode cX8_about 133 = .ok (.ireturn, 1) := by decide +kernel
theorem dX8_about_134 : decode cX8_about 134 = .ok (.iconst (-1), 1) := by decide +kernel
theorem dX8_about_135 : decode cX8_about 135 = .ok (.ireturn, 1) := by decide +kernel
