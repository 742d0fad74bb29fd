/-! decode rows (printed by wip/tools/p09.py) -/
theorem d_Mo_reach_0 : decode prog_14_method_107_code 0 = .ok (.aload_n 0, 1) := by decide +kernel
theorem d_Mo_reach_1 : decode prog_14_method_107_code 1 = .ok (.iconst 0, 1) := by decide +kernel
theorem d_Mo_reach_2 : decode prog_14_method_107_code 2 = .ok (.putfield 70, 3) := by decide +kernel
theorem d_Mo_reach_5 : decode prog_14_method_107_code 5 = .ok (.aload_n 0, 1) := by decide +kernel
theorem d_Mo_reach_6 : decode prog_14_method_107_code 6 = .ok (.aload_n 0, 1) := by decide +kernel
theorem d_Mo_reach_7 : decode prog_14_method_107_code 7 = .ok (.iload_n 1, 1) := by decide +kernel
theorem d_Mo_reach_8 : decode prog_14_method_107_code 8 = .ok (.invokevirtual 380, 3) := by decide +kernel
theorem d_Mo_reach_11 : decode prog_14_method_107_code 11 = .ok (.putfield 73, 3) := by decide +kernel
theorem d_Mo_reach_14 : decode prog_14_method_107_code 14 = .ok (.aload_n 0, 1) := by decide +kernel
theorem d_Mo_reach_15 : decode prog_14_method_107_code 15 = .ok (.getfield 73, 3) := by decide +kernel
theorem d_Mo_reach_18 : decode prog_14_method_107_code 18 = .ok (.ifCond .le 5, 3) := by decide +kernel
theorem d_Mo_reach_21 : decode prog_14_method_107_code 21 = .ok (.iconst (-1), 1) := by decide +kernel
theorem d_Mo_reach_22 : decode prog_14_method_107_code 22 = .ok (.ireturn, 1) := by decide +kernel
theorem d_Mo_reach_23 : decode prog_14_method_107_code 23 = .ok (.iconst 1, 1) := by decide +kernel
theorem d_Mo_reach_24 : decode prog_14_method_107_code 24 = .ok (.aload_n 0, 1) := by decide +kernel
theorem d_Mo_reach_25 : decode prog_14_method_107_code 25 = .ok (.getfield 35, 3) := by decide +kernel
theorem d_Mo_reach_28 : decode prog_14_method_107_code 28 = .ok (.bipush 42, 2) := by decide +kernel
theorem d_Mo_reach_30 : decode prog_14_method_107_code 30 = .ok (.iload_n 1, 1) := by decide +kernel
theorem d_Mo_reach_31 : decode prog_14_method_107_code 31 = .ok (.iadd, 1) := by decide +kernel
theorem d_Mo_reach_32 : decode prog_14_method_107_code 32 = .ok (.iaload, 1) := by decide +kernel
theorem d_Mo_reach_33 : decode prog_14_method_107_code 33 = .ok (.ishl, 1) := by decide +kernel
theorem d_Mo_reach_34 : decode prog_14_method_107_code 34 = .ok (.istore_n 2, 1) := by decide +kernel
theorem d_Mo_reach_35 : decode prog_14_method_107_code 35 = .ok (.iconst 0, 1) := by decide +kernel
theorem d_Mo_reach_36 : decode prog_14_method_107_code 36 = .ok (.istore_n 3, 1) := by decide +kernel
theorem d_Mo_reach_37 : decode prog_14_method_107_code 37 = .ok (.iload_n 3, 1) := by decide +kernel
theorem d_Mo_reach_38 : decode prog_14_method_107_code 38 = .ok (.bipush 7, 2) := by decide +kernel
theorem d_Mo_reach_40 : decode prog_14_method_107_code 40 = .ok (.if_icmp .ge 52, 3) := by decide +kernel
theorem d_Mo_reach_43 : decode prog_14_method_107_code 43 = .ok (.iconst 0, 1) := by decide +kernel
theorem d_Mo_reach_44 : decode prog_14_method_107_code 44 = .ok (.istore 4, 2) := by decide +kernel
theorem d_Mo_reach_46 : decode prog_14_method_107_code 46 = .ok (.iload 4, 2) := by decide +kernel
theorem d_Mo_reach_48 : decode prog_14_method_107_code 48 = .ok (.aload_n 0, 1) := by decide +kernel
theorem d_Mo_reach_49 : decode prog_14_method_107_code 49 = .ok (.getfield 35, 3) := by decide +kernel
theorem d_Mo_reach_52 : decode prog_14_method_107_code 52 = .ok (.iconst 1, 1) := by decide +kernel
theorem d_Mo_reach_53 : decode prog_14_method_107_code 53 = .ok (.iaload, 1) := by decide +kernel
theorem d_Mo_reach_54 : decode prog_14_method_107_code 54 = .ok (.if_icmp .ge 32, 3) := by decide +kernel
theorem d_Mo_reach_57 : decode prog_14_method_107_code 57 = .ok (.iload_n 2, 1) := by decide +kernel
theorem d_Mo_reach_58 : decode prog_14_method_107_code 58 = .ok (.iload_n 2, 1) := by decide +kernel
theorem d_Mo_reach_59 : decode prog_14_method_107_code 59 = .ok (.iload 4, 2) := by decide +kernel
theorem d_Mo_reach_61 : decode prog_14_method_107_code 61 = .ok (.invokestatic 109, 3) := by decide +kernel
theorem d_Mo_reach_64 : decode prog_14_method_107_code 64 = .ok (.ifCond .eq 13, 3) := by decide +kernel
theorem d_Mo_reach_67 : decode prog_14_method_107_code 67 = .ok (.aload_n 0, 1) := by decide +kernel
theorem d_Mo_reach_68 : decode prog_14_method_107_code 68 = .ok (.iload_n 1, 1) := by decide +kernel
theorem d_Mo_reach_69 : decode prog_14_method_107_code 69 = .ok (.iload 4, 2) := by decide +kernel
theorem d_Mo_reach_71 : decode prog_14_method_107_code 71 = .ok (.invokevirtual 357, 3) := by decide +kernel
theorem d_Mo_reach_74 : decode prog_14_method_107_code 74 = .ok (.goto 4, 3) := by decide +kernel
theorem d_Mo_reach_77 : decode prog_14_method_107_code 77 = .ok (.iconst 0, 1) := by decide +kernel
theorem d_Mo_reach_78 : decode prog_14_method_107_code 78 = .ok (.ior, 1) := by decide +kernel
theorem d_Mo_reach_79 : decode prog_14_method_107_code 79 = .ok (.istore_n 2, 1) := by decide +kernel
theorem d_Mo_reach_80 : decode prog_14_method_107_code 80 = .ok (.iinc 4 1, 3) := by decide +kernel
theorem d_Mo_reach_83 : decode prog_14_method_107_code 83 = .ok (.goto (-37), 3) := by decide +kernel
theorem d_Mo_reach_86 : decode prog_14_method_107_code 86 = .ok (.iinc 3 1, 3) := by decide +kernel
theorem d_Mo_reach_89 : decode prog_14_method_107_code 89 = .ok (.goto (-52), 3) := by decide +kernel
theorem d_Mo_reach_92 : decode prog_14_method_107_code 92 = .ok (.iload_n 2, 1) := by decide +kernel
theorem d_Mo_reach_93 : decode prog_14_method_107_code 93 = .ok (.ireturn, 1) := by decide +kernel
theorem d_Mo_whyNoTin_0 : decode prog_14_method_106_code 0 = .ok (.aload_n 0, 1) := by decide +kernel
theorem d_Mo_whyNoTin_1 : decode prog_14_method_106_code 1 = .ok (.iload_n 1, 1) := by decide +kernel
theorem d_Mo_whyNoTin_2 : decode prog_14_method_106_code 2 = .ok (.invokevirtual 344, 3) := by decide +kernel
theorem d_Mo_whyNoTin_5 : decode prog_14_method_106_code 5 = .ok (.ifCond .ne 7, 3) := by decide +kernel
theorem d_Mo_whyNoTin_8 : decode prog_14_method_106_code 8 = .ok (.iconst 2, 1) := by decide +kernel
theorem d_Mo_whyNoTin_9 : decode prog_14_method_106_code 9 = .ok (.goto 17, 3) := by decide +kernel
theorem d_Mo_whyNoTin_12 : decode prog_14_method_106_code 12 = .ok (.aload_n 0, 1) := by decide +kernel
theorem d_Mo_whyNoTin_13 : decode prog_14_method_106_code 13 = .ok (.iload_n 1, 1) := by decide +kernel
theorem d_Mo_whyNoTin_14 : decode prog_14_method_106_code 14 = .ok (.invokevirtual 310, 3) := by decide +kernel
theorem d_Mo_whyNoTin_17 : decode prog_14_method_106_code 17 = .ok (.ifCond .eq 8, 3) := by decide +kernel
theorem d_Mo_whyNoTin_20 : decode prog_14_method_106_code 20 = .ok (.bipush 9, 2) := by decide +kernel
theorem d_Mo_whyNoTin_22 : decode prog_14_method_106_code 22 = .ok (.goto 4, 3) := by decide +kernel
theorem d_Mo_whyNoTin_25 : decode prog_14_method_106_code 25 = .ok (.iconst 0, 1) := by decide +kernel
theorem d_Mo_whyNoTin_26 : decode prog_14_method_106_code 26 = .ok (.ireturn, 1) := by decide +kernel
theorem d_Mo_next_0 : decode prog_14_method_108_code 0 = .ok (.aload_n 0, 1) := by decide +kernel
theorem d_Mo_next_1 : decode prog_14_method_108_code 1 = .ok (.iconst 0, 1) := by decide +kernel
theorem d_Mo_next_2 : decode prog_14_method_108_code 2 = .ok (.putfield 70, 3) := by decide +kernel
theorem d_Mo_next_5 : decode prog_14_method_108_code 5 = .ok (.aload_n 0, 1) := by decide +kernel
theorem d_Mo_next_6 : decode prog_14_method_108_code 6 = .ok (.aload_n 0, 1) := by decide +kernel
theorem d_Mo_next_7 : decode prog_14_method_108_code 7 = .ok (.iload_n 1, 1) := by decide +kernel
theorem d_Mo_next_8 : decode prog_14_method_108_code 8 = .ok (.invokevirtual 380, 3) := by decide +kernel
theorem d_Mo_next_11 : decode prog_14_method_108_code 11 = .ok (.putfield 73, 3) := by decide +kernel
theorem d_Mo_next_14 : decode prog_14_method_108_code 14 = .ok (.aload_n 0, 1) := by decide +kernel
theorem d_Mo_next_15 : decode prog_14_method_108_code 15 = .ok (.getfield 73, 3) := by decide +kernel
theorem d_Mo_next_18 : decode prog_14_method_108_code 18 = .ok (.ifCond .le 7, 3) := by decide +kernel
theorem d_Mo_next_21 : decode prog_14_method_108_code 21 = .ok (.iconst (-1), 1) := by decide +kernel
theorem d_Mo_next_22 : decode prog_14_method_108_code 22 = .ok (.goto 17, 3) := by decide +kernel
theorem d_Mo_next_25 : decode prog_14_method_108_code 25 = .ok (.aload_n 0, 1) := by decide +kernel
theorem d_Mo_next_26 : decode prog_14_method_108_code 26 = .ok (.iload_n 1, 1) := by decide +kernel
theorem d_Mo_next_27 : decode prog_14_method_108_code 27 = .ok (.aload_n 0, 1) := by decide +kernel
theorem d_Mo_next_28 : decode prog_14_method_108_code 28 = .ok (.getfield 35, 3) := by decide +kernel
theorem d_Mo_next_31 : decode prog_14_method_108_code 31 = .ok (.bipush 42, 2) := by decide +kernel
theorem d_Mo_next_33 : decode prog_14_method_108_code 33 = .ok (.iload_n 1, 1) := by decide +kernel
theorem d_Mo_next_34 : decode prog_14_method_108_code 34 = .ok (.iadd, 1) := by decide +kernel
theorem d_Mo_next_35 : decode prog_14_method_108_code 35 = .ok (.iaload, 1) := by decide +kernel
theorem d_Mo_next_36 : decode prog_14_method_108_code 36 = .ok (.invokevirtual 357, 3) := by decide +kernel
theorem d_Mo_next_39 : decode prog_14_method_108_code 39 = .ok (.ireturn, 1) := by decide +kernel
theorem d_Mo_round_0 : decode prog_14_method_111_code 0 = .ok (.aload_n 0, 1) := by decide +kernel
theorem d_Mo_round_1 : decode prog_14_method_111_code 1 = .ok (.iconst 0, 1) := by decide +kernel
theorem d_Mo_round_2 : decode prog_14_method_111_code 2 = .ok (.putfield 70, 3) := by decide +kernel
theorem d_Mo_round_5 : decode prog_14_method_111_code 5 = .ok (.aload_n 0, 1) := by decide +kernel
theorem d_Mo_round_6 : decode prog_14_method_111_code 6 = .ok (.aload_n 0, 1) := by decide +kernel
theorem d_Mo_round_7 : decode prog_14_method_111_code 7 = .ok (.iload_n 1, 1) := by decide +kernel
theorem d_Mo_round_8 : decode prog_14_method_111_code 8 = .ok (.invokevirtual 380, 3) := by decide +kernel
theorem d_Mo_round_11 : decode prog_14_method_111_code 11 = .ok (.putfield 73, 3) := by decide +kernel
theorem d_Mo_round_14 : decode prog_14_method_111_code 14 = .ok (.aload_n 0, 1) := by decide +kernel
theorem d_Mo_round_15 : decode prog_14_method_111_code 15 = .ok (.getfield 73, 3) := by decide +kernel
theorem d_Mo_round_18 : decode prog_14_method_111_code 18 = .ok (.ifCond .le 5, 3) := by decide +kernel
theorem d_Mo_round_21 : decode prog_14_method_111_code 21 = .ok (.iconst (-1), 1) := by decide +kernel
theorem d_Mo_round_22 : decode prog_14_method_111_code 22 = .ok (.ireturn, 1) := by decide +kernel
theorem d_Mo_round_23 : decode prog_14_method_111_code 23 = .ok (.aload_n 0, 1) := by decide +kernel
theorem d_Mo_round_24 : decode prog_14_method_111_code 24 = .ok (.iload_n 1, 1) := by decide +kernel
theorem d_Mo_round_25 : decode prog_14_method_111_code 25 = .ok (.invokevirtual 389, 3) := by decide +kernel
theorem d_Mo_round_28 : decode prog_14_method_111_code 28 = .ok (.aload_n 0, 1) := by decide +kernel
theorem d_Mo_round_29 : decode prog_14_method_111_code 29 = .ok (.getfield 383, 3) := by decide +kernel
theorem d_Mo_round_32 : decode prog_14_method_111_code 32 = .ok (.ireturn, 1) := by decide +kernel
theorem d_Mo_laysRound_0 : decode prog_14_method_110_code 0 = .ok (.aload_n 0, 1) := by decide +kernel
theorem d_Mo_laysRound_1 : decode prog_14_method_110_code 1 = .ok (.iconst 0, 1) := by decide +kernel
theorem d_Mo_laysRound_2 : decode prog_14_method_110_code 2 = .ok (.putfield 383, 3) := by decide +kernel
theorem d_Mo_laysRound_5 : decode prog_14_method_110_code 5 = .ok (.aload_n 0, 1) := by decide +kernel
theorem d_Mo_laysRound_6 : decode prog_14_method_110_code 6 = .ok (.getfield 47, 3) := by decide +kernel
theorem d_Mo_laysRound_9 : decode prog_14_method_110_code 9 = .ok (.iconst 0, 1) := by decide +kernel
theorem d_Mo_laysRound_10 : decode prog_14_method_110_code 10 = .ok (.aload_n 0, 1) := by decide +kernel
theorem d_Mo_laysRound_11 : decode prog_14_method_110_code 11 = .ok (.getfield 35, 3) := by decide +kernel
theorem d_Mo_laysRound_14 : decode prog_14_method_110_code 14 = .ok (.bipush 42, 2) := by decide +kernel
theorem d_Mo_laysRound_16 : decode prog_14_method_110_code 16 = .ok (.iload_n 1, 1) := by decide +kernel
theorem d_Mo_laysRound_17 : decode prog_14_method_110_code 17 = .ok (.iadd, 1) := by decide +kernel
theorem d_Mo_laysRound_18 : decode prog_14_method_110_code 18 = .ok (.iaload, 1) := by decide +kernel
theorem d_Mo_laysRound_19 : decode prog_14_method_110_code 19 = .ok (.iastore, 1) := by decide +kernel
theorem d_Mo_laysRound_20 : decode prog_14_method_110_code 20 = .ok (.aload_n 0, 1) := by decide +kernel
theorem d_Mo_laysRound_21 : decode prog_14_method_110_code 21 = .ok (.iload_n 1, 1) := by decide +kernel
theorem d_Mo_laysRound_22 : decode prog_14_method_110_code 22 = .ok (.iconst 1, 1) := by decide +kernel
theorem d_Mo_laysRound_23 : decode prog_14_method_110_code 23 = .ok (.iconst 1, 1) := by decide +kernel
theorem d_Mo_laysRound_24 : decode prog_14_method_110_code 24 = .ok (.aload_n 0, 1) := by decide +kernel
theorem d_Mo_laysRound_25 : decode prog_14_method_110_code 25 = .ok (.getfield 47, 3) := by decide +kernel
theorem d_Mo_laysRound_28 : decode prog_14_method_110_code 28 = .ok (.iconst 0, 1) := by decide +kernel
theorem d_Mo_laysRound_29 : decode prog_14_method_110_code 29 = .ok (.iaload, 1) := by decide +kernel
theorem d_Mo_laysRound_30 : decode prog_14_method_110_code 30 = .ok (.ishl, 1) := by decide +kernel
theorem d_Mo_laysRound_31 : decode prog_14_method_110_code 31 = .ok (.invokevirtual 386, 3) := by decide +kernel
theorem d_Mo_laysRound_34 : decode prog_14_method_110_code 34 = .ok (.return_, 1) := by decide +kernel
theorem d_Mo_goesRound_0 : decode prog_14_method_109_code 0 = .ok (.aload_n 0, 1) := by decide +kernel
theorem d_Mo_goesRound_1 : decode prog_14_method_109_code 1 = .ok (.iload_n 1, 1) := by decide +kernel
theorem d_Mo_goesRound_2 : decode prog_14_method_109_code 2 = .ok (.aload_n 0, 1) := by decide +kernel
theorem d_Mo_goesRound_3 : decode prog_14_method_109_code 3 = .ok (.getfield 47, 3) := by decide +kernel
theorem d_Mo_goesRound_6 : decode prog_14_method_109_code 6 = .ok (.iload_n 2, 1) := by decide +kernel
theorem d_Mo_goesRound_7 : decode prog_14_method_109_code 7 = .ok (.iconst 1, 1) := by decide +kernel
theorem d_Mo_goesRound_8 : decode prog_14_method_109_code 8 = .ok (.isub, 1) := by decide +kernel
theorem d_Mo_goesRound_9 : decode prog_14_method_109_code 9 = .ok (.iaload, 1) := by decide +kernel
theorem d_Mo_goesRound_10 : decode prog_14_method_109_code 10 = .ok (.invokevirtual 357, 3) := by decide +kernel
theorem d_Mo_goesRound_13 : decode prog_14_method_109_code 13 = .ok (.iload_n 3, 1) := by decide +kernel
theorem d_Mo_goesRound_14 : decode prog_14_method_109_code 14 = .ok (.iconst (-1), 1) := by decide +kernel
theorem d_Mo_goesRound_15 : decode prog_14_method_109_code 15 = .ok (.ixor, 1) := by decide +kernel
theorem d_Mo_goesRound_16 : decode prog_14_method_109_code 16 = .ok (.iand, 1) := by decide +kernel
theorem d_Mo_goesRound_17 : decode prog_14_method_109_code 17 = .ok (.istore 4, 2) := by decide +kernel
theorem d_Mo_goesRound_19 : decode prog_14_method_109_code 19 = .ok (.iload_n 2, 1) := by decide +kernel
theorem d_Mo_goesRound_20 : decode prog_14_method_109_code 20 = .ok (.aload_n 0, 1) := by decide +kernel
theorem d_Mo_goesRound_21 : decode prog_14_method_109_code 21 = .ok (.getfield 383, 3) := by decide +kernel
theorem d_Mo_goesRound_24 : decode prog_14_method_109_code 24 = .ok (.if_icmp .le 37, 3) := by decide +kernel
theorem d_Mo_goesRound_27 : decode prog_14_method_109_code 27 = .ok (.aload_n 0, 1) := by decide +kernel
theorem d_Mo_goesRound_28 : decode prog_14_method_109_code 28 = .ok (.iload_n 2, 1) := by decide +kernel
theorem d_Mo_goesRound_29 : decode prog_14_method_109_code 29 = .ok (.putfield 383, 3) := by decide +kernel
theorem d_Mo_goesRound_32 : decode prog_14_method_109_code 32 = .ok (.iconst 0, 1) := by decide +kernel
theorem d_Mo_goesRound_33 : decode prog_14_method_109_code 33 = .ok (.istore 5, 2) := by decide +kernel
theorem d_Mo_goesRound_35 : decode prog_14_method_109_code 35 = .ok (.iload 5, 2) := by decide +kernel
theorem d_Mo_goesRound_37 : decode prog_14_method_109_code 37 = .ok (.iload_n 2, 1) := by decide +kernel
theorem d_Mo_goesRound_38 : decode prog_14_method_109_code 38 = .ok (.if_icmp .ge 23, 3) := by decide +kernel
theorem d_Mo_goesRound_41 : decode prog_14_method_109_code 41 = .ok (.aload_n 0, 1) := by decide +kernel
theorem d_Mo_goesRound_42 : decode prog_14_method_109_code 42 = .ok (.getfield 50, 3) := by decide +kernel
theorem d_Mo_goesRound_45 : decode prog_14_method_109_code 45 = .ok (.iload 5, 2) := by decide +kernel
theorem d_Mo_goesRound_47 : decode prog_14_method_109_code 47 = .ok (.aload_n 0, 1) := by decide +kernel
theorem d_Mo_goesRound_48 : decode prog_14_method_109_code 48 = .ok (.getfield 47, 3) := by decide +kernel
theorem d_Mo_goesRound_51 : decode prog_14_method_109_code 51 = .ok (.iload 5, 2) := by decide +kernel
theorem d_Mo_goesRound_53 : decode prog_14_method_109_code 53 = .ok (.iaload, 1) := by decide +kernel
theorem d_Mo_goesRound_54 : decode prog_14_method_109_code 54 = .ok (.iastore, 1) := by decide +kernel
theorem d_Mo_goesRound_55 : decode prog_14_method_109_code 55 = .ok (.iinc 5 1, 3) := by decide +kernel
theorem d_Mo_goesRound_58 : decode prog_14_method_109_code 58 = .ok (.goto (-23), 3) := by decide +kernel
theorem d_Mo_goesRound_61 : decode prog_14_method_109_code 61 = .ok (.iconst 0, 1) := by decide +kernel
theorem d_Mo_goesRound_62 : decode prog_14_method_109_code 62 = .ok (.istore 5, 2) := by decide +kernel
theorem d_Mo_goesRound_64 : decode prog_14_method_109_code 64 = .ok (.iload 5, 2) := by decide +kernel
theorem d_Mo_goesRound_66 : decode prog_14_method_109_code 66 = .ok (.bipush 7, 2) := by decide +kernel
theorem d_Mo_goesRound_68 : decode prog_14_method_109_code 68 = .ok (.if_icmp .ge 44, 3) := by decide +kernel
theorem d_Mo_goesRound_71 : decode prog_14_method_109_code 71 = .ok (.iload 4, 2) := by decide +kernel
theorem d_Mo_goesRound_73 : decode prog_14_method_109_code 73 = .ok (.iload 5, 2) := by decide +kernel
theorem d_Mo_goesRound_75 : decode prog_14_method_109_code 75 = .ok (.invokestatic 109, 3) := by decide +kernel
theorem d_Mo_goesRound_78 : decode prog_14_method_109_code 78 = .ok (.ifCond .ne 6, 3) := by decide +kernel
theorem d_Mo_goesRound_81 : decode prog_14_method_109_code 81 = .ok (.goto 25, 3) := by decide +kernel
theorem d_Mo_goesRound_84 : decode prog_14_method_109_code 84 = .ok (.aload_n 0, 1) := by decide +kernel
theorem d_Mo_goesRound_85 : decode prog_14_method_109_code 85 = .ok (.getfield 47, 3) := by decide +kernel
theorem d_Mo_goesRound_88 : decode prog_14_method_109_code 88 = .ok (.iload_n 2, 1) := by decide +kernel
theorem d_Mo_goesRound_89 : decode prog_14_method_109_code 89 = .ok (.iload 5, 2) := by decide +kernel
theorem d_Mo_goesRound_91 : decode prog_14_method_109_code 91 = .ok (.iastore, 1) := by decide +kernel
theorem d_Mo_goesRound_92 : decode prog_14_method_109_code 92 = .ok (.aload_n 0, 1) := by decide +kernel
theorem d_Mo_goesRound_93 : decode prog_14_method_109_code 93 = .ok (.iload_n 1, 1) := by decide +kernel
theorem d_Mo_goesRound_94 : decode prog_14_method_109_code 94 = .ok (.iload_n 2, 1) := by decide +kernel
theorem d_Mo_goesRound_95 : decode prog_14_method_109_code 95 = .ok (.iconst 1, 1) := by decide +kernel
theorem d_Mo_goesRound_96 : decode prog_14_method_109_code 96 = .ok (.iadd, 1) := by decide +kernel
theorem d_Mo_goesRound_97 : decode prog_14_method_109_code 97 = .ok (.iload_n 3, 1) := by decide +kernel
theorem d_Mo_goesRound_98 : decode prog_14_method_109_code 98 = .ok (.iconst 1, 1) := by decide +kernel
theorem d_Mo_goesRound_99 : decode prog_14_method_109_code 99 = .ok (.iload 5, 2) := by decide +kernel
theorem d_Mo_goesRound_101 : decode prog_14_method_109_code 101 = .ok (.ishl, 1) := by decide +kernel
theorem d_Mo_goesRound_102 : decode prog_14_method_109_code 102 = .ok (.ior, 1) := by decide +kernel
theorem d_Mo_goesRound_103 : decode prog_14_method_109_code 103 = .ok (.invokevirtual 386, 3) := by decide +kernel
theorem d_Mo_goesRound_106 : decode prog_14_method_109_code 106 = .ok (.iinc 5 1, 3) := by decide +kernel
theorem d_Mo_goesRound_109 : decode prog_14_method_109_code 109 = .ok (.goto (-45), 3) := by decide +kernel
theorem d_Mo_goesRound_112 : decode prog_14_method_109_code 112 = .ok (.return_, 1) := by decide +kernel
theorem d_Mo_roundAt_0 : decode prog_14_method_112_code 0 = .ok (.aload_n 0, 1) := by decide +kernel
theorem d_Mo_roundAt_1 : decode prog_14_method_112_code 1 = .ok (.iconst 0, 1) := by decide +kernel
theorem d_Mo_roundAt_2 : decode prog_14_method_112_code 2 = .ok (.putfield 70, 3) := by decide +kernel
theorem d_Mo_roundAt_5 : decode prog_14_method_112_code 5 = .ok (.aload_n 0, 1) := by decide +kernel
theorem d_Mo_roundAt_6 : decode prog_14_method_112_code 6 = .ok (.aload_n 0, 1) := by decide +kernel
theorem d_Mo_roundAt_7 : decode prog_14_method_112_code 7 = .ok (.iload_n 1, 1) := by decide +kernel
theorem d_Mo_roundAt_8 : decode prog_14_method_112_code 8 = .ok (.invokevirtual 380, 3) := by decide +kernel
theorem d_Mo_roundAt_11 : decode prog_14_method_112_code 11 = .ok (.putfield 73, 3) := by decide +kernel
theorem d_Mo_roundAt_14 : decode prog_14_method_112_code 14 = .ok (.aload_n 0, 1) := by decide +kernel
theorem d_Mo_roundAt_15 : decode prog_14_method_112_code 15 = .ok (.getfield 73, 3) := by decide +kernel
theorem d_Mo_roundAt_18 : decode prog_14_method_112_code 18 = .ok (.ifCond .le 5, 3) := by decide +kernel
theorem d_Mo_roundAt_21 : decode prog_14_method_112_code 21 = .ok (.iconst (-1), 1) := by decide +kernel
theorem d_Mo_roundAt_22 : decode prog_14_method_112_code 22 = .ok (.ireturn, 1) := by decide +kernel
theorem d_Mo_roundAt_23 : decode prog_14_method_112_code 23 = .ok (.aload_n 0, 1) := by decide +kernel
theorem d_Mo_roundAt_24 : decode prog_14_method_112_code 24 = .ok (.iload_n 1, 1) := by decide +kernel
theorem d_Mo_roundAt_25 : decode prog_14_method_112_code 25 = .ok (.invokevirtual 389, 3) := by decide +kernel
theorem d_Mo_roundAt_28 : decode prog_14_method_112_code 28 = .ok (.iload_n 2, 1) := by decide +kernel
theorem d_Mo_roundAt_29 : decode prog_14_method_112_code 29 = .ok (.i2l, 1) := by decide +kernel
theorem d_Mo_roundAt_30 : decode prog_14_method_112_code 30 = .ok (.lconst 0, 1) := by decide +kernel
theorem d_Mo_roundAt_31 : decode prog_14_method_112_code 31 = .ok (.aload_n 0, 1) := by decide +kernel
theorem d_Mo_roundAt_32 : decode prog_14_method_112_code 32 = .ok (.getfield 383, 3) := by decide +kernel
theorem d_Mo_roundAt_35 : decode prog_14_method_112_code 35 = .ok (.iconst 1, 1) := by decide +kernel
theorem d_Mo_roundAt_36 : decode prog_14_method_112_code 36 = .ok (.isub, 1) := by decide +kernel
theorem d_Mo_roundAt_37 : decode prog_14_method_112_code 37 = .ok (.i2l, 1) := by decide +kernel
theorem d_Mo_roundAt_38 : decode prog_14_method_112_code 38 = .ok (.invokestatic 105, 3) := by decide +kernel
theorem d_Mo_roundAt_41 : decode prog_14_method_112_code 41 = .ok (.ifCond .eq 12, 3) := by decide +kernel
theorem d_Mo_roundAt_44 : decode prog_14_method_112_code 44 = .ok (.aload_n 0, 1) := by decide +kernel
theorem d_Mo_roundAt_45 : decode prog_14_method_112_code 45 = .ok (.getfield 50, 3) := by decide +kernel
theorem d_Mo_roundAt_48 : decode prog_14_method_112_code 48 = .ok (.iload_n 2, 1) := by decide +kernel
theorem d_Mo_roundAt_49 : decode prog_14_method_112_code 49 = .ok (.iaload, 1) := by decide +kernel
theorem d_Mo_roundAt_50 : decode prog_14_method_112_code 50 = .ok (.goto 9, 3) := by decide +kernel
theorem d_Mo_roundAt_53 : decode prog_14_method_112_code 53 = .ok (.aload_n 0, 1) := by decide +kernel
theorem d_Mo_roundAt_54 : decode prog_14_method_112_code 54 = .ok (.bipush 8, 2) := by decide +kernel
theorem d_Mo_roundAt_56 : decode prog_14_method_112_code 56 = .ok (.invokevirtual 327, 3) := by decide +kernel
theorem d_Mo_roundAt_59 : decode prog_14_method_112_code 59 = .ok (.ireturn, 1) := by decide +kernel
theorem d_Mo_most_0 : decode prog_14_method_116_code 0 = .ok (.aload_n 0, 1) := by decide +kernel
theorem d_Mo_most_1 : decode prog_14_method_116_code 1 = .ok (.iconst 0, 1) := by decide +kernel
theorem d_Mo_most_2 : decode prog_14_method_116_code 2 = .ok (.putfield 70, 3) := by decide +kernel
theorem d_Mo_most_5 : decode prog_14_method_116_code 5 = .ok (.aload_n 0, 1) := by decide +kernel
theorem d_Mo_most_6 : decode prog_14_method_116_code 6 = .ok (.aload_n 0, 1) := by decide +kernel
theorem d_Mo_most_7 : decode prog_14_method_116_code 7 = .ok (.iload_n 1, 1) := by decide +kernel
theorem d_Mo_most_8 : decode prog_14_method_116_code 8 = .ok (.invokevirtual 399, 3) := by decide +kernel
theorem d_Mo_most_11 : decode prog_14_method_116_code 11 = .ok (.putfield 73, 3) := by decide +kernel
theorem d_Mo_most_14 : decode prog_14_method_116_code 14 = .ok (.aload_n 0, 1) := by decide +kernel
theorem d_Mo_most_15 : decode prog_14_method_116_code 15 = .ok (.getfield 73, 3) := by decide +kernel
theorem d_Mo_most_18 : decode prog_14_method_116_code 18 = .ok (.ifCond .le 7, 3) := by decide +kernel
theorem d_Mo_most_21 : decode prog_14_method_116_code 21 = .ok (.iconst (-1), 1) := by decide +kernel
theorem d_Mo_most_22 : decode prog_14_method_116_code 22 = .ok (.goto 11, 3) := by decide +kernel
theorem d_Mo_most_25 : decode prog_14_method_116_code 25 = .ok (.aload_n 0, 1) := by decide +kernel
theorem d_Mo_most_26 : decode prog_14_method_116_code 26 = .ok (.iload_n 1, 1) := by decide +kernel
theorem d_Mo_most_27 : decode prog_14_method_116_code 27 = .ok (.iconst 0, 1) := by decide +kernel
theorem d_Mo_most_28 : decode prog_14_method_116_code 28 = .ok (.iconst 0, 1) := by decide +kernel
theorem d_Mo_most_29 : decode prog_14_method_116_code 29 = .ok (.iconst 0, 1) := by decide +kernel
theorem d_Mo_most_30 : decode prog_14_method_116_code 30 = .ok (.invokevirtual 402, 3) := by decide +kernel
theorem d_Mo_most_33 : decode prog_14_method_116_code 33 = .ok (.ireturn, 1) := by decide +kernel
theorem d_Mo_whyNoTins_0 : decode prog_14_method_115_code 0 = .ok (.iload_n 1, 1) := by decide +kernel
theorem d_Mo_whyNoTins_1 : decode prog_14_method_115_code 1 = .ok (.i2l, 1) := by decide +kernel
theorem d_Mo_whyNoTins_2 : decode prog_14_method_115_code 2 = .ok (.lconst 0, 1) := by decide +kernel
theorem d_Mo_whyNoTins_3 : decode prog_14_method_115_code 3 = .ok (.aload_n 0, 1) := by decide +kernel
theorem d_Mo_whyNoTins_4 : decode prog_14_method_115_code 4 = .ok (.invokevirtual 316, 3) := by decide +kernel
theorem d_Mo_whyNoTins_7 : decode prog_14_method_115_code 7 = .ok (.i2l, 1) := by decide +kernel
theorem d_Mo_whyNoTins_8 : decode prog_14_method_115_code 8 = .ok (.invokestatic 105, 3) := by decide +kernel
theorem d_Mo_whyNoTins_11 : decode prog_14_method_115_code 11 = .ok (.ifCond .ne 7, 3) := by decide +kernel
theorem d_Mo_whyNoTins_14 : decode prog_14_method_115_code 14 = .ok (.iconst 5, 1) := by decide +kernel
theorem d_Mo_whyNoTins_15 : decode prog_14_method_115_code 15 = .ok (.goto 19, 3) := by decide +kernel
theorem d_Mo_whyNoTins_18 : decode prog_14_method_115_code 18 = .ok (.iload_n 1, 1) := by decide +kernel
theorem d_Mo_whyNoTins_19 : decode prog_14_method_115_code 19 = .ok (.aload_n 0, 1) := by decide +kernel
theorem d_Mo_whyNoTins_20 : decode prog_14_method_115_code 20 = .ok (.iconst 0, 1) := by decide +kernel
theorem d_Mo_whyNoTins_21 : decode prog_14_method_115_code 21 = .ok (.invokevirtual 319, 3) := by decide +kernel
theorem d_Mo_whyNoTins_24 : decode prog_14_method_115_code 24 = .ok (.iand, 1) := by decide +kernel
theorem d_Mo_whyNoTins_25 : decode prog_14_method_115_code 25 = .ok (.ifCond .eq 8, 3) := by decide +kernel
theorem d_Mo_whyNoTins_28 : decode prog_14_method_115_code 28 = .ok (.bipush 9, 2) := by decide +kernel
theorem d_Mo_whyNoTins_30 : decode prog_14_method_115_code 30 = .ok (.goto 4, 3) := by decide +kernel
theorem d_Mo_whyNoTins_33 : decode prog_14_method_115_code 33 = .ok (.iconst 0, 1) := by decide +kernel
theorem d_Mo_whyNoTins_34 : decode prog_14_method_115_code 34 = .ok (.ireturn, 1) := by decide +kernel
theorem d_Mo_laysGivings_0 : decode prog_14_method_113_code 0 = .ok (.iconst 0, 1) := by decide +kernel
theorem d_Mo_laysGivings_1 : decode prog_14_method_113_code 1 = .ok (.istore 5, 2) := by decide +kernel
theorem d_Mo_laysGivings_3 : decode prog_14_method_113_code 3 = .ok (.iload 5, 2) := by decide +kernel
theorem d_Mo_laysGivings_5 : decode prog_14_method_113_code 5 = .ok (.sipush 128, 3) := by decide +kernel
theorem d_Mo_laysGivings_8 : decode prog_14_method_113_code 8 = .ok (.if_icmp .ge 27, 3) := by decide +kernel
theorem d_Mo_laysGivings_11 : decode prog_14_method_113_code 11 = .ok (.aload_n 0, 1) := by decide +kernel
theorem d_Mo_laysGivings_12 : decode prog_14_method_113_code 12 = .ok (.getfield 53, 3) := by decide +kernel
theorem d_Mo_laysGivings_15 : decode prog_14_method_113_code 15 = .ok (.iload 5, 2) := by decide +kernel
theorem d_Mo_laysGivings_17 : decode prog_14_method_113_code 17 = .ok (.iload 5, 2) := by decide +kernel
theorem d_Mo_laysGivings_19 : decode prog_14_method_113_code 19 = .ok (.iload_n 3, 1) := by decide +kernel
theorem d_Mo_laysGivings_20 : decode prog_14_method_113_code 20 = .ok (.if_icmp .ne 7, 3) := by decide +kernel
theorem d_Mo_laysGivings_23 : decode prog_14_method_113_code 23 = .ok (.iconst 1, 1) := by decide +kernel
theorem d_Mo_laysGivings_24 : decode prog_14_method_113_code 24 = .ok (.goto 4, 3) := by decide +kernel
theorem d_Mo_laysGivings_27 : decode prog_14_method_113_code 27 = .ok (.iconst 0, 1) := by decide +kernel
theorem d_Mo_laysGivings_28 : decode prog_14_method_113_code 28 = .ok (.iastore, 1) := by decide +kernel
theorem d_Mo_laysGivings_29 : decode prog_14_method_113_code 29 = .ok (.iinc 5 1, 3) := by decide +kernel
theorem d_Mo_laysGivings_32 : decode prog_14_method_113_code 32 = .ok (.goto (-29), 3) := by decide +kernel
theorem d_Mo_laysGivings_35 : decode prog_14_method_113_code 35 = .ok (.iload_n 2, 1) := by decide +kernel
theorem d_Mo_laysGivings_36 : decode prog_14_method_113_code 36 = .ok (.istore 5, 2) := by decide +kernel
theorem d_Mo_laysGivings_38 : decode prog_14_method_113_code 38 = .ok (.iload 5, 2) := by decide +kernel
theorem d_Mo_laysGivings_40 : decode prog_14_method_113_code 40 = .ok (.aload_n 0, 1) := by decide +kernel
theorem d_Mo_laysGivings_41 : decode prog_14_method_113_code 41 = .ok (.getfield 35, 3) := by decide +kernel
theorem d_Mo_laysGivings_44 : decode prog_14_method_113_code 44 = .ok (.iconst 3, 1) := by decide +kernel
theorem d_Mo_laysGivings_45 : decode prog_14_method_113_code 45 = .ok (.iaload, 1) := by decide +kernel
theorem d_Mo_laysGivings_46 : decode prog_14_method_113_code 46 = .ok (.if_icmp .ge 26, 3) := by decide +kernel
theorem d_Mo_laysGivings_49 : decode prog_14_method_113_code 49 = .ok (.iload_n 1, 1) := by decide +kernel
theorem d_Mo_laysGivings_50 : decode prog_14_method_113_code 50 = .ok (.iload 5, 2) := by decide +kernel
theorem d_Mo_laysGivings_52 : decode prog_14_method_113_code 52 = .ok (.invokestatic 109, 3) := by decide +kernel
theorem d_Mo_laysGivings_55 : decode prog_14_method_113_code 55 = .ok (.ifCond .eq 11, 3) := by decide +kernel
theorem d_Mo_laysGivings_58 : decode prog_14_method_113_code 58 = .ok (.aload_n 0, 1) := by decide +kernel
theorem d_Mo_laysGivings_59 : decode prog_14_method_113_code 59 = .ok (.iload 5, 2) := by decide +kernel
theorem d_Mo_laysGivings_61 : decode prog_14_method_113_code 61 = .ok (.iload 4, 2) := by decide +kernel
theorem d_Mo_laysGivings_63 : decode prog_14_method_113_code 63 = .ok (.invokevirtual 392, 3) := by decide +kernel
theorem d_Mo_laysGivings_66 : decode prog_14_method_113_code 66 = .ok (.iinc 5 1, 3) := by decide +kernel
theorem d_Mo_laysGivings_69 : decode prog_14_method_113_code 69 = .ok (.goto (-31), 3) := by decide +kernel
theorem d_Mo_laysGivings_72 : decode prog_14_method_113_code 72 = .ok (.iconst 0, 1) := by decide +kernel
theorem d_Mo_laysGivings_73 : decode prog_14_method_113_code 73 = .ok (.istore 5, 2) := by decide +kernel
theorem d_Mo_laysGivings_75 : decode prog_14_method_113_code 75 = .ok (.iconst 0, 1) := by decide +kernel
theorem d_Mo_laysGivings_76 : decode prog_14_method_113_code 76 = .ok (.istore 6, 2) := by decide +kernel
theorem d_Mo_laysGivings_78 : decode prog_14_method_113_code 78 = .ok (.iload 6, 2) := by decide +kernel
theorem d_Mo_laysGivings_80 : decode prog_14_method_113_code 80 = .ok (.sipush 128, 3) := by decide +kernel
theorem d_Mo_laysGivings_83 : decode prog_14_method_113_code 83 = .ok (.if_icmp .ge 58, 3) := by decide +kernel
theorem d_Mo_laysGivings_86 : decode prog_14_method_113_code 86 = .ok (.iload 4, 2) := by decide +kernel
theorem d_Mo_laysGivings_88 : decode prog_14_method_113_code 88 = .ok (.ifCond .eq 16, 3) := by decide +kernel
theorem d_Mo_laysGivings_91 : decode prog_14_method_113_code 91 = .ok (.iload 5, 2) := by decide +kernel
theorem d_Mo_laysGivings_93 : decode prog_14_method_113_code 93 = .ok (.aload_n 0, 1) := by decide +kernel
theorem d_Mo_laysGivings_94 : decode prog_14_method_113_code 94 = .ok (.getfield 53, 3) := by decide +kernel
theorem d_Mo_laysGivings_97 : decode prog_14_method_113_code 97 = .ok (.iload 6, 2) := by decide +kernel
theorem d_Mo_laysGivings_99 : decode prog_14_method_113_code 99 = .ok (.iaload, 1) := by decide +kernel
theorem d_Mo_laysGivings_100 : decode prog_14_method_113_code 100 = .ok (.iadd, 1) := by decide +kernel
theorem d_Mo_laysGivings_101 : decode prog_14_method_113_code 101 = .ok (.goto 32, 3) := by decide +kernel
theorem d_Mo_laysGivings_104 : decode prog_14_method_113_code 104 = .ok (.aload_n 0, 1) := by decide +kernel
theorem d_Mo_laysGivings_105 : decode prog_14_method_113_code 105 = .ok (.getfield 53, 3) := by decide +kernel
theorem d_Mo_laysGivings_108 : decode prog_14_method_113_code 108 = .ok (.iload 6, 2) := by decide +kernel
theorem d_Mo_laysGivings_110 : decode prog_14_method_113_code 110 = .ok (.iaload, 1) := by decide +kernel
theorem d_Mo_laysGivings_111 : decode prog_14_method_113_code 111 = .ok (.ifCond .le 20, 3) := by decide +kernel
theorem d_Mo_laysGivings_114 : decode prog_14_method_113_code 114 = .ok (.iload 5, 2) := by decide +kernel
theorem d_Mo_laysGivings_116 : decode prog_14_method_113_code 116 = .ok (.iload 6, 2) := by decide +kernel
theorem d_Mo_laysGivings_118 : decode prog_14_method_113_code 118 = .ok (.iload_n 3, 1) := by decide +kernel
theorem d_Mo_laysGivings_119 : decode prog_14_method_113_code 119 = .ok (.iconst (-1), 1) := by decide +kernel
theorem d_Mo_laysGivings_120 : decode prog_14_method_113_code 120 = .ok (.ixor, 1) := by decide +kernel
theorem d_Mo_laysGivings_121 : decode prog_14_method_113_code 121 = .ok (.iand, 1) := by decide +kernel
theorem d_Mo_laysGivings_122 : decode prog_14_method_113_code 122 = .ok (.invokestatic 396, 3) := by decide +kernel
theorem d_Mo_laysGivings_125 : decode prog_14_method_113_code 125 = .ok (.invokestatic 233, 3) := by decide +kernel
theorem d_Mo_laysGivings_128 : decode prog_14_method_113_code 128 = .ok (.goto 5, 3) := by decide +kernel
theorem d_Mo_laysGivings_131 : decode prog_14_method_113_code 131 = .ok (.iload 5, 2) := by decide +kernel
theorem d_Mo_laysGivings_133 : decode prog_14_method_113_code 133 = .ok (.istore 5, 2) := by decide +kernel
theorem d_Mo_laysGivings_135 : decode prog_14_method_113_code 135 = .ok (.iinc 6 1, 3) := by decide +kernel
theorem d_Mo_laysGivings_138 : decode prog_14_method_113_code 138 = .ok (.goto (-60), 3) := by decide +kernel
theorem d_Mo_laysGivings_141 : decode prog_14_method_113_code 141 = .ok (.iload 5, 2) := by decide +kernel
theorem d_Mo_laysGivings_143 : decode prog_14_method_113_code 143 = .ok (.ireturn, 1) := by decide +kernel
theorem d_Mo_laysTin_0 : decode prog_14_method_114_code 0 = .ok (.bipush 127, 2) := by decide +kernel
theorem d_Mo_laysTin_2 : decode prog_14_method_114_code 2 = .ok (.istore_n 3, 1) := by decide +kernel
theorem d_Mo_laysTin_3 : decode prog_14_method_114_code 3 = .ok (.iload_n 3, 1) := by decide +kernel
theorem d_Mo_laysTin_4 : decode prog_14_method_114_code 4 = .ok (.ifCond .lt 104, 3) := by decide +kernel
theorem d_Mo_laysTin_7 : decode prog_14_method_114_code 7 = .ok (.iload_n 2, 1) := by decide +kernel
theorem d_Mo_laysTin_8 : decode prog_14_method_114_code 8 = .ok (.ifCond .eq 7, 3) := by decide +kernel
theorem d_Mo_laysTin_11 : decode prog_14_method_114_code 11 = .ok (.iconst 0, 1) := by decide +kernel
theorem d_Mo_laysTin_12 : decode prog_14_method_114_code 12 = .ok (.goto 9, 3) := by decide +kernel
theorem d_Mo_laysTin_15 : decode prog_14_method_114_code 15 = .ok (.aload_n 0, 1) := by decide +kernel
theorem d_Mo_laysTin_16 : decode prog_14_method_114_code 16 = .ok (.getfield 53, 3) := by decide +kernel
theorem d_Mo_laysTin_19 : decode prog_14_method_114_code 19 = .ok (.iload_n 3, 1) := by decide +kernel
theorem d_Mo_laysTin_20 : decode prog_14_method_114_code 20 = .ok (.iaload, 1) := by decide +kernel
theorem d_Mo_laysTin_21 : decode prog_14_method_114_code 21 = .ok (.istore 4, 2) := by decide +kernel
theorem d_Mo_laysTin_23 : decode prog_14_method_114_code 23 = .ok (.iconst 0, 1) := by decide +kernel
theorem d_Mo_laysTin_24 : decode prog_14_method_114_code 24 = .ok (.istore 5, 2) := by decide +kernel
theorem d_Mo_laysTin_26 : decode prog_14_method_114_code 26 = .ok (.iload 5, 2) := by decide +kernel
theorem d_Mo_laysTin_28 : decode prog_14_method_114_code 28 = .ok (.aload_n 0, 1) := by decide +kernel
theorem d_Mo_laysTin_29 : decode prog_14_method_114_code 29 = .ok (.getfield 35, 3) := by decide +kernel
theorem d_Mo_laysTin_32 : decode prog_14_method_114_code 32 = .ok (.iconst 1, 1) := by decide +kernel
theorem d_Mo_laysTin_33 : decode prog_14_method_114_code 33 = .ok (.iaload, 1) := by decide +kernel
theorem d_Mo_laysTin_34 : decode prog_14_method_114_code 34 = .ok (.if_icmp .ge 46, 3) := by decide +kernel
theorem d_Mo_laysTin_37 : decode prog_14_method_114_code 37 = .ok (.iload_n 3, 1) := by decide +kernel
theorem d_Mo_laysTin_38 : decode prog_14_method_114_code 38 = .ok (.iload 5, 2) := by decide +kernel
theorem d_Mo_laysTin_40 : decode prog_14_method_114_code 40 = .ok (.invokestatic 109, 3) := by decide +kernel
theorem d_Mo_laysTin_43 : decode prog_14_method_114_code 43 = .ok (.ifCond .eq 31, 3) := by decide +kernel
theorem d_Mo_laysTin_46 : decode prog_14_method_114_code 46 = .ok (.aload_n 0, 1) := by decide +kernel
theorem d_Mo_laysTin_47 : decode prog_14_method_114_code 47 = .ok (.iload_n 1, 1) := by decide +kernel
theorem d_Mo_laysTin_48 : decode prog_14_method_114_code 48 = .ok (.iload 5, 2) := by decide +kernel
theorem d_Mo_laysTin_50 : decode prog_14_method_114_code 50 = .ok (.invokevirtual 354, 3) := by decide +kernel
theorem d_Mo_laysTin_53 : decode prog_14_method_114_code 53 = .ok (.ifCond .eq 21, 3) := by decide +kernel
theorem d_Mo_laysTin_56 : decode prog_14_method_114_code 56 = .ok (.iload 4, 2) := by decide +kernel
theorem d_Mo_laysTin_58 : decode prog_14_method_114_code 58 = .ok (.aload_n 0, 1) := by decide +kernel
theorem d_Mo_laysTin_59 : decode prog_14_method_114_code 59 = .ok (.getfield 53, 3) := by decide +kernel
theorem d_Mo_laysTin_62 : decode prog_14_method_114_code 62 = .ok (.iload_n 3, 1) := by decide +kernel
theorem d_Mo_laysTin_63 : decode prog_14_method_114_code 63 = .ok (.iconst 1, 1) := by decide +kernel
theorem d_Mo_laysTin_64 : decode prog_14_method_114_code 64 = .ok (.iload 5, 2) := by decide +kernel
theorem d_Mo_laysTin_66 : decode prog_14_method_114_code 66 = .ok (.ishl, 1) := by decide +kernel
theorem d_Mo_laysTin_67 : decode prog_14_method_114_code 67 = .ok (.iconst (-1), 1) := by decide +kernel
theorem d_Mo_laysTin_68 : decode prog_14_method_114_code 68 = .ok (.ixor, 1) := by decide +kernel
theorem d_Mo_laysTin_69 : decode prog_14_method_114_code 69 = .ok (.iand, 1) := by decide +kernel
theorem d_Mo_laysTin_70 : decode prog_14_method_114_code 70 = .ok (.iaload, 1) := by decide +kernel
theorem d_Mo_laysTin_71 : decode prog_14_method_114_code 71 = .ok (.iadd, 1) := by decide +kernel
theorem d_Mo_laysTin_72 : decode prog_14_method_114_code 72 = .ok (.istore 4, 2) := by decide +kernel
theorem d_Mo_laysTin_74 : decode prog_14_method_114_code 74 = .ok (.iinc 5 1, 3) := by decide +kernel
theorem d_Mo_laysTin_77 : decode prog_14_method_114_code 77 = .ok (.goto (-51), 3) := by decide +kernel
theorem d_Mo_laysTin_80 : decode prog_14_method_114_code 80 = .ok (.aload_n 0, 1) := by decide +kernel
theorem d_Mo_laysTin_81 : decode prog_14_method_114_code 81 = .ok (.getfield 53, 3) := by decide +kernel
theorem d_Mo_laysTin_84 : decode prog_14_method_114_code 84 = .ok (.iload_n 3, 1) := by decide +kernel
theorem d_Mo_laysTin_85 : decode prog_14_method_114_code 85 = .ok (.iload_n 2, 1) := by decide +kernel
theorem d_Mo_laysTin_86 : decode prog_14_method_114_code 86 = .ok (.ifCond .ne 9, 3) := by decide +kernel
theorem d_Mo_laysTin_89 : decode prog_14_method_114_code 89 = .ok (.iload 4, 2) := by decide +kernel
theorem d_Mo_laysTin_91 : decode prog_14_method_114_code 91 = .ok (.iconst 1, 1) := by decide +kernel
theorem d_Mo_laysTin_92 : decode prog_14_method_114_code 92 = .ok (.if_icmp .ge 8, 3) := by decide +kernel
theorem d_Mo_laysTin_95 : decode prog_14_method_114_code 95 = .ok (.iload 4, 2) := by decide +kernel
theorem d_Mo_laysTin_97 : decode prog_14_method_114_code 97 = .ok (.goto 4, 3) := by decide +kernel
theorem d_Mo_laysTin_100 : decode prog_14_method_114_code 100 = .ok (.iconst 1, 1) := by decide +kernel
theorem d_Mo_laysTin_101 : decode prog_14_method_114_code 101 = .ok (.iastore, 1) := by decide +kernel
theorem d_Mo_laysTin_102 : decode prog_14_method_114_code 102 = .ok (.iinc 3 (-1), 3) := by decide +kernel
theorem d_Mo_laysTin_105 : decode prog_14_method_114_code 105 = .ok (.goto (-102), 3) := by decide +kernel
theorem d_Mo_laysTin_108 : decode prog_14_method_114_code 108 = .ok (.return_, 1) := by decide +kernel
theorem d_Mo_sizeOf_0 : decode prog_14_method_20_code 0 = .ok (.iconst 0, 1) := by decide +kernel
theorem d_Mo_sizeOf_1 : decode prog_14_method_20_code 1 = .ok (.istore_n 1, 1) := by decide +kernel
theorem d_Mo_sizeOf_2 : decode prog_14_method_20_code 2 = .ok (.iconst 0, 1) := by decide +kernel
theorem d_Mo_sizeOf_3 : decode prog_14_method_20_code 3 = .ok (.istore_n 2, 1) := by decide +kernel
theorem d_Mo_sizeOf_4 : decode prog_14_method_20_code 4 = .ok (.iload_n 2, 1) := by decide +kernel
theorem d_Mo_sizeOf_5 : decode prog_14_method_20_code 5 = .ok (.bipush 9, 2) := by decide +kernel
theorem d_Mo_sizeOf_7 : decode prog_14_method_20_code 7 = .ok (.if_icmp .ge 25, 3) := by decide +kernel
theorem d_Mo_sizeOf_10 : decode prog_14_method_20_code 10 = .ok (.iload_n 1, 1) := by decide +kernel
theorem d_Mo_sizeOf_11 : decode prog_14_method_20_code 11 = .ok (.iload_n 0, 1) := by decide +kernel
theorem d_Mo_sizeOf_12 : decode prog_14_method_20_code 12 = .ok (.iload_n 2, 1) := by decide +kernel
theorem d_Mo_sizeOf_13 : decode prog_14_method_20_code 13 = .ok (.invokestatic 109, 3) := by decide +kernel
theorem d_Mo_sizeOf_16 : decode prog_14_method_20_code 16 = .ok (.ifCond .eq 7, 3) := by decide +kernel
theorem d_Mo_sizeOf_19 : decode prog_14_method_20_code 19 = .ok (.iconst 1, 1) := by decide +kernel
theorem d_Mo_sizeOf_20 : decode prog_14_method_20_code 20 = .ok (.goto 4, 3) := by decide +kernel
theorem d_Mo_sizeOf_23 : decode prog_14_method_20_code 23 = .ok (.iconst 0, 1) := by decide +kernel
theorem d_Mo_sizeOf_24 : decode prog_14_method_20_code 24 = .ok (.iadd, 1) := by decide +kernel
theorem d_Mo_sizeOf_25 : decode prog_14_method_20_code 25 = .ok (.istore_n 1, 1) := by decide +kernel
theorem d_Mo_sizeOf_26 : decode prog_14_method_20_code 26 = .ok (.iinc 2 1, 3) := by decide +kernel
theorem d_Mo_sizeOf_29 : decode prog_14_method_20_code 29 = .ok (.goto (-25), 3) := by decide +kernel
theorem d_Mo_sizeOf_32 : decode prog_14_method_20_code 32 = .ok (.iload_n 1, 1) := by decide +kernel
theorem d_Mo_sizeOf_33 : decode prog_14_method_20_code 33 = .ok (.ireturn, 1) := by decide +kernel
theorem d_Mo_givings_0 : decode prog_14_method_117_code 0 = .ok (.aload_n 0, 1) := by decide +kernel
theorem d_Mo_givings_1 : decode prog_14_method_117_code 1 = .ok (.iconst 0, 1) := by decide +kernel
theorem d_Mo_givings_2 : decode prog_14_method_117_code 2 = .ok (.putfield 70, 3) := by decide +kernel
theorem d_Mo_givings_5 : decode prog_14_method_117_code 5 = .ok (.aload_n 0, 1) := by decide +kernel
theorem d_Mo_givings_6 : decode prog_14_method_117_code 6 = .ok (.aload_n 0, 1) := by decide +kernel
theorem d_Mo_givings_7 : decode prog_14_method_117_code 7 = .ok (.iload_n 1, 1) := by decide +kernel
theorem d_Mo_givings_8 : decode prog_14_method_117_code 8 = .ok (.invokevirtual 399, 3) := by decide +kernel
theorem d_Mo_givings_11 : decode prog_14_method_117_code 11 = .ok (.putfield 73, 3) := by decide +kernel
theorem d_Mo_givings_14 : decode prog_14_method_117_code 14 = .ok (.aload_n 0, 1) := by decide +kernel
theorem d_Mo_givings_15 : decode prog_14_method_117_code 15 = .ok (.getfield 73, 3) := by decide +kernel
theorem d_Mo_givings_18 : decode prog_14_method_117_code 18 = .ok (.ifCond .le 7, 3) := by decide +kernel
theorem d_Mo_givings_21 : decode prog_14_method_117_code 21 = .ok (.iconst (-1), 1) := by decide +kernel
theorem d_Mo_givings_22 : decode prog_14_method_117_code 22 = .ok (.goto 11, 3) := by decide +kernel
theorem d_Mo_givings_25 : decode prog_14_method_117_code 25 = .ok (.aload_n 0, 1) := by decide +kernel
theorem d_Mo_givings_26 : decode prog_14_method_117_code 26 = .ok (.iload_n 1, 1) := by decide +kernel
theorem d_Mo_givings_27 : decode prog_14_method_117_code 27 = .ok (.iconst 0, 1) := by decide +kernel
theorem d_Mo_givings_28 : decode prog_14_method_117_code 28 = .ok (.iconst 0, 1) := by decide +kernel
theorem d_Mo_givings_29 : decode prog_14_method_117_code 29 = .ok (.iconst 1, 1) := by decide +kernel
theorem d_Mo_givings_30 : decode prog_14_method_117_code 30 = .ok (.invokevirtual 402, 3) := by decide +kernel
theorem d_Mo_givings_33 : decode prog_14_method_117_code 33 = .ok (.ireturn, 1) := by decide +kernel
theorem d_Mo_given_0 : decode prog_14_method_118_code 0 = .ok (.aload_n 0, 1) := by decide +kernel
theorem d_Mo_given_1 : decode prog_14_method_118_code 1 = .ok (.iconst 0, 1) := by decide +kernel
theorem d_Mo_given_2 : decode prog_14_method_118_code 2 = .ok (.putfield 70, 3) := by decide +kernel
theorem d_Mo_given_5 : decode prog_14_method_118_code 5 = .ok (.aload_n 0, 1) := by decide +kernel
theorem d_Mo_given_6 : decode prog_14_method_118_code 6 = .ok (.aload_n 0, 1) := by decide +kernel
theorem d_Mo_given_7 : decode prog_14_method_118_code 7 = .ok (.iload_n 2, 1) := by decide +kernel
theorem d_Mo_given_8 : decode prog_14_method_118_code 8 = .ok (.invokevirtual 344, 3) := by decide +kernel
theorem d_Mo_given_11 : decode prog_14_method_118_code 11 = .ok (.ifCond .ne 7, 3) := by decide +kernel
theorem d_Mo_given_14 : decode prog_14_method_118_code 14 = .ok (.iconst 2, 1) := by decide +kernel
theorem d_Mo_given_15 : decode prog_14_method_118_code 15 = .ok (.goto 8, 3) := by decide +kernel
theorem d_Mo_given_18 : decode prog_14_method_118_code 18 = .ok (.aload_n 0, 1) := by decide +kernel
theorem d_Mo_given_19 : decode prog_14_method_118_code 19 = .ok (.iload_n 1, 1) := by decide +kernel
theorem d_Mo_given_20 : decode prog_14_method_118_code 20 = .ok (.invokevirtual 399, 3) := by decide +kernel
theorem d_Mo_given_23 : decode prog_14_method_118_code 23 = .ok (.putfield 73, 3) := by decide +kernel
theorem d_Mo_given_26 : decode prog_14_method_118_code 26 = .ok (.aload_n 0, 1) := by decide +kernel
theorem d_Mo_given_27 : decode prog_14_method_118_code 27 = .ok (.getfield 73, 3) := by decide +kernel
theorem d_Mo_given_30 : decode prog_14_method_118_code 30 = .ok (.ifCond .ne 16, 3) := by decide +kernel
theorem d_Mo_given_33 : decode prog_14_method_118_code 33 = .ok (.iload_n 1, 1) := by decide +kernel
theorem d_Mo_given_34 : decode prog_14_method_118_code 34 = .ok (.iload_n 2, 1) := by decide +kernel
theorem d_Mo_given_35 : decode prog_14_method_118_code 35 = .ok (.invokestatic 109, 3) := by decide +kernel
theorem d_Mo_given_38 : decode prog_14_method_118_code 38 = .ok (.ifCond .ne 8, 3) := by decide +kernel
theorem d_Mo_given_41 : decode prog_14_method_118_code 41 = .ok (.aload_n 0, 1) := by decide +kernel
theorem d_Mo_given_42 : decode prog_14_method_118_code 42 = .ok (.iconst 5, 1) := by decide +kernel
theorem d_Mo_given_43 : decode prog_14_method_118_code 43 = .ok (.putfield 73, 3) := by decide +kernel
theorem d_Mo_given_46 : decode prog_14_method_118_code 46 = .ok (.aload_n 0, 1) := by decide +kernel
theorem d_Mo_given_47 : decode prog_14_method_118_code 47 = .ok (.getfield 73, 3) := by decide +kernel
theorem d_Mo_given_50 : decode prog_14_method_118_code 50 = .ok (.bipush 9, 2) := by decide +kernel
theorem d_Mo_given_52 : decode prog_14_method_118_code 52 = .ok (.if_icmp .ne 16, 3) := by decide +kernel
theorem d_Mo_given_55 : decode prog_14_method_118_code 55 = .ok (.iload_n 1, 1) := by decide +kernel
theorem d_Mo_given_56 : decode prog_14_method_118_code 56 = .ok (.iload_n 2, 1) := by decide +kernel
theorem d_Mo_given_57 : decode prog_14_method_118_code 57 = .ok (.invokestatic 109, 3) := by decide +kernel
theorem d_Mo_given_60 : decode prog_14_method_118_code 60 = .ok (.ifCond .ne 8, 3) := by decide +kernel
theorem d_Mo_given_63 : decode prog_14_method_118_code 63 = .ok (.aload_n 0, 1) := by decide +kernel
theorem d_Mo_given_64 : decode prog_14_method_118_code 64 = .ok (.iconst 5, 1) := by decide +kernel
theorem d_Mo_given_65 : decode prog_14_method_118_code 65 = .ok (.putfield 73, 3) := by decide +kernel
theorem d_Mo_given_68 : decode prog_14_method_118_code 68 = .ok (.aload_n 0, 1) := by decide +kernel
theorem d_Mo_given_69 : decode prog_14_method_118_code 69 = .ok (.getfield 73, 3) := by decide +kernel
theorem d_Mo_given_72 : decode prog_14_method_118_code 72 = .ok (.ifCond .le 5, 3) := by decide +kernel
theorem d_Mo_given_75 : decode prog_14_method_118_code 75 = .ok (.iconst (-1), 1) := by decide +kernel
theorem d_Mo_given_76 : decode prog_14_method_118_code 76 = .ok (.ireturn, 1) := by decide +kernel
theorem d_Mo_given_77 : decode prog_14_method_118_code 77 = .ok (.aload_n 0, 1) := by decide +kernel
theorem d_Mo_given_78 : decode prog_14_method_118_code 78 = .ok (.iload_n 1, 1) := by decide +kernel
theorem d_Mo_given_79 : decode prog_14_method_118_code 79 = .ok (.iconst 0, 1) := by decide +kernel
theorem d_Mo_given_80 : decode prog_14_method_118_code 80 = .ok (.iconst 0, 1) := by decide +kernel
theorem d_Mo_given_81 : decode prog_14_method_118_code 81 = .ok (.iconst 1, 1) := by decide +kernel
theorem d_Mo_given_82 : decode prog_14_method_118_code 82 = .ok (.invokevirtual 402, 3) := by decide +kernel
theorem d_Mo_given_85 : decode prog_14_method_118_code 85 = .ok (.ifCond .ne 10, 3) := by decide +kernel
theorem d_Mo_given_88 : decode prog_14_method_118_code 88 = .ok (.aload_n 0, 1) := by decide +kernel
theorem d_Mo_given_89 : decode prog_14_method_118_code 89 = .ok (.bipush 8, 2) := by decide +kernel
theorem d_Mo_given_91 : decode prog_14_method_118_code 91 = .ok (.invokevirtual 327, 3) := by decide +kernel
theorem d_Mo_given_94 : decode prog_14_method_118_code 94 = .ok (.ireturn, 1) := by decide +kernel
theorem d_Mo_given_95 : decode prog_14_method_118_code 95 = .ok (.iconst 0, 1) := by decide +kernel
theorem d_Mo_given_96 : decode prog_14_method_118_code 96 = .ok (.istore_n 3, 1) := by decide +kernel
theorem d_Mo_given_97 : decode prog_14_method_118_code 97 = .ok (.iconst (-1), 1) := by decide +kernel
theorem d_Mo_given_98 : decode prog_14_method_118_code 98 = .ok (.istore 4, 2) := by decide +kernel
theorem d_Mo_given_100 : decode prog_14_method_118_code 100 = .ok (.iconst 0, 1) := by decide +kernel
theorem d_Mo_given_101 : decode prog_14_method_118_code 101 = .ok (.istore 5, 2) := by decide +kernel
theorem d_Mo_given_103 : decode prog_14_method_118_code 103 = .ok (.iload 5, 2) := by decide +kernel
theorem d_Mo_given_105 : decode prog_14_method_118_code 105 = .ok (.iload_n 2, 1) := by decide +kernel
theorem d_Mo_given_106 : decode prog_14_method_118_code 106 = .ok (.if_icmp .gt 76, 3) := by decide +kernel
theorem d_Mo_given_109 : decode prog_14_method_118_code 109 = .ok (.iload_n 1, 1) := by decide +kernel
theorem d_Mo_given_110 : decode prog_14_method_118_code 110 = .ok (.iload 5, 2) := by decide +kernel
theorem d_Mo_given_112 : decode prog_14_method_118_code 112 = .ok (.invokestatic 109, 3) := by decide +kernel
theorem d_Mo_given_115 : decode prog_14_method_118_code 115 = .ok (.ifCond .ne 6, 3) := by decide +kernel
theorem d_Mo_given_118 : decode prog_14_method_118_code 118 = .ok (.goto 58, 3) := by decide +kernel
theorem d_Mo_given_121 : decode prog_14_method_118_code 121 = .ok (.iconst 0, 1) := by decide +kernel
theorem d_Mo_given_122 : decode prog_14_method_118_code 122 = .ok (.istore 4, 2) := by decide +kernel
theorem d_Mo_given_124 : decode prog_14_method_118_code 124 = .ok (.iload_n 3, 1) := by decide +kernel
theorem d_Mo_given_125 : decode prog_14_method_118_code 125 = .ok (.iload 4, 2) := by decide +kernel
theorem d_Mo_given_127 : decode prog_14_method_118_code 127 = .ok (.invokestatic 109, 3) := by decide +kernel
theorem d_Mo_given_130 : decode prog_14_method_118_code 130 = .ok (.ifCond .ne 33, 3) := by decide +kernel
theorem d_Mo_given_133 : decode prog_14_method_118_code 133 = .ok (.aload_n 0, 1) := by decide +kernel
theorem d_Mo_given_134 : decode prog_14_method_118_code 134 = .ok (.iload 5, 2) := by decide +kernel
theorem d_Mo_given_136 : decode prog_14_method_118_code 136 = .ok (.iload 4, 2) := by decide +kernel
theorem d_Mo_given_138 : decode prog_14_method_118_code 138 = .ok (.invokevirtual 354, 3) := by decide +kernel
theorem d_Mo_given_141 : decode prog_14_method_118_code 141 = .ok (.ifCond .eq 22, 3) := by decide +kernel
theorem d_Mo_given_144 : decode prog_14_method_118_code 144 = .ok (.aload_n 0, 1) := by decide +kernel
theorem d_Mo_given_145 : decode prog_14_method_118_code 145 = .ok (.iload_n 1, 1) := by decide +kernel
theorem d_Mo_given_146 : decode prog_14_method_118_code 146 = .ok (.iload 5, 2) := by decide +kernel
theorem d_Mo_given_148 : decode prog_14_method_118_code 148 = .ok (.iconst 1, 1) := by decide +kernel
theorem d_Mo_given_149 : decode prog_14_method_118_code 149 = .ok (.iadd, 1) := by decide +kernel
theorem d_Mo_given_150 : decode prog_14_method_118_code 150 = .ok (.iload_n 3, 1) := by decide +kernel
theorem d_Mo_given_151 : decode prog_14_method_118_code 151 = .ok (.iconst 1, 1) := by decide +kernel
theorem d_Mo_given_152 : decode prog_14_method_118_code 152 = .ok (.iload 4, 2) := by decide +kernel
theorem d_Mo_given_154 : decode prog_14_method_118_code 154 = .ok (.ishl, 1) := by decide +kernel
theorem d_Mo_given_155 : decode prog_14_method_118_code 155 = .ok (.ior, 1) := by decide +kernel
theorem d_Mo_given_156 : decode prog_14_method_118_code 156 = .ok (.iconst 1, 1) := by decide +kernel
theorem d_Mo_given_157 : decode prog_14_method_118_code 157 = .ok (.invokevirtual 402, 3) := by decide +kernel
theorem d_Mo_given_160 : decode prog_14_method_118_code 160 = .ok (.ifCond .ne 9, 3) := by decide +kernel
theorem d_Mo_given_163 : decode prog_14_method_118_code 163 = .ok (.iinc 4 1, 3) := by decide +kernel
theorem d_Mo_given_166 : decode prog_14_method_118_code 166 = .ok (.goto (-42), 3) := by decide +kernel
theorem d_Mo_given_169 : decode prog_14_method_118_code 169 = .ok (.iload_n 3, 1) := by decide +kernel
theorem d_Mo_given_170 : decode prog_14_method_118_code 170 = .ok (.iconst 1, 1) := by decide +kernel
theorem d_Mo_given_171 : decode prog_14_method_118_code 171 = .ok (.iload 4, 2) := by decide +kernel
theorem d_Mo_given_173 : decode prog_14_method_118_code 173 = .ok (.ishl, 1) := by decide +kernel
theorem d_Mo_given_174 : decode prog_14_method_118_code 174 = .ok (.ior, 1) := by decide +kernel
theorem d_Mo_given_175 : decode prog_14_method_118_code 175 = .ok (.istore_n 3, 1) := by decide +kernel
theorem d_Mo_given_176 : decode prog_14_method_118_code 176 = .ok (.iinc 5 1, 3) := by decide +kernel
theorem d_Mo_given_179 : decode prog_14_method_118_code 179 = .ok (.goto (-76), 3) := by decide +kernel
theorem d_Mo_given_182 : decode prog_14_method_118_code 182 = .ok (.iload 4, 2) := by decide +kernel
theorem d_Mo_given_184 : decode prog_14_method_118_code 184 = .ok (.ireturn, 1) := by decide +kernel
theorem d_Mo_cover_0 : decode prog_14_method_120_code 0 = .ok (.aload_n 0, 1) := by decide +kernel
theorem d_Mo_cover_1 : decode prog_14_method_120_code 1 = .ok (.iconst 0, 1) := by decide +kernel
theorem d_Mo_cover_2 : decode prog_14_method_120_code 2 = .ok (.putfield 70, 3) := by decide +kernel
theorem d_Mo_cover_5 : decode prog_14_method_120_code 5 = .ok (.aload_n 0, 1) := by decide +kernel
theorem d_Mo_cover_6 : decode prog_14_method_120_code 6 = .ok (.iconst 0, 1) := by decide +kernel
theorem d_Mo_cover_7 : decode prog_14_method_120_code 7 = .ok (.putfield 73, 3) := by decide +kernel
theorem d_Mo_cover_10 : decode prog_14_method_120_code 10 = .ok (.aload_n 0, 1) := by decide +kernel
theorem d_Mo_cover_11 : decode prog_14_method_120_code 11 = .ok (.invokevirtual 406, 3) := by decide +kernel
theorem d_Mo_cover_14 : decode prog_14_method_120_code 14 = .ok (.istore_n 1, 1) := by decide +kernel
theorem d_Mo_cover_15 : decode prog_14_method_120_code 15 = .ok (.iload_n 1, 1) := by decide +kernel
theorem d_Mo_cover_16 : decode prog_14_method_120_code 16 = .ok (.ifCond .ge 12, 3) := by decide +kernel
theorem d_Mo_cover_19 : decode prog_14_method_120_code 19 = .ok (.aload_n 0, 1) := by decide +kernel
theorem d_Mo_cover_20 : decode prog_14_method_120_code 20 = .ok (.bipush 8, 2) := by decide +kernel
theorem d_Mo_cover_22 : decode prog_14_method_120_code 22 = .ok (.invokevirtual 327, 3) := by decide +kernel
theorem d_Mo_cover_25 : decode prog_14_method_120_code 25 = .ok (.goto 7, 3) := by decide +kernel
theorem d_Mo_cover_28 : decode prog_14_method_120_code 28 = .ok (.iload_n 1, 1) := by decide +kernel
theorem d_Mo_cover_29 : decode prog_14_method_120_code 29 = .ok (.invokestatic 396, 3) := by decide +kernel
theorem d_Mo_cover_32 : decode prog_14_method_120_code 32 = .ok (.ireturn, 1) := by decide +kernel
theorem d_Mo_covering_0 : decode prog_14_method_119_code 0 = .ok (.iconst (-1), 1) := by decide +kernel
theorem d_Mo_covering_1 : decode prog_14_method_119_code 1 = .ok (.istore_n 1, 1) := by decide +kernel
theorem d_Mo_covering_2 : decode prog_14_method_119_code 2 = .ok (.iconst 0, 1) := by decide +kernel
theorem d_Mo_covering_3 : decode prog_14_method_119_code 3 = .ok (.istore_n 2, 1) := by decide +kernel
theorem d_Mo_covering_4 : decode prog_14_method_119_code 4 = .ok (.iload_n 2, 1) := by decide +kernel
theorem d_Mo_covering_5 : decode prog_14_method_119_code 5 = .ok (.iconst 1, 1) := by decide +kernel
theorem d_Mo_covering_6 : decode prog_14_method_119_code 6 = .ok (.aload_n 0, 1) := by decide +kernel
theorem d_Mo_covering_7 : decode prog_14_method_119_code 7 = .ok (.getfield 35, 3) := by decide +kernel
theorem d_Mo_covering_10 : decode prog_14_method_119_code 10 = .ok (.iconst 0, 1) := by decide +kernel
theorem d_Mo_covering_11 : decode prog_14_method_119_code 11 = .ok (.iaload, 1) := by decide +kernel
theorem d_Mo_covering_12 : decode prog_14_method_119_code 12 = .ok (.ishl, 1) := by decide +kernel
theorem d_Mo_covering_13 : decode prog_14_method_119_code 13 = .ok (.if_icmp .ge 81, 3) := by decide +kernel
theorem d_Mo_covering_16 : decode prog_14_method_119_code 16 = .ok (.iload_n 1, 1) := by decide +kernel
theorem d_Mo_covering_17 : decode prog_14_method_119_code 17 = .ok (.ifCond .lt 14, 3) := by decide +kernel
theorem d_Mo_covering_20 : decode prog_14_method_119_code 20 = .ok (.iload_n 2, 1) := by decide +kernel
theorem d_Mo_covering_21 : decode prog_14_method_119_code 21 = .ok (.invokestatic 396, 3) := by decide +kernel
theorem d_Mo_covering_24 : decode prog_14_method_119_code 24 = .ok (.iload_n 1, 1) := by decide +kernel
theorem d_Mo_covering_25 : decode prog_14_method_119_code 25 = .ok (.invokestatic 396, 3) := by decide +kernel
theorem d_Mo_covering_28 : decode prog_14_method_119_code 28 = .ok (.if_icmp .ge 7, 3) := by decide +kernel
theorem d_Mo_covering_31 : decode prog_14_method_119_code 31 = .ok (.iconst 1, 1) := by decide +kernel
theorem d_Mo_covering_32 : decode prog_14_method_119_code 32 = .ok (.goto 4, 3) := by decide +kernel
theorem d_Mo_covering_35 : decode prog_14_method_119_code 35 = .ok (.iconst 0, 1) := by decide +kernel
theorem d_Mo_covering_36 : decode prog_14_method_119_code 36 = .ok (.istore_n 3, 1) := by decide +kernel
theorem d_Mo_covering_37 : decode prog_14_method_119_code 37 = .ok (.iconst 0, 1) := by decide +kernel
theorem d_Mo_covering_38 : decode prog_14_method_119_code 38 = .ok (.istore 4, 2) := by decide +kernel
theorem d_Mo_covering_40 : decode prog_14_method_119_code 40 = .ok (.iload 4, 2) := by decide +kernel
theorem d_Mo_covering_42 : decode prog_14_method_119_code 42 = .ok (.aload_n 0, 1) := by decide +kernel
theorem d_Mo_covering_43 : decode prog_14_method_119_code 43 = .ok (.getfield 35, 3) := by decide +kernel
theorem d_Mo_covering_46 : decode prog_14_method_119_code 46 = .ok (.iconst 1, 1) := by decide +kernel
theorem d_Mo_covering_47 : decode prog_14_method_119_code 47 = .ok (.iaload, 1) := by decide +kernel
theorem d_Mo_covering_48 : decode prog_14_method_119_code 48 = .ok (.if_icmp .ge 34, 3) := by decide +kernel
theorem d_Mo_covering_51 : decode prog_14_method_119_code 51 = .ok (.iload_n 3, 1) := by decide +kernel
theorem d_Mo_covering_52 : decode prog_14_method_119_code 52 = .ok (.ifCond .eq 30, 3) := by decide +kernel
theorem d_Mo_covering_55 : decode prog_14_method_119_code 55 = .ok (.iload_n 2, 1) := by decide +kernel
theorem d_Mo_covering_56 : decode prog_14_method_119_code 56 = .ok (.aload_n 0, 1) := by decide +kernel
theorem d_Mo_covering_57 : decode prog_14_method_119_code 57 = .ok (.getfield 35, 3) := by decide +kernel
theorem d_Mo_covering_60 : decode prog_14_method_119_code 60 = .ok (.bipush 12, 2) := by decide +kernel
theorem d_Mo_covering_62 : decode prog_14_method_119_code 62 = .ok (.iload 4, 2) := by decide +kernel
theorem d_Mo_covering_64 : decode prog_14_method_119_code 64 = .ok (.iadd, 1) := by decide +kernel
theorem d_Mo_covering_65 : decode prog_14_method_119_code 65 = .ok (.iaload, 1) := by decide +kernel
theorem d_Mo_covering_66 : decode prog_14_method_119_code 66 = .ok (.iand, 1) := by decide +kernel
theorem d_Mo_covering_67 : decode prog_14_method_119_code 67 = .ok (.ifCond .eq 7, 3) := by decide +kernel
theorem d_Mo_covering_70 : decode prog_14_method_119_code 70 = .ok (.iconst 1, 1) := by decide +kernel
theorem d_Mo_covering_71 : decode prog_14_method_119_code 71 = .ok (.goto 4, 3) := by decide +kernel
theorem d_Mo_covering_74 : decode prog_14_method_119_code 74 = .ok (.iconst 0, 1) := by decide +kernel
theorem d_Mo_covering_75 : decode prog_14_method_119_code 75 = .ok (.istore_n 3, 1) := by decide +kernel
theorem d_Mo_covering_76 : decode prog_14_method_119_code 76 = .ok (.iinc 4 1, 3) := by decide +kernel
theorem d_Mo_covering_79 : decode prog_14_method_119_code 79 = .ok (.goto (-39), 3) := by decide +kernel
theorem d_Mo_covering_82 : decode prog_14_method_119_code 82 = .ok (.iload_n 3, 1) := by decide +kernel
theorem d_Mo_covering_83 : decode prog_14_method_119_code 83 = .ok (.ifCond .eq 5, 3) := by decide +kernel
theorem d_Mo_covering_86 : decode prog_14_method_119_code 86 = .ok (.iload_n 2, 1) := by decide +kernel
theorem d_Mo_covering_87 : decode prog_14_method_119_code 87 = .ok (.istore_n 1, 1) := by decide +kernel
theorem d_Mo_covering_88 : decode prog_14_method_119_code 88 = .ok (.iinc 2 1, 3) := by decide +kernel
theorem d_Mo_covering_91 : decode prog_14_method_119_code 91 = .ok (.goto (-87), 3) := by decide +kernel
theorem d_Mo_covering_94 : decode prog_14_method_119_code 94 = .ok (.iload_n 1, 1) := by decide +kernel
theorem d_Mo_covering_95 : decode prog_14_method_119_code 95 = .ok (.ireturn, 1) := by decide +kernel
theorem d_Mo_coverSet_0 : decode prog_14_method_121_code 0 = .ok (.aload_n 0, 1) := by decide +kernel
theorem d_Mo_coverSet_1 : decode prog_14_method_121_code 1 = .ok (.iconst 0, 1) := by decide +kernel
theorem d_Mo_coverSet_2 : decode prog_14_method_121_code 2 = .ok (.putfield 70, 3) := by decide +kernel
theorem d_Mo_coverSet_5 : decode prog_14_method_121_code 5 = .ok (.aload_n 0, 1) := by decide +kernel
theorem d_Mo_coverSet_6 : decode prog_14_method_121_code 6 = .ok (.iconst 0, 1) := by decide +kernel
theorem d_Mo_coverSet_7 : decode prog_14_method_121_code 7 = .ok (.putfield 73, 3) := by decide +kernel
theorem d_Mo_coverSet_10 : decode prog_14_method_121_code 10 = .ok (.aload_n 0, 1) := by decide +kernel
theorem d_Mo_coverSet_11 : decode prog_14_method_121_code 11 = .ok (.invokevirtual 406, 3) := by decide +kernel
theorem d_Mo_coverSet_14 : decode prog_14_method_121_code 14 = .ok (.istore_n 1, 1) := by decide +kernel
theorem d_Mo_coverSet_15 : decode prog_14_method_121_code 15 = .ok (.iload_n 1, 1) := by decide +kernel
theorem d_Mo_coverSet_16 : decode prog_14_method_121_code 16 = .ok (.ifCond .ge 12, 3) := by decide +kernel
theorem d_Mo_coverSet_19 : decode prog_14_method_121_code 19 = .ok (.aload_n 0, 1) := by decide +kernel
theorem d_Mo_coverSet_20 : decode prog_14_method_121_code 20 = .ok (.bipush 8, 2) := by decide +kernel
theorem d_Mo_coverSet_22 : decode prog_14_method_121_code 22 = .ok (.invokevirtual 327, 3) := by decide +kernel
theorem d_Mo_coverSet_25 : decode prog_14_method_121_code 25 = .ok (.goto 4, 3) := by decide +kernel
theorem d_Mo_coverSet_28 : decode prog_14_method_121_code 28 = .ok (.iload_n 1, 1) := by decide +kernel
theorem d_Mo_coverSet_29 : decode prog_14_method_121_code 29 = .ok (.ireturn, 1) := by decide +kernel
theorem d_Mo_blamed_0 : decode prog_14_method_123_code 0 = .ok (.aload_n 0, 1) := by decide +kernel
theorem d_Mo_blamed_1 : decode prog_14_method_123_code 1 = .ok (.iconst 0, 1) := by decide +kernel
theorem d_Mo_blamed_2 : decode prog_14_method_123_code 2 = .ok (.putfield 70, 3) := by decide +kernel
theorem d_Mo_blamed_5 : decode prog_14_method_123_code 5 = .ok (.aload_n 0, 1) := by decide +kernel
theorem d_Mo_blamed_6 : decode prog_14_method_123_code 6 = .ok (.iconst 0, 1) := by decide +kernel
theorem d_Mo_blamed_7 : decode prog_14_method_123_code 7 = .ok (.putfield 73, 3) := by decide +kernel
theorem d_Mo_blamed_10 : decode prog_14_method_123_code 10 = .ok (.aload_n 0, 1) := by decide +kernel
theorem d_Mo_blamed_11 : decode prog_14_method_123_code 11 = .ok (.invokevirtual 409, 3) := by decide +kernel
theorem d_Mo_blamed_14 : decode prog_14_method_123_code 14 = .ok (.invokestatic 396, 3) := by decide +kernel
theorem d_Mo_blamed_17 : decode prog_14_method_123_code 17 = .ok (.ireturn, 1) := by decide +kernel
theorem d_Mo_blaming_0 : decode prog_14_method_122_code 0 = .ok (.iconst (-1), 1) := by decide +kernel
theorem d_Mo_blaming_1 : decode prog_14_method_122_code 1 = .ok (.istore_n 1, 1) := by decide +kernel
theorem d_Mo_blaming_2 : decode prog_14_method_122_code 2 = .ok (.iconst 0, 1) := by decide +kernel
theorem d_Mo_blaming_3 : decode prog_14_method_122_code 3 = .ok (.istore_n 2, 1) := by decide +kernel
theorem d_Mo_blaming_4 : decode prog_14_method_122_code 4 = .ok (.iload_n 2, 1) := by decide +kernel
theorem d_Mo_blaming_5 : decode prog_14_method_122_code 5 = .ok (.iconst 1, 1) := by decide +kernel
theorem d_Mo_blaming_6 : decode prog_14_method_122_code 6 = .ok (.aload_n 0, 1) := by decide +kernel
theorem d_Mo_blaming_7 : decode prog_14_method_122_code 7 = .ok (.getfield 35, 3) := by decide +kernel
theorem d_Mo_blaming_10 : decode prog_14_method_122_code 10 = .ok (.iconst 1, 1) := by decide +kernel
theorem d_Mo_blaming_11 : decode prog_14_method_122_code 11 = .ok (.iaload, 1) := by decide +kernel
theorem d_Mo_blaming_12 : decode prog_14_method_122_code 12 = .ok (.ishl, 1) := by decide +kernel
theorem d_Mo_blaming_13 : decode prog_14_method_122_code 13 = .ok (.if_icmp .ge 94, 3) := by decide +kernel
theorem d_Mo_blaming_16 : decode prog_14_method_122_code 16 = .ok (.iload_n 1, 1) := by decide +kernel
theorem d_Mo_blaming_17 : decode prog_14_method_122_code 17 = .ok (.ifCond .lt 14, 3) := by decide +kernel
theorem d_Mo_blaming_20 : decode prog_14_method_122_code 20 = .ok (.iload_n 2, 1) := by decide +kernel
theorem d_Mo_blaming_21 : decode prog_14_method_122_code 21 = .ok (.invokestatic 396, 3) := by decide +kernel
theorem d_Mo_blaming_24 : decode prog_14_method_122_code 24 = .ok (.iload_n 1, 1) := by decide +kernel
theorem d_Mo_blaming_25 : decode prog_14_method_122_code 25 = .ok (.invokestatic 396, 3) := by decide +kernel
theorem d_Mo_blaming_28 : decode prog_14_method_122_code 28 = .ok (.if_icmp .ge 7, 3) := by decide +kernel
theorem d_Mo_blaming_31 : decode prog_14_method_122_code 31 = .ok (.iconst 1, 1) := by decide +kernel
theorem d_Mo_blaming_32 : decode prog_14_method_122_code 32 = .ok (.goto 4, 3) := by decide +kernel
theorem d_Mo_blaming_35 : decode prog_14_method_122_code 35 = .ok (.iconst 0, 1) := by decide +kernel
theorem d_Mo_blaming_36 : decode prog_14_method_122_code 36 = .ok (.istore_n 3, 1) := by decide +kernel
theorem d_Mo_blaming_37 : decode prog_14_method_122_code 37 = .ok (.iconst 0, 1) := by decide +kernel
theorem d_Mo_blaming_38 : decode prog_14_method_122_code 38 = .ok (.istore 4, 2) := by decide +kernel
theorem d_Mo_blaming_40 : decode prog_14_method_122_code 40 = .ok (.iload 4, 2) := by decide +kernel
theorem d_Mo_blaming_42 : decode prog_14_method_122_code 42 = .ok (.aload_n 0, 1) := by decide +kernel
theorem d_Mo_blaming_43 : decode prog_14_method_122_code 43 = .ok (.getfield 35, 3) := by decide +kernel
theorem d_Mo_blaming_46 : decode prog_14_method_122_code 46 = .ok (.iconst 3, 1) := by decide +kernel
theorem d_Mo_blaming_47 : decode prog_14_method_122_code 47 = .ok (.iaload, 1) := by decide +kernel
theorem d_Mo_blaming_48 : decode prog_14_method_122_code 48 = .ok (.if_icmp .ge 47, 3) := by decide +kernel
theorem d_Mo_blaming_51 : decode prog_14_method_122_code 51 = .ok (.iload_n 3, 1) := by decide +kernel
theorem d_Mo_blaming_52 : decode prog_14_method_122_code 52 = .ok (.ifCond .eq 43, 3) := by decide +kernel
theorem d_Mo_blaming_55 : decode prog_14_method_122_code 55 = .ok (.aload_n 0, 1) := by decide +kernel
theorem d_Mo_blaming_56 : decode prog_14_method_122_code 56 = .ok (.getfield 35, 3) := by decide +kernel
theorem d_Mo_blaming_59 : decode prog_14_method_122_code 59 = .ok (.bipush 60, 2) := by decide +kernel
theorem d_Mo_blaming_61 : decode prog_14_method_122_code 61 = .ok (.iload 4, 2) := by decide +kernel
theorem d_Mo_blaming_63 : decode prog_14_method_122_code 63 = .ok (.iadd, 1) := by decide +kernel
theorem d_Mo_blaming_64 : decode prog_14_method_122_code 64 = .ok (.iaload, 1) := by decide +kernel
theorem d_Mo_blaming_65 : decode prog_14_method_122_code 65 = .ok (.ifCond .eq 18, 3) := by decide +kernel
theorem d_Mo_blaming_68 : decode prog_14_method_122_code 68 = .ok (.iload_n 2, 1) := by decide +kernel
theorem d_Mo_blaming_69 : decode prog_14_method_122_code 69 = .ok (.aload_n 0, 1) := by decide +kernel
theorem d_Mo_blaming_70 : decode prog_14_method_122_code 70 = .ok (.getfield 35, 3) := by decide +kernel
theorem d_Mo_blaming_73 : decode prog_14_method_122_code 73 = .ok (.bipush 69, 2) := by decide +kernel
theorem d_Mo_blaming_75 : decode prog_14_method_122_code 75 = .ok (.iload 4, 2) := by decide +kernel
theorem d_Mo_blaming_77 : decode prog_14_method_122_code 77 = .ok (.iadd, 1) := by decide +kernel
theorem d_Mo_blaming_78 : decode prog_14_method_122_code 78 = .ok (.iaload, 1) := by decide +kernel
theorem d_Mo_blaming_79 : decode prog_14_method_122_code 79 = .ok (.iand, 1) := by decide +kernel
theorem d_Mo_blaming_80 : decode prog_14_method_122_code 80 = .ok (.ifCond .eq 7, 3) := by decide +kernel
theorem d_Mo_blaming_83 : decode prog_14_method_122_code 83 = .ok (.iconst 1, 1) := by decide +kernel
theorem d_Mo_blaming_84 : decode prog_14_method_122_code 84 = .ok (.goto 4, 3) := by decide +kernel
theorem d_Mo_blaming_87 : decode prog_14_method_122_code 87 = .ok (.iconst 0, 1) := by decide +kernel
theorem d_Mo_blaming_88 : decode prog_14_method_122_code 88 = .ok (.istore_n 3, 1) := by decide +kernel
theorem d_Mo_blaming_89 : decode prog_14_method_122_code 89 = .ok (.iinc 4 1, 3) := by decide +kernel
theorem d_Mo_blaming_92 : decode prog_14_method_122_code 92 = .ok (.goto (-52), 3) := by decide +kernel
theorem d_Mo_blaming_95 : decode prog_14_method_122_code 95 = .ok (.iload_n 3, 1) := by decide +kernel
theorem d_Mo_blaming_96 : decode prog_14_method_122_code 96 = .ok (.ifCond .eq 5, 3) := by decide +kernel
theorem d_Mo_blaming_99 : decode prog_14_method_122_code 99 = .ok (.iload_n 2, 1) := by decide +kernel
theorem d_Mo_blaming_100 : decode prog_14_method_122_code 100 = .ok (.istore_n 1, 1) := by decide +kernel
theorem d_Mo_blaming_101 : decode prog_14_method_122_code 101 = .ok (.iinc 2 1, 3) := by decide +kernel
theorem d_Mo_blaming_104 : decode prog_14_method_122_code 104 = .ok (.goto (-100), 3) := by decide +kernel
theorem d_Mo_blaming_107 : decode prog_14_method_122_code 107 = .ok (.iload_n 1, 1) := by decide +kernel
theorem d_Mo_blaming_108 : decode prog_14_method_122_code 108 = .ok (.ireturn, 1) := by decide +kernel
theorem d_Mo_blamedSet_0 : decode prog_14_method_124_code 0 = .ok (.aload_n 0, 1) := by decide +kernel
theorem d_Mo_blamedSet_1 : decode prog_14_method_124_code 1 = .ok (.iconst 0, 1) := by decide +kernel
theorem d_Mo_blamedSet_2 : decode prog_14_method_124_code 2 = .ok (.putfield 70, 3) := by decide +kernel
theorem d_Mo_blamedSet_5 : decode prog_14_method_124_code 5 = .ok (.aload_n 0, 1) := by decide +kernel
theorem d_Mo_blamedSet_6 : decode prog_14_method_124_code 6 = .ok (.iconst 0, 1) := by decide +kernel
theorem d_Mo_blamedSet_7 : decode prog_14_method_124_code 7 = .ok (.putfield 73, 3) := by decide +kernel
theorem d_Mo_blamedSet_10 : decode prog_14_method_124_code 10 = .ok (.aload_n 0, 1) := by decide +kernel
theorem d_Mo_blamedSet_11 : decode prog_14_method_124_code 11 = .ok (.invokevirtual 409, 3) := by decide +kernel
theorem d_Mo_blamedSet_14 : decode prog_14_method_124_code 14 = .ok (.ireturn, 1) := by decide +kernel
theorem d_Mo_wheels_0 : decode prog_14_method_127_code 0 = .ok (.aload_n 0, 1) := by decide +kernel
theorem d_Mo_wheels_1 : decode prog_14_method_127_code 1 = .ok (.iconst 0, 1) := by decide +kernel
theorem d_Mo_wheels_2 : decode prog_14_method_127_code 2 = .ok (.putfield 70, 3) := by decide +kernel
theorem d_Mo_wheels_5 : decode prog_14_method_127_code 5 = .ok (.aload_n 0, 1) := by decide +kernel
theorem d_Mo_wheels_6 : decode prog_14_method_127_code 6 = .ok (.iconst 0, 1) := by decide +kernel
theorem d_Mo_wheels_7 : decode prog_14_method_127_code 7 = .ok (.putfield 73, 3) := by decide +kernel
theorem d_Mo_wheels_10 : decode prog_14_method_127_code 10 = .ok (.iload_n 1, 1) := by decide +kernel
theorem d_Mo_wheels_11 : decode prog_14_method_127_code 11 = .ok (.i2l, 1) := by decide +kernel
theorem d_Mo_wheels_12 : decode prog_14_method_127_code 12 = .ok (.ldc2_w 419, 3) := by decide +kernel
theorem d_Mo_wheels_15 : decode prog_14_method_127_code 15 = .ok (.ldc2_w 421, 3) := by decide +kernel
theorem d_Mo_wheels_18 : decode prog_14_method_127_code 18 = .ok (.invokestatic 105, 3) := by decide +kernel
theorem d_Mo_wheels_21 : decode prog_14_method_127_code 21 = .ok (.ifCond .ne 9, 3) := by decide +kernel
theorem d_Mo_wheels_24 : decode prog_14_method_127_code 24 = .ok (.aload_n 0, 1) := by decide +kernel
theorem d_Mo_wheels_25 : decode prog_14_method_127_code 25 = .ok (.iconst 5, 1) := by decide +kernel
theorem d_Mo_wheels_26 : decode prog_14_method_127_code 26 = .ok (.invokevirtual 327, 3) := by decide +kernel
theorem d_Mo_wheels_29 : decode prog_14_method_127_code 29 = .ok (.ireturn, 1) := by decide +kernel
theorem d_Mo_wheels_30 : decode prog_14_method_127_code 30 = .ok (.iconst 0, 1) := by decide +kernel
theorem d_Mo_wheels_31 : decode prog_14_method_127_code 31 = .ok (.istore_n 2, 1) := by decide +kernel
theorem d_Mo_wheels_32 : decode prog_14_method_127_code 32 = .ok (.iconst 0, 1) := by decide +kernel
theorem d_Mo_wheels_33 : decode prog_14_method_127_code 33 = .ok (.istore_n 3, 1) := by decide +kernel
theorem d_Mo_wheels_34 : decode prog_14_method_127_code 34 = .ok (.iload_n 3, 1) := by decide +kernel
theorem d_Mo_wheels_35 : decode prog_14_method_127_code 35 = .ok (.aload_n 0, 1) := by decide +kernel
theorem d_Mo_wheels_36 : decode prog_14_method_127_code 36 = .ok (.getfield 35, 3) := by decide +kernel
theorem d_Mo_wheels_39 : decode prog_14_method_127_code 39 = .ok (.iconst 1, 1) := by decide +kernel
theorem d_Mo_wheels_40 : decode prog_14_method_127_code 40 = .ok (.iaload, 1) := by decide +kernel
theorem d_Mo_wheels_41 : decode prog_14_method_127_code 41 = .ok (.if_icmp .ge 24, 3) := by decide +kernel
theorem d_Mo_wheels_44 : decode prog_14_method_127_code 44 = .ok (.iload_n 2, 1) := by decide +kernel
theorem d_Mo_wheels_45 : decode prog_14_method_127_code 45 = .ok (.aload_n 0, 1) := by decide +kernel
theorem d_Mo_wheels_46 : decode prog_14_method_127_code 46 = .ok (.iload_n 3, 1) := by decide +kernel
theorem d_Mo_wheels_47 : decode prog_14_method_127_code 47 = .ok (.iload_n 3, 1) := by decide +kernel
theorem d_Mo_wheels_48 : decode prog_14_method_127_code 48 = .ok (.iconst 1, 1) := by decide +kernel
theorem d_Mo_wheels_49 : decode prog_14_method_127_code 49 = .ok (.iload_n 3, 1) := by decide +kernel
theorem d_Mo_wheels_50 : decode prog_14_method_127_code 50 = .ok (.ishl, 1) := by decide +kernel
theorem d_Mo_wheels_51 : decode prog_14_method_127_code 51 = .ok (.iload_n 1, 1) := by decide +kernel
theorem d_Mo_wheels_52 : decode prog_14_method_127_code 52 = .ok (.iconst 1, 1) := by decide +kernel
theorem d_Mo_wheels_53 : decode prog_14_method_127_code 53 = .ok (.isub, 1) := by decide +kernel
theorem d_Mo_wheels_54 : decode prog_14_method_127_code 54 = .ok (.invokevirtual 415, 3) := by decide +kernel
theorem d_Mo_wheels_57 : decode prog_14_method_127_code 57 = .ok (.iadd, 1) := by decide +kernel
theorem d_Mo_wheels_58 : decode prog_14_method_127_code 58 = .ok (.istore_n 2, 1) := by decide +kernel
theorem d_Mo_wheels_59 : decode prog_14_method_127_code 59 = .ok (.iinc 3 1, 3) := by decide +kernel
theorem d_Mo_wheels_62 : decode prog_14_method_127_code 62 = .ok (.goto (-28), 3) := by decide +kernel
theorem d_Mo_wheels_65 : decode prog_14_method_127_code 65 = .ok (.iload_n 2, 1) := by decide +kernel
theorem d_Mo_wheels_66 : decode prog_14_method_127_code 66 = .ok (.ireturn, 1) := by decide +kernel
theorem d_Mo_rolls_0 : decode prog_14_method_126_code 0 = .ok (.iload 4, 2) := by decide +kernel
theorem d_Mo_rolls_2 : decode prog_14_method_126_code 2 = .ok (.ifCond .ne 18, 3) := by decide +kernel
theorem d_Mo_rolls_5 : decode prog_14_method_126_code 5 = .ok (.aload_n 0, 1) := by decide +kernel
theorem d_Mo_rolls_6 : decode prog_14_method_126_code 6 = .ok (.iload_n 2, 1) := by decide +kernel
theorem d_Mo_rolls_7 : decode prog_14_method_126_code 7 = .ok (.iload_n 1, 1) := by decide +kernel
theorem d_Mo_rolls_8 : decode prog_14_method_126_code 8 = .ok (.invokevirtual 412, 3) := by decide +kernel
theorem d_Mo_rolls_11 : decode prog_14_method_126_code 11 = .ok (.ifCond .eq 7, 3) := by decide +kernel
theorem d_Mo_rolls_14 : decode prog_14_method_126_code 14 = .ok (.iconst 1, 1) := by decide +kernel
theorem d_Mo_rolls_15 : decode prog_14_method_126_code 15 = .ok (.goto 4, 3) := by decide +kernel
theorem d_Mo_rolls_18 : decode prog_14_method_126_code 18 = .ok (.iconst 0, 1) := by decide +kernel
theorem d_Mo_rolls_19 : decode prog_14_method_126_code 19 = .ok (.ireturn, 1) := by decide +kernel
theorem d_Mo_rolls_20 : decode prog_14_method_126_code 20 = .ok (.iconst 0, 1) := by decide +kernel
theorem d_Mo_rolls_21 : decode prog_14_method_126_code 21 = .ok (.istore 5, 2) := by decide +kernel
theorem d_Mo_rolls_23 : decode prog_14_method_126_code 23 = .ok (.iload_n 1, 1) := by decide +kernel
theorem d_Mo_rolls_24 : decode prog_14_method_126_code 24 = .ok (.iconst 1, 1) := by decide +kernel
theorem d_Mo_rolls_25 : decode prog_14_method_126_code 25 = .ok (.iadd, 1) := by decide +kernel
theorem d_Mo_rolls_26 : decode prog_14_method_126_code 26 = .ok (.istore 6, 2) := by decide +kernel
theorem d_Mo_rolls_28 : decode prog_14_method_126_code 28 = .ok (.iload 6, 2) := by decide +kernel
theorem d_Mo_rolls_30 : decode prog_14_method_126_code 30 = .ok (.aload_n 0, 1) := by decide +kernel
theorem d_Mo_rolls_31 : decode prog_14_method_126_code 31 = .ok (.getfield 35, 3) := by decide +kernel
theorem d_Mo_rolls_34 : decode prog_14_method_126_code 34 = .ok (.iconst 1, 1) := by decide +kernel
theorem d_Mo_rolls_35 : decode prog_14_method_126_code 35 = .ok (.iaload, 1) := by decide +kernel
theorem d_Mo_rolls_36 : decode prog_14_method_126_code 36 = .ok (.if_icmp .ge 50, 3) := by decide +kernel
theorem d_Mo_rolls_39 : decode prog_14_method_126_code 39 = .ok (.iload_n 3, 1) := by decide +kernel
theorem d_Mo_rolls_40 : decode prog_14_method_126_code 40 = .ok (.iload 6, 2) := by decide +kernel
theorem d_Mo_rolls_42 : decode prog_14_method_126_code 42 = .ok (.invokestatic 109, 3) := by decide +kernel
theorem d_Mo_rolls_45 : decode prog_14_method_126_code 45 = .ok (.ifCond .ne 35, 3) := by decide +kernel
theorem d_Mo_rolls_48 : decode prog_14_method_126_code 48 = .ok (.aload_n 0, 1) := by decide +kernel
theorem d_Mo_rolls_49 : decode prog_14_method_126_code 49 = .ok (.iload_n 2, 1) := by decide +kernel
theorem d_Mo_rolls_50 : decode prog_14_method_126_code 50 = .ok (.iload 6, 2) := by decide +kernel
theorem d_Mo_rolls_52 : decode prog_14_method_126_code 52 = .ok (.invokevirtual 412, 3) := by decide +kernel
theorem d_Mo_rolls_55 : decode prog_14_method_126_code 55 = .ok (.ifCond .eq 25, 3) := by decide +kernel
theorem d_Mo_rolls_58 : decode prog_14_method_126_code 58 = .ok (.iload 5, 2) := by decide +kernel
theorem d_Mo_rolls_60 : decode prog_14_method_126_code 60 = .ok (.aload_n 0, 1) := by decide +kernel
theorem d_Mo_rolls_61 : decode prog_14_method_126_code 61 = .ok (.iload_n 1, 1) := by decide +kernel
theorem d_Mo_rolls_62 : decode prog_14_method_126_code 62 = .ok (.iload 6, 2) := by decide +kernel
theorem d_Mo_rolls_64 : decode prog_14_method_126_code 64 = .ok (.iload_n 3, 1) := by decide +kernel
theorem d_Mo_rolls_65 : decode prog_14_method_126_code 65 = .ok (.iconst 1, 1) := by decide +kernel
theorem d_Mo_rolls_66 : decode prog_14_method_126_code 66 = .ok (.iload 6, 2) := by decide +kernel
theorem d_Mo_rolls_68 : decode prog_14_method_126_code 68 = .ok (.ishl, 1) := by decide +kernel
theorem d_Mo_rolls_69 : decode prog_14_method_126_code 69 = .ok (.ior, 1) := by decide +kernel
theorem d_Mo_rolls_70 : decode prog_14_method_126_code 70 = .ok (.iload 4, 2) := by decide +kernel
theorem d_Mo_rolls_72 : decode prog_14_method_126_code 72 = .ok (.iconst 1, 1) := by decide +kernel
theorem d_Mo_rolls_73 : decode prog_14_method_126_code 73 = .ok (.isub, 1) := by decide +kernel
theorem d_Mo_rolls_74 : decode prog_14_method_126_code 74 = .ok (.invokevirtual 415, 3) := by decide +kernel
theorem d_Mo_rolls_77 : decode prog_14_method_126_code 77 = .ok (.iadd, 1) := by decide +kernel
theorem d_Mo_rolls_78 : decode prog_14_method_126_code 78 = .ok (.istore 5, 2) := by decide +kernel
theorem d_Mo_rolls_80 : decode prog_14_method_126_code 80 = .ok (.iinc 6 1, 3) := by decide +kernel
theorem d_Mo_rolls_83 : decode prog_14_method_126_code 83 = .ok (.goto (-55), 3) := by decide +kernel
theorem d_Mo_rolls_86 : decode prog_14_method_126_code 86 = .ok (.iload 5, 2) := by decide +kernel
theorem d_Mo_rolls_88 : decode prog_14_method_126_code 88 = .ok (.ireturn, 1) := by decide +kernel
theorem d_Mo_canGive_0 : decode prog_14_method_125_code 0 = .ok (.iconst 0, 1) := by decide +kernel
theorem d_Mo_canGive_1 : decode prog_14_method_125_code 1 = .ok (.istore_n 3, 1) := by decide +kernel
theorem d_Mo_canGive_2 : decode prog_14_method_125_code 2 = .ok (.iload_n 3, 1) := by decide +kernel
theorem d_Mo_canGive_3 : decode prog_14_method_125_code 3 = .ok (.aload_n 0, 1) := by decide +kernel
theorem d_Mo_canGive_4 : decode prog_14_method_125_code 4 = .ok (.getfield 35, 3) := by decide +kernel
theorem d_Mo_canGive_7 : decode prog_14_method_125_code 7 = .ok (.iconst 3, 1) := by decide +kernel
theorem d_Mo_canGive_8 : decode prog_14_method_125_code 8 = .ok (.iaload, 1) := by decide +kernel
theorem d_Mo_canGive_9 : decode prog_14_method_125_code 9 = .ok (.if_icmp .ge 37, 3) := by decide +kernel
theorem d_Mo_canGive_12 : decode prog_14_method_125_code 12 = .ok (.aload_n 0, 1) := by decide +kernel
theorem d_Mo_canGive_13 : decode prog_14_method_125_code 13 = .ok (.getfield 35, 3) := by decide +kernel
theorem d_Mo_canGive_16 : decode prog_14_method_125_code 16 = .ok (.bipush 42, 2) := by decide +kernel
theorem d_Mo_canGive_18 : decode prog_14_method_125_code 18 = .ok (.iload_n 3, 1) := by decide +kernel
theorem d_Mo_canGive_19 : decode prog_14_method_125_code 19 = .ok (.iadd, 1) := by decide +kernel
theorem d_Mo_canGive_20 : decode prog_14_method_125_code 20 = .ok (.iaload, 1) := by decide +kernel
theorem d_Mo_canGive_21 : decode prog_14_method_125_code 21 = .ok (.iload_n 1, 1) := by decide +kernel
theorem d_Mo_canGive_22 : decode prog_14_method_125_code 22 = .ok (.if_icmp .ne 18, 3) := by decide +kernel
theorem d_Mo_canGive_25 : decode prog_14_method_125_code 25 = .ok (.aload_n 0, 1) := by decide +kernel
theorem d_Mo_canGive_26 : decode prog_14_method_125_code 26 = .ok (.iload_n 3, 1) := by decide +kernel
theorem d_Mo_canGive_27 : decode prog_14_method_125_code 27 = .ok (.iload_n 1, 1) := by decide +kernel
theorem d_Mo_canGive_28 : decode prog_14_method_125_code 28 = .ok (.invokevirtual 357, 3) := by decide +kernel
theorem d_Mo_canGive_31 : decode prog_14_method_125_code 31 = .ok (.iload_n 2, 1) := by decide +kernel
theorem d_Mo_canGive_32 : decode prog_14_method_125_code 32 = .ok (.invokestatic 109, 3) := by decide +kernel
theorem d_Mo_canGive_35 : decode prog_14_method_125_code 35 = .ok (.ifCond .eq 5, 3) := by decide +kernel
theorem d_Mo_canGive_38 : decode prog_14_method_125_code 38 = .ok (.iconst 1, 1) := by decide +kernel
theorem d_Mo_canGive_39 : decode prog_14_method_125_code 39 = .ok (.ireturn, 1) := by decide +kernel
theorem d_Mo_canGive_40 : decode prog_14_method_125_code 40 = .ok (.iinc 3 1, 3) := by decide +kernel
theorem d_Mo_canGive_43 : decode prog_14_method_125_code 43 = .ok (.goto (-41), 3) := by decide +kernel
theorem d_Mo_canGive_46 : decode prog_14_method_125_code 46 = .ok (.iconst 0, 1) := by decide +kernel
theorem d_Mo_canGive_47 : decode prog_14_method_125_code 47 = .ok (.ireturn, 1) := by decide +kernel
theorem d_Mo_whose_0 : decode prog_14_method_130_code 0 = .ok (.aload_n 0, 1) := by decide +kernel
theorem d_Mo_whose_1 : decode prog_14_method_130_code 1 = .ok (.iconst 0, 1) := by decide +kernel
theorem d_Mo_whose_2 : decode prog_14_method_130_code 2 = .ok (.putfield 70, 3) := by decide +kernel
theorem d_Mo_whose_5 : decode prog_14_method_130_code 5 = .ok (.aload_n 0, 1) := by decide +kernel
theorem d_Mo_whose_6 : decode prog_14_method_130_code 6 = .ok (.aload_n 0, 1) := by decide +kernel
theorem d_Mo_whose_7 : decode prog_14_method_130_code 7 = .ok (.iload_n 1, 1) := by decide +kernel
theorem d_Mo_whose_8 : decode prog_14_method_130_code 8 = .ok (.iload_n 2, 1) := by decide +kernel
theorem d_Mo_whose_9 : decode prog_14_method_130_code 9 = .ok (.invokevirtual 438, 3) := by decide +kernel
theorem d_Mo_whose_12 : decode prog_14_method_130_code 12 = .ok (.putfield 73, 3) := by decide +kernel
theorem d_Mo_whose_15 : decode prog_14_method_130_code 15 = .ok (.aload_n 0, 1) := by decide +kernel
theorem d_Mo_whose_16 : decode prog_14_method_130_code 16 = .ok (.getfield 73, 3) := by decide +kernel
theorem d_Mo_whose_19 : decode prog_14_method_130_code 19 = .ok (.ifCond .le 5, 3) := by decide +kernel
theorem d_Mo_whose_22 : decode prog_14_method_130_code 22 = .ok (.iconst (-1), 1) := by decide +kernel
theorem d_Mo_whose_23 : decode prog_14_method_130_code 23 = .ok (.ireturn, 1) := by decide +kernel
theorem d_Mo_whose_24 : decode prog_14_method_130_code 24 = .ok (.aload_n 0, 1) := by decide +kernel
theorem d_Mo_whose_25 : decode prog_14_method_130_code 25 = .ok (.iload_n 1, 1) := by decide +kernel
theorem d_Mo_whose_26 : decode prog_14_method_130_code 26 = .ok (.iload_n 2, 1) := by decide +kernel
theorem d_Mo_whose_27 : decode prog_14_method_130_code 27 = .ok (.invokevirtual 441, 3) := by decide +kernel
theorem d_Mo_whose_30 : decode prog_14_method_130_code 30 = .ok (.aload_n 0, 1) := by decide +kernel
theorem d_Mo_whose_31 : decode prog_14_method_130_code 31 = .ok (.getfield 432, 3) := by decide +kernel
theorem d_Mo_whose_34 : decode prog_14_method_130_code 34 = .ok (.ireturn, 1) := by decide +kernel
theorem d_Mo_whyNoWhose_0 : decode prog_14_method_128_code 0 = .ok (.aload_n 0, 1) := by decide +kernel
theorem d_Mo_whyNoWhose_1 : decode prog_14_method_128_code 1 = .ok (.iload_n 1, 1) := by decide +kernel
theorem d_Mo_whyNoWhose_2 : decode prog_14_method_128_code 2 = .ok (.invokevirtual 347, 3) := by decide +kernel
theorem d_Mo_whyNoWhose_5 : decode prog_14_method_128_code 5 = .ok (.ifCond .ne 5, 3) := by decide +kernel
theorem d_Mo_whyNoWhose_8 : decode prog_14_method_128_code 8 = .ok (.iconst 1, 1) := by decide +kernel
theorem d_Mo_whyNoWhose_9 : decode prog_14_method_128_code 9 = .ok (.ireturn, 1) := by decide +kernel
theorem d_Mo_whyNoWhose_10 : decode prog_14_method_128_code 10 = .ok (.aload_n 0, 1) := by decide +kernel
theorem d_Mo_whyNoWhose_11 : decode prog_14_method_128_code 11 = .ok (.getfield 17, 3) := by decide +kernel
theorem d_Mo_whyNoWhose_14 : decode prog_14_method_128_code 14 = .ok (.iload_n 1, 1) := by decide +kernel
theorem d_Mo_whyNoWhose_15 : decode prog_14_method_128_code 15 = .ok (.iaload, 1) := by decide +kernel
theorem d_Mo_whyNoWhose_16 : decode prog_14_method_128_code 16 = .ok (.ifCond .ge 5, 3) := by decide +kernel
theorem d_Mo_whyNoWhose_19 : decode prog_14_method_128_code 19 = .ok (.iconst 3, 1) := by decide +kernel
theorem d_Mo_whyNoWhose_20 : decode prog_14_method_128_code 20 = .ok (.ireturn, 1) := by decide +kernel
theorem d_Mo_whyNoWhose_21 : decode prog_14_method_128_code 21 = .ok (.aload_n 0, 1) := by decide +kernel
theorem d_Mo_whyNoWhose_22 : decode prog_14_method_128_code 22 = .ok (.getfield 17, 3) := by decide +kernel
theorem d_Mo_whyNoWhose_25 : decode prog_14_method_128_code 25 = .ok (.iload_n 1, 1) := by decide +kernel
theorem d_Mo_whyNoWhose_26 : decode prog_14_method_128_code 26 = .ok (.iaload, 1) := by decide +kernel
theorem d_Mo_whyNoWhose_27 : decode prog_14_method_128_code 27 = .ok (.i2l, 1) := by decide +kernel
theorem d_Mo_whyNoWhose_28 : decode prog_14_method_128_code 28 = .ok (.ldc2_w 419, 3) := by decide +kernel
theorem d_Mo_whyNoWhose_31 : decode prog_14_method_128_code 31 = .ok (.iload_n 2, 1) := by decide +kernel
theorem d_Mo_whyNoWhose_32 : decode prog_14_method_128_code 32 = .ok (.i2l, 1) := by decide +kernel
theorem d_Mo_whyNoWhose_33 : decode prog_14_method_128_code 33 = .ok (.lmul, 1) := by decide +kernel
theorem d_Mo_whyNoWhose_34 : decode prog_14_method_128_code 34 = .ok (.lcmp, 1) := by decide +kernel
theorem d_Mo_whyNoWhose_35 : decode prog_14_method_128_code 35 = .ok (.ifCond .ge 5, 3) := by decide +kernel
theorem d_Mo_whyNoWhose_38 : decode prog_14_method_128_code 38 = .ok (.iconst 4, 1) := by decide +kernel
theorem d_Mo_whyNoWhose_39 : decode prog_14_method_128_code 39 = .ok (.ireturn, 1) := by decide +kernel
theorem d_Mo_whyNoWhose_40 : decode prog_14_method_128_code 40 = .ok (.iload_n 2, 1) := by decide +kernel
theorem d_Mo_whyNoWhose_41 : decode prog_14_method_128_code 41 = .ok (.i2l, 1) := by decide +kernel
theorem d_Mo_whyNoWhose_42 : decode prog_14_method_128_code 42 = .ok (.lconst 0, 1) := by decide +kernel
theorem d_Mo_whyNoWhose_43 : decode prog_14_method_128_code 43 = .ok (.ldc2_w 421, 3) := by decide +kernel
theorem d_Mo_whyNoWhose_46 : decode prog_14_method_128_code 46 = .ok (.invokestatic 105, 3) := by decide +kernel
theorem d_Mo_whyNoWhose_49 : decode prog_14_method_128_code 49 = .ok (.ifCond .ne 5, 3) := by decide +kernel
theorem d_Mo_whyNoWhose_52 : decode prog_14_method_128_code 52 = .ok (.iconst 5, 1) := by decide +kernel
theorem d_Mo_whyNoWhose_53 : decode prog_14_method_128_code 53 = .ok (.ireturn, 1) := by decide +kernel
theorem d_Mo_whyNoWhose_54 : decode prog_14_method_128_code 54 = .ok (.aload_n 0, 1) := by decide +kernel
theorem d_Mo_whyNoWhose_55 : decode prog_14_method_128_code 55 = .ok (.iconst 0, 1) := by decide +kernel
theorem d_Mo_whyNoWhose_56 : decode prog_14_method_128_code 56 = .ok (.putfield 423, 3) := by decide +kernel
theorem d_Mo_whyNoWhose_59 : decode prog_14_method_128_code 59 = .ok (.iconst 0, 1) := by decide +kernel
theorem d_Mo_whyNoWhose_60 : decode prog_14_method_128_code 60 = .ok (.istore_n 3, 1) := by decide +kernel
theorem d_Mo_whyNoWhose_61 : decode prog_14_method_128_code 61 = .ok (.iload_n 3, 1) := by decide +kernel
theorem d_Mo_whyNoWhose_62 : decode prog_14_method_128_code 62 = .ok (.iload_n 2, 1) := by decide +kernel
theorem d_Mo_whyNoWhose_63 : decode prog_14_method_128_code 63 = .ok (.if_icmp .ge 85, 3) := by decide +kernel
theorem d_Mo_whyNoWhose_66 : decode prog_14_method_128_code 66 = .ok (.aload_n 0, 1) := by decide +kernel
theorem d_Mo_whyNoWhose_67 : decode prog_14_method_128_code 67 = .ok (.aload_n 0, 1) := by decide +kernel
theorem d_Mo_whyNoWhose_68 : decode prog_14_method_128_code 68 = .ok (.iload_n 1, 1) := by decide +kernel
theorem d_Mo_whyNoWhose_69 : decode prog_14_method_128_code 69 = .ok (.iconst 2, 1) := by decide +kernel
theorem d_Mo_whyNoWhose_70 : decode prog_14_method_128_code 70 = .ok (.iload_n 3, 1) := by decide +kernel
theorem d_Mo_whyNoWhose_71 : decode prog_14_method_128_code 71 = .ok (.imul, 1) := by decide +kernel
theorem d_Mo_whyNoWhose_72 : decode prog_14_method_128_code 72 = .ok (.invokevirtual 426, 3) := by decide +kernel
theorem d_Mo_whyNoWhose_75 : decode prog_14_method_128_code 75 = .ok (.invokevirtual 336, 3) := by decide +kernel
theorem d_Mo_whyNoWhose_78 : decode prog_14_method_128_code 78 = .ok (.ifCond .eq 42, 3) := by decide +kernel
theorem d_Mo_whyNoWhose_81 : decode prog_14_method_128_code 81 = .ok (.aload_n 0, 1) := by decide +kernel
theorem d_Mo_whyNoWhose_82 : decode prog_14_method_128_code 82 = .ok (.getfield 423, 3) := by decide +kernel
theorem d_Mo_whyNoWhose_85 : decode prog_14_method_128_code 85 = .ok (.aload_n 0, 1) := by decide +kernel
theorem d_Mo_whyNoWhose_86 : decode prog_14_method_128_code 86 = .ok (.iload_n 1, 1) := by decide +kernel
theorem d_Mo_whyNoWhose_87 : decode prog_14_method_128_code 87 = .ok (.iconst 2, 1) := by decide +kernel
theorem d_Mo_whyNoWhose_88 : decode prog_14_method_128_code 88 = .ok (.iload_n 3, 1) := by decide +kernel
theorem d_Mo_whyNoWhose_89 : decode prog_14_method_128_code 89 = .ok (.imul, 1) := by decide +kernel
theorem d_Mo_whyNoWhose_90 : decode prog_14_method_128_code 90 = .ok (.invokevirtual 426, 3) := by decide +kernel
theorem d_Mo_whyNoWhose_93 : decode prog_14_method_128_code 93 = .ok (.l2i, 1) := by decide +kernel
theorem d_Mo_whyNoWhose_94 : decode prog_14_method_128_code 94 = .ok (.invokestatic 109, 3) := by decide +kernel
theorem d_Mo_whyNoWhose_97 : decode prog_14_method_128_code 97 = .ok (.ifCond .ne 23, 3) := by decide +kernel
theorem d_Mo_whyNoWhose_100 : decode prog_14_method_128_code 100 = .ok (.aload_n 0, 1) := by decide +kernel
theorem d_Mo_whyNoWhose_101 : decode prog_14_method_128_code 101 = .ok (.iload_n 1, 1) := by decide +kernel
theorem d_Mo_whyNoWhose_102 : decode prog_14_method_128_code 102 = .ok (.iconst 2, 1) := by decide +kernel
theorem d_Mo_whyNoWhose_103 : decode prog_14_method_128_code 103 = .ok (.iload_n 3, 1) := by decide +kernel
theorem d_Mo_whyNoWhose_104 : decode prog_14_method_128_code 104 = .ok (.imul, 1) := by decide +kernel
theorem d_Mo_whyNoWhose_105 : decode prog_14_method_128_code 105 = .ok (.iconst 1, 1) := by decide +kernel
theorem d_Mo_whyNoWhose_106 : decode prog_14_method_128_code 106 = .ok (.iadd, 1) := by decide +kernel
theorem d_Mo_whyNoWhose_107 : decode prog_14_method_128_code 107 = .ok (.invokevirtual 426, 3) := by decide +kernel
theorem d_Mo_whyNoWhose_110 : decode prog_14_method_128_code 110 = .ok (.lconst 0, 1) := by decide +kernel
theorem d_Mo_whyNoWhose_111 : decode prog_14_method_128_code 111 = .ok (.ldc2_w 430, 3) := by decide +kernel
theorem d_Mo_whyNoWhose_114 : decode prog_14_method_128_code 114 = .ok (.invokestatic 105, 3) := by decide +kernel
theorem d_Mo_whyNoWhose_117 : decode prog_14_method_128_code 117 = .ok (.ifCond .ne 5, 3) := by decide +kernel
theorem d_Mo_whyNoWhose_120 : decode prog_14_method_128_code 120 = .ok (.iconst 5, 1) := by decide +kernel
theorem d_Mo_whyNoWhose_121 : decode prog_14_method_128_code 121 = .ok (.ireturn, 1) := by decide +kernel
theorem d_Mo_whyNoWhose_122 : decode prog_14_method_128_code 122 = .ok (.aload_n 0, 1) := by decide +kernel
theorem d_Mo_whyNoWhose_123 : decode prog_14_method_128_code 123 = .ok (.dup, 1) := by decide +kernel
theorem d_Mo_whyNoWhose_124 : decode prog_14_method_128_code 124 = .ok (.getfield 423, 3) := by decide +kernel
theorem d_Mo_whyNoWhose_127 : decode prog_14_method_128_code 127 = .ok (.iconst 1, 1) := by decide +kernel
theorem d_Mo_whyNoWhose_128 : decode prog_14_method_128_code 128 = .ok (.aload_n 0, 1) := by decide +kernel
theorem d_Mo_whyNoWhose_129 : decode prog_14_method_128_code 129 = .ok (.iload_n 1, 1) := by decide +kernel
theorem d_Mo_whyNoWhose_130 : decode prog_14_method_128_code 130 = .ok (.iconst 2, 1) := by decide +kernel
theorem d_Mo_whyNoWhose_131 : decode prog_14_method_128_code 131 = .ok (.iload_n 3, 1) := by decide +kernel
theorem d_Mo_whyNoWhose_132 : decode prog_14_method_128_code 132 = .ok (.imul, 1) := by decide +kernel
theorem d_Mo_whyNoWhose_133 : decode prog_14_method_128_code 133 = .ok (.invokevirtual 426, 3) := by decide +kernel
theorem d_Mo_whyNoWhose_136 : decode prog_14_method_128_code 136 = .ok (.l2i, 1) := by decide +kernel
theorem d_Mo_whyNoWhose_137 : decode prog_14_method_128_code 137 = .ok (.ishl, 1) := by decide +kernel
theorem d_Mo_whyNoWhose_138 : decode prog_14_method_128_code 138 = .ok (.ior, 1) := by decide +kernel
theorem d_Mo_whyNoWhose_139 : decode prog_14_method_128_code 139 = .ok (.putfield 423, 3) := by decide +kernel
theorem d_Mo_whyNoWhose_142 : decode prog_14_method_128_code 142 = .ok (.iinc 3 1, 3) := by decide +kernel
theorem d_Mo_whyNoWhose_145 : decode prog_14_method_128_code 145 = .ok (.goto (-84), 3) := by decide +kernel
theorem d_Mo_whyNoWhose_148 : decode prog_14_method_128_code 148 = .ok (.iconst 0, 1) := by decide +kernel
theorem d_Mo_whyNoWhose_149 : decode prog_14_method_128_code 149 = .ok (.ireturn, 1) := by decide +kernel
theorem d_Mo_numberOf_0 : decode prog_14_method_17_code 0 = .ok (.aload_n 0, 1) := by decide +kernel
theorem d_Mo_numberOf_1 : decode prog_14_method_17_code 1 = .ok (.getfield 20, 3) := by decide +kernel
theorem d_Mo_numberOf_4 : decode prog_14_method_17_code 4 = .ok (.bipush 60, 2) := by decide +kernel
theorem d_Mo_numberOf_6 : decode prog_14_method_17_code 6 = .ok (.iload_n 1, 1) := by decide +kernel
theorem d_Mo_numberOf_7 : decode prog_14_method_17_code 7 = .ok (.imul, 1) := by decide +kernel
theorem d_Mo_numberOf_8 : decode prog_14_method_17_code 8 = .ok (.iload_n 2, 1) := by decide +kernel
theorem d_Mo_numberOf_9 : decode prog_14_method_17_code 9 = .ok (.iadd, 1) := by decide +kernel
theorem d_Mo_numberOf_10 : decode prog_14_method_17_code 10 = .ok (.laload, 1) := by decide +kernel
theorem d_Mo_numberOf_11 : decode prog_14_method_17_code 11 = .ok (.lreturn, 1) := by decide +kernel
theorem d_Mo_laysWhose_0 : decode prog_14_method_129_code 0 = .ok (.aload_n 0, 1) := by decide +kernel
theorem d_Mo_laysWhose_1 : decode prog_14_method_129_code 1 = .ok (.iconst 0, 1) := by decide +kernel
theorem d_Mo_laysWhose_2 : decode prog_14_method_129_code 2 = .ok (.putfield 432, 3) := by decide +kernel
theorem d_Mo_laysWhose_5 : decode prog_14_method_129_code 5 = .ok (.aload_n 0, 1) := by decide +kernel
theorem d_Mo_laysWhose_6 : decode prog_14_method_129_code 6 = .ok (.iconst (-1), 1) := by decide +kernel
theorem d_Mo_laysWhose_7 : decode prog_14_method_129_code 7 = .ok (.putfield 435, 3) := by decide +kernel
theorem d_Mo_laysWhose_10 : decode prog_14_method_129_code 10 = .ok (.iconst 0, 1) := by decide +kernel
theorem d_Mo_laysWhose_11 : decode prog_14_method_129_code 11 = .ok (.istore_n 3, 1) := by decide +kernel
theorem d_Mo_laysWhose_12 : decode prog_14_method_129_code 12 = .ok (.iload_n 3, 1) := by decide +kernel
theorem d_Mo_laysWhose_13 : decode prog_14_method_129_code 13 = .ok (.iconst 1, 1) := by decide +kernel
theorem d_Mo_laysWhose_14 : decode prog_14_method_129_code 14 = .ok (.aload_n 0, 1) := by decide +kernel
theorem d_Mo_laysWhose_15 : decode prog_14_method_129_code 15 = .ok (.getfield 35, 3) := by decide +kernel
theorem d_Mo_laysWhose_18 : decode prog_14_method_129_code 18 = .ok (.iconst 0, 1) := by decide +kernel
theorem d_Mo_laysWhose_19 : decode prog_14_method_129_code 19 = .ok (.iaload, 1) := by decide +kernel
theorem d_Mo_laysWhose_20 : decode prog_14_method_129_code 20 = .ok (.ishl, 1) := by decide +kernel
theorem d_Mo_laysWhose_21 : decode prog_14_method_129_code 21 = .ok (.if_icmp .ge 122, 3) := by decide +kernel
theorem d_Mo_laysWhose_24 : decode prog_14_method_129_code 24 = .ok (.aload_n 0, 1) := by decide +kernel
theorem d_Mo_laysWhose_25 : decode prog_14_method_129_code 25 = .ok (.getfield 56, 3) := by decide +kernel
theorem d_Mo_laysWhose_28 : decode prog_14_method_129_code 28 = .ok (.iload_n 3, 1) := by decide +kernel
theorem d_Mo_laysWhose_29 : decode prog_14_method_129_code 29 = .ok (.iconst 1, 1) := by decide +kernel
theorem d_Mo_laysWhose_30 : decode prog_14_method_129_code 30 = .ok (.bastore, 1) := by decide +kernel
theorem d_Mo_laysWhose_31 : decode prog_14_method_129_code 31 = .ok (.iconst 0, 1) := by decide +kernel
theorem d_Mo_laysWhose_32 : decode prog_14_method_129_code 32 = .ok (.istore 4, 2) := by decide +kernel
theorem d_Mo_laysWhose_34 : decode prog_14_method_129_code 34 = .ok (.iload 4, 2) := by decide +kernel
theorem d_Mo_laysWhose_36 : decode prog_14_method_129_code 36 = .ok (.iload_n 2, 1) := by decide +kernel
theorem d_Mo_laysWhose_37 : decode prog_14_method_129_code 37 = .ok (.if_icmp .ge 68, 3) := by decide +kernel
theorem d_Mo_laysWhose_40 : decode prog_14_method_129_code 40 = .ok (.aload_n 0, 1) := by decide +kernel
theorem d_Mo_laysWhose_41 : decode prog_14_method_129_code 41 = .ok (.getfield 56, 3) := by decide +kernel
theorem d_Mo_laysWhose_44 : decode prog_14_method_129_code 44 = .ok (.iload_n 3, 1) := by decide +kernel
theorem d_Mo_laysWhose_45 : decode prog_14_method_129_code 45 = .ok (.aload_n 0, 1) := by decide +kernel
theorem d_Mo_laysWhose_46 : decode prog_14_method_129_code 46 = .ok (.getfield 56, 3) := by decide +kernel
theorem d_Mo_laysWhose_49 : decode prog_14_method_129_code 49 = .ok (.iload_n 3, 1) := by decide +kernel
theorem d_Mo_laysWhose_50 : decode prog_14_method_129_code 50 = .ok (.baload, 1) := by decide +kernel
theorem d_Mo_laysWhose_51 : decode prog_14_method_129_code 51 = .ok (.ifCond .eq 46, 3) := by decide +kernel
theorem d_Mo_laysWhose_54 : decode prog_14_method_129_code 54 = .ok (.iload_n 3, 1) := by decide +kernel
theorem d_Mo_laysWhose_55 : decode prog_14_method_129_code 55 = .ok (.aload_n 0, 1) := by decide +kernel
theorem d_Mo_laysWhose_56 : decode prog_14_method_129_code 56 = .ok (.getfield 35, 3) := by decide +kernel
theorem d_Mo_laysWhose_59 : decode prog_14_method_129_code 59 = .ok (.bipush 12, 2) := by decide +kernel
theorem d_Mo_laysWhose_61 : decode prog_14_method_129_code 61 = .ok (.aload_n 0, 1) := by decide +kernel
theorem d_Mo_laysWhose_62 : decode prog_14_method_129_code 62 = .ok (.iload_n 1, 1) := by decide +kernel
theorem d_Mo_laysWhose_63 : decode prog_14_method_129_code 63 = .ok (.iconst 2, 1) := by decide +kernel
theorem d_Mo_laysWhose_64 : decode prog_14_method_129_code 64 = .ok (.iload 4, 2) := by decide +kernel
theorem d_Mo_laysWhose_66 : decode prog_14_method_129_code 66 = .ok (.imul, 1) := by decide +kernel
theorem d_Mo_laysWhose_67 : decode prog_14_method_129_code 67 = .ok (.invokevirtual 426, 3) := by decide +kernel
theorem d_Mo_laysWhose_70 : decode prog_14_method_129_code 70 = .ok (.l2i, 1) := by decide +kernel
theorem d_Mo_laysWhose_71 : decode prog_14_method_129_code 71 = .ok (.iadd, 1) := by decide +kernel
theorem d_Mo_laysWhose_72 : decode prog_14_method_129_code 72 = .ok (.iaload, 1) := by decide +kernel
theorem d_Mo_laysWhose_73 : decode prog_14_method_129_code 73 = .ok (.iand, 1) := by decide +kernel
theorem d_Mo_laysWhose_74 : decode prog_14_method_129_code 74 = .ok (.invokestatic 396, 3) := by decide +kernel
theorem d_Mo_laysWhose_77 : decode prog_14_method_129_code 77 = .ok (.i2l, 1) := by decide +kernel
theorem d_Mo_laysWhose_78 : decode prog_14_method_129_code 78 = .ok (.aload_n 0, 1) := by decide +kernel
theorem d_Mo_laysWhose_79 : decode prog_14_method_129_code 79 = .ok (.iload_n 1, 1) := by decide +kernel
theorem d_Mo_laysWhose_80 : decode prog_14_method_129_code 80 = .ok (.iconst 2, 1) := by decide +kernel
theorem d_Mo_laysWhose_81 : decode prog_14_method_129_code 81 = .ok (.iload 4, 2) := by decide +kernel
theorem d_Mo_laysWhose_83 : decode prog_14_method_129_code 83 = .ok (.imul, 1) := by decide +kernel
theorem d_Mo_laysWhose_84 : decode prog_14_method_129_code 84 = .ok (.iconst 1, 1) := by decide +kernel
theorem d_Mo_laysWhose_85 : decode prog_14_method_129_code 85 = .ok (.iadd, 1) := by decide +kernel
theorem d_Mo_laysWhose_86 : decode prog_14_method_129_code 86 = .ok (.invokevirtual 426, 3) := by decide +kernel
theorem d_Mo_laysWhose_89 : decode prog_14_method_129_code 89 = .ok (.lcmp, 1) := by decide +kernel
theorem d_Mo_laysWhose_90 : decode prog_14_method_129_code 90 = .ok (.ifCond .ne 7, 3) := by decide +kernel
theorem d_Mo_laysWhose_93 : decode prog_14_method_129_code 93 = .ok (.iconst 1, 1) := by decide +kernel
theorem d_Mo_laysWhose_94 : decode prog_14_method_129_code 94 = .ok (.goto 4, 3) := by decide +kernel
theorem d_Mo_laysWhose_97 : decode prog_14_method_129_code 97 = .ok (.iconst 0, 1) := by decide +kernel
theorem d_Mo_laysWhose_98 : decode prog_14_method_129_code 98 = .ok (.bastore, 1) := by decide +kernel
theorem d_Mo_laysWhose_99 : decode prog_14_method_129_code 99 = .ok (.iinc 4 1, 3) := by decide +kernel
theorem d_Mo_laysWhose_102 : decode prog_14_method_129_code 102 = .ok (.goto (-68), 3) := by decide +kernel
theorem d_Mo_laysWhose_105 : decode prog_14_method_129_code 105 = .ok (.aload_n 0, 1) := by decide +kernel
theorem d_Mo_laysWhose_106 : decode prog_14_method_129_code 106 = .ok (.getfield 56, 3) := by decide +kernel
theorem d_Mo_laysWhose_109 : decode prog_14_method_129_code 109 = .ok (.iload_n 3, 1) := by decide +kernel
theorem d_Mo_laysWhose_110 : decode prog_14_method_129_code 110 = .ok (.baload, 1) := by decide +kernel
theorem d_Mo_laysWhose_111 : decode prog_14_method_129_code 111 = .ok (.ifCond .ne 6, 3) := by decide +kernel
theorem d_Mo_laysWhose_114 : decode prog_14_method_129_code 114 = .ok (.goto 23, 3) := by decide +kernel
theorem d_Mo_laysWhose_117 : decode prog_14_method_129_code 117 = .ok (.aload_n 0, 1) := by decide +kernel
theorem d_Mo_laysWhose_118 : decode prog_14_method_129_code 118 = .ok (.dup, 1) := by decide +kernel
theorem d_Mo_laysWhose_119 : decode prog_14_method_129_code 119 = .ok (.getfield 432, 3) := by decide +kernel
theorem d_Mo_laysWhose_122 : decode prog_14_method_129_code 122 = .ok (.iconst 1, 1) := by decide +kernel
theorem d_Mo_laysWhose_123 : decode prog_14_method_129_code 123 = .ok (.iadd, 1) := by decide +kernel
theorem d_Mo_laysWhose_124 : decode prog_14_method_129_code 124 = .ok (.putfield 432, 3) := by decide +kernel
theorem d_Mo_laysWhose_127 : decode prog_14_method_129_code 127 = .ok (.aload_n 0, 1) := by decide +kernel
theorem d_Mo_laysWhose_128 : decode prog_14_method_129_code 128 = .ok (.dup, 1) := by decide +kernel
theorem d_Mo_laysWhose_129 : decode prog_14_method_129_code 129 = .ok (.getfield 435, 3) := by decide +kernel
theorem d_Mo_laysWhose_132 : decode prog_14_method_129_code 132 = .ok (.iload_n 3, 1) := by decide +kernel
theorem d_Mo_laysWhose_133 : decode prog_14_method_129_code 133 = .ok (.iand, 1) := by decide +kernel
theorem d_Mo_laysWhose_134 : decode prog_14_method_129_code 134 = .ok (.putfield 435, 3) := by decide +kernel
theorem d_Mo_laysWhose_137 : decode prog_14_method_129_code 137 = .ok (.iinc 3 1, 3) := by decide +kernel
theorem d_Mo_laysWhose_140 : decode prog_14_method_129_code 140 = .ok (.goto (-128), 3) := by decide +kernel
theorem d_Mo_laysWhose_143 : decode prog_14_method_129_code 143 = .ok (.return_, 1) := by decide +kernel
theorem d_Mo_sure_0 : decode prog_14_method_131_code 0 = .ok (.aload_n 0, 1) := by decide +kernel
theorem d_Mo_sure_1 : decode prog_14_method_131_code 1 = .ok (.iconst 0, 1) := by decide +kernel
theorem d_Mo_sure_2 : decode prog_14_method_131_code 2 = .ok (.putfield 70, 3) := by decide +kernel
theorem d_Mo_sure_5 : decode prog_14_method_131_code 5 = .ok (.aload_n 0, 1) := by decide +kernel
theorem d_Mo_sure_6 : decode prog_14_method_131_code 6 = .ok (.aload_n 0, 1) := by decide +kernel
theorem d_Mo_sure_7 : decode prog_14_method_131_code 7 = .ok (.iload_n 1, 1) := by decide +kernel
theorem d_Mo_sure_8 : decode prog_14_method_131_code 8 = .ok (.iload_n 2, 1) := by decide +kernel
theorem d_Mo_sure_9 : decode prog_14_method_131_code 9 = .ok (.invokevirtual 438, 3) := by decide +kernel
theorem d_Mo_sure_12 : decode prog_14_method_131_code 12 = .ok (.putfield 73, 3) := by decide +kernel
theorem d_Mo_sure_15 : decode prog_14_method_131_code 15 = .ok (.aload_n 0, 1) := by decide +kernel
theorem d_Mo_sure_16 : decode prog_14_method_131_code 16 = .ok (.getfield 73, 3) := by decide +kernel
theorem d_Mo_sure_19 : decode prog_14_method_131_code 19 = .ok (.ifCond .le 5, 3) := by decide +kernel
theorem d_Mo_sure_22 : decode prog_14_method_131_code 22 = .ok (.iconst (-1), 1) := by decide +kernel
theorem d_Mo_sure_23 : decode prog_14_method_131_code 23 = .ok (.ireturn, 1) := by decide +kernel
theorem d_Mo_sure_24 : decode prog_14_method_131_code 24 = .ok (.aload_n 0, 1) := by decide +kernel
theorem d_Mo_sure_25 : decode prog_14_method_131_code 25 = .ok (.iload_n 1, 1) := by decide +kernel
theorem d_Mo_sure_26 : decode prog_14_method_131_code 26 = .ok (.iload_n 2, 1) := by decide +kernel
theorem d_Mo_sure_27 : decode prog_14_method_131_code 27 = .ok (.invokevirtual 441, 3) := by decide +kernel
theorem d_Mo_sure_30 : decode prog_14_method_131_code 30 = .ok (.aload_n 0, 1) := by decide +kernel
theorem d_Mo_sure_31 : decode prog_14_method_131_code 31 = .ok (.getfield 432, 3) := by decide +kernel
theorem d_Mo_sure_34 : decode prog_14_method_131_code 34 = .ok (.ifCond .ne 12, 3) := by decide +kernel
theorem d_Mo_sure_37 : decode prog_14_method_131_code 37 = .ok (.aload_n 0, 1) := by decide +kernel
theorem d_Mo_sure_38 : decode prog_14_method_131_code 38 = .ok (.bipush 8, 2) := by decide +kernel
theorem d_Mo_sure_40 : decode prog_14_method_131_code 40 = .ok (.invokevirtual 327, 3) := by decide +kernel
theorem d_Mo_sure_43 : decode prog_14_method_131_code 43 = .ok (.goto 7, 3) := by decide +kernel
theorem d_Mo_sure_46 : decode prog_14_method_131_code 46 = .ok (.aload_n 0, 1) := by decide +kernel
theorem d_Mo_sure_47 : decode prog_14_method_131_code 47 = .ok (.getfield 435, 3) := by decide +kernel
theorem d_Mo_sure_50 : decode prog_14_method_131_code 50 = .ok (.ireturn, 1) := by decide +kernel
theorem d_Mo_ask_0 : decode prog_14_method_133_code 0 = .ok (.aload_n 0, 1) := by decide +kernel
theorem d_Mo_ask_1 : decode prog_14_method_133_code 1 = .ok (.iconst 0, 1) := by decide +kernel
theorem d_Mo_ask_2 : decode prog_14_method_133_code 2 = .ok (.putfield 70, 3) := by decide +kernel
theorem d_Mo_ask_5 : decode prog_14_method_133_code 5 = .ok (.aload_n 0, 1) := by decide +kernel
theorem d_Mo_ask_6 : decode prog_14_method_133_code 6 = .ok (.aload_n 0, 1) := by decide +kernel
theorem d_Mo_ask_7 : decode prog_14_method_133_code 7 = .ok (.iload_n 1, 1) := by decide +kernel
theorem d_Mo_ask_8 : decode prog_14_method_133_code 8 = .ok (.iload_n 2, 1) := by decide +kernel
theorem d_Mo_ask_9 : decode prog_14_method_133_code 9 = .ok (.invokevirtual 438, 3) := by decide +kernel
theorem d_Mo_ask_12 : decode prog_14_method_133_code 12 = .ok (.putfield 73, 3) := by decide +kernel
theorem d_Mo_ask_15 : decode prog_14_method_133_code 15 = .ok (.aload_n 0, 1) := by decide +kernel
theorem d_Mo_ask_16 : decode prog_14_method_133_code 16 = .ok (.getfield 73, 3) := by decide +kernel
theorem d_Mo_ask_19 : decode prog_14_method_133_code 19 = .ok (.ifCond .le 5, 3) := by decide +kernel
theorem d_Mo_ask_22 : decode prog_14_method_133_code 22 = .ok (.iconst (-1), 1) := by decide +kernel
theorem d_Mo_ask_23 : decode prog_14_method_133_code 23 = .ok (.ireturn, 1) := by decide +kernel
theorem d_Mo_ask_24 : decode prog_14_method_133_code 24 = .ok (.aload_n 0, 1) := by decide +kernel
theorem d_Mo_ask_25 : decode prog_14_method_133_code 25 = .ok (.iload_n 1, 1) := by decide +kernel
theorem d_Mo_ask_26 : decode prog_14_method_133_code 26 = .ok (.iload_n 2, 1) := by decide +kernel
theorem d_Mo_ask_27 : decode prog_14_method_133_code 27 = .ok (.invokevirtual 441, 3) := by decide +kernel
theorem d_Mo_ask_30 : decode prog_14_method_133_code 30 = .ok (.iconst (-1), 1) := by decide +kernel
theorem d_Mo_ask_31 : decode prog_14_method_133_code 31 = .ok (.istore_n 3, 1) := by decide +kernel
theorem d_Mo_ask_32 : decode prog_14_method_133_code 32 = .ok (.iconst 0, 1) := by decide +kernel
theorem d_Mo_ask_33 : decode prog_14_method_133_code 33 = .ok (.istore 4, 2) := by decide +kernel
theorem d_Mo_ask_35 : decode prog_14_method_133_code 35 = .ok (.iload 4, 2) := by decide +kernel
theorem d_Mo_ask_37 : decode prog_14_method_133_code 37 = .ok (.aload_n 0, 1) := by decide +kernel
theorem d_Mo_ask_38 : decode prog_14_method_133_code 38 = .ok (.getfield 35, 3) := by decide +kernel
theorem d_Mo_ask_41 : decode prog_14_method_133_code 41 = .ok (.iconst 1, 1) := by decide +kernel
theorem d_Mo_ask_42 : decode prog_14_method_133_code 42 = .ok (.iaload, 1) := by decide +kernel
theorem d_Mo_ask_43 : decode prog_14_method_133_code 43 = .ok (.if_icmp .ge 42, 3) := by decide +kernel
theorem d_Mo_ask_46 : decode prog_14_method_133_code 46 = .ok (.aload_n 0, 1) := by decide +kernel
theorem d_Mo_ask_47 : decode prog_14_method_133_code 47 = .ok (.getfield 423, 3) := by decide +kernel
theorem d_Mo_ask_50 : decode prog_14_method_133_code 50 = .ok (.iload 4, 2) := by decide +kernel
theorem d_Mo_ask_52 : decode prog_14_method_133_code 52 = .ok (.invokestatic 109, 3) := by decide +kernel
theorem d_Mo_ask_55 : decode prog_14_method_133_code 55 = .ok (.ifCond .ne 24, 3) := by decide +kernel
theorem d_Mo_ask_58 : decode prog_14_method_133_code 58 = .ok (.iload_n 3, 1) := by decide +kernel
theorem d_Mo_ask_59 : decode prog_14_method_133_code 59 = .ok (.ifCond .lt 17, 3) := by decide +kernel
theorem d_Mo_ask_62 : decode prog_14_method_133_code 62 = .ok (.aload_n 0, 1) := by decide +kernel
theorem d_Mo_ask_63 : decode prog_14_method_133_code 63 = .ok (.iload 4, 2) := by decide +kernel
theorem d_Mo_ask_65 : decode prog_14_method_133_code 65 = .ok (.invokevirtual 444, 3) := by decide +kernel
theorem d_Mo_ask_68 : decode prog_14_method_133_code 68 = .ok (.aload_n 0, 1) := by decide +kernel
theorem d_Mo_ask_69 : decode prog_14_method_133_code 69 = .ok (.iload_n 3, 1) := by decide +kernel
theorem d_Mo_ask_70 : decode prog_14_method_133_code 70 = .ok (.invokevirtual 444, 3) := by decide +kernel
theorem d_Mo_ask_73 : decode prog_14_method_133_code 73 = .ok (.if_icmp .ge 6, 3) := by decide +kernel
theorem d_Mo_ask_76 : decode prog_14_method_133_code 76 = .ok (.iload 4, 2) := by decide +kernel
theorem d_Mo_ask_78 : decode prog_14_method_133_code 78 = .ok (.istore_n 3, 1) := by decide +kernel
theorem d_Mo_ask_79 : decode prog_14_method_133_code 79 = .ok (.iinc 4 1, 3) := by decide +kernel
theorem d_Mo_ask_82 : decode prog_14_method_133_code 82 = .ok (.goto (-47), 3) := by decide +kernel
theorem d_Mo_ask_85 : decode prog_14_method_133_code 85 = .ok (.aload_n 0, 1) := by decide +kernel
theorem d_Mo_ask_86 : decode prog_14_method_133_code 86 = .ok (.getfield 432, 3) := by decide +kernel
theorem d_Mo_ask_89 : decode prog_14_method_133_code 89 = .ok (.iconst 2, 1) := by decide +kernel
theorem d_Mo_ask_90 : decode prog_14_method_133_code 90 = .ok (.if_icmp .lt 7, 3) := by decide +kernel
theorem d_Mo_ask_93 : decode prog_14_method_133_code 93 = .ok (.iload_n 3, 1) := by decide +kernel
theorem d_Mo_ask_94 : decode prog_14_method_133_code 94 = .ok (.ifCond .ge 12, 3) := by decide +kernel
theorem d_Mo_ask_97 : decode prog_14_method_133_code 97 = .ok (.aload_n 0, 1) := by decide +kernel
theorem d_Mo_ask_98 : decode prog_14_method_133_code 98 = .ok (.bipush 8, 2) := by decide +kernel
theorem d_Mo_ask_100 : decode prog_14_method_133_code 100 = .ok (.invokevirtual 327, 3) := by decide +kernel
theorem d_Mo_ask_103 : decode prog_14_method_133_code 103 = .ok (.goto 4, 3) := by decide +kernel
theorem d_Mo_ask_106 : decode prog_14_method_133_code 106 = .ok (.iload_n 3, 1) := by decide +kernel
theorem d_Mo_ask_107 : decode prog_14_method_133_code 107 = .ok (.ireturn, 1) := by decide +kernel
theorem d_Mo_mostAlike_0 : decode prog_14_method_132_code 0 = .ok (.iconst 0, 1) := by decide +kernel
theorem d_Mo_mostAlike_1 : decode prog_14_method_132_code 1 = .ok (.istore_n 2, 1) := by decide +kernel
theorem d_Mo_mostAlike_2 : decode prog_14_method_132_code 2 = .ok (.iconst 0, 1) := by decide +kernel
theorem d_Mo_mostAlike_3 : decode prog_14_method_132_code 3 = .ok (.istore_n 3, 1) := by decide +kernel
theorem d_Mo_mostAlike_4 : decode prog_14_method_132_code 4 = .ok (.iload_n 3, 1) := by decide +kernel
theorem d_Mo_mostAlike_5 : decode prog_14_method_132_code 5 = .ok (.bipush 6, 2) := by decide +kernel
theorem d_Mo_mostAlike_7 : decode prog_14_method_132_code 7 = .ok (.if_icmp .gt 80, 3) := by decide +kernel
theorem d_Mo_mostAlike_10 : decode prog_14_method_132_code 10 = .ok (.iconst 0, 1) := by decide +kernel
theorem d_Mo_mostAlike_11 : decode prog_14_method_132_code 11 = .ok (.istore 4, 2) := by decide +kernel
theorem d_Mo_mostAlike_13 : decode prog_14_method_132_code 13 = .ok (.iconst 0, 1) := by decide +kernel
theorem d_Mo_mostAlike_14 : decode prog_14_method_132_code 14 = .ok (.istore 5, 2) := by decide +kernel
theorem d_Mo_mostAlike_16 : decode prog_14_method_132_code 16 = .ok (.iload 5, 2) := by decide +kernel
theorem d_Mo_mostAlike_18 : decode prog_14_method_132_code 18 = .ok (.iconst 1, 1) := by decide +kernel
theorem d_Mo_mostAlike_19 : decode prog_14_method_132_code 19 = .ok (.aload_n 0, 1) := by decide +kernel
theorem d_Mo_mostAlike_20 : decode prog_14_method_132_code 20 = .ok (.getfield 35, 3) := by decide +kernel
theorem d_Mo_mostAlike_23 : decode prog_14_method_132_code 23 = .ok (.iconst 0, 1) := by decide +kernel
theorem d_Mo_mostAlike_24 : decode prog_14_method_132_code 24 = .ok (.iaload, 1) := by decide +kernel
theorem d_Mo_mostAlike_25 : decode prog_14_method_132_code 25 = .ok (.ishl, 1) := by decide +kernel
theorem d_Mo_mostAlike_26 : decode prog_14_method_132_code 26 = .ok (.if_icmp .ge 48, 3) := by decide +kernel
theorem d_Mo_mostAlike_29 : decode prog_14_method_132_code 29 = .ok (.iload 4, 2) := by decide +kernel
theorem d_Mo_mostAlike_31 : decode prog_14_method_132_code 31 = .ok (.aload_n 0, 1) := by decide +kernel
theorem d_Mo_mostAlike_32 : decode prog_14_method_132_code 32 = .ok (.getfield 56, 3) := by decide +kernel
theorem d_Mo_mostAlike_35 : decode prog_14_method_132_code 35 = .ok (.iload 5, 2) := by decide +kernel
theorem d_Mo_mostAlike_37 : decode prog_14_method_132_code 37 = .ok (.baload, 1) := by decide +kernel
theorem d_Mo_mostAlike_38 : decode prog_14_method_132_code 38 = .ok (.ifCond .eq 26, 3) := by decide +kernel
theorem d_Mo_mostAlike_41 : decode prog_14_method_132_code 41 = .ok (.iload 5, 2) := by decide +kernel
theorem d_Mo_mostAlike_43 : decode prog_14_method_132_code 43 = .ok (.aload_n 0, 1) := by decide +kernel
theorem d_Mo_mostAlike_44 : decode prog_14_method_132_code 44 = .ok (.getfield 35, 3) := by decide +kernel
theorem d_Mo_mostAlike_47 : decode prog_14_method_132_code 47 = .ok (.bipush 12, 2) := by decide +kernel
theorem d_Mo_mostAlike_49 : decode prog_14_method_132_code 49 = .ok (.iload_n 1, 1) := by decide +kernel
theorem d_Mo_mostAlike_50 : decode prog_14_method_132_code 50 = .ok (.iadd, 1) := by decide +kernel
theorem d_Mo_mostAlike_51 : decode prog_14_method_132_code 51 = .ok (.iaload, 1) := by decide +kernel
theorem d_Mo_mostAlike_52 : decode prog_14_method_132_code 52 = .ok (.iand, 1) := by decide +kernel
theorem d_Mo_mostAlike_53 : decode prog_14_method_132_code 53 = .ok (.invokestatic 396, 3) := by decide +kernel
theorem d_Mo_mostAlike_56 : decode prog_14_method_132_code 56 = .ok (.iload_n 3, 1) := by decide +kernel
theorem d_Mo_mostAlike_57 : decode prog_14_method_132_code 57 = .ok (.if_icmp .ne 7, 3) := by decide +kernel
theorem d_Mo_mostAlike_60 : decode prog_14_method_132_code 60 = .ok (.iconst 1, 1) := by decide +kernel
theorem d_Mo_mostAlike_61 : decode prog_14_method_132_code 61 = .ok (.goto 4, 3) := by decide +kernel
theorem d_Mo_mostAlike_64 : decode prog_14_method_132_code 64 = .ok (.iconst 0, 1) := by decide +kernel
theorem d_Mo_mostAlike_65 : decode prog_14_method_132_code 65 = .ok (.iadd, 1) := by decide +kernel
theorem d_Mo_mostAlike_66 : decode prog_14_method_132_code 66 = .ok (.istore 4, 2) := by decide +kernel
theorem d_Mo_mostAlike_68 : decode prog_14_method_132_code 68 = .ok (.iinc 5 1, 3) := by decide +kernel
theorem d_Mo_mostAlike_71 : decode prog_14_method_132_code 71 = .ok (.goto (-55), 3) := by decide +kernel
theorem d_Mo_mostAlike_74 : decode prog_14_method_132_code 74 = .ok (.iload_n 2, 1) := by decide +kernel
theorem d_Mo_mostAlike_75 : decode prog_14_method_132_code 75 = .ok (.iload 4, 2) := by decide +kernel
theorem d_Mo_mostAlike_77 : decode prog_14_method_132_code 77 = .ok (.invokestatic 233, 3) := by decide +kernel
theorem d_Mo_mostAlike_80 : decode prog_14_method_132_code 80 = .ok (.istore_n 2, 1) := by decide +kernel
theorem d_Mo_mostAlike_81 : decode prog_14_method_132_code 81 = .ok (.iinc 3 1, 3) := by decide +kernel
theorem d_Mo_mostAlike_84 : decode prog_14_method_132_code 84 = .ok (.goto (-80), 3) := by decide +kernel
theorem d_Mo_mostAlike_87 : decode prog_14_method_132_code 87 = .ok (.iload_n 2, 1) := by decide +kernel
theorem d_Mo_mostAlike_88 : decode prog_14_method_132_code 88 = .ok (.ireturn, 1) := by decide +kernel
theorem d_Mo_game_0 : decode prog_14_method_136_code 0 = .ok (.aload_n 0, 1) := by decide +kernel
theorem d_Mo_game_1 : decode prog_14_method_136_code 1 = .ok (.iconst 0, 1) := by decide +kernel
theorem d_Mo_game_2 : decode prog_14_method_136_code 2 = .ok (.putfield 70, 3) := by decide +kernel
theorem d_Mo_game_5 : decode prog_14_method_136_code 5 = .ok (.aload_n 0, 1) := by decide +kernel
theorem d_Mo_game_6 : decode prog_14_method_136_code 6 = .ok (.aload_n 0, 1) := by decide +kernel
theorem d_Mo_game_7 : decode prog_14_method_136_code 7 = .ok (.iload_n 1, 1) := by decide +kernel
theorem d_Mo_game_8 : decode prog_14_method_136_code 8 = .ok (.iload_n 2, 1) := by decide +kernel
theorem d_Mo_game_9 : decode prog_14_method_136_code 9 = .ok (.iload_n 3, 1) := by decide +kernel
theorem d_Mo_game_10 : decode prog_14_method_136_code 10 = .ok (.iconst 0, 1) := by decide +kernel
theorem d_Mo_game_11 : decode prog_14_method_136_code 11 = .ok (.invokevirtual 453, 3) := by decide +kernel
theorem d_Mo_game_14 : decode prog_14_method_136_code 14 = .ok (.putfield 73, 3) := by decide +kernel
theorem d_Mo_game_17 : decode prog_14_method_136_code 17 = .ok (.aload_n 0, 1) := by decide +kernel
theorem d_Mo_game_18 : decode prog_14_method_136_code 18 = .ok (.getfield 73, 3) := by decide +kernel
theorem d_Mo_game_21 : decode prog_14_method_136_code 21 = .ok (.ifCond .le 7, 3) := by decide +kernel
theorem d_Mo_game_24 : decode prog_14_method_136_code 24 = .ok (.iconst (-1), 1) := by decide +kernel
theorem d_Mo_game_25 : decode prog_14_method_136_code 25 = .ok (.goto 11, 3) := by decide +kernel
theorem d_Mo_game_28 : decode prog_14_method_136_code 28 = .ok (.aload_n 0, 1) := by decide +kernel
theorem d_Mo_game_29 : decode prog_14_method_136_code 29 = .ok (.iload_n 1, 1) := by decide +kernel
theorem d_Mo_game_30 : decode prog_14_method_136_code 30 = .ok (.iload_n 2, 1) := by decide +kernel
theorem d_Mo_game_31 : decode prog_14_method_136_code 31 = .ok (.iconst 0, 1) := by decide +kernel
theorem d_Mo_game_32 : decode prog_14_method_136_code 32 = .ok (.iload_n 3, 1) := by decide +kernel
theorem d_Mo_game_33 : decode prog_14_method_136_code 33 = .ok (.invokevirtual 447, 3) := by decide +kernel
theorem d_Mo_game_36 : decode prog_14_method_136_code 36 = .ok (.ireturn, 1) := by decide +kernel
theorem d_Mo_whyNoGame_0 : decode prog_14_method_135_code 0 = .ok (.aload_n 0, 1) := by decide +kernel
theorem d_Mo_whyNoGame_1 : decode prog_14_method_135_code 1 = .ok (.iload_n 1, 1) := by decide +kernel
theorem d_Mo_whyNoGame_2 : decode prog_14_method_135_code 2 = .ok (.i2l, 1) := by decide +kernel
theorem d_Mo_whyNoGame_3 : decode prog_14_method_135_code 3 = .ok (.invokevirtual 336, 3) := by decide +kernel
theorem d_Mo_whyNoGame_6 : decode prog_14_method_135_code 6 = .ok (.ifCond .eq 12, 3) := by decide +kernel
theorem d_Mo_whyNoGame_9 : decode prog_14_method_135_code 9 = .ok (.aload_n 0, 1) := by decide +kernel
theorem d_Mo_whyNoGame_10 : decode prog_14_method_135_code 10 = .ok (.iload_n 2, 1) := by decide +kernel
theorem d_Mo_whyNoGame_11 : decode prog_14_method_135_code 11 = .ok (.i2l, 1) := by decide +kernel
theorem d_Mo_whyNoGame_12 : decode prog_14_method_135_code 12 = .ok (.invokevirtual 336, 3) := by decide +kernel
theorem d_Mo_whyNoGame_15 : decode prog_14_method_135_code 15 = .ok (.ifCond .ne 5, 3) := by decide +kernel
theorem d_Mo_whyNoGame_18 : decode prog_14_method_135_code 18 = .ok (.iconst 2, 1) := by decide +kernel
theorem d_Mo_whyNoGame_19 : decode prog_14_method_135_code 19 = .ok (.ireturn, 1) := by decide +kernel
theorem d_Mo_whyNoGame_20 : decode prog_14_method_135_code 20 = .ok (.iload_n 1, 1) := by decide +kernel
theorem d_Mo_whyNoGame_21 : decode prog_14_method_135_code 21 = .ok (.iload_n 2, 1) := by decide +kernel
theorem d_Mo_whyNoGame_22 : decode prog_14_method_135_code 22 = .ok (.if_icmp .eq 21, 3) := by decide +kernel
theorem d_Mo_whyNoGame_25 : decode prog_14_method_135_code 25 = .ok (.iload_n 3, 1) := by decide +kernel
theorem d_Mo_whyNoGame_26 : decode prog_14_method_135_code 26 = .ok (.i2l, 1) := by decide +kernel
theorem d_Mo_whyNoGame_27 : decode prog_14_method_135_code 27 = .ok (.iload 4, 2) := by decide +kernel
theorem d_Mo_whyNoGame_29 : decode prog_14_method_135_code 29 = .ok (.i2l, 1) := by decide +kernel
theorem d_Mo_whyNoGame_30 : decode prog_14_method_135_code 30 = .ok (.ldc2_w 103, 3) := by decide +kernel
theorem d_Mo_whyNoGame_33 : decode prog_14_method_135_code 33 = .ok (.invokestatic 105, 3) := by decide +kernel
theorem d_Mo_whyNoGame_36 : decode prog_14_method_135_code 36 = .ok (.ifCond .eq 7, 3) := by decide +kernel
theorem d_Mo_whyNoGame_39 : decode prog_14_method_135_code 39 = .ok (.iconst 0, 1) := by decide +kernel
theorem d_Mo_whyNoGame_40 : decode prog_14_method_135_code 40 = .ok (.goto 4, 3) := by decide +kernel
theorem d_Mo_whyNoGame_43 : decode prog_14_method_135_code 43 = .ok (.iconst 5, 1) := by decide +kernel
theorem d_Mo_whyNoGame_44 : decode prog_14_method_135_code 44 = .ok (.ireturn, 1) := by decide +kernel
theorem d_Mo_plays_0 : decode prog_14_method_134_code 0 = .ok (.iload_n 3, 1) := by decide +kernel
theorem d_Mo_plays_1 : decode prog_14_method_134_code 1 = .ok (.iload 4, 2) := by decide +kernel
theorem d_Mo_plays_3 : decode prog_14_method_134_code 3 = .ok (.if_icmp .ne 5, 3) := by decide +kernel
theorem d_Mo_plays_6 : decode prog_14_method_134_code 6 = .ok (.iconst 0, 1) := by decide +kernel
theorem d_Mo_plays_7 : decode prog_14_method_134_code 7 = .ok (.ireturn, 1) := by decide +kernel
theorem d_Mo_plays_8 : decode prog_14_method_134_code 8 = .ok (.iload_n 3, 1) := by decide +kernel
theorem d_Mo_plays_9 : decode prog_14_method_134_code 9 = .ok (.iconst 2, 1) := by decide +kernel
theorem d_Mo_plays_10 : decode prog_14_method_134_code 10 = .ok (.irem, 1) := by decide +kernel
theorem d_Mo_plays_11 : decode prog_14_method_134_code 11 = .ok (.ifCond .ne 7, 3) := by decide +kernel
theorem d_Mo_plays_14 : decode prog_14_method_134_code 14 = .ok (.iconst 1, 1) := by decide +kernel
theorem d_Mo_plays_15 : decode prog_14_method_134_code 15 = .ok (.goto 4, 3) := by decide +kernel
theorem d_Mo_plays_18 : decode prog_14_method_134_code 18 = .ok (.iconst 0, 1) := by decide +kernel
theorem d_Mo_plays_19 : decode prog_14_method_134_code 19 = .ok (.istore 5, 2) := by decide +kernel
theorem d_Mo_plays_21 : decode prog_14_method_134_code 21 = .ok (.iload 5, 2) := by decide +kernel
theorem d_Mo_plays_23 : decode prog_14_method_134_code 23 = .ok (.ifCond .eq 7, 3) := by decide +kernel
theorem d_Mo_plays_26 : decode prog_14_method_134_code 26 = .ok (.iload_n 1, 1) := by decide +kernel
theorem d_Mo_plays_27 : decode prog_14_method_134_code 27 = .ok (.goto 4, 3) := by decide +kernel
theorem d_Mo_plays_30 : decode prog_14_method_134_code 30 = .ok (.iload_n 2, 1) := by decide +kernel
theorem d_Mo_plays_31 : decode prog_14_method_134_code 31 = .ok (.istore 6, 2) := by decide +kernel
theorem d_Mo_plays_33 : decode prog_14_method_134_code 33 = .ok (.aload_n 0, 1) := by decide +kernel
theorem d_Mo_plays_34 : decode prog_14_method_134_code 34 = .ok (.iload_n 1, 1) := by decide +kernel
theorem d_Mo_plays_35 : decode prog_14_method_134_code 35 = .ok (.iload_n 2, 1) := by decide +kernel
theorem d_Mo_plays_36 : decode prog_14_method_134_code 36 = .ok (.iload_n 3, 1) := by decide +kernel
theorem d_Mo_plays_37 : decode prog_14_method_134_code 37 = .ok (.iconst 1, 1) := by decide +kernel
theorem d_Mo_plays_38 : decode prog_14_method_134_code 38 = .ok (.iadd, 1) := by decide +kernel
theorem d_Mo_plays_39 : decode prog_14_method_134_code 39 = .ok (.iload 4, 2) := by decide +kernel
theorem d_Mo_plays_41 : decode prog_14_method_134_code 41 = .ok (.invokevirtual 447, 3) := by decide +kernel
theorem d_Mo_plays_44 : decode prog_14_method_134_code 44 = .ok (.istore 7, 2) := by decide +kernel
theorem d_Mo_plays_46 : decode prog_14_method_134_code 46 = .ok (.iconst (-1), 1) := by decide +kernel
theorem d_Mo_plays_47 : decode prog_14_method_134_code 47 = .ok (.istore 8, 2) := by decide +kernel
theorem d_Mo_plays_49 : decode prog_14_method_134_code 49 = .ok (.bipush 62, 2) := by decide +kernel
theorem d_Mo_plays_51 : decode prog_14_method_134_code 51 = .ok (.istore 9, 2) := by decide +kernel
theorem d_Mo_plays_53 : decode prog_14_method_134_code 53 = .ok (.iload 9, 2) := by decide +kernel
theorem d_Mo_plays_55 : decode prog_14_method_134_code 55 = .ok (.ifCond .lt 159, 3) := by decide +kernel
theorem d_Mo_plays_58 : decode prog_14_method_134_code 58 = .ok (.iload 9, 2) := by decide +kernel
theorem d_Mo_plays_60 : decode prog_14_method_134_code 60 = .ok (.bipush 7, 2) := by decide +kernel
theorem d_Mo_plays_62 : decode prog_14_method_134_code 62 = .ok (.idiv, 1) := by decide +kernel
theorem d_Mo_plays_63 : decode prog_14_method_134_code 63 = .ok (.istore 10, 2) := by decide +kernel
theorem d_Mo_plays_65 : decode prog_14_method_134_code 65 = .ok (.iload 10, 2) := by decide +kernel
theorem d_Mo_plays_67 : decode prog_14_method_134_code 67 = .ok (.aload_n 0, 1) := by decide +kernel
theorem d_Mo_plays_68 : decode prog_14_method_134_code 68 = .ok (.getfield 35, 3) := by decide +kernel
theorem d_Mo_plays_71 : decode prog_14_method_134_code 71 = .ok (.iconst 3, 1) := by decide +kernel
theorem d_Mo_plays_72 : decode prog_14_method_134_code 72 = .ok (.iaload, 1) := by decide +kernel
theorem d_Mo_plays_73 : decode prog_14_method_134_code 73 = .ok (.if_icmp .ge 135, 3) := by decide +kernel
theorem d_Mo_plays_76 : decode prog_14_method_134_code 76 = .ok (.aload_n 0, 1) := by decide +kernel
theorem d_Mo_plays_77 : decode prog_14_method_134_code 77 = .ok (.getfield 35, 3) := by decide +kernel
theorem d_Mo_plays_80 : decode prog_14_method_134_code 80 = .ok (.bipush 42, 2) := by decide +kernel
theorem d_Mo_plays_82 : decode prog_14_method_134_code 82 = .ok (.iload 10, 2) := by decide +kernel
theorem d_Mo_plays_84 : decode prog_14_method_134_code 84 = .ok (.iadd, 1) := by decide +kernel
theorem d_Mo_plays_85 : decode prog_14_method_134_code 85 = .ok (.iaload, 1) := by decide +kernel
theorem d_Mo_plays_86 : decode prog_14_method_134_code 86 = .ok (.iload 6, 2) := by decide +kernel
theorem d_Mo_plays_88 : decode prog_14_method_134_code 88 = .ok (.if_icmp .ne 120, 3) := by decide +kernel
theorem d_Mo_plays_91 : decode prog_14_method_134_code 91 = .ok (.aload_n 0, 1) := by decide +kernel
theorem d_Mo_plays_92 : decode prog_14_method_134_code 92 = .ok (.iload 10, 2) := by decide +kernel
theorem d_Mo_plays_94 : decode prog_14_method_134_code 94 = .ok (.iload 6, 2) := by decide +kernel
theorem d_Mo_plays_96 : decode prog_14_method_134_code 96 = .ok (.invokevirtual 357, 3) := by decide +kernel
theorem d_Mo_plays_99 : decode prog_14_method_134_code 99 = .ok (.iload 9, 2) := by decide +kernel
theorem d_Mo_plays_101 : decode prog_14_method_134_code 101 = .ok (.bipush 7, 2) := by decide +kernel
theorem d_Mo_plays_103 : decode prog_14_method_134_code 103 = .ok (.irem, 1) := by decide +kernel
theorem d_Mo_plays_104 : decode prog_14_method_134_code 104 = .ok (.invokestatic 109, 3) := by decide +kernel
theorem d_Mo_plays_107 : decode prog_14_method_134_code 107 = .ok (.ifCond .ne 6, 3) := by decide +kernel
theorem d_Mo_plays_110 : decode prog_14_method_134_code 110 = .ok (.goto 98, 3) := by decide +kernel
theorem d_Mo_plays_113 : decode prog_14_method_134_code 113 = .ok (.aload_n 0, 1) := by decide +kernel
theorem d_Mo_plays_114 : decode prog_14_method_134_code 114 = .ok (.getfield 35, 3) := by decide +kernel
theorem d_Mo_plays_117 : decode prog_14_method_134_code 117 = .ok (.bipush 42, 2) := by decide +kernel
theorem d_Mo_plays_119 : decode prog_14_method_134_code 119 = .ok (.iload 10, 2) := by decide +kernel
theorem d_Mo_plays_121 : decode prog_14_method_134_code 121 = .ok (.iadd, 1) := by decide +kernel
theorem d_Mo_plays_122 : decode prog_14_method_134_code 122 = .ok (.iload 9, 2) := by decide +kernel
theorem d_Mo_plays_124 : decode prog_14_method_134_code 124 = .ok (.bipush 7, 2) := by decide +kernel
theorem d_Mo_plays_126 : decode prog_14_method_134_code 126 = .ok (.irem, 1) := by decide +kernel
theorem d_Mo_plays_127 : decode prog_14_method_134_code 127 = .ok (.iastore, 1) := by decide +kernel
theorem d_Mo_plays_128 : decode prog_14_method_134_code 128 = .ok (.aload_n 0, 1) := by decide +kernel
theorem d_Mo_plays_129 : decode prog_14_method_134_code 129 = .ok (.iload_n 1, 1) := by decide +kernel
theorem d_Mo_plays_130 : decode prog_14_method_134_code 130 = .ok (.iload_n 2, 1) := by decide +kernel
theorem d_Mo_plays_131 : decode prog_14_method_134_code 131 = .ok (.iload_n 3, 1) := by decide +kernel
theorem d_Mo_plays_132 : decode prog_14_method_134_code 132 = .ok (.iconst 1, 1) := by decide +kernel
theorem d_Mo_plays_133 : decode prog_14_method_134_code 133 = .ok (.iadd, 1) := by decide +kernel
theorem d_Mo_plays_134 : decode prog_14_method_134_code 134 = .ok (.iload 4, 2) := by decide +kernel
theorem d_Mo_plays_136 : decode prog_14_method_134_code 136 = .ok (.invokevirtual 447, 3) := by decide +kernel
theorem d_Mo_plays_139 : decode prog_14_method_134_code 139 = .ok (.iload 5, 2) := by decide +kernel
theorem d_Mo_plays_141 : decode prog_14_method_134_code 141 = .ok (.ifCond .eq 12, 3) := by decide +kernel
theorem d_Mo_plays_144 : decode prog_14_method_134_code 144 = .ok (.aload_n 0, 1) := by decide +kernel
theorem d_Mo_plays_145 : decode prog_14_method_134_code 145 = .ok (.iload 10, 2) := by decide +kernel
theorem d_Mo_plays_147 : decode prog_14_method_134_code 147 = .ok (.invokevirtual 313, 3) := by decide +kernel
theorem d_Mo_plays_150 : decode prog_14_method_134_code 150 = .ok (.goto 10, 3) := by decide +kernel
theorem d_Mo_plays_153 : decode prog_14_method_134_code 153 = .ok (.aload_n 0, 1) := by decide +kernel
theorem d_Mo_plays_154 : decode prog_14_method_134_code 154 = .ok (.iload 10, 2) := by decide +kernel
theorem d_Mo_plays_156 : decode prog_14_method_134_code 156 = .ok (.invokevirtual 313, 3) := by decide +kernel
theorem d_Mo_plays_159 : decode prog_14_method_134_code 159 = .ok (.ineg, 1) := by decide +kernel
theorem d_Mo_plays_160 : decode prog_14_method_134_code 160 = .ok (.iadd, 1) := by decide +kernel
theorem d_Mo_plays_161 : decode prog_14_method_134_code 161 = .ok (.istore 11, 2) := by decide +kernel
theorem d_Mo_plays_163 : decode prog_14_method_134_code 163 = .ok (.aload_n 0, 1) := by decide +kernel
theorem d_Mo_plays_164 : decode prog_14_method_134_code 164 = .ok (.getfield 35, 3) := by decide +kernel
theorem d_Mo_plays_167 : decode prog_14_method_134_code 167 = .ok (.bipush 42, 2) := by decide +kernel
theorem d_Mo_plays_169 : decode prog_14_method_134_code 169 = .ok (.iload 10, 2) := by decide +kernel
theorem d_Mo_plays_171 : decode prog_14_method_134_code 171 = .ok (.iadd, 1) := by decide +kernel
theorem d_Mo_plays_172 : decode prog_14_method_134_code 172 = .ok (.iload 6, 2) := by decide +kernel
theorem d_Mo_plays_174 : decode prog_14_method_134_code 174 = .ok (.iastore, 1) := by decide +kernel
theorem d_Mo_plays_175 : decode prog_14_method_134_code 175 = .ok (.iload 5, 2) := by decide +kernel
theorem d_Mo_plays_177 : decode prog_14_method_134_code 177 = .ok (.ifCond .eq 13, 3) := by decide +kernel
theorem d_Mo_plays_180 : decode prog_14_method_134_code 180 = .ok (.iload 11, 2) := by decide +kernel
theorem d_Mo_plays_182 : decode prog_14_method_134_code 182 = .ok (.iload 7, 2) := by decide +kernel
theorem d_Mo_plays_184 : decode prog_14_method_134_code 184 = .ok (.if_icmp .ge 16, 3) := by decide +kernel
theorem d_Mo_plays_187 : decode prog_14_method_134_code 187 = .ok (.goto 21, 3) := by decide +kernel
theorem d_Mo_plays_190 : decode prog_14_method_134_code 190 = .ok (.iload 11, 2) := by decide +kernel
theorem d_Mo_plays_192 : decode prog_14_method_134_code 192 = .ok (.iload 7, 2) := by decide +kernel
theorem d_Mo_plays_194 : decode prog_14_method_134_code 194 = .ok (.if_icmp .le 6, 3) := by decide +kernel
theorem d_Mo_plays_197 : decode prog_14_method_134_code 197 = .ok (.goto 11, 3) := by decide +kernel
theorem d_Mo_plays_200 : decode prog_14_method_134_code 200 = .ok (.iload 11, 2) := by decide +kernel
theorem d_Mo_plays_202 : decode prog_14_method_134_code 202 = .ok (.istore 7, 2) := by decide +kernel
theorem d_Mo_plays_204 : decode prog_14_method_134_code 204 = .ok (.iload 9, 2) := by decide +kernel
theorem d_Mo_plays_206 : decode prog_14_method_134_code 206 = .ok (.istore 8, 2) := by decide +kernel
theorem d_Mo_plays_208 : decode prog_14_method_134_code 208 = .ok (.iinc 9 (-1), 3) := by decide +kernel
theorem d_Mo_plays_211 : decode prog_14_method_134_code 211 = .ok (.goto (-158), 3) := by decide +kernel
theorem d_Mo_plays_214 : decode prog_14_method_134_code 214 = .ok (.iload_n 3, 1) := by decide +kernel
theorem d_Mo_plays_215 : decode prog_14_method_134_code 215 = .ok (.ifCond .ne 9, 3) := by decide +kernel
theorem d_Mo_plays_218 : decode prog_14_method_134_code 218 = .ok (.aload_n 0, 1) := by decide +kernel
theorem d_Mo_plays_219 : decode prog_14_method_134_code 219 = .ok (.iload 8, 2) := by decide +kernel
theorem d_Mo_plays_221 : decode prog_14_method_134_code 221 = .ok (.putfield 450, 3) := by decide +kernel
theorem d_Mo_plays_224 : decode prog_14_method_134_code 224 = .ok (.iload 7, 2) := by decide +kernel
theorem d_Mo_plays_226 : decode prog_14_method_134_code 226 = .ok (.ireturn, 1) := by decide +kernel
theorem d_Mo_moveOf_0 : decode prog_14_method_137_code 0 = .ok (.aload_n 0, 1) := by decide +kernel
theorem d_Mo_moveOf_1 : decode prog_14_method_137_code 1 = .ok (.iconst 0, 1) := by decide +kernel
theorem d_Mo_moveOf_2 : decode prog_14_method_137_code 2 = .ok (.putfield 70, 3) := by decide +kernel
theorem d_Mo_moveOf_5 : decode prog_14_method_137_code 5 = .ok (.aload_n 0, 1) := by decide +kernel
theorem d_Mo_moveOf_6 : decode prog_14_method_137_code 6 = .ok (.aload_n 0, 1) := by decide +kernel
theorem d_Mo_moveOf_7 : decode prog_14_method_137_code 7 = .ok (.iload_n 1, 1) := by decide +kernel
theorem d_Mo_moveOf_8 : decode prog_14_method_137_code 8 = .ok (.iload_n 2, 1) := by decide +kernel
theorem d_Mo_moveOf_9 : decode prog_14_method_137_code 9 = .ok (.iload_n 3, 1) := by decide +kernel
theorem d_Mo_moveOf_10 : decode prog_14_method_137_code 10 = .ok (.iconst 1, 1) := by decide +kernel
theorem d_Mo_moveOf_11 : decode prog_14_method_137_code 11 = .ok (.invokevirtual 453, 3) := by decide +kernel
theorem d_Mo_moveOf_14 : decode prog_14_method_137_code 14 = .ok (.putfield 73, 3) := by decide +kernel
theorem d_Mo_moveOf_17 : decode prog_14_method_137_code 17 = .ok (.aload_n 0, 1) := by decide +kernel
theorem d_Mo_moveOf_18 : decode prog_14_method_137_code 18 = .ok (.getfield 73, 3) := by decide +kernel
theorem d_Mo_moveOf_21 : decode prog_14_method_137_code 21 = .ok (.ifCond .le 5, 3) := by decide +kernel
theorem d_Mo_moveOf_24 : decode prog_14_method_137_code 24 = .ok (.iconst (-1), 1) := by decide +kernel
theorem d_Mo_moveOf_25 : decode prog_14_method_137_code 25 = .ok (.ireturn, 1) := by decide +kernel
theorem d_Mo_moveOf_26 : decode prog_14_method_137_code 26 = .ok (.iload 4, 2) := by decide +kernel
theorem d_Mo_moveOf_28 : decode prog_14_method_137_code 28 = .ok (.i2l, 1) := by decide +kernel
theorem d_Mo_moveOf_29 : decode prog_14_method_137_code 29 = .ok (.lconst 0, 1) := by decide +kernel
theorem d_Mo_moveOf_30 : decode prog_14_method_137_code 30 = .ok (.lconst 1, 1) := by decide +kernel
theorem d_Mo_moveOf_31 : decode prog_14_method_137_code 31 = .ok (.invokestatic 105, 3) := by decide +kernel
theorem d_Mo_moveOf_34 : decode prog_14_method_137_code 34 = .ok (.ifCond .ne 9, 3) := by decide +kernel
theorem d_Mo_moveOf_37 : decode prog_14_method_137_code 37 = .ok (.aload_n 0, 1) := by decide +kernel
theorem d_Mo_moveOf_38 : decode prog_14_method_137_code 38 = .ok (.iconst 5, 1) := by decide +kernel
theorem d_Mo_moveOf_39 : decode prog_14_method_137_code 39 = .ok (.invokevirtual 327, 3) := by decide +kernel
theorem d_Mo_moveOf_42 : decode prog_14_method_137_code 42 = .ok (.ireturn, 1) := by decide +kernel
theorem d_Mo_moveOf_43 : decode prog_14_method_137_code 43 = .ok (.aload_n 0, 1) := by decide +kernel
theorem d_Mo_moveOf_44 : decode prog_14_method_137_code 44 = .ok (.iload_n 1, 1) := by decide +kernel
theorem d_Mo_moveOf_45 : decode prog_14_method_137_code 45 = .ok (.iload_n 2, 1) := by decide +kernel
theorem d_Mo_moveOf_46 : decode prog_14_method_137_code 46 = .ok (.iconst 0, 1) := by decide +kernel
theorem d_Mo_moveOf_47 : decode prog_14_method_137_code 47 = .ok (.iload_n 3, 1) := by decide +kernel
theorem d_Mo_moveOf_48 : decode prog_14_method_137_code 48 = .ok (.invokevirtual 447, 3) := by decide +kernel
theorem d_Mo_moveOf_51 : decode prog_14_method_137_code 51 = .ok (.pop, 1) := by decide +kernel
theorem d_Mo_moveOf_52 : decode prog_14_method_137_code 52 = .ok (.aload_n 0, 1) := by decide +kernel
theorem d_Mo_moveOf_53 : decode prog_14_method_137_code 53 = .ok (.getfield 450, 3) := by decide +kernel
theorem d_Mo_moveOf_56 : decode prog_14_method_137_code 56 = .ok (.ifCond .ge 10, 3) := by decide +kernel
theorem d_Mo_moveOf_59 : decode prog_14_method_137_code 59 = .ok (.aload_n 0, 1) := by decide +kernel
theorem d_Mo_moveOf_60 : decode prog_14_method_137_code 60 = .ok (.bipush 8, 2) := by decide +kernel
theorem d_Mo_moveOf_62 : decode prog_14_method_137_code 62 = .ok (.invokevirtual 327, 3) := by decide +kernel
theorem d_Mo_moveOf_65 : decode prog_14_method_137_code 65 = .ok (.ireturn, 1) := by decide +kernel
theorem d_Mo_moveOf_66 : decode prog_14_method_137_code 66 = .ok (.iload 4, 2) := by decide +kernel
theorem d_Mo_moveOf_68 : decode prog_14_method_137_code 68 = .ok (.ifCond .ne 13, 3) := by decide +kernel
theorem d_Mo_moveOf_71 : decode prog_14_method_137_code 71 = .ok (.aload_n 0, 1) := by decide +kernel
theorem d_Mo_moveOf_72 : decode prog_14_method_137_code 72 = .ok (.getfield 450, 3) := by decide +kernel
theorem d_Mo_moveOf_75 : decode prog_14_method_137_code 75 = .ok (.bipush 7, 2) := by decide +kernel
theorem d_Mo_moveOf_77 : decode prog_14_method_137_code 77 = .ok (.idiv, 1) := by decide +kernel
theorem d_Mo_moveOf_78 : decode prog_14_method_137_code 78 = .ok (.goto 10, 3) := by decide +kernel
theorem d_Mo_moveOf_81 : decode prog_14_method_137_code 81 = .ok (.aload_n 0, 1) := by decide +kernel
theorem d_Mo_moveOf_82 : decode prog_14_method_137_code 82 = .ok (.getfield 450, 3) := by decide +kernel
theorem d_Mo_moveOf_85 : decode prog_14_method_137_code 85 = .ok (.bipush 7, 2) := by decide +kernel
theorem d_Mo_moveOf_87 : decode prog_14_method_137_code 87 = .ok (.irem, 1) := by decide +kernel
theorem d_Mo_moveOf_88 : decode prog_14_method_137_code 88 = .ok (.ireturn, 1) := by decide +kernel
theorem d_Mo_bites_0 : decode prog_14_method_138_code 0 = .ok (.aload_n 0, 1) := by decide +kernel
theorem d_Mo_bites_1 : decode prog_14_method_138_code 1 = .ok (.iconst 0, 1) := by decide +kernel
theorem d_Mo_bites_2 : decode prog_14_method_138_code 2 = .ok (.putfield 70, 3) := by decide +kernel
theorem d_Mo_bites_5 : decode prog_14_method_138_code 5 = .ok (.aload_n 0, 1) := by decide +kernel
theorem d_Mo_bites_6 : decode prog_14_method_138_code 6 = .ok (.iconst 0, 1) := by decide +kernel
theorem d_Mo_bites_7 : decode prog_14_method_138_code 7 = .ok (.putfield 73, 3) := by decide +kernel
theorem d_Mo_bites_10 : decode prog_14_method_138_code 10 = .ok (.aload_n 0, 1) := by decide +kernel
theorem d_Mo_bites_11 : decode prog_14_method_138_code 11 = .ok (.iload_n 1, 1) := by decide +kernel
theorem d_Mo_bites_12 : decode prog_14_method_138_code 12 = .ok (.i2l, 1) := by decide +kernel
theorem d_Mo_bites_13 : decode prog_14_method_138_code 13 = .ok (.invokevirtual 336, 3) := by decide +kernel
theorem d_Mo_bites_16 : decode prog_14_method_138_code 16 = .ok (.ifCond .ne 9, 3) := by decide +kernel
theorem d_Mo_bites_19 : decode prog_14_method_138_code 19 = .ok (.aload_n 0, 1) := by decide +kernel
theorem d_Mo_bites_20 : decode prog_14_method_138_code 20 = .ok (.iconst 2, 1) := by decide +kernel
theorem d_Mo_bites_21 : decode prog_14_method_138_code 21 = .ok (.invokevirtual 85, 3) := by decide +kernel
theorem d_Mo_bites_24 : decode prog_14_method_138_code 24 = .ok (.ireturn, 1) := by decide +kernel
theorem d_Mo_bites_25 : decode prog_14_method_138_code 25 = .ok (.iload_n 2, 1) := by decide +kernel
theorem d_Mo_bites_26 : decode prog_14_method_138_code 26 = .ok (.i2l, 1) := by decide +kernel
theorem d_Mo_bites_27 : decode prog_14_method_138_code 27 = .ok (.lconst 0, 1) := by decide +kernel
theorem d_Mo_bites_28 : decode prog_14_method_138_code 28 = .ok (.ldc2_w 325, 3) := by decide +kernel
theorem d_Mo_bites_31 : decode prog_14_method_138_code 31 = .ok (.invokestatic 105, 3) := by decide +kernel
theorem d_Mo_bites_34 : decode prog_14_method_138_code 34 = .ok (.ifCond .ne 9, 3) := by decide +kernel
theorem d_Mo_bites_37 : decode prog_14_method_138_code 37 = .ok (.aload_n 0, 1) := by decide +kernel
theorem d_Mo_bites_38 : decode prog_14_method_138_code 38 = .ok (.iconst 5, 1) := by decide +kernel
theorem d_Mo_bites_39 : decode prog_14_method_138_code 39 = .ok (.invokevirtual 85, 3) := by decide +kernel
theorem d_Mo_bites_42 : decode prog_14_method_138_code 42 = .ok (.ireturn, 1) := by decide +kernel
theorem d_Mo_bites_43 : decode prog_14_method_138_code 43 = .ok (.aload_n 0, 1) := by decide +kernel
theorem d_Mo_bites_44 : decode prog_14_method_138_code 44 = .ok (.iload_n 1, 1) := by decide +kernel
theorem d_Mo_bites_45 : decode prog_14_method_138_code 45 = .ok (.invokevirtual 341, 3) := by decide +kernel
theorem d_Mo_bites_48 : decode prog_14_method_138_code 48 = .ok (.aload_n 0, 1) := by decide +kernel
theorem d_Mo_bites_49 : decode prog_14_method_138_code 49 = .ok (.iconst 2, 1) := by decide +kernel
theorem d_Mo_bites_50 : decode prog_14_method_138_code 50 = .ok (.invokevirtual 319, 3) := by decide +kernel
theorem d_Mo_bites_53 : decode prog_14_method_138_code 53 = .ok (.iand, 1) := by decide +kernel
theorem d_Mo_bites_54 : decode prog_14_method_138_code 54 = .ok (.invokestatic 396, 3) := by decide +kernel
theorem d_Mo_bites_57 : decode prog_14_method_138_code 57 = .ok (.istore_n 3, 1) := by decide +kernel
theorem d_Mo_bites_58 : decode prog_14_method_138_code 58 = .ok (.lconst 1, 1) := by decide +kernel
theorem d_Mo_bites_59 : decode prog_14_method_138_code 59 = .ok (.lstore 4, 2) := by decide +kernel
theorem d_Mo_bites_61 : decode prog_14_method_138_code 61 = .ok (.iconst 0, 1) := by decide +kernel
theorem d_Mo_bites_62 : decode prog_14_method_138_code 62 = .ok (.istore 6, 2) := by decide +kernel
theorem d_Mo_bites_64 : decode prog_14_method_138_code 64 = .ok (.iload 6, 2) := by decide +kernel
theorem d_Mo_bites_66 : decode prog_14_method_138_code 66 = .ok (.bipush 9, 2) := by decide +kernel
theorem d_Mo_bites_68 : decode prog_14_method_138_code 68 = .ok (.if_icmp .gt 26, 3) := by decide +kernel
theorem d_Mo_bites_71 : decode prog_14_method_138_code 71 = .ok (.aload_n 0, 1) := by decide +kernel
theorem d_Mo_bites_72 : decode prog_14_method_138_code 72 = .ok (.getfield 60, 3) := by decide +kernel
theorem d_Mo_bites_75 : decode prog_14_method_138_code 75 = .ok (.iload 6, 2) := by decide +kernel
theorem d_Mo_bites_77 : decode prog_14_method_138_code 77 = .ok (.iload 6, 2) := by decide +kernel
theorem d_Mo_bites_79 : decode prog_14_method_138_code 79 = .ok (.ifCond .ne 7, 3) := by decide +kernel
theorem d_Mo_bites_82 : decode prog_14_method_138_code 82 = .ok (.lconst 1, 1) := by decide +kernel
theorem d_Mo_bites_83 : decode prog_14_method_138_code 83 = .ok (.goto 4, 3) := by decide +kernel
theorem d_Mo_bites_86 : decode prog_14_method_138_code 86 = .ok (.lconst 0, 1) := by decide +kernel
theorem d_Mo_bites_87 : decode prog_14_method_138_code 87 = .ok (.lastore, 1) := by decide +kernel
theorem d_Mo_bites_88 : decode prog_14_method_138_code 88 = .ok (.iinc 6 1, 3) := by decide +kernel
theorem d_Mo_bites_91 : decode prog_14_method_138_code 91 = .ok (.goto (-27), 3) := by decide +kernel
theorem d_Mo_bites_94 : decode prog_14_method_138_code 94 = .ok (.iconst 0, 1) := by decide +kernel
theorem d_Mo_bites_95 : decode prog_14_method_138_code 95 = .ok (.istore 6, 2) := by decide +kernel
theorem d_Mo_bites_97 : decode prog_14_method_138_code 97 = .ok (.iload 6, 2) := by decide +kernel
theorem d_Mo_bites_99 : decode prog_14_method_138_code 99 = .ok (.iload_n 3, 1) := by decide +kernel
theorem d_Mo_bites_100 : decode prog_14_method_138_code 100 = .ok (.if_icmp .ge 94, 3) := by decide +kernel
theorem d_Mo_bites_103 : decode prog_14_method_138_code 103 = .ok (.bipush 9, 2) := by decide +kernel
theorem d_Mo_bites_105 : decode prog_14_method_138_code 105 = .ok (.istore 7, 2) := by decide +kernel
theorem d_Mo_bites_107 : decode prog_14_method_138_code 107 = .ok (.iload 7, 2) := by decide +kernel
theorem d_Mo_bites_109 : decode prog_14_method_138_code 109 = .ok (.ifCond .le 52, 3) := by decide +kernel
theorem d_Mo_bites_112 : decode prog_14_method_138_code 112 = .ok (.aload_n 0, 1) := by decide +kernel
theorem d_Mo_bites_113 : decode prog_14_method_138_code 113 = .ok (.getfield 60, 3) := by decide +kernel
theorem d_Mo_bites_116 : decode prog_14_method_138_code 116 = .ok (.iload 7, 2) := by decide +kernel
theorem d_Mo_bites_118 : decode prog_14_method_138_code 118 = .ok (.aload_n 0, 1) := by decide +kernel
theorem d_Mo_bites_119 : decode prog_14_method_138_code 119 = .ok (.getfield 60, 3) := by decide +kernel
theorem d_Mo_bites_122 : decode prog_14_method_138_code 122 = .ok (.iload 7, 2) := by decide +kernel
theorem d_Mo_bites_124 : decode prog_14_method_138_code 124 = .ok (.laload, 1) := by decide +kernel
theorem d_Mo_bites_125 : decode prog_14_method_138_code 125 = .ok (.bipush 16, 2) := by decide +kernel
theorem d_Mo_bites_127 : decode prog_14_method_138_code 127 = .ok (.aload_n 0, 1) := by decide +kernel
theorem d_Mo_bites_128 : decode prog_14_method_138_code 128 = .ok (.getfield 35, 3) := by decide +kernel
theorem d_Mo_bites_131 : decode prog_14_method_138_code 131 = .ok (.iconst 4, 1) := by decide +kernel
theorem d_Mo_bites_132 : decode prog_14_method_138_code 132 = .ok (.iaload, 1) := by decide +kernel
theorem d_Mo_bites_133 : decode prog_14_method_138_code 133 = .ok (.isub, 1) := by decide +kernel
theorem d_Mo_bites_134 : decode prog_14_method_138_code 134 = .ok (.i2l, 1) := by decide +kernel
theorem d_Mo_bites_135 : decode prog_14_method_138_code 135 = .ok (.lmul, 1) := by decide +kernel
theorem d_Mo_bites_136 : decode prog_14_method_138_code 136 = .ok (.aload_n 0, 1) := by decide +kernel
theorem d_Mo_bites_137 : decode prog_14_method_138_code 137 = .ok (.getfield 60, 3) := by decide +kernel
theorem d_Mo_bites_140 : decode prog_14_method_138_code 140 = .ok (.iload 7, 2) := by decide +kernel
theorem d_Mo_bites_142 : decode prog_14_method_138_code 142 = .ok (.iconst 1, 1) := by decide +kernel
theorem d_Mo_bites_143 : decode prog_14_method_138_code 143 = .ok (.isub, 1) := by decide +kernel
theorem d_Mo_bites_144 : decode prog_14_method_138_code 144 = .ok (.laload, 1) := by decide +kernel
theorem d_Mo_bites_145 : decode prog_14_method_138_code 145 = .ok (.aload_n 0, 1) := by decide +kernel
theorem d_Mo_bites_146 : decode prog_14_method_138_code 146 = .ok (.getfield 35, 3) := by decide +kernel
theorem d_Mo_bites_149 : decode prog_14_method_138_code 149 = .ok (.iconst 4, 1) := by decide +kernel
theorem d_Mo_bites_150 : decode prog_14_method_138_code 150 = .ok (.iaload, 1) := by decide +kernel
theorem d_Mo_bites_151 : decode prog_14_method_138_code 151 = .ok (.i2l, 1) := by decide +kernel
theorem d_Mo_bites_152 : decode prog_14_method_138_code 152 = .ok (.lmul, 1) := by decide +kernel
theorem d_Mo_bites_153 : decode prog_14_method_138_code 153 = .ok (.ladd, 1) := by decide +kernel
theorem d_Mo_bites_154 : decode prog_14_method_138_code 154 = .ok (.lastore, 1) := by decide +kernel
theorem d_Mo_bites_155 : decode prog_14_method_138_code 155 = .ok (.iinc 7 (-1), 3) := by decide +kernel
theorem d_Mo_bites_158 : decode prog_14_method_138_code 158 = .ok (.goto (-51), 3) := by decide +kernel
theorem d_Mo_bites_161 : decode prog_14_method_138_code 161 = .ok (.aload_n 0, 1) := by decide +kernel
theorem d_Mo_bites_162 : decode prog_14_method_138_code 162 = .ok (.getfield 60, 3) := by decide +kernel
theorem d_Mo_bites_165 : decode prog_14_method_138_code 165 = .ok (.iconst 0, 1) := by decide +kernel
theorem d_Mo_bites_166 : decode prog_14_method_138_code 166 = .ok (.dup2, 1) := by decide +kernel
theorem d_Mo_bites_167 : decode prog_14_method_138_code 167 = .ok (.laload, 1) := by decide +kernel
theorem d_Mo_bites_168 : decode prog_14_method_138_code 168 = .ok (.bipush 16, 2) := by decide +kernel
theorem d_Mo_bites_170 : decode prog_14_method_138_code 170 = .ok (.aload_n 0, 1) := by decide +kernel
theorem d_Mo_bites_171 : decode prog_14_method_138_code 171 = .ok (.getfield 35, 3) := by decide +kernel
theorem d_Mo_bites_174 : decode prog_14_method_138_code 174 = .ok (.iconst 4, 1) := by decide +kernel
theorem d_Mo_bites_175 : decode prog_14_method_138_code 175 = .ok (.iaload, 1) := by decide +kernel
theorem d_Mo_bites_176 : decode prog_14_method_138_code 176 = .ok (.isub, 1) := by decide +kernel
theorem d_Mo_bites_177 : decode prog_14_method_138_code 177 = .ok (.i2l, 1) := by decide +kernel
theorem d_Mo_bites_178 : decode prog_14_method_138_code 178 = .ok (.lmul, 1) := by decide +kernel
theorem d_Mo_bites_179 : decode prog_14_method_138_code 179 = .ok (.lastore, 1) := by decide +kernel
theorem d_Mo_bites_180 : decode prog_14_method_138_code 180 = .ok (.lload 4, 2) := by decide +kernel
theorem d_Mo_bites_182 : decode prog_14_method_138_code 182 = .ok (.ldc2_w 372, 3) := by decide +kernel
theorem d_Mo_bites_185 : decode prog_14_method_138_code 185 = .ok (.lmul, 1) := by decide +kernel
theorem d_Mo_bites_186 : decode prog_14_method_138_code 186 = .ok (.lstore 4, 2) := by decide +kernel
theorem d_Mo_bites_188 : decode prog_14_method_138_code 188 = .ok (.iinc 6 1, 3) := by decide +kernel
theorem d_Mo_bites_191 : decode prog_14_method_138_code 191 = .ok (.goto (-94), 3) := by decide +kernel
theorem d_Mo_bites_194 : decode prog_14_method_138_code 194 = .ok (.lconst 0, 1) := by decide +kernel
theorem d_Mo_bites_195 : decode prog_14_method_138_code 195 = .ok (.lstore 6, 2) := by decide +kernel
theorem d_Mo_bites_197 : decode prog_14_method_138_code 197 = .ok (.iload_n 2, 1) := by decide +kernel
theorem d_Mo_bites_198 : decode prog_14_method_138_code 198 = .ok (.istore 8, 2) := by decide +kernel
theorem d_Mo_bites_200 : decode prog_14_method_138_code 200 = .ok (.iload 8, 2) := by decide +kernel
theorem d_Mo_bites_202 : decode prog_14_method_138_code 202 = .ok (.bipush 9, 2) := by decide +kernel
theorem d_Mo_bites_204 : decode prog_14_method_138_code 204 = .ok (.if_icmp .gt 21, 3) := by decide +kernel
theorem d_Mo_bites_207 : decode prog_14_method_138_code 207 = .ok (.lload 6, 2) := by decide +kernel
theorem d_Mo_bites_209 : decode prog_14_method_138_code 209 = .ok (.aload_n 0, 1) := by decide +kernel
theorem d_Mo_bites_210 : decode prog_14_method_138_code 210 = .ok (.getfield 60, 3) := by decide +kernel
theorem d_Mo_bites_213 : decode prog_14_method_138_code 213 = .ok (.iload 8, 2) := by decide +kernel
theorem d_Mo_bites_215 : decode prog_14_method_138_code 215 = .ok (.laload, 1) := by decide +kernel
theorem d_Mo_bites_216 : decode prog_14_method_138_code 216 = .ok (.ladd, 1) := by decide +kernel
theorem d_Mo_bites_217 : decode prog_14_method_138_code 217 = .ok (.lstore 6, 2) := by decide +kernel
theorem d_Mo_bites_219 : decode prog_14_method_138_code 219 = .ok (.iinc 8 1, 3) := by decide +kernel
theorem d_Mo_bites_222 : decode prog_14_method_138_code 222 = .ok (.goto (-22), 3) := by decide +kernel
theorem d_Mo_bites_225 : decode prog_14_method_138_code 225 = .ok (.aload_n 0, 1) := by decide +kernel
theorem d_Mo_bites_226 : decode prog_14_method_138_code 226 = .ok (.lload 6, 2) := by decide +kernel
theorem d_Mo_bites_228 : decode prog_14_method_138_code 228 = .ok (.lload 4, 2) := by decide +kernel
theorem d_Mo_bites_230 : decode prog_14_method_138_code 230 = .ok (.invokevirtual 456, 3) := by decide +kernel
theorem d_Mo_bites_233 : decode prog_14_method_138_code 233 = .ok (.ireturn, 1) := by decide +kernel
theorem d_Mo_fraction_0 : decode prog_14_method_9_code 0 = .ok (.lload_n 1, 1) := by decide +kernel
theorem d_Mo_fraction_1 : decode prog_14_method_9_code 1 = .ok (.invokestatic 79, 3) := by decide +kernel
theorem d_Mo_fraction_4 : decode prog_14_method_9_code 4 = .ok (.lstore 5, 2) := by decide +kernel
theorem d_Mo_fraction_6 : decode prog_14_method_9_code 6 = .ok (.lload_n 3, 1) := by decide +kernel
theorem d_Mo_fraction_7 : decode prog_14_method_9_code 7 = .ok (.lstore 7, 2) := by decide +kernel
theorem d_Mo_fraction_9 : decode prog_14_method_9_code 9 = .ok (.lload 7, 2) := by decide +kernel
theorem d_Mo_fraction_11 : decode prog_14_method_9_code 11 = .ok (.lconst 0, 1) := by decide +kernel
theorem d_Mo_fraction_12 : decode prog_14_method_9_code 12 = .ok (.lcmp, 1) := by decide +kernel
theorem d_Mo_fraction_13 : decode prog_14_method_9_code 13 = .ok (.ifCond .eq 21, 3) := by decide +kernel
theorem d_Mo_fraction_16 : decode prog_14_method_9_code 16 = .ok (.lload 5, 2) := by decide +kernel
theorem d_Mo_fraction_18 : decode prog_14_method_9_code 18 = .ok (.lload 7, 2) := by decide +kernel
theorem d_Mo_fraction_20 : decode prog_14_method_9_code 20 = .ok (.lrem, 1) := by decide +kernel
theorem d_Mo_fraction_21 : decode prog_14_method_9_code 21 = .ok (.lstore 9, 2) := by decide +kernel
theorem d_Mo_fraction_23 : decode prog_14_method_9_code 23 = .ok (.lload 7, 2) := by decide +kernel
theorem d_Mo_fraction_25 : decode prog_14_method_9_code 25 = .ok (.lstore 5, 2) := by decide +kernel
theorem d_Mo_fraction_27 : decode prog_14_method_9_code 27 = .ok (.lload 9, 2) := by decide +kernel
theorem d_Mo_fraction_29 : decode prog_14_method_9_code 29 = .ok (.lstore 7, 2) := by decide +kernel
theorem d_Mo_fraction_31 : decode prog_14_method_9_code 31 = .ok (.goto (-22), 3) := by decide +kernel
theorem d_Mo_fraction_34 : decode prog_14_method_9_code 34 = .ok (.aload_n 0, 1) := by decide +kernel
theorem d_Mo_fraction_35 : decode prog_14_method_9_code 35 = .ok (.lload_n 1, 1) := by decide +kernel
theorem d_Mo_fraction_36 : decode prog_14_method_9_code 36 = .ok (.lload 5, 2) := by decide +kernel
theorem d_Mo_fraction_38 : decode prog_14_method_9_code 38 = .ok (.ldiv, 1) := by decide +kernel
theorem d_Mo_fraction_39 : decode prog_14_method_9_code 39 = .ok (.putfield 76, 3) := by decide +kernel
theorem d_Mo_fraction_42 : decode prog_14_method_9_code 42 = .ok (.aload_n 0, 1) := by decide +kernel
theorem d_Mo_fraction_43 : decode prog_14_method_9_code 43 = .ok (.lload_n 3, 1) := by decide +kernel
theorem d_Mo_fraction_44 : decode prog_14_method_9_code 44 = .ok (.lload 5, 2) := by decide +kernel
theorem d_Mo_fraction_46 : decode prog_14_method_9_code 46 = .ok (.ldiv, 1) := by decide +kernel
theorem d_Mo_fraction_47 : decode prog_14_method_9_code 47 = .ok (.putfield 7, 3) := by decide +kernel
theorem d_Mo_fraction_50 : decode prog_14_method_9_code 50 = .ok (.iconst 1, 1) := by decide +kernel
theorem d_Mo_fraction_51 : decode prog_14_method_9_code 51 = .ok (.ireturn, 1) := by decide +kernel
theorem d_Mo_share_0 : decode prog_14_method_139_code 0 = .ok (.aload_n 0, 1) := by decide +kernel
theorem d_Mo_share_1 : decode prog_14_method_139_code 1 = .ok (.iconst 0, 1) := by decide +kernel
theorem d_Mo_share_2 : decode prog_14_method_139_code 2 = .ok (.putfield 70, 3) := by decide +kernel
theorem d_Mo_share_5 : decode prog_14_method_139_code 5 = .ok (.aload_n 0, 1) := by decide +kernel
theorem d_Mo_share_6 : decode prog_14_method_139_code 6 = .ok (.iconst 0, 1) := by decide +kernel
theorem d_Mo_share_7 : decode prog_14_method_139_code 7 = .ok (.putfield 73, 3) := by decide +kernel
theorem d_Mo_share_10 : decode prog_14_method_139_code 10 = .ok (.aload_n 0, 1) := by decide +kernel
theorem d_Mo_share_11 : decode prog_14_method_139_code 11 = .ok (.iload_n 1, 1) := by decide +kernel
theorem d_Mo_share_12 : decode prog_14_method_139_code 12 = .ok (.i2l, 1) := by decide +kernel
theorem d_Mo_share_13 : decode prog_14_method_139_code 13 = .ok (.invokevirtual 336, 3) := by decide +kernel
theorem d_Mo_share_16 : decode prog_14_method_139_code 16 = .ok (.ifCond .ne 9, 3) := by decide +kernel
theorem d_Mo_share_19 : decode prog_14_method_139_code 19 = .ok (.aload_n 0, 1) := by decide +kernel
theorem d_Mo_share_20 : decode prog_14_method_139_code 20 = .ok (.iconst 2, 1) := by decide +kernel
theorem d_Mo_share_21 : decode prog_14_method_139_code 21 = .ok (.invokevirtual 85, 3) := by decide +kernel
theorem d_Mo_share_24 : decode prog_14_method_139_code 24 = .ok (.ireturn, 1) := by decide +kernel
theorem d_Mo_share_25 : decode prog_14_method_139_code 25 = .ok (.aload_n 0, 1) := by decide +kernel
theorem d_Mo_share_26 : decode prog_14_method_139_code 26 = .ok (.invokevirtual 330, 3) := by decide +kernel
theorem d_Mo_share_29 : decode prog_14_method_139_code 29 = .ok (.istore_n 2, 1) := by decide +kernel
theorem d_Mo_share_30 : decode prog_14_method_139_code 30 = .ok (.iload_n 2, 1) := by decide +kernel
theorem d_Mo_share_31 : decode prog_14_method_139_code 31 = .ok (.ifCond .ne 12, 3) := by decide +kernel
theorem d_Mo_share_34 : decode prog_14_method_139_code 34 = .ok (.aload_n 0, 1) := by decide +kernel
theorem d_Mo_share_35 : decode prog_14_method_139_code 35 = .ok (.bipush 8, 2) := by decide +kernel
theorem d_Mo_share_37 : decode prog_14_method_139_code 37 = .ok (.invokevirtual 85, 3) := by decide +kernel
theorem d_Mo_share_40 : decode prog_14_method_139_code 40 = .ok (.goto 19, 3) := by decide +kernel
theorem d_Mo_share_43 : decode prog_14_method_139_code 43 = .ok (.aload_n 0, 1) := by decide +kernel
theorem d_Mo_share_44 : decode prog_14_method_139_code 44 = .ok (.aload_n 0, 1) := by decide +kernel
theorem d_Mo_share_45 : decode prog_14_method_139_code 45 = .ok (.aload_n 0, 1) := by decide +kernel
theorem d_Mo_share_46 : decode prog_14_method_139_code 46 = .ok (.iload_n 1, 1) := by decide +kernel
theorem d_Mo_share_47 : decode prog_14_method_139_code 47 = .ok (.invokevirtual 341, 3) := by decide +kernel
theorem d_Mo_share_50 : decode prog_14_method_139_code 50 = .ok (.invokevirtual 322, 3) := by decide +kernel
theorem d_Mo_share_53 : decode prog_14_method_139_code 53 = .ok (.i2l, 1) := by decide +kernel
theorem d_Mo_share_54 : decode prog_14_method_139_code 54 = .ok (.iload_n 2, 1) := by decide +kernel
theorem d_Mo_share_55 : decode prog_14_method_139_code 55 = .ok (.i2l, 1) := by decide +kernel
theorem d_Mo_share_56 : decode prog_14_method_139_code 56 = .ok (.invokevirtual 456, 3) := by decide +kernel
theorem d_Mo_share_59 : decode prog_14_method_139_code 59 = .ok (.ireturn, 1) := by decide +kernel
theorem d_Mo_live_0 : decode prog_14_method_149_code 0 = .ok (.aload_n 0, 1) := by decide +kernel
theorem d_Mo_live_1 : decode prog_14_method_149_code 1 = .ok (.iconst 0, 1) := by decide +kernel
theorem d_Mo_live_2 : decode prog_14_method_149_code 2 = .ok (.putfield 70, 3) := by decide +kernel
theorem d_Mo_live_5 : decode prog_14_method_149_code 5 = .ok (.aload_n 0, 1) := by decide +kernel
theorem d_Mo_live_6 : decode prog_14_method_149_code 6 = .ok (.iconst 0, 1) := by decide +kernel
theorem d_Mo_live_7 : decode prog_14_method_149_code 7 = .ok (.putfield 73, 3) := by decide +kernel
theorem d_Mo_live_10 : decode prog_14_method_149_code 10 = .ok (.iload_n 1, 1) := by decide +kernel
theorem d_Mo_live_11 : decode prog_14_method_149_code 11 = .ok (.i2l, 1) := by decide +kernel
theorem d_Mo_live_12 : decode prog_14_method_149_code 12 = .ok (.lconst 0, 1) := by decide +kernel
theorem d_Mo_live_13 : decode prog_14_method_149_code 13 = .ok (.ldc2_w 509, 3) := by decide +kernel
theorem d_Mo_live_16 : decode prog_14_method_149_code 16 = .ok (.invokestatic 105, 3) := by decide +kernel
theorem d_Mo_live_19 : decode prog_14_method_149_code 19 = .ok (.ifCond .ne 9, 3) := by decide +kernel
theorem d_Mo_live_22 : decode prog_14_method_149_code 22 = .ok (.aload_n 0, 1) := by decide +kernel
theorem d_Mo_live_23 : decode prog_14_method_149_code 23 = .ok (.iconst 5, 1) := by decide +kernel
theorem d_Mo_live_24 : decode prog_14_method_149_code 24 = .ok (.invokevirtual 327, 3) := by decide +kernel
theorem d_Mo_live_27 : decode prog_14_method_149_code 27 = .ok (.ireturn, 1) := by decide +kernel
theorem d_Mo_live_28 : decode prog_14_method_149_code 28 = .ok (.aload_n 0, 1) := by decide +kernel
theorem d_Mo_live_29 : decode prog_14_method_149_code 29 = .ok (.getfield 35, 3) := by decide +kernel
theorem d_Mo_live_32 : decode prog_14_method_149_code 32 = .ok (.bipush 87, 2) := by decide +kernel
theorem d_Mo_live_34 : decode prog_14_method_149_code 34 = .ok (.iaload, 1) := by decide +kernel
theorem d_Mo_live_35 : decode prog_14_method_149_code 35 = .ok (.ifCond .ne 10, 3) := by decide +kernel
theorem d_Mo_live_38 : decode prog_14_method_149_code 38 = .ok (.aload_n 0, 1) := by decide +kernel
theorem d_Mo_live_39 : decode prog_14_method_149_code 39 = .ok (.bipush 8, 2) := by decide +kernel
theorem d_Mo_live_41 : decode prog_14_method_149_code 41 = .ok (.invokevirtual 327, 3) := by decide +kernel
theorem d_Mo_live_44 : decode prog_14_method_149_code 44 = .ok (.ireturn, 1) := by decide +kernel
theorem d_Mo_live_45 : decode prog_14_method_149_code 45 = .ok (.aload_n 0, 1) := by decide +kernel
theorem d_Mo_live_46 : decode prog_14_method_149_code 46 = .ok (.iload_n 1, 1) := by decide +kernel
theorem d_Mo_live_47 : decode prog_14_method_149_code 47 = .ok (.invokevirtual 511, 3) := by decide +kernel
theorem d_Mo_live_50 : decode prog_14_method_149_code 50 = .ok (.aload_n 0, 1) := by decide +kernel
theorem d_Mo_live_51 : decode prog_14_method_149_code 51 = .ok (.getfield 63, 3) := by decide +kernel
theorem d_Mo_live_54 : decode prog_14_method_149_code 54 = .ok (.iconst 0, 1) := by decide +kernel
theorem d_Mo_live_55 : decode prog_14_method_149_code 55 = .ok (.aload_n 0, 1) := by decide +kernel
theorem d_Mo_live_56 : decode prog_14_method_149_code 56 = .ok (.getfield 485, 3) := by decide +kernel
theorem d_Mo_live_59 : decode prog_14_method_149_code 59 = .ok (.iastore, 1) := by decide +kernel
theorem d_Mo_live_60 : decode prog_14_method_149_code 60 = .ok (.aload_n 0, 1) := by decide +kernel
theorem d_Mo_live_61 : decode prog_14_method_149_code 61 = .ok (.getfield 63, 3) := by decide +kernel
theorem d_Mo_live_64 : decode prog_14_method_149_code 64 = .ok (.iconst 1, 1) := by decide +kernel
theorem d_Mo_live_65 : decode prog_14_method_149_code 65 = .ok (.aload_n 0, 1) := by decide +kernel
theorem d_Mo_live_66 : decode prog_14_method_149_code 66 = .ok (.getfield 35, 3) := by decide +kernel
theorem d_Mo_live_69 : decode prog_14_method_149_code 69 = .ok (.iconst 5, 1) := by decide +kernel
theorem d_Mo_live_70 : decode prog_14_method_149_code 70 = .ok (.iaload, 1) := by decide +kernel
theorem d_Mo_live_71 : decode prog_14_method_149_code 71 = .ok (.aload_n 0, 1) := by decide +kernel
theorem d_Mo_live_72 : decode prog_14_method_149_code 72 = .ok (.getfield 500, 3) := by decide +kernel
theorem d_Mo_live_75 : decode prog_14_method_149_code 75 = .ok (.isub, 1) := by decide +kernel
theorem d_Mo_live_76 : decode prog_14_method_149_code 76 = .ok (.iastore, 1) := by decide +kernel
theorem d_Mo_live_77 : decode prog_14_method_149_code 77 = .ok (.aload_n 0, 1) := by decide +kernel
theorem d_Mo_live_78 : decode prog_14_method_149_code 78 = .ok (.getfield 63, 3) := by decide +kernel
theorem d_Mo_live_81 : decode prog_14_method_149_code 81 = .ok (.iconst 2, 1) := by decide +kernel
theorem d_Mo_live_82 : decode prog_14_method_149_code 82 = .ok (.aload_n 0, 1) := by decide +kernel
theorem d_Mo_live_83 : decode prog_14_method_149_code 83 = .ok (.getfield 467, 3) := by decide +kernel
theorem d_Mo_live_86 : decode prog_14_method_149_code 86 = .ok (.iastore, 1) := by decide +kernel
theorem d_Mo_live_87 : decode prog_14_method_149_code 87 = .ok (.aload_n 0, 1) := by decide +kernel
theorem d_Mo_live_88 : decode prog_14_method_149_code 88 = .ok (.getfield 63, 3) := by decide +kernel
theorem d_Mo_live_91 : decode prog_14_method_149_code 91 = .ok (.iconst 3, 1) := by decide +kernel
theorem d_Mo_live_92 : decode prog_14_method_149_code 92 = .ok (.aload_n 0, 1) := by decide +kernel
theorem d_Mo_live_93 : decode prog_14_method_149_code 93 = .ok (.invokevirtual 503, 3) := by decide +kernel
theorem d_Mo_live_96 : decode prog_14_method_149_code 96 = .ok (.aload_n 0, 1) := by decide +kernel
theorem d_Mo_live_97 : decode prog_14_method_149_code 97 = .ok (.getfield 506, 3) := by decide +kernel
theorem d_Mo_live_100 : decode prog_14_method_149_code 100 = .ok (.isub, 1) := by decide +kernel
theorem d_Mo_live_101 : decode prog_14_method_149_code 101 = .ok (.iastore, 1) := by decide +kernel
theorem d_Mo_live_102 : decode prog_14_method_149_code 102 = .ok (.aload_n 0, 1) := by decide +kernel
theorem d_Mo_live_103 : decode prog_14_method_149_code 103 = .ok (.getfield 63, 3) := by decide +kernel
theorem d_Mo_live_106 : decode prog_14_method_149_code 106 = .ok (.iconst 4, 1) := by decide +kernel
theorem d_Mo_live_107 : decode prog_14_method_149_code 107 = .ok (.aload_n 0, 1) := by decide +kernel
theorem d_Mo_live_108 : decode prog_14_method_149_code 108 = .ok (.getfield 482, 3) := by decide +kernel
theorem d_Mo_live_111 : decode prog_14_method_149_code 111 = .ok (.iastore, 1) := by decide +kernel
theorem d_Mo_live_112 : decode prog_14_method_149_code 112 = .ok (.aload_n 0, 1) := by decide +kernel
theorem d_Mo_live_113 : decode prog_14_method_149_code 113 = .ok (.iconst 1, 1) := by decide +kernel
theorem d_Mo_live_114 : decode prog_14_method_149_code 114 = .ok (.putfield 514, 3) := by decide +kernel
theorem d_Mo_live_117 : decode prog_14_method_149_code 117 = .ok (.aload_n 0, 1) := by decide +kernel
theorem d_Mo_live_118 : decode prog_14_method_149_code 118 = .ok (.getfield 476, 3) := by decide +kernel
theorem d_Mo_live_121 : decode prog_14_method_149_code 121 = .ok (.ireturn, 1) := by decide +kernel
theorem d_Mo_runsYears_0 : decode prog_14_method_148_code 0 = .ok (.aload_n 0, 1) := by decide +kernel
theorem d_Mo_runsYears_1 : decode prog_14_method_148_code 1 = .ok (.iload_n 1, 1) := by decide +kernel
theorem d_Mo_runsYears_2 : decode prog_14_method_148_code 2 = .ok (.putfield 460, 3) := by decide +kernel
theorem d_Mo_runsYears_5 : decode prog_14_method_148_code 5 = .ok (.aload_n 0, 1) := by decide +kernel
theorem d_Mo_runsYears_6 : decode prog_14_method_148_code 6 = .ok (.iconst 0, 1) := by decide +kernel
theorem d_Mo_runsYears_7 : decode prog_14_method_148_code 7 = .ok (.putfield 476, 3) := by decide +kernel
theorem d_Mo_runsYears_10 : decode prog_14_method_148_code 10 = .ok (.aload_n 0, 1) := by decide +kernel
theorem d_Mo_runsYears_11 : decode prog_14_method_148_code 11 = .ok (.iconst 0, 1) := by decide +kernel
theorem d_Mo_runsYears_12 : decode prog_14_method_148_code 12 = .ok (.putfield 485, 3) := by decide +kernel
theorem d_Mo_runsYears_15 : decode prog_14_method_148_code 15 = .ok (.aload_n 0, 1) := by decide +kernel
theorem d_Mo_runsYears_16 : decode prog_14_method_148_code 16 = .ok (.aload_n 0, 1) := by decide +kernel
theorem d_Mo_runsYears_17 : decode prog_14_method_148_code 17 = .ok (.getfield 35, 3) := by decide +kernel
theorem d_Mo_runsYears_20 : decode prog_14_method_148_code 20 = .ok (.iconst 5, 1) := by decide +kernel
theorem d_Mo_runsYears_21 : decode prog_14_method_148_code 21 = .ok (.iaload, 1) := by decide +kernel
theorem d_Mo_runsYears_22 : decode prog_14_method_148_code 22 = .ok (.putfield 500, 3) := by decide +kernel
theorem d_Mo_runsYears_25 : decode prog_14_method_148_code 25 = .ok (.aload_n 0, 1) := by decide +kernel
theorem d_Mo_runsYears_26 : decode prog_14_method_148_code 26 = .ok (.iconst 0, 1) := by decide +kernel
theorem d_Mo_runsYears_27 : decode prog_14_method_148_code 27 = .ok (.putfield 467, 3) := by decide +kernel
theorem d_Mo_runsYears_30 : decode prog_14_method_148_code 30 = .ok (.aload_n 0, 1) := by decide +kernel
theorem d_Mo_runsYears_31 : decode prog_14_method_148_code 31 = .ok (.aload_n 0, 1) := by decide +kernel
theorem d_Mo_runsYears_32 : decode prog_14_method_148_code 32 = .ok (.invokevirtual 503, 3) := by decide +kernel
theorem d_Mo_runsYears_35 : decode prog_14_method_148_code 35 = .ok (.putfield 506, 3) := by decide +kernel
theorem d_Mo_runsYears_38 : decode prog_14_method_148_code 38 = .ok (.aload_n 0, 1) := by decide +kernel
theorem d_Mo_runsYears_39 : decode prog_14_method_148_code 39 = .ok (.iconst 0, 1) := by decide +kernel
theorem d_Mo_runsYears_40 : decode prog_14_method_148_code 40 = .ok (.putfield 482, 3) := by decide +kernel
theorem d_Mo_runsYears_43 : decode prog_14_method_148_code 43 = .ok (.aload_n 0, 1) := by decide +kernel
theorem d_Mo_runsYears_44 : decode prog_14_method_148_code 44 = .ok (.iconst 0, 1) := by decide +kernel
theorem d_Mo_runsYears_45 : decode prog_14_method_148_code 45 = .ok (.putfield 479, 3) := by decide +kernel
theorem d_Mo_runsYears_48 : decode prog_14_method_148_code 48 = .ok (.aload_n 0, 1) := by decide +kernel
theorem d_Mo_runsYears_49 : decode prog_14_method_148_code 49 = .ok (.iconst 0, 1) := by decide +kernel
theorem d_Mo_runsYears_50 : decode prog_14_method_148_code 50 = .ok (.aload_n 0, 1) := by decide +kernel
theorem d_Mo_runsYears_51 : decode prog_14_method_148_code 51 = .ok (.getfield 35, 3) := by decide +kernel
theorem d_Mo_runsYears_54 : decode prog_14_method_148_code 54 = .ok (.bipush 88, 2) := by decide +kernel
theorem d_Mo_runsYears_56 : decode prog_14_method_148_code 56 = .ok (.iaload, 1) := by decide +kernel
theorem d_Mo_runsYears_57 : decode prog_14_method_148_code 57 = .ok (.invokevirtual 494, 3) := by decide +kernel
theorem d_Mo_runsYears_60 : decode prog_14_method_148_code 60 = .ok (.return_, 1) := by decide +kernel
theorem d_Mo_allGot_0 : decode prog_14_method_141_code 0 = .ok (.iconst 0, 1) := by decide +kernel
theorem d_Mo_allGot_1 : decode prog_14_method_141_code 1 = .ok (.istore_n 1, 1) := by decide +kernel
theorem d_Mo_allGot_2 : decode prog_14_method_141_code 2 = .ok (.iconst 0, 1) := by decide +kernel
theorem d_Mo_allGot_3 : decode prog_14_method_141_code 3 = .ok (.istore_n 2, 1) := by decide +kernel
theorem d_Mo_allGot_4 : decode prog_14_method_141_code 4 = .ok (.iload_n 2, 1) := by decide +kernel
theorem d_Mo_allGot_5 : decode prog_14_method_141_code 5 = .ok (.aload_n 0, 1) := by decide +kernel
theorem d_Mo_allGot_6 : decode prog_14_method_141_code 6 = .ok (.getfield 35, 3) := by decide +kernel
theorem d_Mo_allGot_9 : decode prog_14_method_141_code 9 = .ok (.iconst 1, 1) := by decide +kernel
theorem d_Mo_allGot_10 : decode prog_14_method_141_code 10 = .ok (.iaload, 1) := by decide +kernel
theorem d_Mo_allGot_11 : decode prog_14_method_141_code 11 = .ok (.if_icmp .ge 21, 3) := by decide +kernel
theorem d_Mo_allGot_14 : decode prog_14_method_141_code 14 = .ok (.iload_n 1, 1) := by decide +kernel
theorem d_Mo_allGot_15 : decode prog_14_method_141_code 15 = .ok (.aload_n 0, 1) := by decide +kernel
theorem d_Mo_allGot_16 : decode prog_14_method_141_code 16 = .ok (.getfield 35, 3) := by decide +kernel
theorem d_Mo_allGot_19 : decode prog_14_method_141_code 19 = .ok (.bipush 26, 2) := by decide +kernel
theorem d_Mo_allGot_21 : decode prog_14_method_141_code 21 = .ok (.iload_n 2, 1) := by decide +kernel
theorem d_Mo_allGot_22 : decode prog_14_method_141_code 22 = .ok (.iadd, 1) := by decide +kernel
theorem d_Mo_allGot_23 : decode prog_14_method_141_code 23 = .ok (.iaload, 1) := by decide +kernel
theorem d_Mo_allGot_24 : decode prog_14_method_141_code 24 = .ok (.iadd, 1) := by decide +kernel
theorem d_Mo_allGot_25 : decode prog_14_method_141_code 25 = .ok (.istore_n 1, 1) := by decide +kernel
theorem d_Mo_allGot_26 : decode prog_14_method_141_code 26 = .ok (.iinc 2 1, 3) := by decide +kernel
theorem d_Mo_allGot_29 : decode prog_14_method_141_code 29 = .ok (.goto (-25), 3) := by decide +kernel
theorem d_Mo_allGot_32 : decode prog_14_method_141_code 32 = .ok (.iload_n 1, 1) := by decide +kernel
theorem d_Mo_allGot_33 : decode prog_14_method_141_code 33 = .ok (.ireturn, 1) := by decide +kernel
theorem d_Mo_doAll_0 : decode prog_14_method_147_code 0 = .ok (.iload_n 1, 1) := by decide +kernel
theorem d_Mo_doAll_1 : decode prog_14_method_147_code 1 = .ok (.istore_n 3, 1) := by decide +kernel
theorem d_Mo_doAll_2 : decode prog_14_method_147_code 2 = .ok (.iload_n 3, 1) := by decide +kernel
theorem d_Mo_doAll_3 : decode prog_14_method_147_code 3 = .ok (.iload_n 2, 1) := by decide +kernel
theorem d_Mo_doAll_4 : decode prog_14_method_147_code 4 = .ok (.if_icmp .ge 34, 3) := by decide +kernel
theorem d_Mo_doAll_7 : decode prog_14_method_147_code 7 = .ok (.aload_n 0, 1) := by decide +kernel
theorem d_Mo_doAll_8 : decode prog_14_method_147_code 8 = .ok (.getfield 479, 3) := by decide +kernel
theorem d_Mo_doAll_11 : decode prog_14_method_147_code 11 = .ok (.ifCond .ne 27, 3) := by decide +kernel
theorem d_Mo_doAll_14 : decode prog_14_method_147_code 14 = .ok (.aload_n 0, 1) := by decide +kernel
theorem d_Mo_doAll_15 : decode prog_14_method_147_code 15 = .ok (.iload_n 3, 1) := by decide +kernel
theorem d_Mo_doAll_16 : decode prog_14_method_147_code 16 = .ok (.invokevirtual 497, 3) := by decide +kernel
theorem d_Mo_doAll_19 : decode prog_14_method_147_code 19 = .ok (.aload_n 0, 1) := by decide +kernel
theorem d_Mo_doAll_20 : decode prog_14_method_147_code 20 = .ok (.getfield 35, 3) := by decide +kernel
theorem d_Mo_doAll_23 : decode prog_14_method_147_code 23 = .ok (.bipush 89, 2) := by decide +kernel
theorem d_Mo_doAll_25 : decode prog_14_method_147_code 25 = .ok (.bipush 9, 2) := by decide +kernel
theorem d_Mo_doAll_27 : decode prog_14_method_147_code 27 = .ok (.iload_n 3, 1) := by decide +kernel
theorem d_Mo_doAll_28 : decode prog_14_method_147_code 28 = .ok (.imul, 1) := by decide +kernel
theorem d_Mo_doAll_29 : decode prog_14_method_147_code 29 = .ok (.iadd, 1) := by decide +kernel
theorem d_Mo_doAll_30 : decode prog_14_method_147_code 30 = .ok (.bipush 8, 2) := by decide +kernel
theorem d_Mo_doAll_32 : decode prog_14_method_147_code 32 = .ok (.iadd, 1) := by decide +kernel
theorem d_Mo_doAll_33 : decode prog_14_method_147_code 33 = .ok (.iaload, 1) := by decide +kernel
theorem d_Mo_doAll_34 : decode prog_14_method_147_code 34 = .ok (.istore_n 3, 1) := by decide +kernel
theorem d_Mo_doAll_35 : decode prog_14_method_147_code 35 = .ok (.goto (-33), 3) := by decide +kernel
theorem d_Mo_doAll_38 : decode prog_14_method_147_code 38 = .ok (.return_, 1) := by decide +kernel
theorem d_Mo_doOne_0 : decode prog_14_method_146_code 0 = .ok (.aload_n 0, 1) := by decide +kernel
theorem d_Mo_doOne_1 : decode prog_14_method_146_code 1 = .ok (.getfield 476, 3) := by decide +kernel
theorem d_Mo_doOne_4 : decode prog_14_method_146_code 4 = .ok (.sipush 300, 3) := by decide +kernel
theorem d_Mo_doOne_7 : decode prog_14_method_146_code 7 = .ok (.if_icmp .ne 14, 3) := by decide +kernel
theorem d_Mo_doOne_10 : decode prog_14_method_146_code 10 = .ok (.aload_n 0, 1) := by decide +kernel
theorem d_Mo_doOne_11 : decode prog_14_method_146_code 11 = .ok (.iconst 1, 1) := by decide +kernel
theorem d_Mo_doOne_12 : decode prog_14_method_146_code 12 = .ok (.putfield 479, 3) := by decide +kernel
theorem d_Mo_doOne_15 : decode prog_14_method_146_code 15 = .ok (.aload_n 0, 1) := by decide +kernel
theorem d_Mo_doOne_16 : decode prog_14_method_146_code 16 = .ok (.iconst 1, 1) := by decide +kernel
theorem d_Mo_doOne_17 : decode prog_14_method_146_code 17 = .ok (.putfield 482, 3) := by decide +kernel
theorem d_Mo_doOne_20 : decode prog_14_method_146_code 20 = .ok (.return_, 1) := by decide +kernel
theorem d_Mo_doOne_21 : decode prog_14_method_146_code 21 = .ok (.aload_n 0, 1) := by decide +kernel
theorem d_Mo_doOne_22 : decode prog_14_method_146_code 22 = .ok (.dup, 1) := by decide +kernel
theorem d_Mo_doOne_23 : decode prog_14_method_146_code 23 = .ok (.getfield 476, 3) := by decide +kernel
theorem d_Mo_doOne_26 : decode prog_14_method_146_code 26 = .ok (.iconst 1, 1) := by decide +kernel
theorem d_Mo_doOne_27 : decode prog_14_method_146_code 27 = .ok (.iadd, 1) := by decide +kernel
theorem d_Mo_doOne_28 : decode prog_14_method_146_code 28 = .ok (.putfield 476, 3) := by decide +kernel
theorem d_Mo_doOne_31 : decode prog_14_method_146_code 31 = .ok (.bipush 89, 2) := by decide +kernel
theorem d_Mo_doOne_33 : decode prog_14_method_146_code 33 = .ok (.bipush 9, 2) := by decide +kernel
theorem d_Mo_doOne_35 : decode prog_14_method_146_code 35 = .ok (.iload_n 1, 1) := by decide +kernel
theorem d_Mo_doOne_36 : decode prog_14_method_146_code 36 = .ok (.imul, 1) := by decide +kernel
theorem d_Mo_doOne_37 : decode prog_14_method_146_code 37 = .ok (.iadd, 1) := by decide +kernel
theorem d_Mo_doOne_38 : decode prog_14_method_146_code 38 = .ok (.istore_n 2, 1) := by decide +kernel
theorem d_Mo_doOne_39 : decode prog_14_method_146_code 39 = .ok (.aload_n 0, 1) := by decide +kernel
theorem d_Mo_doOne_40 : decode prog_14_method_146_code 40 = .ok (.getfield 35, 3) := by decide +kernel
theorem d_Mo_doOne_43 : decode prog_14_method_146_code 43 = .ok (.iload_n 2, 1) := by decide +kernel
theorem d_Mo_doOne_44 : decode prog_14_method_146_code 44 = .ok (.iaload, 1) := by decide +kernel
theorem d_Mo_doOne_45 : decode prog_14_method_146_code 45 = .ok (.istore_n 3, 1) := by decide +kernel
theorem d_Mo_doOne_46 : decode prog_14_method_146_code 46 = .ok (.iload_n 3, 1) := by decide +kernel
theorem d_Mo_doOne_47 : decode prog_14_method_146_code 47 = .ok (.iconst 5, 1) := by decide +kernel
theorem d_Mo_doOne_48 : decode prog_14_method_146_code 48 = .ok (.if_icmp .ge 28, 3) := by decide +kernel
theorem d_Mo_doOne_51 : decode prog_14_method_146_code 51 = .ok (.aload_n 0, 1) := by decide +kernel
theorem d_Mo_doOne_52 : decode prog_14_method_146_code 52 = .ok (.dup, 1) := by decide +kernel
theorem d_Mo_doOne_53 : decode prog_14_method_146_code 53 = .ok (.getfield 485, 3) := by decide +kernel
theorem d_Mo_doOne_56 : decode prog_14_method_146_code 56 = .ok (.aload_n 0, 1) := by decide +kernel
theorem d_Mo_doOne_57 : decode prog_14_method_146_code 57 = .ok (.iload_n 2, 1) := by decide +kernel
theorem d_Mo_doOne_58 : decode prog_14_method_146_code 58 = .ok (.invokevirtual 488, 3) := by decide +kernel
theorem d_Mo_doOne_61 : decode prog_14_method_146_code 61 = .ok (.ifCond .eq 7, 3) := by decide +kernel
theorem d_Mo_doOne_64 : decode prog_14_method_146_code 64 = .ok (.iconst 0, 1) := by decide +kernel
theorem d_Mo_doOne_65 : decode prog_14_method_146_code 65 = .ok (.goto 4, 3) := by decide +kernel
theorem d_Mo_doOne_68 : decode prog_14_method_146_code 68 = .ok (.iconst 1, 1) := by decide +kernel
theorem d_Mo_doOne_69 : decode prog_14_method_146_code 69 = .ok (.iadd, 1) := by decide +kernel
theorem d_Mo_doOne_70 : decode prog_14_method_146_code 70 = .ok (.putfield 485, 3) := by decide +kernel
theorem d_Mo_doOne_73 : decode prog_14_method_146_code 73 = .ok (.goto 100, 3) := by decide +kernel
theorem d_Mo_doOne_76 : decode prog_14_method_146_code 76 = .ok (.iload_n 3, 1) := by decide +kernel
theorem d_Mo_doOne_77 : decode prog_14_method_146_code 77 = .ok (.iconst 5, 1) := by decide +kernel
theorem d_Mo_doOne_78 : decode prog_14_method_146_code 78 = .ok (.if_icmp .ne 30, 3) := by decide +kernel
theorem d_Mo_doOne_81 : decode prog_14_method_146_code 81 = .ok (.aload_n 0, 1) := by decide +kernel
theorem d_Mo_doOne_82 : decode prog_14_method_146_code 82 = .ok (.iload_n 2, 1) := by decide +kernel
theorem d_Mo_doOne_83 : decode prog_14_method_146_code 83 = .ok (.invokevirtual 491, 3) := by decide +kernel
theorem d_Mo_doOne_86 : decode prog_14_method_146_code 86 = .ok (.ifCond .eq 22, 3) := by decide +kernel
theorem d_Mo_doOne_89 : decode prog_14_method_146_code 89 = .ok (.aload_n 0, 1) := by decide +kernel
theorem d_Mo_doOne_90 : decode prog_14_method_146_code 90 = .ok (.iload_n 1, 1) := by decide +kernel
theorem d_Mo_doOne_91 : decode prog_14_method_146_code 91 = .ok (.iconst 1, 1) := by decide +kernel
theorem d_Mo_doOne_92 : decode prog_14_method_146_code 92 = .ok (.iadd, 1) := by decide +kernel
theorem d_Mo_doOne_93 : decode prog_14_method_146_code 93 = .ok (.aload_n 0, 1) := by decide +kernel
theorem d_Mo_doOne_94 : decode prog_14_method_146_code 94 = .ok (.getfield 35, 3) := by decide +kernel
theorem d_Mo_doOne_97 : decode prog_14_method_146_code 97 = .ok (.iload_n 2, 1) := by decide +kernel
theorem d_Mo_doOne_98 : decode prog_14_method_146_code 98 = .ok (.bipush 8, 2) := by decide +kernel
theorem d_Mo_doOne_100 : decode prog_14_method_146_code 100 = .ok (.iadd, 1) := by decide +kernel
theorem d_Mo_doOne_101 : decode prog_14_method_146_code 101 = .ok (.iaload, 1) := by decide +kernel
theorem d_Mo_doOne_102 : decode prog_14_method_146_code 102 = .ok (.invokevirtual 494, 3) := by decide +kernel
theorem d_Mo_doOne_105 : decode prog_14_method_146_code 105 = .ok (.goto 68, 3) := by decide +kernel
theorem d_Mo_doOne_108 : decode prog_14_method_146_code 108 = .ok (.iload_n 3, 1) := by decide +kernel
theorem d_Mo_doOne_109 : decode prog_14_method_146_code 109 = .ok (.bipush 6, 2) := by decide +kernel
theorem d_Mo_doOne_111 : decode prog_14_method_146_code 111 = .ok (.if_icmp .ne 51, 3) := by decide +kernel
theorem d_Mo_doOne_114 : decode prog_14_method_146_code 114 = .ok (.iconst 0, 1) := by decide +kernel
theorem d_Mo_doOne_115 : decode prog_14_method_146_code 115 = .ok (.istore 4, 2) := by decide +kernel
theorem d_Mo_doOne_117 : decode prog_14_method_146_code 117 = .ok (.iload 4, 2) := by decide +kernel
theorem d_Mo_doOne_119 : decode prog_14_method_146_code 119 = .ok (.aload_n 0, 1) := by decide +kernel
theorem d_Mo_doOne_120 : decode prog_14_method_146_code 120 = .ok (.getfield 35, 3) := by decide +kernel
theorem d_Mo_doOne_123 : decode prog_14_method_146_code 123 = .ok (.iload_n 2, 1) := by decide +kernel
theorem d_Mo_doOne_124 : decode prog_14_method_146_code 124 = .ok (.iconst 1, 1) := by decide +kernel
theorem d_Mo_doOne_125 : decode prog_14_method_146_code 125 = .ok (.iadd, 1) := by decide +kernel
theorem d_Mo_doOne_126 : decode prog_14_method_146_code 126 = .ok (.iaload, 1) := by decide +kernel
theorem d_Mo_doOne_127 : decode prog_14_method_146_code 127 = .ok (.if_icmp .ge 32, 3) := by decide +kernel
theorem d_Mo_doOne_130 : decode prog_14_method_146_code 130 = .ok (.aload_n 0, 1) := by decide +kernel
theorem d_Mo_doOne_131 : decode prog_14_method_146_code 131 = .ok (.getfield 479, 3) := by decide +kernel
theorem d_Mo_doOne_134 : decode prog_14_method_146_code 134 = .ok (.ifCond .ne 25, 3) := by decide +kernel
theorem d_Mo_doOne_137 : decode prog_14_method_146_code 137 = .ok (.aload_n 0, 1) := by decide +kernel
theorem d_Mo_doOne_138 : decode prog_14_method_146_code 138 = .ok (.iload_n 1, 1) := by decide +kernel
theorem d_Mo_doOne_139 : decode prog_14_method_146_code 139 = .ok (.iconst 1, 1) := by decide +kernel
theorem d_Mo_doOne_140 : decode prog_14_method_146_code 140 = .ok (.iadd, 1) := by decide +kernel
theorem d_Mo_doOne_141 : decode prog_14_method_146_code 141 = .ok (.aload_n 0, 1) := by decide +kernel
theorem d_Mo_doOne_142 : decode prog_14_method_146_code 142 = .ok (.getfield 35, 3) := by decide +kernel
theorem d_Mo_doOne_145 : decode prog_14_method_146_code 145 = .ok (.iload_n 2, 1) := by decide +kernel
theorem d_Mo_doOne_146 : decode prog_14_method_146_code 146 = .ok (.bipush 8, 2) := by decide +kernel
theorem d_Mo_doOne_148 : decode prog_14_method_146_code 148 = .ok (.iadd, 1) := by decide +kernel
theorem d_Mo_doOne_149 : decode prog_14_method_146_code 149 = .ok (.iaload, 1) := by decide +kernel
theorem d_Mo_doOne_150 : decode prog_14_method_146_code 150 = .ok (.invokevirtual 494, 3) := by decide +kernel
theorem d_Mo_doOne_153 : decode prog_14_method_146_code 153 = .ok (.iinc 4 1, 3) := by decide +kernel
theorem d_Mo_doOne_156 : decode prog_14_method_146_code 156 = .ok (.goto (-39), 3) := by decide +kernel
theorem d_Mo_doOne_159 : decode prog_14_method_146_code 159 = .ok (.goto 14, 3) := by decide +kernel
theorem d_Mo_doOne_162 : decode prog_14_method_146_code 162 = .ok (.iload_n 3, 1) := by decide +kernel
theorem d_Mo_doOne_163 : decode prog_14_method_146_code 163 = .ok (.bipush 6, 2) := by decide +kernel
theorem d_Mo_doOne_165 : decode prog_14_method_146_code 165 = .ok (.if_icmp .le 8, 3) := by decide +kernel
theorem d_Mo_doOne_168 : decode prog_14_method_146_code 168 = .ok (.aload_n 0, 1) := by decide +kernel
theorem d_Mo_doOne_169 : decode prog_14_method_146_code 169 = .ok (.iconst 1, 1) := by decide +kernel
theorem d_Mo_doOne_170 : decode prog_14_method_146_code 170 = .ok (.putfield 479, 3) := by decide +kernel
theorem d_Mo_doOne_173 : decode prog_14_method_146_code 173 = .ok (.return_, 1) := by decide +kernel
theorem d_Mo_does_0 : decode prog_14_method_144_code 0 = .ok (.aload_n 0, 1) := by decide +kernel
theorem d_Mo_does_1 : decode prog_14_method_144_code 1 = .ok (.getfield 35, 3) := by decide +kernel
theorem d_Mo_does_4 : decode prog_14_method_144_code 4 = .ok (.iload_n 1, 1) := by decide +kernel
theorem d_Mo_does_5 : decode prog_14_method_144_code 5 = .ok (.iaload, 1) := by decide +kernel
theorem d_Mo_does_6 : decode prog_14_method_144_code 6 = .ok (.istore_n 2, 1) := by decide +kernel
theorem d_Mo_does_7 : decode prog_14_method_144_code 7 = .ok (.aload_n 0, 1) := by decide +kernel
theorem d_Mo_does_8 : decode prog_14_method_144_code 8 = .ok (.getfield 35, 3) := by decide +kernel
theorem d_Mo_does_11 : decode prog_14_method_144_code 11 = .ok (.iload_n 1, 1) := by decide +kernel
theorem d_Mo_does_12 : decode prog_14_method_144_code 12 = .ok (.iconst 1, 1) := by decide +kernel
theorem d_Mo_does_13 : decode prog_14_method_144_code 13 = .ok (.iadd, 1) := by decide +kernel
theorem d_Mo_does_14 : decode prog_14_method_144_code 14 = .ok (.iaload, 1) := by decide +kernel
theorem d_Mo_does_15 : decode prog_14_method_144_code 15 = .ok (.istore_n 3, 1) := by decide +kernel
theorem d_Mo_does_16 : decode prog_14_method_144_code 16 = .ok (.aload_n 0, 1) := by decide +kernel
theorem d_Mo_does_17 : decode prog_14_method_144_code 17 = .ok (.getfield 35, 3) := by decide +kernel
theorem d_Mo_does_20 : decode prog_14_method_144_code 20 = .ok (.iload_n 1, 1) := by decide +kernel
theorem d_Mo_does_21 : decode prog_14_method_144_code 21 = .ok (.iconst 2, 1) := by decide +kernel
theorem d_Mo_does_22 : decode prog_14_method_144_code 22 = .ok (.iadd, 1) := by decide +kernel
theorem d_Mo_does_23 : decode prog_14_method_144_code 23 = .ok (.iaload, 1) := by decide +kernel
theorem d_Mo_does_24 : decode prog_14_method_144_code 24 = .ok (.istore 4, 2) := by decide +kernel
theorem d_Mo_does_26 : decode prog_14_method_144_code 26 = .ok (.iload_n 2, 1) := by decide +kernel
theorem d_Mo_does_27 : decode prog_14_method_144_code 27 = .ok (.ifCond .ne 11, 3) := by decide +kernel
theorem d_Mo_does_30 : decode prog_14_method_144_code 30 = .ok (.aload_n 0, 1) := by decide +kernel
theorem d_Mo_does_31 : decode prog_14_method_144_code 31 = .ok (.iload_n 3, 1) := by decide +kernel
theorem d_Mo_does_32 : decode prog_14_method_144_code 32 = .ok (.iload 4, 2) := by decide +kernel
theorem d_Mo_does_34 : decode prog_14_method_144_code 34 = .ok (.invokevirtual 360, 3) := by decide +kernel
theorem d_Mo_does_37 : decode prog_14_method_144_code 37 = .ok (.ireturn, 1) := by decide +kernel
theorem d_Mo_does_38 : decode prog_14_method_144_code 38 = .ok (.iload_n 2, 1) := by decide +kernel
theorem d_Mo_does_39 : decode prog_14_method_144_code 39 = .ok (.iconst 1, 1) := by decide +kernel
theorem d_Mo_does_40 : decode prog_14_method_144_code 40 = .ok (.if_icmp .ne 9, 3) := by decide +kernel
theorem d_Mo_does_43 : decode prog_14_method_144_code 43 = .ok (.aload_n 0, 1) := by decide +kernel
theorem d_Mo_does_44 : decode prog_14_method_144_code 44 = .ok (.iload_n 3, 1) := by decide +kernel
theorem d_Mo_does_45 : decode prog_14_method_144_code 45 = .ok (.invokevirtual 470, 3) := by decide +kernel
theorem d_Mo_does_48 : decode prog_14_method_144_code 48 = .ok (.ireturn, 1) := by decide +kernel
theorem d_Mo_does_49 : decode prog_14_method_144_code 49 = .ok (.iload_n 2, 1) := by decide +kernel
theorem d_Mo_does_50 : decode prog_14_method_144_code 50 = .ok (.iconst 4, 1) := by decide +kernel
theorem d_Mo_does_51 : decode prog_14_method_144_code 51 = .ok (.if_icmp .ne 10, 3) := by decide +kernel
theorem d_Mo_does_54 : decode prog_14_method_144_code 54 = .ok (.aload_n 0, 1) := by decide +kernel
theorem d_Mo_does_55 : decode prog_14_method_144_code 55 = .ok (.invokevirtual 473, 3) := by decide +kernel
theorem d_Mo_does_58 : decode prog_14_method_144_code 58 = .ok (.goto 20, 3) := by decide +kernel
theorem d_Mo_does_61 : decode prog_14_method_144_code 61 = .ok (.aload_n 0, 1) := by decide +kernel
theorem d_Mo_does_62 : decode prog_14_method_144_code 62 = .ok (.iload_n 3, 1) := by decide +kernel
theorem d_Mo_does_63 : decode prog_14_method_144_code 63 = .ok (.iload 4, 2) := by decide +kernel
theorem d_Mo_does_65 : decode prog_14_method_144_code 65 = .ok (.iload_n 2, 1) := by decide +kernel
theorem d_Mo_does_66 : decode prog_14_method_144_code 66 = .ok (.iconst 2, 1) := by decide +kernel
theorem d_Mo_does_67 : decode prog_14_method_144_code 67 = .ok (.if_icmp .ne 7, 3) := by decide +kernel
theorem d_Mo_does_70 : decode prog_14_method_144_code 70 = .ok (.iconst 1, 1) := by decide +kernel
theorem d_Mo_does_71 : decode prog_14_method_144_code 71 = .ok (.goto 4, 3) := by decide +kernel
theorem d_Mo_does_74 : decode prog_14_method_144_code 74 = .ok (.iconst 0, 1) := by decide +kernel
theorem d_Mo_does_75 : decode prog_14_method_144_code 75 = .ok (.invokevirtual 366, 3) := by decide +kernel
theorem d_Mo_does_78 : decode prog_14_method_144_code 78 = .ok (.ireturn, 1) := by decide +kernel
theorem d_Mo_isBitten_0 : decode prog_14_method_142_code 0 = .ok (.aload_n 0, 1) := by decide +kernel
theorem d_Mo_isBitten_1 : decode prog_14_method_142_code 1 = .ok (.iload_n 1, 1) := by decide +kernel
theorem d_Mo_isBitten_2 : decode prog_14_method_142_code 2 = .ok (.invokevirtual 310, 3) := by decide +kernel
theorem d_Mo_isBitten_5 : decode prog_14_method_142_code 5 = .ok (.ifCond .ne 30, 3) := by decide +kernel
theorem d_Mo_isBitten_8 : decode prog_14_method_142_code 8 = .ok (.aload_n 0, 1) := by decide +kernel
theorem d_Mo_isBitten_9 : decode prog_14_method_142_code 9 = .ok (.getfield 35, 3) := by decide +kernel
theorem d_Mo_isBitten_12 : decode prog_14_method_142_code 12 = .ok (.bipush 51, 2) := by decide +kernel
theorem d_Mo_isBitten_14 : decode prog_14_method_142_code 14 = .ok (.iload_n 1, 1) := by decide +kernel
theorem d_Mo_isBitten_15 : decode prog_14_method_142_code 15 = .ok (.iadd, 1) := by decide +kernel
theorem d_Mo_isBitten_16 : decode prog_14_method_142_code 16 = .ok (.iaload, 1) := by decide +kernel
theorem d_Mo_isBitten_17 : decode prog_14_method_142_code 17 = .ok (.ifCond .eq 18, 3) := by decide +kernel
theorem d_Mo_isBitten_20 : decode prog_14_method_142_code 20 = .ok (.aload_n 0, 1) := by decide +kernel
theorem d_Mo_isBitten_21 : decode prog_14_method_142_code 21 = .ok (.bipush 16, 2) := by decide +kernel
theorem d_Mo_isBitten_23 : decode prog_14_method_142_code 23 = .ok (.invokevirtual 464, 3) := by decide +kernel
theorem d_Mo_isBitten_26 : decode prog_14_method_142_code 26 = .ok (.aload_n 0, 1) := by decide +kernel
theorem d_Mo_isBitten_27 : decode prog_14_method_142_code 27 = .ok (.getfield 35, 3) := by decide +kernel
theorem d_Mo_isBitten_30 : decode prog_14_method_142_code 30 = .ok (.iconst 4, 1) := by decide +kernel
theorem d_Mo_isBitten_31 : decode prog_14_method_142_code 31 = .ok (.iaload, 1) := by decide +kernel
theorem d_Mo_isBitten_32 : decode prog_14_method_142_code 32 = .ok (.if_icmp .lt 5, 3) := by decide +kernel
theorem d_Mo_isBitten_35 : decode prog_14_method_142_code 35 = .ok (.iconst 0, 1) := by decide +kernel
theorem d_Mo_isBitten_36 : decode prog_14_method_142_code 36 = .ok (.ireturn, 1) := by decide +kernel
theorem d_Mo_isBitten_37 : decode prog_14_method_142_code 37 = .ok (.aload_n 0, 1) := by decide +kernel
theorem d_Mo_isBitten_38 : decode prog_14_method_142_code 38 = .ok (.iload_n 1, 1) := by decide +kernel
theorem d_Mo_isBitten_39 : decode prog_14_method_142_code 39 = .ok (.invokevirtual 363, 3) := by decide +kernel
theorem d_Mo_isBitten_42 : decode prog_14_method_142_code 42 = .ok (.aload_n 0, 1) := by decide +kernel
theorem d_Mo_isBitten_43 : decode prog_14_method_142_code 43 = .ok (.dup, 1) := by decide +kernel
theorem d_Mo_isBitten_44 : decode prog_14_method_142_code 44 = .ok (.getfield 467, 3) := by decide +kernel
theorem d_Mo_isBitten_47 : decode prog_14_method_142_code 47 = .ok (.iconst 1, 1) := by decide +kernel
theorem d_Mo_isBitten_48 : decode prog_14_method_142_code 48 = .ok (.iadd, 1) := by decide +kernel
theorem d_Mo_isBitten_49 : decode prog_14_method_142_code 49 = .ok (.putfield 467, 3) := by decide +kernel
theorem d_Mo_isBitten_52 : decode prog_14_method_142_code 52 = .ok (.iconst 1, 1) := by decide +kernel
theorem d_Mo_isBitten_53 : decode prog_14_method_142_code 53 = .ok (.ireturn, 1) := by decide +kernel
theorem d_Mo_draw_0 : decode prog_14_method_140_code 0 = .ok (.aload_n 0, 1) := by decide +kernel
theorem d_Mo_draw_1 : decode prog_14_method_140_code 1 = .ok (.aload_n 0, 1) := by decide +kernel
theorem d_Mo_draw_2 : decode prog_14_method_140_code 2 = .ok (.getfield 460, 3) := by decide +kernel
theorem d_Mo_draw_5 : decode prog_14_method_140_code 5 = .ok (.sipush 2971, 3) := by decide +kernel
theorem d_Mo_draw_8 : decode prog_14_method_140_code 8 = .ok (.imul, 1) := by decide +kernel
theorem d_Mo_draw_9 : decode prog_14_method_140_code 9 = .ok (.sipush 10891, 3) := by decide +kernel
theorem d_Mo_draw_12 : decode prog_14_method_140_code 12 = .ok (.iadd, 1) := by decide +kernel
theorem d_Mo_draw_13 : decode prog_14_method_140_code 13 = .ok (.ldc_w 463, 3) := by decide +kernel
theorem d_Mo_draw_16 : decode prog_14_method_140_code 16 = .ok (.irem, 1) := by decide +kernel
theorem d_Mo_draw_17 : decode prog_14_method_140_code 17 = .ok (.putfield 460, 3) := by decide +kernel
theorem d_Mo_draw_20 : decode prog_14_method_140_code 20 = .ok (.aload_n 0, 1) := by decide +kernel
theorem d_Mo_draw_21 : decode prog_14_method_140_code 21 = .ok (.getfield 460, 3) := by decide +kernel
theorem d_Mo_draw_24 : decode prog_14_method_140_code 24 = .ok (.bipush 8, 2) := by decide +kernel
theorem d_Mo_draw_26 : decode prog_14_method_140_code 26 = .ok (.idiv, 1) := by decide +kernel
theorem d_Mo_draw_27 : decode prog_14_method_140_code 27 = .ok (.iload_n 1, 1) := by decide +kernel
theorem d_Mo_draw_28 : decode prog_14_method_140_code 28 = .ok (.irem, 1) := by decide +kernel
theorem d_Mo_draw_29 : decode prog_14_method_140_code 29 = .ok (.ireturn, 1) := by decide +kernel
theorem d_Mo_isAny_0 : decode prog_14_method_143_code 0 = .ok (.aload_n 0, 1) := by decide +kernel
theorem d_Mo_isAny_1 : decode prog_14_method_143_code 1 = .ok (.getfield 35, 3) := by decide +kernel
theorem d_Mo_isAny_4 : decode prog_14_method_143_code 4 = .ok (.iconst 3, 1) := by decide +kernel
theorem d_Mo_isAny_5 : decode prog_14_method_143_code 5 = .ok (.iaload, 1) := by decide +kernel
theorem d_Mo_isAny_6 : decode prog_14_method_143_code 6 = .ok (.ifCond .ne 5, 3) := by decide +kernel
theorem d_Mo_isAny_9 : decode prog_14_method_143_code 9 = .ok (.iconst 0, 1) := by decide +kernel
theorem d_Mo_isAny_10 : decode prog_14_method_143_code 10 = .ok (.ireturn, 1) := by decide +kernel
theorem d_Mo_isAny_11 : decode prog_14_method_143_code 11 = .ok (.aload_n 0, 1) := by decide +kernel
theorem d_Mo_isAny_12 : decode prog_14_method_143_code 12 = .ok (.aload_n 0, 1) := by decide +kernel
theorem d_Mo_isAny_13 : decode prog_14_method_143_code 13 = .ok (.getfield 35, 3) := by decide +kernel
theorem d_Mo_isAny_16 : decode prog_14_method_143_code 16 = .ok (.iconst 3, 1) := by decide +kernel
theorem d_Mo_isAny_17 : decode prog_14_method_143_code 17 = .ok (.iaload, 1) := by decide +kernel
theorem d_Mo_isAny_18 : decode prog_14_method_143_code 18 = .ok (.invokevirtual 464, 3) := by decide +kernel
theorem d_Mo_isAny_21 : decode prog_14_method_143_code 21 = .ok (.istore_n 1, 1) := by decide +kernel
theorem d_Mo_isAny_22 : decode prog_14_method_143_code 22 = .ok (.aload_n 0, 1) := by decide +kernel
theorem d_Mo_isAny_23 : decode prog_14_method_143_code 23 = .ok (.iload_n 1, 1) := by decide +kernel
theorem d_Mo_isAny_24 : decode prog_14_method_143_code 24 = .ok (.aload_n 0, 1) := by decide +kernel
theorem d_Mo_isAny_25 : decode prog_14_method_143_code 25 = .ok (.aload_n 0, 1) := by decide +kernel
theorem d_Mo_isAny_26 : decode prog_14_method_143_code 26 = .ok (.getfield 35, 3) := by decide +kernel
theorem d_Mo_isAny_29 : decode prog_14_method_143_code 29 = .ok (.iconst 1, 1) := by decide +kernel
theorem d_Mo_isAny_30 : decode prog_14_method_143_code 30 = .ok (.iaload, 1) := by decide +kernel
theorem d_Mo_isAny_31 : decode prog_14_method_143_code 31 = .ok (.invokevirtual 464, 3) := by decide +kernel
theorem d_Mo_isAny_34 : decode prog_14_method_143_code 34 = .ok (.invokevirtual 360, 3) := by decide +kernel
theorem d_Mo_isAny_37 : decode prog_14_method_143_code 37 = .ok (.ireturn, 1) := by decide +kernel
theorem d_Mo_isSo_0 : decode prog_14_method_145_code 0 = .ok (.aload_n 0, 1) := by decide +kernel
theorem d_Mo_isSo_1 : decode prog_14_method_145_code 1 = .ok (.getfield 35, 3) := by decide +kernel
theorem d_Mo_isSo_4 : decode prog_14_method_145_code 4 = .ok (.iload_n 1, 1) := by decide +kernel
theorem d_Mo_isSo_5 : decode prog_14_method_145_code 5 = .ok (.iconst 5, 1) := by decide +kernel
theorem d_Mo_isSo_6 : decode prog_14_method_145_code 6 = .ok (.iadd, 1) := by decide +kernel
theorem d_Mo_isSo_7 : decode prog_14_method_145_code 7 = .ok (.iaload, 1) := by decide +kernel
theorem d_Mo_isSo_8 : decode prog_14_method_145_code 8 = .ok (.istore_n 2, 1) := by decide +kernel
theorem d_Mo_isSo_9 : decode prog_14_method_145_code 9 = .ok (.aload_n 0, 1) := by decide +kernel
theorem d_Mo_isSo_10 : decode prog_14_method_145_code 10 = .ok (.getfield 35, 3) := by decide +kernel
theorem d_Mo_isSo_13 : decode prog_14_method_145_code 13 = .ok (.iload_n 1, 1) := by decide +kernel
theorem d_Mo_isSo_14 : decode prog_14_method_145_code 14 = .ok (.iconst 1, 1) := by decide +kernel
theorem d_Mo_isSo_15 : decode prog_14_method_145_code 15 = .ok (.iadd, 1) := by decide +kernel
theorem d_Mo_isSo_16 : decode prog_14_method_145_code 16 = .ok (.iaload, 1) := by decide +kernel
theorem d_Mo_isSo_17 : decode prog_14_method_145_code 17 = .ok (.istore_n 3, 1) := by decide +kernel
theorem d_Mo_isSo_18 : decode prog_14_method_145_code 18 = .ok (.iload_n 2, 1) := by decide +kernel
theorem d_Mo_isSo_19 : decode prog_14_method_145_code 19 = .ok (.ifCond .ne 29, 3) := by decide +kernel
theorem d_Mo_isSo_22 : decode prog_14_method_145_code 22 = .ok (.aload_n 0, 1) := by decide +kernel
theorem d_Mo_isSo_23 : decode prog_14_method_145_code 23 = .ok (.getfield 35, 3) := by decide +kernel
theorem d_Mo_isSo_26 : decode prog_14_method_145_code 26 = .ok (.bipush 42, 2) := by decide +kernel
theorem d_Mo_isSo_28 : decode prog_14_method_145_code 28 = .ok (.iload_n 3, 1) := by decide +kernel
theorem d_Mo_isSo_29 : decode prog_14_method_145_code 29 = .ok (.iadd, 1) := by decide +kernel
theorem d_Mo_isSo_30 : decode prog_14_method_145_code 30 = .ok (.iaload, 1) := by decide +kernel
theorem d_Mo_isSo_31 : decode prog_14_method_145_code 31 = .ok (.aload_n 0, 1) := by decide +kernel
theorem d_Mo_isSo_32 : decode prog_14_method_145_code 32 = .ok (.getfield 35, 3) := by decide +kernel
theorem d_Mo_isSo_35 : decode prog_14_method_145_code 35 = .ok (.iload_n 1, 1) := by decide +kernel
theorem d_Mo_isSo_36 : decode prog_14_method_145_code 36 = .ok (.iconst 2, 1) := by decide +kernel
theorem d_Mo_isSo_37 : decode prog_14_method_145_code 37 = .ok (.iadd, 1) := by decide +kernel
theorem d_Mo_isSo_38 : decode prog_14_method_145_code 38 = .ok (.iaload, 1) := by decide +kernel
theorem d_Mo_isSo_39 : decode prog_14_method_145_code 39 = .ok (.if_icmp .ne 7, 3) := by decide +kernel
theorem d_Mo_isSo_42 : decode prog_14_method_145_code 42 = .ok (.iconst 1, 1) := by decide +kernel
theorem d_Mo_isSo_43 : decode prog_14_method_145_code 43 = .ok (.goto 4, 3) := by decide +kernel
theorem d_Mo_isSo_46 : decode prog_14_method_145_code 46 = .ok (.iconst 0, 1) := by decide +kernel
theorem d_Mo_isSo_47 : decode prog_14_method_145_code 47 = .ok (.ireturn, 1) := by decide +kernel
theorem d_Mo_isSo_48 : decode prog_14_method_145_code 48 = .ok (.iload_n 2, 1) := by decide +kernel
theorem d_Mo_isSo_49 : decode prog_14_method_145_code 49 = .ok (.iconst 2, 1) := by decide +kernel
theorem d_Mo_isSo_50 : decode prog_14_method_145_code 50 = .ok (.if_icmp .ne 9, 3) := by decide +kernel
theorem d_Mo_isSo_53 : decode prog_14_method_145_code 53 = .ok (.aload_n 0, 1) := by decide +kernel
theorem d_Mo_isSo_54 : decode prog_14_method_145_code 54 = .ok (.iload_n 3, 1) := by decide +kernel
theorem d_Mo_isSo_55 : decode prog_14_method_145_code 55 = .ok (.invokevirtual 310, 3) := by decide +kernel
theorem d_Mo_isSo_58 : decode prog_14_method_145_code 58 = .ok (.ireturn, 1) := by decide +kernel
theorem d_Mo_isSo_59 : decode prog_14_method_145_code 59 = .ok (.aload_n 0, 1) := by decide +kernel
theorem d_Mo_isSo_60 : decode prog_14_method_145_code 60 = .ok (.getfield 35, 3) := by decide +kernel
theorem d_Mo_isSo_63 : decode prog_14_method_145_code 63 = .ok (.bipush 26, 2) := by decide +kernel
theorem d_Mo_isSo_65 : decode prog_14_method_145_code 65 = .ok (.iload_n 3, 1) := by decide +kernel
theorem d_Mo_isSo_66 : decode prog_14_method_145_code 66 = .ok (.iadd, 1) := by decide +kernel
theorem d_Mo_isSo_67 : decode prog_14_method_145_code 67 = .ok (.iaload, 1) := by decide +kernel
theorem d_Mo_isSo_68 : decode prog_14_method_145_code 68 = .ok (.istore 4, 2) := by decide +kernel
theorem d_Mo_isSo_70 : decode prog_14_method_145_code 70 = .ok (.aload_n 0, 1) := by decide +kernel
theorem d_Mo_isSo_71 : decode prog_14_method_145_code 71 = .ok (.getfield 35, 3) := by decide +kernel
theorem d_Mo_isSo_74 : decode prog_14_method_145_code 74 = .ok (.iload_n 1, 1) := by decide +kernel
theorem d_Mo_isSo_75 : decode prog_14_method_145_code 75 = .ok (.bipush 7, 2) := by decide +kernel
theorem d_Mo_isSo_77 : decode prog_14_method_145_code 77 = .ok (.iadd, 1) := by decide +kernel
theorem d_Mo_isSo_78 : decode prog_14_method_145_code 78 = .ok (.iaload, 1) := by decide +kernel
theorem d_Mo_isSo_79 : decode prog_14_method_145_code 79 = .ok (.bipush 60, 2) := by decide +kernel
theorem d_Mo_isSo_81 : decode prog_14_method_145_code 81 = .ok (.if_icmp .ne 25, 3) := by decide +kernel
theorem d_Mo_isSo_84 : decode prog_14_method_145_code 84 = .ok (.iload 4, 2) := by decide +kernel
theorem d_Mo_isSo_86 : decode prog_14_method_145_code 86 = .ok (.aload_n 0, 1) := by decide +kernel
theorem d_Mo_isSo_87 : decode prog_14_method_145_code 87 = .ok (.getfield 35, 3) := by decide +kernel
theorem d_Mo_isSo_90 : decode prog_14_method_145_code 90 = .ok (.iload_n 1, 1) := by decide +kernel
theorem d_Mo_isSo_91 : decode prog_14_method_145_code 91 = .ok (.bipush 6, 2) := by decide +kernel
theorem d_Mo_isSo_93 : decode prog_14_method_145_code 93 = .ok (.iadd, 1) := by decide +kernel
theorem d_Mo_isSo_94 : decode prog_14_method_145_code 94 = .ok (.iaload, 1) := by decide +kernel
theorem d_Mo_isSo_95 : decode prog_14_method_145_code 95 = .ok (.if_icmp .ge 7, 3) := by decide +kernel
theorem d_Mo_isSo_98 : decode prog_14_method_145_code 98 = .ok (.iconst 1, 1) := by decide +kernel
theorem d_Mo_isSo_99 : decode prog_14_method_145_code 99 = .ok (.goto 62, 3) := by decide +kernel
theorem d_Mo_isSo_102 : decode prog_14_method_145_code 102 = .ok (.iconst 0, 1) := by decide +kernel
theorem d_Mo_isSo_103 : decode prog_14_method_145_code 103 = .ok (.goto 58, 3) := by decide +kernel
theorem d_Mo_isSo_106 : decode prog_14_method_145_code 106 = .ok (.aload_n 0, 1) := by decide +kernel
theorem d_Mo_isSo_107 : decode prog_14_method_145_code 107 = .ok (.getfield 35, 3) := by decide +kernel
theorem d_Mo_isSo_110 : decode prog_14_method_145_code 110 = .ok (.iload_n 1, 1) := by decide +kernel
theorem d_Mo_isSo_111 : decode prog_14_method_145_code 111 = .ok (.bipush 7, 2) := by decide +kernel
theorem d_Mo_isSo_113 : decode prog_14_method_145_code 113 = .ok (.iadd, 1) := by decide +kernel
theorem d_Mo_isSo_114 : decode prog_14_method_145_code 114 = .ok (.iaload, 1) := by decide +kernel
theorem d_Mo_isSo_115 : decode prog_14_method_145_code 115 = .ok (.bipush 62, 2) := by decide +kernel
theorem d_Mo_isSo_117 : decode prog_14_method_145_code 117 = .ok (.if_icmp .ne 25, 3) := by decide +kernel
theorem d_Mo_isSo_120 : decode prog_14_method_145_code 120 = .ok (.iload 4, 2) := by decide +kernel
theorem d_Mo_isSo_122 : decode prog_14_method_145_code 122 = .ok (.aload_n 0, 1) := by decide +kernel
theorem d_Mo_isSo_123 : decode prog_14_method_145_code 123 = .ok (.getfield 35, 3) := by decide +kernel
theorem d_Mo_isSo_126 : decode prog_14_method_145_code 126 = .ok (.iload_n 1, 1) := by decide +kernel
theorem d_Mo_isSo_127 : decode prog_14_method_145_code 127 = .ok (.bipush 6, 2) := by decide +kernel
theorem d_Mo_isSo_129 : decode prog_14_method_145_code 129 = .ok (.iadd, 1) := by decide +kernel
theorem d_Mo_isSo_130 : decode prog_14_method_145_code 130 = .ok (.iaload, 1) := by decide +kernel
theorem d_Mo_isSo_131 : decode prog_14_method_145_code 131 = .ok (.if_icmp .le 7, 3) := by decide +kernel
theorem d_Mo_isSo_134 : decode prog_14_method_145_code 134 = .ok (.iconst 1, 1) := by decide +kernel
theorem d_Mo_isSo_135 : decode prog_14_method_145_code 135 = .ok (.goto 26, 3) := by decide +kernel
theorem d_Mo_isSo_138 : decode prog_14_method_145_code 138 = .ok (.iconst 0, 1) := by decide +kernel
theorem d_Mo_isSo_139 : decode prog_14_method_145_code 139 = .ok (.goto 22, 3) := by decide +kernel
theorem d_Mo_isSo_142 : decode prog_14_method_145_code 142 = .ok (.iload 4, 2) := by decide +kernel
theorem d_Mo_isSo_144 : decode prog_14_method_145_code 144 = .ok (.aload_n 0, 1) := by decide +kernel
theorem d_Mo_isSo_145 : decode prog_14_method_145_code 145 = .ok (.getfield 35, 3) := by decide +kernel
theorem d_Mo_isSo_148 : decode prog_14_method_145_code 148 = .ok (.iload_n 1, 1) := by decide +kernel
theorem d_Mo_isSo_149 : decode prog_14_method_145_code 149 = .ok (.bipush 6, 2) := by decide +kernel
theorem d_Mo_isSo_151 : decode prog_14_method_145_code 151 = .ok (.iadd, 1) := by decide +kernel
theorem d_Mo_isSo_152 : decode prog_14_method_145_code 152 = .ok (.iaload, 1) := by decide +kernel
theorem d_Mo_isSo_153 : decode prog_14_method_145_code 153 = .ok (.if_icmp .ne 7, 3) := by decide +kernel
theorem d_Mo_isSo_156 : decode prog_14_method_145_code 156 = .ok (.iconst 1, 1) := by decide +kernel
theorem d_Mo_isSo_157 : decode prog_14_method_145_code 157 = .ok (.goto 4, 3) := by decide +kernel
theorem d_Mo_isSo_160 : decode prog_14_method_145_code 160 = .ok (.iconst 0, 1) := by decide +kernel
theorem d_Mo_isSo_161 : decode prog_14_method_145_code 161 = .ok (.ireturn, 1) := by decide +kernel
theorem d_Mo_lived_0 : decode prog_14_method_150_code 0 = .ok (.aload_n 0, 1) := by decide +kernel
theorem d_Mo_lived_1 : decode prog_14_method_150_code 1 = .ok (.iconst 0, 1) := by decide +kernel
theorem d_Mo_lived_2 : decode prog_14_method_150_code 2 = .ok (.putfield 70, 3) := by decide +kernel
theorem d_Mo_lived_5 : decode prog_14_method_150_code 5 = .ok (.aload_n 0, 1) := by decide +kernel
theorem d_Mo_lived_6 : decode prog_14_method_150_code 6 = .ok (.iconst 0, 1) := by decide +kernel
theorem d_Mo_lived_7 : decode prog_14_method_150_code 7 = .ok (.putfield 73, 3) := by decide +kernel
theorem d_Mo_lived_10 : decode prog_14_method_150_code 10 = .ok (.iload_n 1, 1) := by decide +kernel
theorem d_Mo_lived_11 : decode prog_14_method_150_code 11 = .ok (.i2l, 1) := by decide +kernel
theorem d_Mo_lived_12 : decode prog_14_method_150_code 12 = .ok (.lconst 0, 1) := by decide +kernel
theorem d_Mo_lived_13 : decode prog_14_method_150_code 13 = .ok (.ldc2_w 339, 3) := by decide +kernel
theorem d_Mo_lived_16 : decode prog_14_method_150_code 16 = .ok (.invokestatic 105, 3) := by decide +kernel
theorem d_Mo_lived_19 : decode prog_14_method_150_code 19 = .ok (.ifCond .ne 9, 3) := by decide +kernel
theorem d_Mo_lived_22 : decode prog_14_method_150_code 22 = .ok (.aload_n 0, 1) := by decide +kernel
theorem d_Mo_lived_23 : decode prog_14_method_150_code 23 = .ok (.iconst 5, 1) := by decide +kernel
theorem d_Mo_lived_24 : decode prog_14_method_150_code 24 = .ok (.invokevirtual 327, 3) := by decide +kernel
theorem d_Mo_lived_27 : decode prog_14_method_150_code 27 = .ok (.ireturn, 1) := by decide +kernel
theorem d_Mo_lived_28 : decode prog_14_method_150_code 28 = .ok (.aload_n 0, 1) := by decide +kernel
theorem d_Mo_lived_29 : decode prog_14_method_150_code 29 = .ok (.getfield 514, 3) := by decide +kernel
theorem d_Mo_lived_32 : decode prog_14_method_150_code 32 = .ok (.ifCond .eq 12, 3) := by decide +kernel
theorem d_Mo_lived_35 : decode prog_14_method_150_code 35 = .ok (.aload_n 0, 1) := by decide +kernel
theorem d_Mo_lived_36 : decode prog_14_method_150_code 36 = .ok (.getfield 63, 3) := by decide +kernel
theorem d_Mo_lived_39 : decode prog_14_method_150_code 39 = .ok (.iload_n 1, 1) := by decide +kernel
theorem d_Mo_lived_40 : decode prog_14_method_150_code 40 = .ok (.iaload, 1) := by decide +kernel
theorem d_Mo_lived_41 : decode prog_14_method_150_code 41 = .ok (.goto 9, 3) := by decide +kernel
theorem d_Mo_lived_44 : decode prog_14_method_150_code 44 = .ok (.aload_n 0, 1) := by decide +kernel
theorem d_Mo_lived_45 : decode prog_14_method_150_code 45 = .ok (.bipush 8, 2) := by decide +kernel
theorem d_Mo_lived_47 : decode prog_14_method_150_code 47 = .ok (.invokevirtual 327, 3) := by decide +kernel
theorem d_Mo_lived_50 : decode prog_14_method_150_code 50 = .ok (.ireturn, 1) := by decide +kernel
theorem d_Mo_mean_0 : decode prog_14_method_151_code 0 = .ok (.aload_n 0, 1) := by decide +kernel
theorem d_Mo_mean_1 : decode prog_14_method_151_code 1 = .ok (.iconst 0, 1) := by decide +kernel
theorem d_Mo_mean_2 : decode prog_14_method_151_code 2 = .ok (.putfield 70, 3) := by decide +kernel
theorem d_Mo_mean_5 : decode prog_14_method_151_code 5 = .ok (.aload_n 0, 1) := by decide +kernel
theorem d_Mo_mean_6 : decode prog_14_method_151_code 6 = .ok (.iconst 0, 1) := by decide +kernel
theorem d_Mo_mean_7 : decode prog_14_method_151_code 7 = .ok (.putfield 73, 3) := by decide +kernel
theorem d_Mo_mean_10 : decode prog_14_method_151_code 10 = .ok (.iload_n 2, 1) := by decide +kernel
theorem d_Mo_mean_11 : decode prog_14_method_151_code 11 = .ok (.i2l, 1) := by decide +kernel
theorem d_Mo_mean_12 : decode prog_14_method_151_code 12 = .ok (.lconst 1, 1) := by decide +kernel
theorem d_Mo_mean_13 : decode prog_14_method_151_code 13 = .ok (.ldc2_w 517, 3) := by decide +kernel
theorem d_Mo_mean_16 : decode prog_14_method_151_code 16 = .ok (.invokestatic 105, 3) := by decide +kernel
theorem d_Mo_mean_19 : decode prog_14_method_151_code 19 = .ok (.ifCond .eq 18, 3) := by decide +kernel
theorem d_Mo_mean_22 : decode prog_14_method_151_code 22 = .ok (.iload_n 1, 1) := by decide +kernel
theorem d_Mo_mean_23 : decode prog_14_method_151_code 23 = .ok (.i2l, 1) := by decide +kernel
theorem d_Mo_mean_24 : decode prog_14_method_151_code 24 = .ok (.lconst 0, 1) := by decide +kernel
theorem d_Mo_mean_25 : decode prog_14_method_151_code 25 = .ok (.sipush 10000, 3) := by decide +kernel
theorem d_Mo_mean_28 : decode prog_14_method_151_code 28 = .ok (.iload_n 2, 1) := by decide +kernel
theorem d_Mo_mean_29 : decode prog_14_method_151_code 29 = .ok (.isub, 1) := by decide +kernel
theorem d_Mo_mean_30 : decode prog_14_method_151_code 30 = .ok (.i2l, 1) := by decide +kernel
theorem d_Mo_mean_31 : decode prog_14_method_151_code 31 = .ok (.invokestatic 105, 3) := by decide +kernel
theorem d_Mo_mean_34 : decode prog_14_method_151_code 34 = .ok (.ifCond .ne 9, 3) := by decide +kernel
theorem d_Mo_mean_37 : decode prog_14_method_151_code 37 = .ok (.aload_n 0, 1) := by decide +kernel
theorem d_Mo_mean_38 : decode prog_14_method_151_code 38 = .ok (.iconst 5, 1) := by decide +kernel
theorem d_Mo_mean_39 : decode prog_14_method_151_code 39 = .ok (.invokevirtual 85, 3) := by decide +kernel
theorem d_Mo_mean_42 : decode prog_14_method_151_code 42 = .ok (.ireturn, 1) := by decide +kernel
theorem d_Mo_mean_43 : decode prog_14_method_151_code 43 = .ok (.aload_n 0, 1) := by decide +kernel
theorem d_Mo_mean_44 : decode prog_14_method_151_code 44 = .ok (.getfield 35, 3) := by decide +kernel
theorem d_Mo_mean_47 : decode prog_14_method_151_code 47 = .ok (.bipush 87, 2) := by decide +kernel
theorem d_Mo_mean_49 : decode prog_14_method_151_code 49 = .ok (.iaload, 1) := by decide +kernel
theorem d_Mo_mean_50 : decode prog_14_method_151_code 50 = .ok (.ifCond .ne 10, 3) := by decide +kernel
theorem d_Mo_mean_53 : decode prog_14_method_151_code 53 = .ok (.aload_n 0, 1) := by decide +kernel
theorem d_Mo_mean_54 : decode prog_14_method_151_code 54 = .ok (.bipush 8, 2) := by decide +kernel
theorem d_Mo_mean_56 : decode prog_14_method_151_code 56 = .ok (.invokevirtual 85, 3) := by decide +kernel
theorem d_Mo_mean_59 : decode prog_14_method_151_code 59 = .ok (.ireturn, 1) := by decide +kernel
theorem d_Mo_mean_60 : decode prog_14_method_151_code 60 = .ok (.iconst 0, 1) := by decide +kernel
theorem d_Mo_mean_61 : decode prog_14_method_151_code 61 = .ok (.istore_n 3, 1) := by decide +kernel
theorem d_Mo_mean_62 : decode prog_14_method_151_code 62 = .ok (.iload_n 3, 1) := by decide +kernel
theorem d_Mo_mean_63 : decode prog_14_method_151_code 63 = .ok (.bipush 87, 2) := by decide +kernel
theorem d_Mo_mean_65 : decode prog_14_method_151_code 65 = .ok (.if_icmp .ge 21, 3) := by decide +kernel
theorem d_Mo_mean_68 : decode prog_14_method_151_code 68 = .ok (.aload_n 0, 1) := by decide +kernel
theorem d_Mo_mean_69 : decode prog_14_method_151_code 69 = .ok (.getfield 38, 3) := by decide +kernel
theorem d_Mo_mean_72 : decode prog_14_method_151_code 72 = .ok (.iload_n 3, 1) := by decide +kernel
theorem d_Mo_mean_73 : decode prog_14_method_151_code 73 = .ok (.aload_n 0, 1) := by decide +kernel
theorem d_Mo_mean_74 : decode prog_14_method_151_code 74 = .ok (.getfield 35, 3) := by decide +kernel
theorem d_Mo_mean_77 : decode prog_14_method_151_code 77 = .ok (.iload_n 3, 1) := by decide +kernel
theorem d_Mo_mean_78 : decode prog_14_method_151_code 78 = .ok (.iaload, 1) := by decide +kernel
theorem d_Mo_mean_79 : decode prog_14_method_151_code 79 = .ok (.iastore, 1) := by decide +kernel
theorem d_Mo_mean_80 : decode prog_14_method_151_code 80 = .ok (.iinc 3 1, 3) := by decide +kernel
theorem d_Mo_mean_83 : decode prog_14_method_151_code 83 = .ok (.goto (-21), 3) := by decide +kernel
theorem d_Mo_mean_86 : decode prog_14_method_151_code 86 = .ok (.lconst 0, 1) := by decide +kernel
theorem d_Mo_mean_87 : decode prog_14_method_151_code 87 = .ok (.lstore_n 3, 1) := by decide +kernel
theorem d_Mo_mean_88 : decode prog_14_method_151_code 88 = .ok (.iconst 0, 1) := by decide +kernel
theorem d_Mo_mean_89 : decode prog_14_method_151_code 89 = .ok (.istore 5, 2) := by decide +kernel
theorem d_Mo_mean_91 : decode prog_14_method_151_code 91 = .ok (.iload 5, 2) := by decide +kernel
theorem d_Mo_mean_93 : decode prog_14_method_151_code 93 = .ok (.iload_n 2, 1) := by decide +kernel
theorem d_Mo_mean_94 : decode prog_14_method_151_code 94 = .ok (.if_icmp .ge 55, 3) := by decide +kernel
theorem d_Mo_mean_97 : decode prog_14_method_151_code 97 = .ok (.aload_n 0, 1) := by decide +kernel
theorem d_Mo_mean_98 : decode prog_14_method_151_code 98 = .ok (.iload_n 1, 1) := by decide +kernel
theorem d_Mo_mean_99 : decode prog_14_method_151_code 99 = .ok (.iload 5, 2) := by decide +kernel
theorem d_Mo_mean_101 : decode prog_14_method_151_code 101 = .ok (.iadd, 1) := by decide +kernel
theorem d_Mo_mean_102 : decode prog_14_method_151_code 102 = .ok (.invokevirtual 511, 3) := by decide +kernel
theorem d_Mo_mean_105 : decode prog_14_method_151_code 105 = .ok (.lload_n 3, 1) := by decide +kernel
theorem d_Mo_mean_106 : decode prog_14_method_151_code 106 = .ok (.aload_n 0, 1) := by decide +kernel
theorem d_Mo_mean_107 : decode prog_14_method_151_code 107 = .ok (.invokevirtual 503, 3) := by decide +kernel
theorem d_Mo_mean_110 : decode prog_14_method_151_code 110 = .ok (.i2l, 1) := by decide +kernel
theorem d_Mo_mean_111 : decode prog_14_method_151_code 111 = .ok (.ladd, 1) := by decide +kernel
theorem d_Mo_mean_112 : decode prog_14_method_151_code 112 = .ok (.lstore_n 3, 1) := by decide +kernel
theorem d_Mo_mean_113 : decode prog_14_method_151_code 113 = .ok (.iconst 0, 1) := by decide +kernel
theorem d_Mo_mean_114 : decode prog_14_method_151_code 114 = .ok (.istore 6, 2) := by decide +kernel
theorem d_Mo_mean_116 : decode prog_14_method_151_code 116 = .ok (.iload 6, 2) := by decide +kernel
theorem d_Mo_mean_118 : decode prog_14_method_151_code 118 = .ok (.bipush 87, 2) := by decide +kernel
theorem d_Mo_mean_120 : decode prog_14_method_151_code 120 = .ok (.if_icmp .ge 23, 3) := by decide +kernel
theorem d_Mo_mean_123 : decode prog_14_method_151_code 123 = .ok (.aload_n 0, 1) := by decide +kernel
theorem d_Mo_mean_124 : decode prog_14_method_151_code 124 = .ok (.getfield 35, 3) := by decide +kernel
theorem d_Mo_mean_127 : decode prog_14_method_151_code 127 = .ok (.iload 6, 2) := by decide +kernel
theorem d_Mo_mean_129 : decode prog_14_method_151_code 129 = .ok (.aload_n 0, 1) := by decide +kernel
theorem d_Mo_mean_130 : decode prog_14_method_151_code 130 = .ok (.getfield 38, 3) := by decide +kernel
theorem d_Mo_mean_133 : decode prog_14_method_151_code 133 = .ok (.iload 6, 2) := by decide +kernel
theorem d_Mo_mean_135 : decode prog_14_method_151_code 135 = .ok (.iaload, 1) := by decide +kernel
theorem d_Mo_mean_136 : decode prog_14_method_151_code 136 = .ok (.iastore, 1) := by decide +kernel
theorem d_Mo_mean_137 : decode prog_14_method_151_code 137 = .ok (.iinc 6 1, 3) := by decide +kernel
theorem d_Mo_mean_140 : decode prog_14_method_151_code 140 = .ok (.goto (-24), 3) := by decide +kernel
theorem d_Mo_mean_143 : decode prog_14_method_151_code 143 = .ok (.iinc 5 1, 3) := by decide +kernel
theorem d_Mo_mean_146 : decode prog_14_method_151_code 146 = .ok (.goto (-55), 3) := by decide +kernel
theorem d_Mo_mean_149 : decode prog_14_method_151_code 149 = .ok (.aload_n 0, 1) := by decide +kernel
theorem d_Mo_mean_150 : decode prog_14_method_151_code 150 = .ok (.lload_n 3, 1) := by decide +kernel
theorem d_Mo_mean_151 : decode prog_14_method_151_code 151 = .ok (.iload_n 2, 1) := by decide +kernel
theorem d_Mo_mean_152 : decode prog_14_method_151_code 152 = .ok (.i2l, 1) := by decide +kernel
theorem d_Mo_mean_153 : decode prog_14_method_151_code 153 = .ok (.invokevirtual 456, 3) := by decide +kernel
theorem d_Mo_mean_156 : decode prog_14_method_151_code 156 = .ok (.ireturn, 1) := by decide +kernel
theorem d_Mo_mark_0 : decode prog_14_method_153_code 0 = .ok (.aload_n 0, 1) := by decide +kernel
theorem d_Mo_mark_1 : decode prog_14_method_153_code 1 = .ok (.iconst 0, 1) := by decide +kernel
theorem d_Mo_mark_2 : decode prog_14_method_153_code 2 = .ok (.putfield 70, 3) := by decide +kernel
theorem d_Mo_mark_5 : decode prog_14_method_153_code 5 = .ok (.aload_n 0, 1) := by decide +kernel
theorem d_Mo_mark_6 : decode prog_14_method_153_code 6 = .ok (.iconst 0, 1) := by decide +kernel
theorem d_Mo_mark_7 : decode prog_14_method_153_code 7 = .ok (.putfield 73, 3) := by decide +kernel
theorem d_Mo_mark_10 : decode prog_14_method_153_code 10 = .ok (.aload_n 0, 1) := by decide +kernel
theorem d_Mo_mark_11 : decode prog_14_method_153_code 11 = .ok (.getfield 519, 3) := by decide +kernel
theorem d_Mo_mark_14 : decode prog_14_method_153_code 14 = .ok (.iconst 3, 1) := by decide +kernel
theorem d_Mo_mark_15 : decode prog_14_method_153_code 15 = .ok (.if_icmp .ne 10, 3) := by decide +kernel
theorem d_Mo_mark_18 : decode prog_14_method_153_code 18 = .ok (.aload_n 0, 1) := by decide +kernel
theorem d_Mo_mark_19 : decode prog_14_method_153_code 19 = .ok (.bipush 7, 2) := by decide +kernel
theorem d_Mo_mark_21 : decode prog_14_method_153_code 21 = .ok (.invokevirtual 327, 3) := by decide +kernel
theorem d_Mo_mark_24 : decode prog_14_method_153_code 24 = .ok (.ireturn, 1) := by decide +kernel
theorem d_Mo_mark_25 : decode prog_14_method_153_code 25 = .ok (.aload_n 0, 1) := by decide +kernel
theorem d_Mo_mark_26 : decode prog_14_method_153_code 26 = .ok (.dup, 1) := by decide +kernel
theorem d_Mo_mark_27 : decode prog_14_method_153_code 27 = .ok (.getfield 519, 3) := by decide +kernel
theorem d_Mo_mark_30 : decode prog_14_method_153_code 30 = .ok (.iconst 1, 1) := by decide +kernel
theorem d_Mo_mark_31 : decode prog_14_method_153_code 31 = .ok (.iadd, 1) := by decide +kernel
theorem d_Mo_mark_32 : decode prog_14_method_153_code 32 = .ok (.putfield 519, 3) := by decide +kernel
theorem d_Mo_mark_35 : decode prog_14_method_153_code 35 = .ok (.aload_n 0, 1) := by decide +kernel
theorem d_Mo_mark_36 : decode prog_14_method_153_code 36 = .ok (.iconst 0, 1) := by decide +kernel
theorem d_Mo_mark_37 : decode prog_14_method_153_code 37 = .ok (.aload_n 0, 1) := by decide +kernel
theorem d_Mo_mark_38 : decode prog_14_method_153_code 38 = .ok (.getfield 519, 3) := by decide +kernel
theorem d_Mo_mark_41 : decode prog_14_method_153_code 41 = .ok (.invokevirtual 295, 3) := by decide +kernel
theorem d_Mo_mark_44 : decode prog_14_method_153_code 44 = .ok (.aload_n 0, 1) := by decide +kernel
theorem d_Mo_mark_45 : decode prog_14_method_153_code 45 = .ok (.getfield 519, 3) := by decide +kernel
theorem d_Mo_mark_48 : decode prog_14_method_153_code 48 = .ok (.ireturn, 1) := by decide +kernel
theorem d_Mo_back_0 : decode prog_14_method_154_code 0 = .ok (.aload_n 0, 1) := by decide +kernel
theorem d_Mo_back_1 : decode prog_14_method_154_code 1 = .ok (.iconst 0, 1) := by decide +kernel
theorem d_Mo_back_2 : decode prog_14_method_154_code 2 = .ok (.putfield 70, 3) := by decide +kernel
theorem d_Mo_back_5 : decode prog_14_method_154_code 5 = .ok (.aload_n 0, 1) := by decide +kernel
theorem d_Mo_back_6 : decode prog_14_method_154_code 6 = .ok (.iconst 0, 1) := by decide +kernel
theorem d_Mo_back_7 : decode prog_14_method_154_code 7 = .ok (.putfield 73, 3) := by decide +kernel
theorem d_Mo_back_10 : decode prog_14_method_154_code 10 = .ok (.aload_n 0, 1) := by decide +kernel
theorem d_Mo_back_11 : decode prog_14_method_154_code 11 = .ok (.getfield 519, 3) := by decide +kernel
theorem d_Mo_back_14 : decode prog_14_method_154_code 14 = .ok (.ifCond .ne 10, 3) := by decide +kernel
theorem d_Mo_back_17 : decode prog_14_method_154_code 17 = .ok (.aload_n 0, 1) := by decide +kernel
theorem d_Mo_back_18 : decode prog_14_method_154_code 18 = .ok (.bipush 8, 2) := by decide +kernel
theorem d_Mo_back_20 : decode prog_14_method_154_code 20 = .ok (.invokevirtual 327, 3) := by decide +kernel
theorem d_Mo_back_23 : decode prog_14_method_154_code 23 = .ok (.ireturn, 1) := by decide +kernel
theorem d_Mo_back_24 : decode prog_14_method_154_code 24 = .ok (.aload_n 0, 1) := by decide +kernel
theorem d_Mo_back_25 : decode prog_14_method_154_code 25 = .ok (.aload_n 0, 1) := by decide +kernel
theorem d_Mo_back_26 : decode prog_14_method_154_code 26 = .ok (.getfield 519, 3) := by decide +kernel
theorem d_Mo_back_29 : decode prog_14_method_154_code 29 = .ok (.iconst 0, 1) := by decide +kernel
theorem d_Mo_back_30 : decode prog_14_method_154_code 30 = .ok (.invokevirtual 295, 3) := by decide +kernel
theorem d_Mo_back_33 : decode prog_14_method_154_code 33 = .ok (.aload_n 0, 1) := by decide +kernel
theorem d_Mo_back_34 : decode prog_14_method_154_code 34 = .ok (.dup, 1) := by decide +kernel
theorem d_Mo_back_35 : decode prog_14_method_154_code 35 = .ok (.getfield 519, 3) := by decide +kernel
theorem d_Mo_back_38 : decode prog_14_method_154_code 38 = .ok (.iconst 1, 1) := by decide +kernel
theorem d_Mo_back_39 : decode prog_14_method_154_code 39 = .ok (.isub, 1) := by decide +kernel
theorem d_Mo_back_40 : decode prog_14_method_154_code 40 = .ok (.putfield 519, 3) := by decide +kernel
theorem d_Mo_back_43 : decode prog_14_method_154_code 43 = .ok (.aload_n 0, 1) := by decide +kernel
theorem d_Mo_back_44 : decode prog_14_method_154_code 44 = .ok (.getfield 519, 3) := by decide +kernel
theorem d_Mo_back_47 : decode prog_14_method_154_code 47 = .ok (.ireturn, 1) := by decide +kernel
