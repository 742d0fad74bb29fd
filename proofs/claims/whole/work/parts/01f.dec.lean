/-! decode rows (printed by wip/tools/p09.py) -/
theorem d_Mo_readPerson_0 : decode prog_14_method_62_code 0 = .ok (.aload_n 0, 1) := by decide +kernel
theorem d_Mo_readPerson_1 : decode prog_14_method_62_code 1 = .ok (.iconst 1, 1) := by decide +kernel
theorem d_Mo_readPerson_2 : decode prog_14_method_62_code 2 = .ok (.bipush 7, 2) := by decide +kernel
theorem d_Mo_readPerson_4 : decode prog_14_method_62_code 4 = .ok (.invokevirtual 250, 3) := by decide +kernel
theorem d_Mo_readPerson_7 : decode prog_14_method_62_code 7 = .ok (.istore_n 1, 1) := by decide +kernel
theorem d_Mo_readPerson_8 : decode prog_14_method_62_code 8 = .ok (.iconst 0, 1) := by decide +kernel
theorem d_Mo_readPerson_9 : decode prog_14_method_62_code 9 = .ok (.istore_n 2, 1) := by decide +kernel
theorem d_Mo_readPerson_10 : decode prog_14_method_62_code 10 = .ok (.aload_n 0, 1) := by decide +kernel
theorem d_Mo_readPerson_11 : decode prog_14_method_62_code 11 = .ok (.aload_n 0, 1) := by decide +kernel
theorem d_Mo_readPerson_12 : decode prog_14_method_62_code 12 = .ok (.invokevirtual 174, 3) := by decide +kernel
theorem d_Mo_readPerson_15 : decode prog_14_method_62_code 15 = .ok (.invokevirtual 253, 3) := by decide +kernel
theorem d_Mo_readPerson_18 : decode prog_14_method_62_code 18 = .ok (.ifCond .eq 63, 3) := by decide +kernel
theorem d_Mo_readPerson_21 : decode prog_14_method_62_code 21 = .ok (.aload_n 0, 1) := by decide +kernel
theorem d_Mo_readPerson_22 : decode prog_14_method_62_code 22 = .ok (.getfield 202, 3) := by decide +kernel
theorem d_Mo_readPerson_25 : decode prog_14_method_62_code 25 = .ok (.ifCond .ne 56, 3) := by decide +kernel
theorem d_Mo_readPerson_28 : decode prog_14_method_62_code 28 = .ok (.aload_n 0, 1) := by decide +kernel
theorem d_Mo_readPerson_29 : decode prog_14_method_62_code 29 = .ok (.getfield 125, 3) := by decide +kernel
theorem d_Mo_readPerson_32 : decode prog_14_method_62_code 32 = .ok (.iconst 1, 1) := by decide +kernel
theorem d_Mo_readPerson_33 : decode prog_14_method_62_code 33 = .ok (.if_icmp .ne 48, 3) := by decide +kernel
theorem d_Mo_readPerson_36 : decode prog_14_method_62_code 36 = .ok (.aload_n 0, 1) := by decide +kernel
theorem d_Mo_readPerson_37 : decode prog_14_method_62_code 37 = .ok (.iconst 4, 1) := by decide +kernel
theorem d_Mo_readPerson_38 : decode prog_14_method_62_code 38 = .ok (.iconst 0, 1) := by decide +kernel
theorem d_Mo_readPerson_39 : decode prog_14_method_62_code 39 = .ok (.invokevirtual 236, 3) := by decide +kernel
theorem d_Mo_readPerson_42 : decode prog_14_method_62_code 42 = .ok (.istore_n 3, 1) := by decide +kernel
theorem d_Mo_readPerson_43 : decode prog_14_method_62_code 43 = .ok (.aload_n 0, 1) := by decide +kernel
theorem d_Mo_readPerson_44 : decode prog_14_method_62_code 44 = .ok (.getfield 202, 3) := by decide +kernel
theorem d_Mo_readPerson_47 : decode prog_14_method_62_code 47 = .ok (.ifCond .ne 20, 3) := by decide +kernel
theorem d_Mo_readPerson_50 : decode prog_14_method_62_code 50 = .ok (.iload_n 2, 1) := by decide +kernel
theorem d_Mo_readPerson_51 : decode prog_14_method_62_code 51 = .ok (.iload_n 3, 1) := by decide +kernel
theorem d_Mo_readPerson_52 : decode prog_14_method_62_code 52 = .ok (.invokestatic 109, 3) := by decide +kernel
theorem d_Mo_readPerson_55 : decode prog_14_method_62_code 55 = .ok (.ifCond .eq 12, 3) := by decide +kernel
theorem d_Mo_readPerson_58 : decode prog_14_method_62_code 58 = .ok (.aload_n 0, 1) := by decide +kernel
theorem d_Mo_readPerson_59 : decode prog_14_method_62_code 59 = .ok (.iconst 5, 1) := by decide +kernel
theorem d_Mo_readPerson_60 : decode prog_14_method_62_code 60 = .ok (.aload_n 0, 1) := by decide +kernel
theorem d_Mo_readPerson_61 : decode prog_14_method_62_code 61 = .ok (.getfield 119, 3) := by decide +kernel
theorem d_Mo_readPerson_64 : decode prog_14_method_62_code 64 = .ok (.invokevirtual 208, 3) := by decide +kernel
theorem d_Mo_readPerson_67 : decode prog_14_method_62_code 67 = .ok (.iload_n 2, 1) := by decide +kernel
theorem d_Mo_readPerson_68 : decode prog_14_method_62_code 68 = .ok (.iconst 1, 1) := by decide +kernel
theorem d_Mo_readPerson_69 : decode prog_14_method_62_code 69 = .ok (.iload_n 3, 1) := by decide +kernel
theorem d_Mo_readPerson_70 : decode prog_14_method_62_code 70 = .ok (.ishl, 1) := by decide +kernel
theorem d_Mo_readPerson_71 : decode prog_14_method_62_code 71 = .ok (.ior, 1) := by decide +kernel
theorem d_Mo_readPerson_72 : decode prog_14_method_62_code 72 = .ok (.istore_n 2, 1) := by decide +kernel
theorem d_Mo_readPerson_73 : decode prog_14_method_62_code 73 = .ok (.aload_n 0, 1) := by decide +kernel
theorem d_Mo_readPerson_74 : decode prog_14_method_62_code 74 = .ok (.iconst 1, 1) := by decide +kernel
theorem d_Mo_readPerson_75 : decode prog_14_method_62_code 75 = .ok (.invokevirtual 239, 3) := by decide +kernel
theorem d_Mo_readPerson_78 : decode prog_14_method_62_code 78 = .ok (.goto (-57), 3) := by decide +kernel
theorem d_Mo_readPerson_81 : decode prog_14_method_62_code 81 = .ok (.aload_n 0, 1) := by decide +kernel
theorem d_Mo_readPerson_82 : decode prog_14_method_62_code 82 = .ok (.getfield 202, 3) := by decide +kernel
theorem d_Mo_readPerson_85 : decode prog_14_method_62_code 85 = .ok (.ifCond .le 4, 3) := by decide +kernel
theorem d_Mo_readPerson_88 : decode prog_14_method_62_code 88 = .ok (.return_, 1) := by decide +kernel
theorem d_Mo_readPerson_89 : decode prog_14_method_62_code 89 = .ok (.aload_n 0, 1) := by decide +kernel
theorem d_Mo_readPerson_90 : decode prog_14_method_62_code 90 = .ok (.getfield 35, 3) := by decide +kernel
theorem d_Mo_readPerson_93 : decode prog_14_method_62_code 93 = .ok (.sipush 1448, 3) := by decide +kernel
theorem d_Mo_readPerson_96 : decode prog_14_method_62_code 96 = .ok (.iload_n 1, 1) := by decide +kernel
theorem d_Mo_readPerson_97 : decode prog_14_method_62_code 97 = .ok (.iadd, 1) := by decide +kernel
theorem d_Mo_readPerson_98 : decode prog_14_method_62_code 98 = .ok (.iload_n 2, 1) := by decide +kernel
theorem d_Mo_readPerson_99 : decode prog_14_method_62_code 99 = .ok (.iastore, 1) := by decide +kernel
theorem d_Mo_readPerson_100 : decode prog_14_method_62_code 100 = .ok (.aload_n 0, 1) := by decide +kernel
theorem d_Mo_readPerson_101 : decode prog_14_method_62_code 101 = .ok (.getfield 35, 3) := by decide +kernel
theorem d_Mo_readPerson_104 : decode prog_14_method_62_code 104 = .ok (.sipush 1437, 3) := by decide +kernel
theorem d_Mo_readPerson_107 : decode prog_14_method_62_code 107 = .ok (.dup2, 1) := by decide +kernel
theorem d_Mo_readPerson_108 : decode prog_14_method_62_code 108 = .ok (.iaload, 1) := by decide +kernel
theorem d_Mo_readPerson_109 : decode prog_14_method_62_code 109 = .ok (.iconst 1, 1) := by decide +kernel
theorem d_Mo_readPerson_110 : decode prog_14_method_62_code 110 = .ok (.iadd, 1) := by decide +kernel
theorem d_Mo_readPerson_111 : decode prog_14_method_62_code 111 = .ok (.iastore, 1) := by decide +kernel
theorem d_Mo_readPerson_112 : decode prog_14_method_62_code 112 = .ok (.return_, 1) := by decide +kernel
theorem d_Mo_perhaps_0 : decode prog_14_method_48_code 0 = .ok (.aload_n 0, 1) := by decide +kernel
theorem d_Mo_perhaps_1 : decode prog_14_method_48_code 1 = .ok (.getfield 202, 3) := by decide +kernel
theorem d_Mo_perhaps_4 : decode prog_14_method_48_code 4 = .ok (.ifCond .gt 7, 3) := by decide +kernel
theorem d_Mo_perhaps_7 : decode prog_14_method_48_code 7 = .ok (.iload_n 1, 1) := by decide +kernel
theorem d_Mo_perhaps_8 : decode prog_14_method_48_code 8 = .ok (.ifCond .ne 5, 3) := by decide +kernel
theorem d_Mo_perhaps_11 : decode prog_14_method_48_code 11 = .ok (.iconst 0, 1) := by decide +kernel
theorem d_Mo_perhaps_12 : decode prog_14_method_48_code 12 = .ok (.ireturn, 1) := by decide +kernel
theorem d_Mo_perhaps_13 : decode prog_14_method_48_code 13 = .ok (.aload_n 0, 1) := by decide +kernel
theorem d_Mo_perhaps_14 : decode prog_14_method_48_code 14 = .ok (.invokevirtual 212, 3) := by decide +kernel
theorem d_Mo_perhaps_17 : decode prog_14_method_48_code 17 = .ok (.iconst 1, 1) := by decide +kernel
theorem d_Mo_perhaps_18 : decode prog_14_method_48_code 18 = .ok (.ireturn, 1) := by decide +kernel
theorem d_Mo_told_0 : decode prog_14_method_58_code 0 = .ok (.aload_n 0, 1) := by decide +kernel
theorem d_Mo_told_1 : decode prog_14_method_58_code 1 = .ok (.getfield 202, 3) := by decide +kernel
theorem d_Mo_told_4 : decode prog_14_method_58_code 4 = .ok (.ifCond .ne 14, 3) := by decide +kernel
theorem d_Mo_told_7 : decode prog_14_method_58_code 7 = .ok (.aload_n 0, 1) := by decide +kernel
theorem d_Mo_told_8 : decode prog_14_method_58_code 8 = .ok (.invokevirtual 227, 3) := by decide +kernel
theorem d_Mo_told_11 : decode prog_14_method_58_code 11 = .ok (.ifCond .ne 7, 3) := by decide +kernel
theorem d_Mo_told_14 : decode prog_14_method_58_code 14 = .ok (.aload_n 0, 1) := by decide +kernel
theorem d_Mo_told_15 : decode prog_14_method_58_code 15 = .ok (.invokevirtual 215, 3) := by decide +kernel
theorem d_Mo_told_18 : decode prog_14_method_58_code 18 = .ok (.aload_n 0, 1) := by decide +kernel
theorem d_Mo_told_19 : decode prog_14_method_58_code 19 = .ok (.getfield 202, 3) := by decide +kernel
theorem d_Mo_told_22 : decode prog_14_method_58_code 22 = .ok (.ifCond .le 5, 3) := by decide +kernel
theorem d_Mo_told_25 : decode prog_14_method_58_code 25 = .ok (.iconst 0, 1) := by decide +kernel
theorem d_Mo_told_26 : decode prog_14_method_58_code 26 = .ok (.ireturn, 1) := by decide +kernel
theorem d_Mo_told_27 : decode prog_14_method_58_code 27 = .ok (.aload_n 0, 1) := by decide +kernel
theorem d_Mo_told_28 : decode prog_14_method_58_code 28 = .ok (.iload_n 1, 1) := by decide +kernel
theorem d_Mo_told_29 : decode prog_14_method_58_code 29 = .ok (.iload_n 2, 1) := by decide +kernel
theorem d_Mo_told_30 : decode prog_14_method_58_code 30 = .ok (.invokevirtual 230, 3) := by decide +kernel
theorem d_Mo_told_33 : decode prog_14_method_58_code 33 = .ok (.istore_n 3, 1) := by decide +kernel
theorem d_Mo_told_34 : decode prog_14_method_58_code 34 = .ok (.iload_n 3, 1) := by decide +kernel
theorem d_Mo_told_35 : decode prog_14_method_58_code 35 = .ok (.ifCond .ge 12, 3) := by decide +kernel
theorem d_Mo_told_38 : decode prog_14_method_58_code 38 = .ok (.aload_n 0, 1) := by decide +kernel
theorem d_Mo_told_39 : decode prog_14_method_58_code 39 = .ok (.iconst 3, 1) := by decide +kernel
theorem d_Mo_told_40 : decode prog_14_method_58_code 40 = .ok (.aload_n 0, 1) := by decide +kernel
theorem d_Mo_told_41 : decode prog_14_method_58_code 41 = .ok (.getfield 119, 3) := by decide +kernel
theorem d_Mo_told_44 : decode prog_14_method_58_code 44 = .ok (.invokevirtual 208, 3) := by decide +kernel
theorem d_Mo_told_47 : decode prog_14_method_58_code 47 = .ok (.iconst 0, 1) := by decide +kernel
theorem d_Mo_told_48 : decode prog_14_method_58_code 48 = .ok (.iload_n 3, 1) := by decide +kernel
theorem d_Mo_told_49 : decode prog_14_method_58_code 49 = .ok (.invokestatic 233, 3) := by decide +kernel
theorem d_Mo_told_52 : decode prog_14_method_58_code 52 = .ok (.ireturn, 1) := by decide +kernel
theorem d_Mo_has_0 : decode prog_14_method_19_code 0 = .ok (.iload_n 0, 1) := by decide +kernel
theorem d_Mo_has_1 : decode prog_14_method_19_code 1 = .ok (.iload_n 1, 1) := by decide +kernel
theorem d_Mo_has_2 : decode prog_14_method_19_code 2 = .ok (.ishr, 1) := by decide +kernel
theorem d_Mo_has_3 : decode prog_14_method_19_code 3 = .ok (.iconst 1, 1) := by decide +kernel
theorem d_Mo_has_4 : decode prog_14_method_19_code 4 = .ok (.iand, 1) := by decide +kernel
theorem d_Mo_has_5 : decode prog_14_method_19_code 5 = .ok (.iconst 1, 1) := by decide +kernel
theorem d_Mo_has_6 : decode prog_14_method_19_code 6 = .ok (.if_icmp .ne 7, 3) := by decide +kernel
theorem d_Mo_has_9 : decode prog_14_method_19_code 9 = .ok (.iconst 1, 1) := by decide +kernel
theorem d_Mo_has_10 : decode prog_14_method_19_code 10 = .ok (.goto 4, 3) := by decide +kernel
theorem d_Mo_has_13 : decode prog_14_method_19_code 13 = .ok (.iconst 0, 1) := by decide +kernel
theorem d_Mo_has_14 : decode prog_14_method_19_code 14 = .ok (.ireturn, 1) := by decide +kernel
theorem d_Mo_readLane_0 : decode prog_14_method_64_code 0 = .ok (.aload_n 0, 1) := by decide +kernel
theorem d_Mo_readLane_1 : decode prog_14_method_64_code 1 = .ok (.getfield 35, 3) := by decide +kernel
theorem d_Mo_readLane_4 : decode prog_14_method_64_code 4 = .ok (.sipush 1438, 3) := by decide +kernel
theorem d_Mo_readLane_7 : decode prog_14_method_64_code 7 = .ok (.iaload, 1) := by decide +kernel
theorem d_Mo_readLane_8 : decode prog_14_method_64_code 8 = .ok (.bipush 12, 2) := by decide +kernel
theorem d_Mo_readLane_10 : decode prog_14_method_64_code 10 = .ok (.if_icmp .ne 13, 3) := by decide +kernel
theorem d_Mo_readLane_13 : decode prog_14_method_64_code 13 = .ok (.aload_n 0, 1) := by decide +kernel
theorem d_Mo_readLane_14 : decode prog_14_method_64_code 14 = .ok (.bipush 6, 2) := by decide +kernel
theorem d_Mo_readLane_16 : decode prog_14_method_64_code 16 = .ok (.aload_n 0, 1) := by decide +kernel
theorem d_Mo_readLane_17 : decode prog_14_method_64_code 17 = .ok (.getfield 119, 3) := by decide +kernel
theorem d_Mo_readLane_20 : decode prog_14_method_64_code 20 = .ok (.invokevirtual 208, 3) := by decide +kernel
theorem d_Mo_readLane_23 : decode prog_14_method_64_code 23 = .ok (.aload_n 0, 1) := by decide +kernel
theorem d_Mo_readLane_24 : decode prog_14_method_64_code 24 = .ok (.getfield 202, 3) := by decide +kernel
theorem d_Mo_readLane_27 : decode prog_14_method_64_code 27 = .ok (.ifCond .le 4, 3) := by decide +kernel
theorem d_Mo_readLane_30 : decode prog_14_method_64_code 30 = .ok (.return_, 1) := by decide +kernel
theorem d_Mo_readLane_31 : decode prog_14_method_64_code 31 = .ok (.aload_n 0, 1) := by decide +kernel
theorem d_Mo_readLane_32 : decode prog_14_method_64_code 32 = .ok (.invokevirtual 212, 3) := by decide +kernel
theorem d_Mo_readLane_35 : decode prog_14_method_64_code 35 = .ok (.aload_n 0, 1) := by decide +kernel
theorem d_Mo_readLane_36 : decode prog_14_method_64_code 36 = .ok (.iconst 4, 1) := by decide +kernel
theorem d_Mo_readLane_37 : decode prog_14_method_64_code 37 = .ok (.iconst 1, 1) := by decide +kernel
theorem d_Mo_readLane_38 : decode prog_14_method_64_code 38 = .ok (.invokevirtual 257, 3) := by decide +kernel
theorem d_Mo_readLane_41 : decode prog_14_method_64_code 41 = .ok (.istore_n 1, 1) := by decide +kernel
theorem d_Mo_readLane_42 : decode prog_14_method_64_code 42 = .ok (.aload_n 0, 1) := by decide +kernel
theorem d_Mo_readLane_43 : decode prog_14_method_64_code 43 = .ok (.iconst 4, 1) := by decide +kernel
theorem d_Mo_readLane_44 : decode prog_14_method_64_code 44 = .ok (.iconst 1, 1) := by decide +kernel
theorem d_Mo_readLane_45 : decode prog_14_method_64_code 45 = .ok (.invokevirtual 236, 3) := by decide +kernel
theorem d_Mo_readLane_48 : decode prog_14_method_64_code 48 = .ok (.istore_n 2, 1) := by decide +kernel
theorem d_Mo_readLane_49 : decode prog_14_method_64_code 49 = .ok (.aload_n 0, 1) := by decide +kernel
theorem d_Mo_readLane_50 : decode prog_14_method_64_code 50 = .ok (.getfield 202, 3) := by decide +kernel
theorem d_Mo_readLane_53 : decode prog_14_method_64_code 53 = .ok (.ifCond .ne 17, 3) := by decide +kernel
theorem d_Mo_readLane_56 : decode prog_14_method_64_code 56 = .ok (.iload_n 1, 1) := by decide +kernel
theorem d_Mo_readLane_57 : decode prog_14_method_64_code 57 = .ok (.iload_n 2, 1) := by decide +kernel
theorem d_Mo_readLane_58 : decode prog_14_method_64_code 58 = .ok (.if_icmp .ne 12, 3) := by decide +kernel
theorem d_Mo_readLane_61 : decode prog_14_method_64_code 61 = .ok (.aload_n 0, 1) := by decide +kernel
theorem d_Mo_readLane_62 : decode prog_14_method_64_code 62 = .ok (.iconst 5, 1) := by decide +kernel
theorem d_Mo_readLane_63 : decode prog_14_method_64_code 63 = .ok (.aload_n 0, 1) := by decide +kernel
theorem d_Mo_readLane_64 : decode prog_14_method_64_code 64 = .ok (.getfield 119, 3) := by decide +kernel
theorem d_Mo_readLane_67 : decode prog_14_method_64_code 67 = .ok (.invokevirtual 208, 3) := by decide +kernel
theorem d_Mo_readLane_70 : decode prog_14_method_64_code 70 = .ok (.aload_n 0, 1) := by decide +kernel
theorem d_Mo_readLane_71 : decode prog_14_method_64_code 71 = .ok (.iconst 1, 1) := by decide +kernel
theorem d_Mo_readLane_72 : decode prog_14_method_64_code 72 = .ok (.invokevirtual 239, 3) := by decide +kernel
theorem d_Mo_readLane_75 : decode prog_14_method_64_code 75 = .ok (.aload_n 0, 1) := by decide +kernel
theorem d_Mo_readLane_76 : decode prog_14_method_64_code 76 = .ok (.getfield 202, 3) := by decide +kernel
theorem d_Mo_readLane_79 : decode prog_14_method_64_code 79 = .ok (.ifCond .ne 10, 3) := by decide +kernel
theorem d_Mo_readLane_82 : decode prog_14_method_64_code 82 = .ok (.aload_n 0, 1) := by decide +kernel
theorem d_Mo_readLane_83 : decode prog_14_method_64_code 83 = .ok (.iconst 4, 1) := by decide +kernel
theorem d_Mo_readLane_84 : decode prog_14_method_64_code 84 = .ok (.iload_n 1, 1) := by decide +kernel
theorem d_Mo_readLane_85 : decode prog_14_method_64_code 85 = .ok (.iload_n 2, 1) := by decide +kernel
theorem d_Mo_readLane_86 : decode prog_14_method_64_code 86 = .ok (.invokevirtual 260, 3) := by decide +kernel
theorem d_Mo_readLane_89 : decode prog_14_method_64_code 89 = .ok (.return_, 1) := by decide +kernel
theorem d_Mo_readTold_0 : decode prog_14_method_59_code 0 = .ok (.aload_n 0, 1) := by decide +kernel
theorem d_Mo_readTold_1 : decode prog_14_method_59_code 1 = .ok (.iload_n 1, 1) := by decide +kernel
theorem d_Mo_readTold_2 : decode prog_14_method_59_code 2 = .ok (.iload_n 2, 1) := by decide +kernel
theorem d_Mo_readTold_3 : decode prog_14_method_59_code 3 = .ok (.invokevirtual 236, 3) := by decide +kernel
theorem d_Mo_readTold_6 : decode prog_14_method_59_code 6 = .ok (.istore_n 3, 1) := by decide +kernel
theorem d_Mo_readTold_7 : decode prog_14_method_59_code 7 = .ok (.aload_n 0, 1) := by decide +kernel
theorem d_Mo_readTold_8 : decode prog_14_method_59_code 8 = .ok (.iconst 1, 1) := by decide +kernel
theorem d_Mo_readTold_9 : decode prog_14_method_59_code 9 = .ok (.invokevirtual 239, 3) := by decide +kernel
theorem d_Mo_readTold_12 : decode prog_14_method_59_code 12 = .ok (.iload_n 3, 1) := by decide +kernel
theorem d_Mo_readTold_13 : decode prog_14_method_59_code 13 = .ok (.ireturn, 1) := by decide +kernel
theorem d_Mo_meet_0 : decode prog_14_method_63_code 0 = .ok (.sipush 359, 3) := by decide +kernel
theorem d_Mo_meet_3 : decode prog_14_method_63_code 3 = .ok (.iload_n 1, 1) := by decide +kernel
theorem d_Mo_meet_4 : decode prog_14_method_63_code 4 = .ok (.imul, 1) := by decide +kernel
theorem d_Mo_meet_5 : decode prog_14_method_63_code 5 = .ok (.istore 4, 2) := by decide +kernel
theorem d_Mo_meet_7 : decode prog_14_method_63_code 7 = .ok (.aload_n 0, 1) := by decide +kernel
theorem d_Mo_meet_8 : decode prog_14_method_63_code 8 = .ok (.getfield 35, 3) := by decide +kernel
theorem d_Mo_meet_11 : decode prog_14_method_63_code 11 = .ok (.iload 4, 2) := by decide +kernel
theorem d_Mo_meet_13 : decode prog_14_method_63_code 13 = .ok (.bipush 19, 2) := by decide +kernel
theorem d_Mo_meet_15 : decode prog_14_method_63_code 15 = .ok (.iadd, 1) := by decide +kernel
theorem d_Mo_meet_16 : decode prog_14_method_63_code 16 = .ok (.iload_n 2, 1) := by decide +kernel
theorem d_Mo_meet_17 : decode prog_14_method_63_code 17 = .ok (.iadd, 1) := by decide +kernel
theorem d_Mo_meet_18 : decode prog_14_method_63_code 18 = .ok (.dup2, 1) := by decide +kernel
theorem d_Mo_meet_19 : decode prog_14_method_63_code 19 = .ok (.iaload, 1) := by decide +kernel
theorem d_Mo_meet_20 : decode prog_14_method_63_code 20 = .ok (.iconst 1, 1) := by decide +kernel
theorem d_Mo_meet_21 : decode prog_14_method_63_code 21 = .ok (.iload_n 3, 1) := by decide +kernel
theorem d_Mo_meet_22 : decode prog_14_method_63_code 22 = .ok (.ishl, 1) := by decide +kernel
theorem d_Mo_meet_23 : decode prog_14_method_63_code 23 = .ok (.ior, 1) := by decide +kernel
theorem d_Mo_meet_24 : decode prog_14_method_63_code 24 = .ok (.iastore, 1) := by decide +kernel
theorem d_Mo_meet_25 : decode prog_14_method_63_code 25 = .ok (.aload_n 0, 1) := by decide +kernel
theorem d_Mo_meet_26 : decode prog_14_method_63_code 26 = .ok (.getfield 35, 3) := by decide +kernel
theorem d_Mo_meet_29 : decode prog_14_method_63_code 29 = .ok (.iload 4, 2) := by decide +kernel
theorem d_Mo_meet_31 : decode prog_14_method_63_code 31 = .ok (.bipush 19, 2) := by decide +kernel
theorem d_Mo_meet_33 : decode prog_14_method_63_code 33 = .ok (.iadd, 1) := by decide +kernel
theorem d_Mo_meet_34 : decode prog_14_method_63_code 34 = .ok (.iload_n 3, 1) := by decide +kernel
theorem d_Mo_meet_35 : decode prog_14_method_63_code 35 = .ok (.iadd, 1) := by decide +kernel
theorem d_Mo_meet_36 : decode prog_14_method_63_code 36 = .ok (.dup2, 1) := by decide +kernel
theorem d_Mo_meet_37 : decode prog_14_method_63_code 37 = .ok (.iaload, 1) := by decide +kernel
theorem d_Mo_meet_38 : decode prog_14_method_63_code 38 = .ok (.iconst 1, 1) := by decide +kernel
theorem d_Mo_meet_39 : decode prog_14_method_63_code 39 = .ok (.iload_n 2, 1) := by decide +kernel
theorem d_Mo_meet_40 : decode prog_14_method_63_code 40 = .ok (.ishl, 1) := by decide +kernel
theorem d_Mo_meet_41 : decode prog_14_method_63_code 41 = .ok (.ior, 1) := by decide +kernel
theorem d_Mo_meet_42 : decode prog_14_method_63_code 42 = .ok (.iastore, 1) := by decide +kernel
theorem d_Mo_meet_43 : decode prog_14_method_63_code 43 = .ok (.aload_n 0, 1) := by decide +kernel
theorem d_Mo_meet_44 : decode prog_14_method_63_code 44 = .ok (.getfield 35, 3) := by decide +kernel
theorem d_Mo_meet_47 : decode prog_14_method_63_code 47 = .ok (.iload 4, 2) := by decide +kernel
theorem d_Mo_meet_49 : decode prog_14_method_63_code 49 = .ok (.iconst 2, 1) := by decide +kernel
theorem d_Mo_meet_50 : decode prog_14_method_63_code 50 = .ok (.iadd, 1) := by decide +kernel
theorem d_Mo_meet_51 : decode prog_14_method_63_code 51 = .ok (.dup2, 1) := by decide +kernel
theorem d_Mo_meet_52 : decode prog_14_method_63_code 52 = .ok (.iaload, 1) := by decide +kernel
theorem d_Mo_meet_53 : decode prog_14_method_63_code 53 = .ok (.iconst 1, 1) := by decide +kernel
theorem d_Mo_meet_54 : decode prog_14_method_63_code 54 = .ok (.iadd, 1) := by decide +kernel
theorem d_Mo_meet_55 : decode prog_14_method_63_code 55 = .ok (.iastore, 1) := by decide +kernel
theorem d_Mo_meet_56 : decode prog_14_method_63_code 56 = .ok (.return_, 1) := by decide +kernel
theorem d_Mo_readTin_0 : decode prog_14_method_66_code 0 = .ok (.aload_n 0, 1) := by decide +kernel
theorem d_Mo_readTin_1 : decode prog_14_method_66_code 1 = .ok (.iconst 3, 1) := by decide +kernel
theorem d_Mo_readTin_2 : decode prog_14_method_66_code 2 = .ok (.bipush 9, 2) := by decide +kernel
theorem d_Mo_readTin_4 : decode prog_14_method_66_code 4 = .ok (.invokevirtual 250, 3) := by decide +kernel
theorem d_Mo_readTin_7 : decode prog_14_method_66_code 7 = .ok (.istore_n 1, 1) := by decide +kernel
theorem d_Mo_readTin_8 : decode prog_14_method_66_code 8 = .ok (.aload_n 0, 1) := by decide +kernel
theorem d_Mo_readTin_9 : decode prog_14_method_66_code 9 = .ok (.aload_n 0, 1) := by decide +kernel
theorem d_Mo_readTin_10 : decode prog_14_method_66_code 10 = .ok (.invokevirtual 183, 3) := by decide +kernel
theorem d_Mo_readTin_13 : decode prog_14_method_66_code 13 = .ok (.invokevirtual 239, 3) := by decide +kernel
theorem d_Mo_readTin_16 : decode prog_14_method_66_code 16 = .ok (.aload_n 0, 1) := by decide +kernel
theorem d_Mo_readTin_17 : decode prog_14_method_66_code 17 = .ok (.iconst 4, 1) := by decide +kernel
theorem d_Mo_readTin_18 : decode prog_14_method_66_code 18 = .ok (.iconst 0, 1) := by decide +kernel
theorem d_Mo_readTin_19 : decode prog_14_method_66_code 19 = .ok (.invokevirtual 257, 3) := by decide +kernel
theorem d_Mo_readTin_22 : decode prog_14_method_66_code 22 = .ok (.istore_n 2, 1) := by decide +kernel
theorem d_Mo_readTin_23 : decode prog_14_method_66_code 23 = .ok (.aload_n 0, 1) := by decide +kernel
theorem d_Mo_readTin_24 : decode prog_14_method_66_code 24 = .ok (.aload_n 0, 1) := by decide +kernel
theorem d_Mo_readTin_25 : decode prog_14_method_66_code 25 = .ok (.invokevirtual 158, 3) := by decide +kernel
theorem d_Mo_readTin_28 : decode prog_14_method_66_code 28 = .ok (.invokevirtual 239, 3) := by decide +kernel
theorem d_Mo_readTin_31 : decode prog_14_method_66_code 31 = .ok (.aload_n 0, 1) := by decide +kernel
theorem d_Mo_readTin_32 : decode prog_14_method_66_code 32 = .ok (.iconst 4, 1) := by decide +kernel
theorem d_Mo_readTin_33 : decode prog_14_method_66_code 33 = .ok (.iconst 1, 1) := by decide +kernel
theorem d_Mo_readTin_34 : decode prog_14_method_66_code 34 = .ok (.invokevirtual 257, 3) := by decide +kernel
theorem d_Mo_readTin_37 : decode prog_14_method_66_code 37 = .ok (.istore_n 3, 1) := by decide +kernel
theorem d_Mo_readTin_38 : decode prog_14_method_66_code 38 = .ok (.aload_n 0, 1) := by decide +kernel
theorem d_Mo_readTin_39 : decode prog_14_method_66_code 39 = .ok (.aload_n 0, 1) := by decide +kernel
theorem d_Mo_readTin_40 : decode prog_14_method_66_code 40 = .ok (.invokevirtual 186, 3) := by decide +kernel
theorem d_Mo_readTin_43 : decode prog_14_method_66_code 43 = .ok (.invokevirtual 253, 3) := by decide +kernel
theorem d_Mo_readTin_46 : decode prog_14_method_66_code 46 = .ok (.istore 4, 2) := by decide +kernel
theorem d_Mo_readTin_48 : decode prog_14_method_66_code 48 = .ok (.aload_n 0, 1) := by decide +kernel
theorem d_Mo_readTin_49 : decode prog_14_method_66_code 49 = .ok (.getfield 202, 3) := by decide +kernel
theorem d_Mo_readTin_52 : decode prog_14_method_66_code 52 = .ok (.ifCond .ne 21, 3) := by decide +kernel
theorem d_Mo_readTin_55 : decode prog_14_method_66_code 55 = .ok (.aload_n 0, 1) := by decide +kernel
theorem d_Mo_readTin_56 : decode prog_14_method_66_code 56 = .ok (.iconst 4, 1) := by decide +kernel
theorem d_Mo_readTin_57 : decode prog_14_method_66_code 57 = .ok (.iload_n 1, 1) := by decide +kernel
theorem d_Mo_readTin_58 : decode prog_14_method_66_code 58 = .ok (.iload_n 2, 1) := by decide +kernel
theorem d_Mo_readTin_59 : decode prog_14_method_66_code 59 = .ok (.iload_n 3, 1) := by decide +kernel
theorem d_Mo_readTin_60 : decode prog_14_method_66_code 60 = .ok (.iload 4, 2) := by decide +kernel
theorem d_Mo_readTin_62 : decode prog_14_method_66_code 62 = .ok (.ifCond .eq 7, 3) := by decide +kernel
theorem d_Mo_readTin_65 : decode prog_14_method_66_code 65 = .ok (.iconst 1, 1) := by decide +kernel
theorem d_Mo_readTin_66 : decode prog_14_method_66_code 66 = .ok (.goto 4, 3) := by decide +kernel
theorem d_Mo_readTin_69 : decode prog_14_method_66_code 69 = .ok (.iconst 0, 1) := by decide +kernel
theorem d_Mo_readTin_70 : decode prog_14_method_66_code 70 = .ok (.invokevirtual 264, 3) := by decide +kernel
theorem d_Mo_readTin_73 : decode prog_14_method_66_code 73 = .ok (.return_, 1) := by decide +kernel
theorem d_Mo_strikes_0 : decode prog_14_method_65_code 0 = .ok (.sipush 359, 3) := by decide +kernel
theorem d_Mo_strikes_3 : decode prog_14_method_65_code 3 = .ok (.iload_n 1, 1) := by decide +kernel
theorem d_Mo_strikes_4 : decode prog_14_method_65_code 4 = .ok (.imul, 1) := by decide +kernel
theorem d_Mo_strikes_5 : decode prog_14_method_65_code 5 = .ok (.istore 6, 2) := by decide +kernel
theorem d_Mo_strikes_7 : decode prog_14_method_65_code 7 = .ok (.aload_n 0, 1) := by decide +kernel
theorem d_Mo_strikes_8 : decode prog_14_method_65_code 8 = .ok (.getfield 35, 3) := by decide +kernel
theorem d_Mo_strikes_11 : decode prog_14_method_65_code 11 = .ok (.iload 6, 2) := by decide +kernel
theorem d_Mo_strikes_13 : decode prog_14_method_65_code 13 = .ok (.bipush 33, 2) := by decide +kernel
theorem d_Mo_strikes_15 : decode prog_14_method_65_code 15 = .ok (.iadd, 1) := by decide +kernel
theorem d_Mo_strikes_16 : decode prog_14_method_65_code 16 = .ok (.iload_n 2, 1) := by decide +kernel
theorem d_Mo_strikes_17 : decode prog_14_method_65_code 17 = .ok (.iadd, 1) := by decide +kernel
theorem d_Mo_strikes_18 : decode prog_14_method_65_code 18 = .ok (.iload_n 3, 1) := by decide +kernel
theorem d_Mo_strikes_19 : decode prog_14_method_65_code 19 = .ok (.iastore, 1) := by decide +kernel
theorem d_Mo_strikes_20 : decode prog_14_method_65_code 20 = .ok (.aload_n 0, 1) := by decide +kernel
theorem d_Mo_strikes_21 : decode prog_14_method_65_code 21 = .ok (.getfield 35, 3) := by decide +kernel
theorem d_Mo_strikes_24 : decode prog_14_method_65_code 24 = .ok (.iload 6, 2) := by decide +kernel
theorem d_Mo_strikes_26 : decode prog_14_method_65_code 26 = .ok (.bipush 42, 2) := by decide +kernel
theorem d_Mo_strikes_28 : decode prog_14_method_65_code 28 = .ok (.iadd, 1) := by decide +kernel
theorem d_Mo_strikes_29 : decode prog_14_method_65_code 29 = .ok (.iload_n 2, 1) := by decide +kernel
theorem d_Mo_strikes_30 : decode prog_14_method_65_code 30 = .ok (.iadd, 1) := by decide +kernel
theorem d_Mo_strikes_31 : decode prog_14_method_65_code 31 = .ok (.iload 4, 2) := by decide +kernel
theorem d_Mo_strikes_33 : decode prog_14_method_65_code 33 = .ok (.iastore, 1) := by decide +kernel
theorem d_Mo_strikes_34 : decode prog_14_method_65_code 34 = .ok (.aload_n 0, 1) := by decide +kernel
theorem d_Mo_strikes_35 : decode prog_14_method_65_code 35 = .ok (.getfield 35, 3) := by decide +kernel
theorem d_Mo_strikes_38 : decode prog_14_method_65_code 38 = .ok (.iload 6, 2) := by decide +kernel
theorem d_Mo_strikes_40 : decode prog_14_method_65_code 40 = .ok (.bipush 51, 2) := by decide +kernel
theorem d_Mo_strikes_42 : decode prog_14_method_65_code 42 = .ok (.iadd, 1) := by decide +kernel
theorem d_Mo_strikes_43 : decode prog_14_method_65_code 43 = .ok (.iload_n 2, 1) := by decide +kernel
theorem d_Mo_strikes_44 : decode prog_14_method_65_code 44 = .ok (.iadd, 1) := by decide +kernel
theorem d_Mo_strikes_45 : decode prog_14_method_65_code 45 = .ok (.iload 5, 2) := by decide +kernel
theorem d_Mo_strikes_47 : decode prog_14_method_65_code 47 = .ok (.iastore, 1) := by decide +kernel
theorem d_Mo_strikes_48 : decode prog_14_method_65_code 48 = .ok (.aload_n 0, 1) := by decide +kernel
theorem d_Mo_strikes_49 : decode prog_14_method_65_code 49 = .ok (.getfield 35, 3) := by decide +kernel
theorem d_Mo_strikes_52 : decode prog_14_method_65_code 52 = .ok (.iload 6, 2) := by decide +kernel
theorem d_Mo_strikes_54 : decode prog_14_method_65_code 54 = .ok (.bipush 60, 2) := by decide +kernel
theorem d_Mo_strikes_56 : decode prog_14_method_65_code 56 = .ok (.iadd, 1) := by decide +kernel
theorem d_Mo_strikes_57 : decode prog_14_method_65_code 57 = .ok (.iload_n 2, 1) := by decide +kernel
theorem d_Mo_strikes_58 : decode prog_14_method_65_code 58 = .ok (.iadd, 1) := by decide +kernel
theorem d_Mo_strikes_59 : decode prog_14_method_65_code 59 = .ok (.iconst 0, 1) := by decide +kernel
theorem d_Mo_strikes_60 : decode prog_14_method_65_code 60 = .ok (.iastore, 1) := by decide +kernel
theorem d_Mo_strikes_61 : decode prog_14_method_65_code 61 = .ok (.aload_n 0, 1) := by decide +kernel
theorem d_Mo_strikes_62 : decode prog_14_method_65_code 62 = .ok (.getfield 35, 3) := by decide +kernel
theorem d_Mo_strikes_65 : decode prog_14_method_65_code 65 = .ok (.iload 6, 2) := by decide +kernel
theorem d_Mo_strikes_67 : decode prog_14_method_65_code 67 = .ok (.bipush 69, 2) := by decide +kernel
theorem d_Mo_strikes_69 : decode prog_14_method_65_code 69 = .ok (.iadd, 1) := by decide +kernel
theorem d_Mo_strikes_70 : decode prog_14_method_65_code 70 = .ok (.iload_n 2, 1) := by decide +kernel
theorem d_Mo_strikes_71 : decode prog_14_method_65_code 71 = .ok (.iadd, 1) := by decide +kernel
theorem d_Mo_strikes_72 : decode prog_14_method_65_code 72 = .ok (.iconst 1, 1) := by decide +kernel
theorem d_Mo_strikes_73 : decode prog_14_method_65_code 73 = .ok (.iload 4, 2) := by decide +kernel
theorem d_Mo_strikes_75 : decode prog_14_method_65_code 75 = .ok (.ishl, 1) := by decide +kernel
theorem d_Mo_strikes_76 : decode prog_14_method_65_code 76 = .ok (.iastore, 1) := by decide +kernel
theorem d_Mo_strikes_77 : decode prog_14_method_65_code 77 = .ok (.aload_n 0, 1) := by decide +kernel
theorem d_Mo_strikes_78 : decode prog_14_method_65_code 78 = .ok (.getfield 35, 3) := by decide +kernel
theorem d_Mo_strikes_81 : decode prog_14_method_65_code 81 = .ok (.iload 6, 2) := by decide +kernel
theorem d_Mo_strikes_83 : decode prog_14_method_65_code 83 = .ok (.bipush 78, 2) := by decide +kernel
theorem d_Mo_strikes_85 : decode prog_14_method_65_code 85 = .ok (.iadd, 1) := by decide +kernel
theorem d_Mo_strikes_86 : decode prog_14_method_65_code 86 = .ok (.iload_n 2, 1) := by decide +kernel
theorem d_Mo_strikes_87 : decode prog_14_method_65_code 87 = .ok (.iadd, 1) := by decide +kernel
theorem d_Mo_strikes_88 : decode prog_14_method_65_code 88 = .ok (.iconst 0, 1) := by decide +kernel
theorem d_Mo_strikes_89 : decode prog_14_method_65_code 89 = .ok (.iastore, 1) := by decide +kernel
theorem d_Mo_strikes_90 : decode prog_14_method_65_code 90 = .ok (.aload_n 0, 1) := by decide +kernel
theorem d_Mo_strikes_91 : decode prog_14_method_65_code 91 = .ok (.getfield 35, 3) := by decide +kernel
theorem d_Mo_strikes_94 : decode prog_14_method_65_code 94 = .ok (.iload 6, 2) := by decide +kernel
theorem d_Mo_strikes_96 : decode prog_14_method_65_code 96 = .ok (.iconst 3, 1) := by decide +kernel
theorem d_Mo_strikes_97 : decode prog_14_method_65_code 97 = .ok (.iadd, 1) := by decide +kernel
theorem d_Mo_strikes_98 : decode prog_14_method_65_code 98 = .ok (.iload_n 2, 1) := by decide +kernel
theorem d_Mo_strikes_99 : decode prog_14_method_65_code 99 = .ok (.iconst 1, 1) := by decide +kernel
theorem d_Mo_strikes_100 : decode prog_14_method_65_code 100 = .ok (.iadd, 1) := by decide +kernel
theorem d_Mo_strikes_101 : decode prog_14_method_65_code 101 = .ok (.iastore, 1) := by decide +kernel
theorem d_Mo_strikes_102 : decode prog_14_method_65_code 102 = .ok (.return_, 1) := by decide +kernel
theorem d_Mo_isSign_0 : decode prog_14_method_26_code 0 = .ok (.aload_n 0, 1) := by decide +kernel
theorem d_Mo_isSign_1 : decode prog_14_method_26_code 1 = .ok (.getfield 125, 3) := by decide +kernel
theorem d_Mo_isSign_4 : decode prog_14_method_26_code 4 = .ok (.iconst 3, 1) := by decide +kernel
theorem d_Mo_isSign_5 : decode prog_14_method_26_code 5 = .ok (.if_icmp .ne 15, 3) := by decide +kernel
theorem d_Mo_isSign_8 : decode prog_14_method_26_code 8 = .ok (.aload_n 0, 1) := by decide +kernel
theorem d_Mo_isSign_9 : decode prog_14_method_26_code 9 = .ok (.getfield 144, 3) := by decide +kernel
theorem d_Mo_isSign_12 : decode prog_14_method_26_code 12 = .ok (.iload_n 1, 1) := by decide +kernel
theorem d_Mo_isSign_13 : decode prog_14_method_26_code 13 = .ok (.if_icmp .ne 7, 3) := by decide +kernel
theorem d_Mo_isSign_16 : decode prog_14_method_26_code 16 = .ok (.iconst 1, 1) := by decide +kernel
theorem d_Mo_isSign_17 : decode prog_14_method_26_code 17 = .ok (.goto 4, 3) := by decide +kernel
theorem d_Mo_isSign_20 : decode prog_14_method_26_code 20 = .ok (.iconst 0, 1) := by decide +kernel
theorem d_Mo_isSign_21 : decode prog_14_method_26_code 21 = .ok (.ireturn, 1) := by decide +kernel
theorem d_Mo_isWell_0 : decode prog_14_method_52_code 0 = .ok (.aload_n 0, 1) := by decide +kernel
theorem d_Mo_isWell_1 : decode prog_14_method_52_code 1 = .ok (.aload_n 0, 1) := by decide +kernel
theorem d_Mo_isWell_2 : decode prog_14_method_52_code 2 = .ok (.getfield 202, 3) := by decide +kernel
theorem d_Mo_isWell_5 : decode prog_14_method_52_code 5 = .ok (.putfield 28, 3) := by decide +kernel
theorem d_Mo_isWell_8 : decode prog_14_method_52_code 8 = .ok (.aload_n 0, 1) := by decide +kernel
theorem d_Mo_isWell_9 : decode prog_14_method_52_code 9 = .ok (.aload_n 0, 1) := by decide +kernel
theorem d_Mo_isWell_10 : decode prog_14_method_52_code 10 = .ok (.getfield 202, 3) := by decide +kernel
theorem d_Mo_isWell_13 : decode prog_14_method_52_code 13 = .ok (.ifCond .ne 7, 3) := by decide +kernel
theorem d_Mo_isWell_16 : decode prog_14_method_52_code 16 = .ok (.iconst (-1), 1) := by decide +kernel
theorem d_Mo_isWell_17 : decode prog_14_method_52_code 17 = .ok (.goto 7, 3) := by decide +kernel
theorem d_Mo_isWell_20 : decode prog_14_method_52_code 20 = .ok (.aload_n 0, 1) := by decide +kernel
theorem d_Mo_isWell_21 : decode prog_14_method_52_code 21 = .ok (.getfield 205, 3) := by decide +kernel
theorem d_Mo_isWell_24 : decode prog_14_method_52_code 24 = .ok (.putfield 32, 3) := by decide +kernel
theorem d_Mo_isWell_27 : decode prog_14_method_52_code 27 = .ok (.aload_n 0, 1) := by decide +kernel
theorem d_Mo_isWell_28 : decode prog_14_method_52_code 28 = .ok (.getfield 202, 3) := by decide +kernel
theorem d_Mo_isWell_31 : decode prog_14_method_52_code 31 = .ok (.ifCond .eq 12, 3) := by decide +kernel
theorem d_Mo_isWell_34 : decode prog_14_method_52_code 34 = .ok (.aload_n 0, 1) := by decide +kernel
theorem d_Mo_isWell_35 : decode prog_14_method_52_code 35 = .ok (.bipush 10, 2) := by decide +kernel
theorem d_Mo_isWell_37 : decode prog_14_method_52_code 37 = .ok (.invokevirtual 85, 3) := by decide +kernel
theorem d_Mo_isWell_40 : decode prog_14_method_52_code 40 = .ok (.ifCond .eq 7, 3) := by decide +kernel
theorem d_Mo_isWell_43 : decode prog_14_method_52_code 43 = .ok (.iconst 1, 1) := by decide +kernel
theorem d_Mo_isWell_44 : decode prog_14_method_52_code 44 = .ok (.goto 4, 3) := by decide +kernel
theorem d_Mo_isWell_47 : decode prog_14_method_52_code 47 = .ok (.iconst 0, 1) := by decide +kernel
theorem d_Mo_isWell_48 : decode prog_14_method_52_code 48 = .ok (.ireturn, 1) := by decide +kernel
theorem d_Mo_copy_0 : decode prog_14_method_152_code 0 = .ok (.iconst 0, 1) := by decide +kernel
theorem d_Mo_copy_1 : decode prog_14_method_152_code 1 = .ok (.istore_n 3, 1) := by decide +kernel
theorem d_Mo_copy_2 : decode prog_14_method_152_code 2 = .ok (.iload_n 3, 1) := by decide +kernel
theorem d_Mo_copy_3 : decode prog_14_method_152_code 3 = .ok (.sipush 359, 3) := by decide +kernel
theorem d_Mo_copy_6 : decode prog_14_method_152_code 6 = .ok (.if_icmp .ge 33, 3) := by decide +kernel
theorem d_Mo_copy_9 : decode prog_14_method_152_code 9 = .ok (.aload_n 0, 1) := by decide +kernel
theorem d_Mo_copy_10 : decode prog_14_method_152_code 10 = .ok (.getfield 35, 3) := by decide +kernel
theorem d_Mo_copy_13 : decode prog_14_method_152_code 13 = .ok (.sipush 359, 3) := by decide +kernel
theorem d_Mo_copy_16 : decode prog_14_method_152_code 16 = .ok (.iload_n 2, 1) := by decide +kernel
theorem d_Mo_copy_17 : decode prog_14_method_152_code 17 = .ok (.imul, 1) := by decide +kernel
theorem d_Mo_copy_18 : decode prog_14_method_152_code 18 = .ok (.iload_n 3, 1) := by decide +kernel
theorem d_Mo_copy_19 : decode prog_14_method_152_code 19 = .ok (.iadd, 1) := by decide +kernel
theorem d_Mo_copy_20 : decode prog_14_method_152_code 20 = .ok (.aload_n 0, 1) := by decide +kernel
theorem d_Mo_copy_21 : decode prog_14_method_152_code 21 = .ok (.getfield 35, 3) := by decide +kernel
theorem d_Mo_copy_24 : decode prog_14_method_152_code 24 = .ok (.sipush 359, 3) := by decide +kernel
theorem d_Mo_copy_27 : decode prog_14_method_152_code 27 = .ok (.iload_n 1, 1) := by decide +kernel
theorem d_Mo_copy_28 : decode prog_14_method_152_code 28 = .ok (.imul, 1) := by decide +kernel
theorem d_Mo_copy_29 : decode prog_14_method_152_code 29 = .ok (.iload_n 3, 1) := by decide +kernel
theorem d_Mo_copy_30 : decode prog_14_method_152_code 30 = .ok (.iadd, 1) := by decide +kernel
theorem d_Mo_copy_31 : decode prog_14_method_152_code 31 = .ok (.iaload, 1) := by decide +kernel
theorem d_Mo_copy_32 : decode prog_14_method_152_code 32 = .ok (.iastore, 1) := by decide +kernel
theorem d_Mo_copy_33 : decode prog_14_method_152_code 33 = .ok (.iinc 3 1, 3) := by decide +kernel
theorem d_Mo_copy_36 : decode prog_14_method_152_code 36 = .ok (.goto (-34), 3) := by decide +kernel
theorem d_Mo_copy_39 : decode prog_14_method_152_code 39 = .ok (.iconst 0, 1) := by decide +kernel
theorem d_Mo_copy_40 : decode prog_14_method_152_code 40 = .ok (.istore_n 3, 1) := by decide +kernel
theorem d_Mo_copy_41 : decode prog_14_method_152_code 41 = .ok (.iload_n 3, 1) := by decide +kernel
theorem d_Mo_copy_42 : decode prog_14_method_152_code 42 = .ok (.bipush 22, 2) := by decide +kernel
theorem d_Mo_copy_44 : decode prog_14_method_152_code 44 = .ok (.if_icmp .ge 31, 3) := by decide +kernel
theorem d_Mo_copy_47 : decode prog_14_method_152_code 47 = .ok (.aload_n 0, 1) := by decide +kernel
theorem d_Mo_copy_48 : decode prog_14_method_152_code 48 = .ok (.getfield 41, 3) := by decide +kernel
theorem d_Mo_copy_51 : decode prog_14_method_152_code 51 = .ok (.bipush 22, 2) := by decide +kernel
theorem d_Mo_copy_53 : decode prog_14_method_152_code 53 = .ok (.iload_n 2, 1) := by decide +kernel
theorem d_Mo_copy_54 : decode prog_14_method_152_code 54 = .ok (.imul, 1) := by decide +kernel
theorem d_Mo_copy_55 : decode prog_14_method_152_code 55 = .ok (.iload_n 3, 1) := by decide +kernel
theorem d_Mo_copy_56 : decode prog_14_method_152_code 56 = .ok (.iadd, 1) := by decide +kernel
theorem d_Mo_copy_57 : decode prog_14_method_152_code 57 = .ok (.aload_n 0, 1) := by decide +kernel
theorem d_Mo_copy_58 : decode prog_14_method_152_code 58 = .ok (.getfield 41, 3) := by decide +kernel
theorem d_Mo_copy_61 : decode prog_14_method_152_code 61 = .ok (.bipush 22, 2) := by decide +kernel
theorem d_Mo_copy_63 : decode prog_14_method_152_code 63 = .ok (.iload_n 1, 1) := by decide +kernel
theorem d_Mo_copy_64 : decode prog_14_method_152_code 64 = .ok (.imul, 1) := by decide +kernel
theorem d_Mo_copy_65 : decode prog_14_method_152_code 65 = .ok (.iload_n 3, 1) := by decide +kernel
theorem d_Mo_copy_66 : decode prog_14_method_152_code 66 = .ok (.iadd, 1) := by decide +kernel
theorem d_Mo_copy_67 : decode prog_14_method_152_code 67 = .ok (.laload, 1) := by decide +kernel
theorem d_Mo_copy_68 : decode prog_14_method_152_code 68 = .ok (.lastore, 1) := by decide +kernel
theorem d_Mo_copy_69 : decode prog_14_method_152_code 69 = .ok (.iinc 3 1, 3) := by decide +kernel
theorem d_Mo_copy_72 : decode prog_14_method_152_code 72 = .ok (.goto (-31), 3) := by decide +kernel
theorem d_Mo_copy_75 : decode prog_14_method_152_code 75 = .ok (.return_, 1) := by decide +kernel
theorem d_Mo_years_0 : decode prog_14_method_72_code 0 = .ok (.aload_n 0, 1) := by decide +kernel
theorem d_Mo_years_1 : decode prog_14_method_72_code 1 = .ok (.iconst 0, 1) := by decide +kernel
theorem d_Mo_years_2 : decode prog_14_method_72_code 2 = .ok (.putfield 70, 3) := by decide +kernel
theorem d_Mo_years_5 : decode prog_14_method_72_code 5 = .ok (.aload_n 0, 1) := by decide +kernel
theorem d_Mo_years_6 : decode prog_14_method_72_code 6 = .ok (.iconst 0, 1) := by decide +kernel
theorem d_Mo_years_7 : decode prog_14_method_72_code 7 = .ok (.putfield 73, 3) := by decide +kernel
theorem d_Mo_years_10 : decode prog_14_method_72_code 10 = .ok (.aload_n 0, 1) := by decide +kernel
theorem d_Mo_years_11 : decode prog_14_method_72_code 11 = .ok (.iload_n 1, 1) := by decide +kernel
theorem d_Mo_years_12 : decode prog_14_method_72_code 12 = .ok (.sipush 300, 3) := by decide +kernel
theorem d_Mo_years_15 : decode prog_14_method_72_code 15 = .ok (.invokevirtual 283, 3) := by decide +kernel
theorem d_Mo_years_18 : decode prog_14_method_72_code 18 = .ok (.ifCond .ne 5, 3) := by decide +kernel
theorem d_Mo_years_21 : decode prog_14_method_72_code 21 = .ok (.iconst (-1), 1) := by decide +kernel
theorem d_Mo_years_22 : decode prog_14_method_72_code 22 = .ok (.ireturn, 1) := by decide +kernel
theorem d_Mo_years_23 : decode prog_14_method_72_code 23 = .ok (.aload_n 0, 1) := by decide +kernel
theorem d_Mo_years_24 : decode prog_14_method_72_code 24 = .ok (.iconst 0, 1) := by decide +kernel
theorem d_Mo_years_25 : decode prog_14_method_72_code 25 = .ok (.putfield 301, 3) := by decide +kernel
theorem d_Mo_years_28 : decode prog_14_method_72_code 28 = .ok (.aload_n 0, 1) := by decide +kernel
theorem d_Mo_years_29 : decode prog_14_method_72_code 29 = .ok (.getfield 202, 3) := by decide +kernel
theorem d_Mo_years_32 : decode prog_14_method_72_code 32 = .ok (.ifCond .ne 18, 3) := by decide +kernel
theorem d_Mo_years_35 : decode prog_14_method_72_code 35 = .ok (.aload_n 0, 1) := by decide +kernel
theorem d_Mo_years_36 : decode prog_14_method_72_code 36 = .ok (.getfield 125, 3) := by decide +kernel
theorem d_Mo_years_39 : decode prog_14_method_72_code 39 = .ok (.ifCond .eq 11, 3) := by decide +kernel
theorem d_Mo_years_42 : decode prog_14_method_72_code 42 = .ok (.aload_n 0, 1) := by decide +kernel
theorem d_Mo_years_43 : decode prog_14_method_72_code 43 = .ok (.iconst 0, 1) := by decide +kernel
theorem d_Mo_years_44 : decode prog_14_method_72_code 44 = .ok (.invokevirtual 307, 3) := by decide +kernel
theorem d_Mo_years_47 : decode prog_14_method_72_code 47 = .ok (.goto (-19), 3) := by decide +kernel
theorem d_Mo_years_50 : decode prog_14_method_72_code 50 = .ok (.aload_n 0, 1) := by decide +kernel
theorem d_Mo_years_51 : decode prog_14_method_72_code 51 = .ok (.invokevirtual 292, 3) := by decide +kernel
theorem d_Mo_years_54 : decode prog_14_method_72_code 54 = .ok (.ifCond .ne 5, 3) := by decide +kernel
theorem d_Mo_years_57 : decode prog_14_method_72_code 57 = .ok (.iconst (-1), 1) := by decide +kernel
theorem d_Mo_years_58 : decode prog_14_method_72_code 58 = .ok (.ireturn, 1) := by decide +kernel
theorem d_Mo_years_59 : decode prog_14_method_72_code 59 = .ok (.aload_n 0, 1) := by decide +kernel
theorem d_Mo_years_60 : decode prog_14_method_72_code 60 = .ok (.getfield 35, 3) := by decide +kernel
theorem d_Mo_years_63 : decode prog_14_method_72_code 63 = .ok (.bipush 87, 2) := by decide +kernel
theorem d_Mo_years_65 : decode prog_14_method_72_code 65 = .ok (.iconst 1, 1) := by decide +kernel
theorem d_Mo_years_66 : decode prog_14_method_72_code 66 = .ok (.iastore, 1) := by decide +kernel
theorem d_Mo_years_67 : decode prog_14_method_72_code 67 = .ok (.aload_n 0, 1) := by decide +kernel
theorem d_Mo_years_68 : decode prog_14_method_72_code 68 = .ok (.getfield 35, 3) := by decide +kernel
theorem d_Mo_years_71 : decode prog_14_method_72_code 71 = .ok (.bipush 88, 2) := by decide +kernel
theorem d_Mo_years_73 : decode prog_14_method_72_code 73 = .ok (.aload_n 0, 1) := by decide +kernel
theorem d_Mo_years_74 : decode prog_14_method_72_code 74 = .ok (.getfield 301, 3) := by decide +kernel
theorem d_Mo_years_77 : decode prog_14_method_72_code 77 = .ok (.iastore, 1) := by decide +kernel
theorem d_Mo_years_78 : decode prog_14_method_72_code 78 = .ok (.iconst 0, 1) := by decide +kernel
theorem d_Mo_years_79 : decode prog_14_method_72_code 79 = .ok (.istore_n 2, 1) := by decide +kernel
theorem d_Mo_years_80 : decode prog_14_method_72_code 80 = .ok (.iload_n 2, 1) := by decide +kernel
theorem d_Mo_years_81 : decode prog_14_method_72_code 81 = .ok (.bipush 9, 2) := by decide +kernel
theorem d_Mo_years_83 : decode prog_14_method_72_code 83 = .ok (.aload_n 0, 1) := by decide +kernel
theorem d_Mo_years_84 : decode prog_14_method_72_code 84 = .ok (.getfield 301, 3) := by decide +kernel
theorem d_Mo_years_87 : decode prog_14_method_72_code 87 = .ok (.imul, 1) := by decide +kernel
theorem d_Mo_years_88 : decode prog_14_method_72_code 88 = .ok (.if_icmp .ge 28, 3) := by decide +kernel
theorem d_Mo_years_91 : decode prog_14_method_72_code 91 = .ok (.aload_n 0, 1) := by decide +kernel
theorem d_Mo_years_92 : decode prog_14_method_72_code 92 = .ok (.getfield 35, 3) := by decide +kernel
theorem d_Mo_years_95 : decode prog_14_method_72_code 95 = .ok (.bipush 89, 2) := by decide +kernel
theorem d_Mo_years_97 : decode prog_14_method_72_code 97 = .ok (.iload_n 2, 1) := by decide +kernel
theorem d_Mo_years_98 : decode prog_14_method_72_code 98 = .ok (.iadd, 1) := by decide +kernel
theorem d_Mo_years_99 : decode prog_14_method_72_code 99 = .ok (.aload_n 0, 1) := by decide +kernel
theorem d_Mo_years_100 : decode prog_14_method_72_code 100 = .ok (.getfield 35, 3) := by decide +kernel
theorem d_Mo_years_103 : decode prog_14_method_72_code 103 = .ok (.sipush 1525, 3) := by decide +kernel
theorem d_Mo_years_106 : decode prog_14_method_72_code 106 = .ok (.iload_n 2, 1) := by decide +kernel
theorem d_Mo_years_107 : decode prog_14_method_72_code 107 = .ok (.iadd, 1) := by decide +kernel
theorem d_Mo_years_108 : decode prog_14_method_72_code 108 = .ok (.iaload, 1) := by decide +kernel
theorem d_Mo_years_109 : decode prog_14_method_72_code 109 = .ok (.iastore, 1) := by decide +kernel
theorem d_Mo_years_110 : decode prog_14_method_72_code 110 = .ok (.iinc 2 1, 3) := by decide +kernel
theorem d_Mo_years_113 : decode prog_14_method_72_code 113 = .ok (.goto (-33), 3) := by decide +kernel
theorem d_Mo_years_116 : decode prog_14_method_72_code 116 = .ok (.aload_n 0, 1) := by decide +kernel
theorem d_Mo_years_117 : decode prog_14_method_72_code 117 = .ok (.getfield 301, 3) := by decide +kernel
theorem d_Mo_years_120 : decode prog_14_method_72_code 120 = .ok (.ireturn, 1) := by decide +kernel
theorem d_Mo_readStep_0 : decode prog_14_method_71_code 0 = .ok (.aload_n 0, 1) := by decide +kernel
theorem d_Mo_readStep_1 : decode prog_14_method_71_code 1 = .ok (.invokevirtual 189, 3) := by decide +kernel
theorem d_Mo_readStep_4 : decode prog_14_method_71_code 4 = .ok (.istore_n 2, 1) := by decide +kernel
theorem d_Mo_readStep_5 : decode prog_14_method_71_code 5 = .ok (.iload_n 2, 1) := by decide +kernel
theorem d_Mo_readStep_6 : decode prog_14_method_71_code 6 = .ok (.iconst 5, 1) := by decide +kernel
theorem d_Mo_readStep_7 : decode prog_14_method_71_code 7 = .ok (.if_icmp .eq 9, 3) := by decide +kernel
theorem d_Mo_readStep_10 : decode prog_14_method_71_code 10 = .ok (.iload_n 2, 1) := by decide +kernel
theorem d_Mo_readStep_11 : decode prog_14_method_71_code 11 = .ok (.bipush 6, 2) := by decide +kernel
theorem d_Mo_readStep_13 : decode prog_14_method_71_code 13 = .ok (.if_icmp .ne 7, 3) := by decide +kernel
theorem d_Mo_readStep_16 : decode prog_14_method_71_code 16 = .ok (.iconst 1, 1) := by decide +kernel
theorem d_Mo_readStep_17 : decode prog_14_method_71_code 17 = .ok (.goto 4, 3) := by decide +kernel
theorem d_Mo_readStep_20 : decode prog_14_method_71_code 20 = .ok (.iconst 0, 1) := by decide +kernel
theorem d_Mo_readStep_21 : decode prog_14_method_71_code 21 = .ok (.istore_n 3, 1) := by decide +kernel
theorem d_Mo_readStep_22 : decode prog_14_method_71_code 22 = .ok (.iload_n 2, 1) := by decide +kernel
theorem d_Mo_readStep_23 : decode prog_14_method_71_code 23 = .ok (.ifCond .ge 7, 3) := by decide +kernel
theorem d_Mo_readStep_26 : decode prog_14_method_71_code 26 = .ok (.aload_n 0, 1) := by decide +kernel
theorem d_Mo_readStep_27 : decode prog_14_method_71_code 27 = .ok (.invokevirtual 215, 3) := by decide +kernel
theorem d_Mo_readStep_30 : decode prog_14_method_71_code 30 = .ok (.aload_n 0, 1) := by decide +kernel
theorem d_Mo_readStep_31 : decode prog_14_method_71_code 31 = .ok (.getfield 202, 3) := by decide +kernel
theorem d_Mo_readStep_34 : decode prog_14_method_71_code 34 = .ok (.ifCond .ne 22, 3) := by decide +kernel
theorem d_Mo_readStep_37 : decode prog_14_method_71_code 37 = .ok (.aload_n 0, 1) := by decide +kernel
theorem d_Mo_readStep_38 : decode prog_14_method_71_code 38 = .ok (.getfield 301, 3) := by decide +kernel
theorem d_Mo_readStep_41 : decode prog_14_method_71_code 41 = .ok (.bipush 30, 2) := by decide +kernel
theorem d_Mo_readStep_43 : decode prog_14_method_71_code 43 = .ok (.if_icmp .ne 13, 3) := by decide +kernel
theorem d_Mo_readStep_46 : decode prog_14_method_71_code 46 = .ok (.aload_n 0, 1) := by decide +kernel
theorem d_Mo_readStep_47 : decode prog_14_method_71_code 47 = .ok (.bipush 6, 2) := by decide +kernel
theorem d_Mo_readStep_49 : decode prog_14_method_71_code 49 = .ok (.aload_n 0, 1) := by decide +kernel
theorem d_Mo_readStep_50 : decode prog_14_method_71_code 50 = .ok (.getfield 119, 3) := by decide +kernel
theorem d_Mo_readStep_53 : decode prog_14_method_71_code 53 = .ok (.invokevirtual 208, 3) := by decide +kernel
theorem d_Mo_readStep_56 : decode prog_14_method_71_code 56 = .ok (.aload_n 0, 1) := by decide +kernel
theorem d_Mo_readStep_57 : decode prog_14_method_71_code 57 = .ok (.getfield 202, 3) := by decide +kernel
theorem d_Mo_readStep_60 : decode prog_14_method_71_code 60 = .ok (.ifCond .ne 22, 3) := by decide +kernel
theorem d_Mo_readStep_63 : decode prog_14_method_71_code 63 = .ok (.iload_n 3, 1) := by decide +kernel
theorem d_Mo_readStep_64 : decode prog_14_method_71_code 64 = .ok (.ifCond .eq 18, 3) := by decide +kernel
theorem d_Mo_readStep_67 : decode prog_14_method_71_code 67 = .ok (.iload_n 1, 1) := by decide +kernel
theorem d_Mo_readStep_68 : decode prog_14_method_71_code 68 = .ok (.iconst 3, 1) := by decide +kernel
theorem d_Mo_readStep_69 : decode prog_14_method_71_code 69 = .ok (.if_icmp .ne 13, 3) := by decide +kernel
theorem d_Mo_readStep_72 : decode prog_14_method_71_code 72 = .ok (.aload_n 0, 1) := by decide +kernel
theorem d_Mo_readStep_73 : decode prog_14_method_71_code 73 = .ok (.bipush 7, 2) := by decide +kernel
theorem d_Mo_readStep_75 : decode prog_14_method_71_code 75 = .ok (.aload_n 0, 1) := by decide +kernel
theorem d_Mo_readStep_76 : decode prog_14_method_71_code 76 = .ok (.getfield 119, 3) := by decide +kernel
theorem d_Mo_readStep_79 : decode prog_14_method_71_code 79 = .ok (.invokevirtual 208, 3) := by decide +kernel
theorem d_Mo_readStep_82 : decode prog_14_method_71_code 82 = .ok (.aload_n 0, 1) := by decide +kernel
theorem d_Mo_readStep_83 : decode prog_14_method_71_code 83 = .ok (.getfield 202, 3) := by decide +kernel
theorem d_Mo_readStep_86 : decode prog_14_method_71_code 86 = .ok (.ifCond .le 4, 3) := by decide +kernel
theorem d_Mo_readStep_89 : decode prog_14_method_71_code 89 = .ok (.return_, 1) := by decide +kernel
theorem d_Mo_readStep_90 : decode prog_14_method_71_code 90 = .ok (.sipush 1525, 3) := by decide +kernel
theorem d_Mo_readStep_93 : decode prog_14_method_71_code 93 = .ok (.bipush 9, 2) := by decide +kernel
theorem d_Mo_readStep_95 : decode prog_14_method_71_code 95 = .ok (.aload_n 0, 1) := by decide +kernel
theorem d_Mo_readStep_96 : decode prog_14_method_71_code 96 = .ok (.getfield 301, 3) := by decide +kernel
theorem d_Mo_readStep_99 : decode prog_14_method_71_code 99 = .ok (.imul, 1) := by decide +kernel
theorem d_Mo_readStep_100 : decode prog_14_method_71_code 100 = .ok (.iadd, 1) := by decide +kernel
theorem d_Mo_readStep_101 : decode prog_14_method_71_code 101 = .ok (.istore 4, 2) := by decide +kernel
theorem d_Mo_readStep_103 : decode prog_14_method_71_code 103 = .ok (.aload_n 0, 1) := by decide +kernel
theorem d_Mo_readStep_104 : decode prog_14_method_71_code 104 = .ok (.dup, 1) := by decide +kernel
theorem d_Mo_readStep_105 : decode prog_14_method_71_code 105 = .ok (.getfield 301, 3) := by decide +kernel
theorem d_Mo_readStep_108 : decode prog_14_method_71_code 108 = .ok (.iconst 1, 1) := by decide +kernel
theorem d_Mo_readStep_109 : decode prog_14_method_71_code 109 = .ok (.iadd, 1) := by decide +kernel
theorem d_Mo_readStep_110 : decode prog_14_method_71_code 110 = .ok (.putfield 301, 3) := by decide +kernel
theorem d_Mo_readStep_113 : decode prog_14_method_71_code 113 = .ok (.aload_n 0, 1) := by decide +kernel
theorem d_Mo_readStep_114 : decode prog_14_method_71_code 114 = .ok (.invokevirtual 212, 3) := by decide +kernel
theorem d_Mo_readStep_117 : decode prog_14_method_71_code 117 = .ok (.aload_n 0, 1) := by decide +kernel
theorem d_Mo_readStep_118 : decode prog_14_method_71_code 118 = .ok (.getfield 35, 3) := by decide +kernel
theorem d_Mo_readStep_121 : decode prog_14_method_71_code 121 = .ok (.iload 4, 2) := by decide +kernel
theorem d_Mo_readStep_123 : decode prog_14_method_71_code 123 = .ok (.iload_n 2, 1) := by decide +kernel
theorem d_Mo_readStep_124 : decode prog_14_method_71_code 124 = .ok (.iastore, 1) := by decide +kernel
theorem d_Mo_readStep_125 : decode prog_14_method_71_code 125 = .ok (.aload_n 0, 1) := by decide +kernel
theorem d_Mo_readStep_126 : decode prog_14_method_71_code 126 = .ok (.iload 4, 2) := by decide +kernel
theorem d_Mo_readStep_128 : decode prog_14_method_71_code 128 = .ok (.invokevirtual 304, 3) := by decide +kernel
theorem d_Mo_readStep_131 : decode prog_14_method_71_code 131 = .ok (.aload_n 0, 1) := by decide +kernel
theorem d_Mo_readStep_132 : decode prog_14_method_71_code 132 = .ok (.aload_n 0, 1) := by decide +kernel
theorem d_Mo_readStep_133 : decode prog_14_method_71_code 133 = .ok (.bipush 59, 2) := by decide +kernel
theorem d_Mo_readStep_135 : decode prog_14_method_71_code 135 = .ok (.invokevirtual 289, 3) := by decide +kernel
theorem d_Mo_readStep_138 : decode prog_14_method_71_code 138 = .ok (.invokevirtual 239, 3) := by decide +kernel
theorem d_Mo_readStep_141 : decode prog_14_method_71_code 141 = .ok (.iload_n 3, 1) := by decide +kernel
theorem d_Mo_readStep_142 : decode prog_14_method_71_code 142 = .ok (.ifCond .eq 27, 3) := by decide +kernel
theorem d_Mo_readStep_145 : decode prog_14_method_71_code 145 = .ok (.aload_n 0, 1) := by decide +kernel
theorem d_Mo_readStep_146 : decode prog_14_method_71_code 146 = .ok (.getfield 202, 3) := by decide +kernel
theorem d_Mo_readStep_149 : decode prog_14_method_71_code 149 = .ok (.ifCond .ne 20, 3) := by decide +kernel
theorem d_Mo_readStep_152 : decode prog_14_method_71_code 152 = .ok (.aload_n 0, 1) := by decide +kernel
theorem d_Mo_readStep_153 : decode prog_14_method_71_code 153 = .ok (.invokevirtual 196, 3) := by decide +kernel
theorem d_Mo_readStep_156 : decode prog_14_method_71_code 156 = .ok (.ifCond .ne 13, 3) := by decide +kernel
theorem d_Mo_readStep_159 : decode prog_14_method_71_code 159 = .ok (.aload_n 0, 1) := by decide +kernel
theorem d_Mo_readStep_160 : decode prog_14_method_71_code 160 = .ok (.iload_n 1, 1) := by decide +kernel
theorem d_Mo_readStep_161 : decode prog_14_method_71_code 161 = .ok (.iconst 1, 1) := by decide +kernel
theorem d_Mo_readStep_162 : decode prog_14_method_71_code 162 = .ok (.iadd, 1) := by decide +kernel
theorem d_Mo_readStep_163 : decode prog_14_method_71_code 163 = .ok (.invokevirtual 307, 3) := by decide +kernel
theorem d_Mo_readStep_166 : decode prog_14_method_71_code 166 = .ok (.goto (-25), 3) := by decide +kernel
theorem d_Mo_readStep_169 : decode prog_14_method_71_code 169 = .ok (.iload_n 3, 1) := by decide +kernel
theorem d_Mo_readStep_170 : decode prog_14_method_71_code 170 = .ok (.ifCond .eq 21, 3) := by decide +kernel
theorem d_Mo_readStep_173 : decode prog_14_method_71_code 173 = .ok (.aload_n 0, 1) := by decide +kernel
theorem d_Mo_readStep_174 : decode prog_14_method_71_code 174 = .ok (.aload_n 0, 1) := by decide +kernel
theorem d_Mo_readStep_175 : decode prog_14_method_71_code 175 = .ok (.invokevirtual 196, 3) := by decide +kernel
theorem d_Mo_readStep_178 : decode prog_14_method_71_code 178 = .ok (.invokevirtual 239, 3) := by decide +kernel
theorem d_Mo_readStep_181 : decode prog_14_method_71_code 181 = .ok (.aload_n 0, 1) := by decide +kernel
theorem d_Mo_readStep_182 : decode prog_14_method_71_code 182 = .ok (.aload_n 0, 1) := by decide +kernel
theorem d_Mo_readStep_183 : decode prog_14_method_71_code 183 = .ok (.bipush 59, 2) := by decide +kernel
theorem d_Mo_readStep_185 : decode prog_14_method_71_code 185 = .ok (.invokevirtual 289, 3) := by decide +kernel
theorem d_Mo_readStep_188 : decode prog_14_method_71_code 188 = .ok (.invokevirtual 239, 3) := by decide +kernel
theorem d_Mo_readStep_191 : decode prog_14_method_71_code 191 = .ok (.aload_n 0, 1) := by decide +kernel
theorem d_Mo_readStep_192 : decode prog_14_method_71_code 192 = .ok (.getfield 35, 3) := by decide +kernel
theorem d_Mo_readStep_195 : decode prog_14_method_71_code 195 = .ok (.iload 4, 2) := by decide +kernel
theorem d_Mo_readStep_197 : decode prog_14_method_71_code 197 = .ok (.bipush 8, 2) := by decide +kernel
theorem d_Mo_readStep_199 : decode prog_14_method_71_code 199 = .ok (.iadd, 1) := by decide +kernel
theorem d_Mo_readStep_200 : decode prog_14_method_71_code 200 = .ok (.aload_n 0, 1) := by decide +kernel
theorem d_Mo_readStep_201 : decode prog_14_method_71_code 201 = .ok (.getfield 301, 3) := by decide +kernel
theorem d_Mo_readStep_204 : decode prog_14_method_71_code 204 = .ok (.iastore, 1) := by decide +kernel
theorem d_Mo_readStep_205 : decode prog_14_method_71_code 205 = .ok (.return_, 1) := by decide +kernel
theorem d_Mo_readRest_0 : decode prog_14_method_70_code 0 = .ok (.aload_n 0, 1) := by decide +kernel
theorem d_Mo_readRest_1 : decode prog_14_method_70_code 1 = .ok (.getfield 35, 3) := by decide +kernel
theorem d_Mo_readRest_4 : decode prog_14_method_70_code 4 = .ok (.iload_n 1, 1) := by decide +kernel
theorem d_Mo_readRest_5 : decode prog_14_method_70_code 5 = .ok (.iaload, 1) := by decide +kernel
theorem d_Mo_readRest_6 : decode prog_14_method_70_code 6 = .ok (.istore_n 2, 1) := by decide +kernel
theorem d_Mo_readRest_7 : decode prog_14_method_70_code 7 = .ok (.iload_n 2, 1) := by decide +kernel
theorem d_Mo_readRest_8 : decode prog_14_method_70_code 8 = .ok (.bipush 6, 2) := by decide +kernel
theorem d_Mo_readRest_10 : decode prog_14_method_70_code 10 = .ok (.if_icmp .ne 21, 3) := by decide +kernel
theorem d_Mo_readRest_13 : decode prog_14_method_70_code 13 = .ok (.aload_n 0, 1) := by decide +kernel
theorem d_Mo_readRest_14 : decode prog_14_method_70_code 14 = .ok (.getfield 35, 3) := by decide +kernel
theorem d_Mo_readRest_17 : decode prog_14_method_70_code 17 = .ok (.iload_n 1, 1) := by decide +kernel
theorem d_Mo_readRest_18 : decode prog_14_method_70_code 18 = .ok (.iconst 1, 1) := by decide +kernel
theorem d_Mo_readRest_19 : decode prog_14_method_70_code 19 = .ok (.iadd, 1) := by decide +kernel
theorem d_Mo_readRest_20 : decode prog_14_method_70_code 20 = .ok (.aload_n 0, 1) := by decide +kernel
theorem d_Mo_readRest_21 : decode prog_14_method_70_code 21 = .ok (.iconst 1, 1) := by decide +kernel
theorem d_Mo_readRest_22 : decode prog_14_method_70_code 22 = .ok (.bipush 99, 2) := by decide +kernel
theorem d_Mo_readRest_24 : decode prog_14_method_70_code 24 = .ok (.invokevirtual 247, 3) := by decide +kernel
theorem d_Mo_readRest_27 : decode prog_14_method_70_code 27 = .ok (.iastore, 1) := by decide +kernel
theorem d_Mo_readRest_28 : decode prog_14_method_70_code 28 = .ok (.goto 93, 3) := by decide +kernel
theorem d_Mo_readRest_31 : decode prog_14_method_70_code 31 = .ok (.iload_n 2, 1) := by decide +kernel
theorem d_Mo_readRest_32 : decode prog_14_method_70_code 32 = .ok (.iconst 5, 1) := by decide +kernel
theorem d_Mo_readRest_33 : decode prog_14_method_70_code 33 = .ok (.if_icmp .ne 11, 3) := by decide +kernel
theorem d_Mo_readRest_36 : decode prog_14_method_70_code 36 = .ok (.aload_n 0, 1) := by decide +kernel
theorem d_Mo_readRest_37 : decode prog_14_method_70_code 37 = .ok (.iload_n 1, 1) := by decide +kernel
theorem d_Mo_readRest_38 : decode prog_14_method_70_code 38 = .ok (.invokevirtual 298, 3) := by decide +kernel
theorem d_Mo_readRest_41 : decode prog_14_method_70_code 41 = .ok (.goto 80, 3) := by decide +kernel
theorem d_Mo_readRest_44 : decode prog_14_method_70_code 44 = .ok (.iload_n 2, 1) := by decide +kernel
theorem d_Mo_readRest_45 : decode prog_14_method_70_code 45 = .ok (.ifCond .eq 8, 3) := by decide +kernel
theorem d_Mo_readRest_48 : decode prog_14_method_70_code 48 = .ok (.iload_n 2, 1) := by decide +kernel
theorem d_Mo_readRest_49 : decode prog_14_method_70_code 49 = .ok (.iconst 1, 1) := by decide +kernel
theorem d_Mo_readRest_50 : decode prog_14_method_70_code 50 = .ok (.if_icmp .ne 38, 3) := by decide +kernel
theorem d_Mo_readRest_53 : decode prog_14_method_70_code 53 = .ok (.aload_n 0, 1) := by decide +kernel
theorem d_Mo_readRest_54 : decode prog_14_method_70_code 54 = .ok (.getfield 35, 3) := by decide +kernel
theorem d_Mo_readRest_57 : decode prog_14_method_70_code 57 = .ok (.iload_n 1, 1) := by decide +kernel
theorem d_Mo_readRest_58 : decode prog_14_method_70_code 58 = .ok (.iconst 1, 1) := by decide +kernel
theorem d_Mo_readRest_59 : decode prog_14_method_70_code 59 = .ok (.iadd, 1) := by decide +kernel
theorem d_Mo_readRest_60 : decode prog_14_method_70_code 60 = .ok (.aload_n 0, 1) := by decide +kernel
theorem d_Mo_readRest_61 : decode prog_14_method_70_code 61 = .ok (.iconst 0, 1) := by decide +kernel
theorem d_Mo_readRest_62 : decode prog_14_method_70_code 62 = .ok (.iconst 3, 1) := by decide +kernel
theorem d_Mo_readRest_63 : decode prog_14_method_70_code 63 = .ok (.invokevirtual 257, 3) := by decide +kernel
theorem d_Mo_readRest_66 : decode prog_14_method_70_code 66 = .ok (.iastore, 1) := by decide +kernel
theorem d_Mo_readRest_67 : decode prog_14_method_70_code 67 = .ok (.iload_n 2, 1) := by decide +kernel
theorem d_Mo_readRest_68 : decode prog_14_method_70_code 68 = .ok (.ifCond .ne 53, 3) := by decide +kernel
theorem d_Mo_readRest_71 : decode prog_14_method_70_code 71 = .ok (.aload_n 0, 1) := by decide +kernel
theorem d_Mo_readRest_72 : decode prog_14_method_70_code 72 = .ok (.getfield 35, 3) := by decide +kernel
theorem d_Mo_readRest_75 : decode prog_14_method_70_code 75 = .ok (.iload_n 1, 1) := by decide +kernel
theorem d_Mo_readRest_76 : decode prog_14_method_70_code 76 = .ok (.iconst 2, 1) := by decide +kernel
theorem d_Mo_readRest_77 : decode prog_14_method_70_code 77 = .ok (.iadd, 1) := by decide +kernel
theorem d_Mo_readRest_78 : decode prog_14_method_70_code 78 = .ok (.aload_n 0, 1) := by decide +kernel
theorem d_Mo_readRest_79 : decode prog_14_method_70_code 79 = .ok (.iconst 0, 1) := by decide +kernel
theorem d_Mo_readRest_80 : decode prog_14_method_70_code 80 = .ok (.iconst 1, 1) := by decide +kernel
theorem d_Mo_readRest_81 : decode prog_14_method_70_code 81 = .ok (.invokevirtual 257, 3) := by decide +kernel
theorem d_Mo_readRest_84 : decode prog_14_method_70_code 84 = .ok (.iastore, 1) := by decide +kernel
theorem d_Mo_readRest_85 : decode prog_14_method_70_code 85 = .ok (.goto 36, 3) := by decide +kernel
theorem d_Mo_readRest_88 : decode prog_14_method_70_code 88 = .ok (.iload_n 2, 1) := by decide +kernel
theorem d_Mo_readRest_89 : decode prog_14_method_70_code 89 = .ok (.iconst 4, 1) := by decide +kernel
theorem d_Mo_readRest_90 : decode prog_14_method_70_code 90 = .ok (.if_icmp .ge 31, 3) := by decide +kernel
theorem d_Mo_readRest_93 : decode prog_14_method_70_code 93 = .ok (.aload_n 0, 1) := by decide +kernel
theorem d_Mo_readRest_94 : decode prog_14_method_70_code 94 = .ok (.getfield 35, 3) := by decide +kernel
theorem d_Mo_readRest_97 : decode prog_14_method_70_code 97 = .ok (.iload_n 1, 1) := by decide +kernel
theorem d_Mo_readRest_98 : decode prog_14_method_70_code 98 = .ok (.iconst 1, 1) := by decide +kernel
theorem d_Mo_readRest_99 : decode prog_14_method_70_code 99 = .ok (.iadd, 1) := by decide +kernel
theorem d_Mo_readRest_100 : decode prog_14_method_70_code 100 = .ok (.aload_n 0, 1) := by decide +kernel
theorem d_Mo_readRest_101 : decode prog_14_method_70_code 101 = .ok (.iconst 0, 1) := by decide +kernel
theorem d_Mo_readRest_102 : decode prog_14_method_70_code 102 = .ok (.iconst 1, 1) := by decide +kernel
theorem d_Mo_readRest_103 : decode prog_14_method_70_code 103 = .ok (.invokevirtual 257, 3) := by decide +kernel
theorem d_Mo_readRest_106 : decode prog_14_method_70_code 106 = .ok (.iastore, 1) := by decide +kernel
theorem d_Mo_readRest_107 : decode prog_14_method_70_code 107 = .ok (.aload_n 0, 1) := by decide +kernel
theorem d_Mo_readRest_108 : decode prog_14_method_70_code 108 = .ok (.getfield 35, 3) := by decide +kernel
theorem d_Mo_readRest_111 : decode prog_14_method_70_code 111 = .ok (.iload_n 1, 1) := by decide +kernel
theorem d_Mo_readRest_112 : decode prog_14_method_70_code 112 = .ok (.iconst 2, 1) := by decide +kernel
theorem d_Mo_readRest_113 : decode prog_14_method_70_code 113 = .ok (.iadd, 1) := by decide +kernel
theorem d_Mo_readRest_114 : decode prog_14_method_70_code 114 = .ok (.aload_n 0, 1) := by decide +kernel
theorem d_Mo_readRest_115 : decode prog_14_method_70_code 115 = .ok (.iconst 0, 1) := by decide +kernel
theorem d_Mo_readRest_116 : decode prog_14_method_70_code 116 = .ok (.iconst 0, 1) := by decide +kernel
theorem d_Mo_readRest_117 : decode prog_14_method_70_code 117 = .ok (.invokevirtual 257, 3) := by decide +kernel
theorem d_Mo_readRest_120 : decode prog_14_method_70_code 120 = .ok (.iastore, 1) := by decide +kernel
theorem d_Mo_readRest_121 : decode prog_14_method_70_code 121 = .ok (.return_, 1) := by decide +kernel
theorem d_Mo_readTest_0 : decode prog_14_method_69_code 0 = .ok (.aload_n 0, 1) := by decide +kernel
theorem d_Mo_readTest_1 : decode prog_14_method_69_code 1 = .ok (.invokevirtual 193, 3) := by decide +kernel
theorem d_Mo_readTest_4 : decode prog_14_method_69_code 4 = .ok (.istore_n 2, 1) := by decide +kernel
theorem d_Mo_readTest_5 : decode prog_14_method_69_code 5 = .ok (.aload_n 0, 1) := by decide +kernel
theorem d_Mo_readTest_6 : decode prog_14_method_69_code 6 = .ok (.iload_n 2, 1) := by decide +kernel
theorem d_Mo_readTest_7 : decode prog_14_method_69_code 7 = .ok (.ifCond .lt 7, 3) := by decide +kernel
theorem d_Mo_readTest_10 : decode prog_14_method_69_code 10 = .ok (.iconst 1, 1) := by decide +kernel
theorem d_Mo_readTest_11 : decode prog_14_method_69_code 11 = .ok (.goto 4, 3) := by decide +kernel
theorem d_Mo_readTest_14 : decode prog_14_method_69_code 14 = .ok (.iconst 0, 1) := by decide +kernel
theorem d_Mo_readTest_15 : decode prog_14_method_69_code 15 = .ok (.invokevirtual 239, 3) := by decide +kernel
theorem d_Mo_readTest_18 : decode prog_14_method_69_code 18 = .ok (.aload_n 0, 1) := by decide +kernel
theorem d_Mo_readTest_19 : decode prog_14_method_69_code 19 = .ok (.getfield 35, 3) := by decide +kernel
theorem d_Mo_readTest_22 : decode prog_14_method_69_code 22 = .ok (.iload_n 1, 1) := by decide +kernel
theorem d_Mo_readTest_23 : decode prog_14_method_69_code 23 = .ok (.iconst 5, 1) := by decide +kernel
theorem d_Mo_readTest_24 : decode prog_14_method_69_code 24 = .ok (.iadd, 1) := by decide +kernel
theorem d_Mo_readTest_25 : decode prog_14_method_69_code 25 = .ok (.iload_n 2, 1) := by decide +kernel
theorem d_Mo_readTest_26 : decode prog_14_method_69_code 26 = .ok (.iastore, 1) := by decide +kernel
theorem d_Mo_readTest_27 : decode prog_14_method_69_code 27 = .ok (.aload_n 0, 1) := by decide +kernel
theorem d_Mo_readTest_28 : decode prog_14_method_69_code 28 = .ok (.getfield 202, 3) := by decide +kernel
theorem d_Mo_readTest_31 : decode prog_14_method_69_code 31 = .ok (.ifCond .le 4, 3) := by decide +kernel
theorem d_Mo_readTest_34 : decode prog_14_method_69_code 34 = .ok (.return_, 1) := by decide +kernel
theorem d_Mo_readTest_35 : decode prog_14_method_69_code 35 = .ok (.aload_n 0, 1) := by decide +kernel
theorem d_Mo_readTest_36 : decode prog_14_method_69_code 36 = .ok (.getfield 35, 3) := by decide +kernel
theorem d_Mo_readTest_39 : decode prog_14_method_69_code 39 = .ok (.iload_n 1, 1) := by decide +kernel
theorem d_Mo_readTest_40 : decode prog_14_method_69_code 40 = .ok (.iconst 1, 1) := by decide +kernel
theorem d_Mo_readTest_41 : decode prog_14_method_69_code 41 = .ok (.iadd, 1) := by decide +kernel
theorem d_Mo_readTest_42 : decode prog_14_method_69_code 42 = .ok (.aload_n 0, 1) := by decide +kernel
theorem d_Mo_readTest_43 : decode prog_14_method_69_code 43 = .ok (.iconst 0, 1) := by decide +kernel
theorem d_Mo_readTest_44 : decode prog_14_method_69_code 44 = .ok (.iload_n 2, 1) := by decide +kernel
theorem d_Mo_readTest_45 : decode prog_14_method_69_code 45 = .ok (.iconst 1, 1) := by decide +kernel
theorem d_Mo_readTest_46 : decode prog_14_method_69_code 46 = .ok (.if_icmp .ne 7, 3) := by decide +kernel
theorem d_Mo_readTest_49 : decode prog_14_method_69_code 49 = .ok (.iconst 1, 1) := by decide +kernel
theorem d_Mo_readTest_50 : decode prog_14_method_69_code 50 = .ok (.goto 4, 3) := by decide +kernel
theorem d_Mo_readTest_53 : decode prog_14_method_69_code 53 = .ok (.iconst 3, 1) := by decide +kernel
theorem d_Mo_readTest_54 : decode prog_14_method_69_code 54 = .ok (.invokevirtual 257, 3) := by decide +kernel
theorem d_Mo_readTest_57 : decode prog_14_method_69_code 57 = .ok (.iastore, 1) := by decide +kernel
theorem d_Mo_readTest_58 : decode prog_14_method_69_code 58 = .ok (.iload_n 2, 1) := by decide +kernel
theorem d_Mo_readTest_59 : decode prog_14_method_69_code 59 = .ok (.ifCond .ne 17, 3) := by decide +kernel
theorem d_Mo_readTest_62 : decode prog_14_method_69_code 62 = .ok (.aload_n 0, 1) := by decide +kernel
theorem d_Mo_readTest_63 : decode prog_14_method_69_code 63 = .ok (.getfield 35, 3) := by decide +kernel
theorem d_Mo_readTest_66 : decode prog_14_method_69_code 66 = .ok (.iload_n 1, 1) := by decide +kernel
theorem d_Mo_readTest_67 : decode prog_14_method_69_code 67 = .ok (.iconst 2, 1) := by decide +kernel
theorem d_Mo_readTest_68 : decode prog_14_method_69_code 68 = .ok (.iadd, 1) := by decide +kernel
theorem d_Mo_readTest_69 : decode prog_14_method_69_code 69 = .ok (.aload_n 0, 1) := by decide +kernel
theorem d_Mo_readTest_70 : decode prog_14_method_69_code 70 = .ok (.iconst 0, 1) := by decide +kernel
theorem d_Mo_readTest_71 : decode prog_14_method_69_code 71 = .ok (.iconst 1, 1) := by decide +kernel
theorem d_Mo_readTest_72 : decode prog_14_method_69_code 72 = .ok (.invokevirtual 257, 3) := by decide +kernel
theorem d_Mo_readTest_75 : decode prog_14_method_69_code 75 = .ok (.iastore, 1) := by decide +kernel
theorem d_Mo_readTest_76 : decode prog_14_method_69_code 76 = .ok (.aload_n 0, 1) := by decide +kernel
theorem d_Mo_readTest_77 : decode prog_14_method_69_code 77 = .ok (.getfield 202, 3) := by decide +kernel
theorem d_Mo_readTest_80 : decode prog_14_method_69_code 80 = .ok (.ifCond .gt 8, 3) := by decide +kernel
theorem d_Mo_readTest_83 : decode prog_14_method_69_code 83 = .ok (.iload_n 2, 1) := by decide +kernel
theorem d_Mo_readTest_84 : decode prog_14_method_69_code 84 = .ok (.iconst 1, 1) := by decide +kernel
theorem d_Mo_readTest_85 : decode prog_14_method_69_code 85 = .ok (.if_icmp .eq 4, 3) := by decide +kernel
theorem d_Mo_readTest_88 : decode prog_14_method_69_code 88 = .ok (.return_, 1) := by decide +kernel
theorem d_Mo_readTest_89 : decode prog_14_method_69_code 89 = .ok (.aload_n 0, 1) := by decide +kernel
theorem d_Mo_readTest_90 : decode prog_14_method_69_code 90 = .ok (.getfield 35, 3) := by decide +kernel
theorem d_Mo_readTest_93 : decode prog_14_method_69_code 93 = .ok (.iload_n 1, 1) := by decide +kernel
theorem d_Mo_readTest_94 : decode prog_14_method_69_code 94 = .ok (.bipush 7, 2) := by decide +kernel
theorem d_Mo_readTest_96 : decode prog_14_method_69_code 96 = .ok (.iadd, 1) := by decide +kernel
theorem d_Mo_readTest_97 : decode prog_14_method_69_code 97 = .ok (.aload_n 0, 1) := by decide +kernel
theorem d_Mo_readTest_98 : decode prog_14_method_69_code 98 = .ok (.getfield 125, 3) := by decide +kernel
theorem d_Mo_readTest_101 : decode prog_14_method_69_code 101 = .ok (.iconst 3, 1) := by decide +kernel
theorem d_Mo_readTest_102 : decode prog_14_method_69_code 102 = .ok (.if_icmp .ne 10, 3) := by decide +kernel
theorem d_Mo_readTest_105 : decode prog_14_method_69_code 105 = .ok (.aload_n 0, 1) := by decide +kernel
theorem d_Mo_readTest_106 : decode prog_14_method_69_code 106 = .ok (.getfield 144, 3) := by decide +kernel
theorem d_Mo_readTest_109 : decode prog_14_method_69_code 109 = .ok (.goto 4, 3) := by decide +kernel
theorem d_Mo_readTest_112 : decode prog_14_method_69_code 112 = .ok (.iconst 0, 1) := by decide +kernel
theorem d_Mo_readTest_113 : decode prog_14_method_69_code 113 = .ok (.iastore, 1) := by decide +kernel
theorem d_Mo_readTest_114 : decode prog_14_method_69_code 114 = .ok (.aload_n 0, 1) := by decide +kernel
theorem d_Mo_readTest_115 : decode prog_14_method_69_code 115 = .ok (.aload_n 0, 1) := by decide +kernel
theorem d_Mo_readTest_116 : decode prog_14_method_69_code 116 = .ok (.bipush 60, 2) := by decide +kernel
theorem d_Mo_readTest_118 : decode prog_14_method_69_code 118 = .ok (.invokevirtual 289, 3) := by decide +kernel
theorem d_Mo_readTest_121 : decode prog_14_method_69_code 121 = .ok (.ifCond .ne 21, 3) := by decide +kernel
theorem d_Mo_readTest_124 : decode prog_14_method_69_code 124 = .ok (.aload_n 0, 1) := by decide +kernel
theorem d_Mo_readTest_125 : decode prog_14_method_69_code 125 = .ok (.bipush 62, 2) := by decide +kernel
theorem d_Mo_readTest_127 : decode prog_14_method_69_code 127 = .ok (.invokevirtual 289, 3) := by decide +kernel
theorem d_Mo_readTest_130 : decode prog_14_method_69_code 130 = .ok (.ifCond .ne 12, 3) := by decide +kernel
theorem d_Mo_readTest_133 : decode prog_14_method_69_code 133 = .ok (.aload_n 0, 1) := by decide +kernel
theorem d_Mo_readTest_134 : decode prog_14_method_69_code 134 = .ok (.bipush 61, 2) := by decide +kernel
theorem d_Mo_readTest_136 : decode prog_14_method_69_code 136 = .ok (.invokevirtual 289, 3) := by decide +kernel
theorem d_Mo_readTest_139 : decode prog_14_method_69_code 139 = .ok (.ifCond .eq 7, 3) := by decide +kernel
theorem d_Mo_readTest_142 : decode prog_14_method_69_code 142 = .ok (.iconst 1, 1) := by decide +kernel
theorem d_Mo_readTest_143 : decode prog_14_method_69_code 143 = .ok (.goto 4, 3) := by decide +kernel
theorem d_Mo_readTest_146 : decode prog_14_method_69_code 146 = .ok (.iconst 0, 1) := by decide +kernel
theorem d_Mo_readTest_147 : decode prog_14_method_69_code 147 = .ok (.invokevirtual 239, 3) := by decide +kernel
theorem d_Mo_readTest_150 : decode prog_14_method_69_code 150 = .ok (.aload_n 0, 1) := by decide +kernel
theorem d_Mo_readTest_151 : decode prog_14_method_69_code 151 = .ok (.getfield 35, 3) := by decide +kernel
theorem d_Mo_readTest_154 : decode prog_14_method_69_code 154 = .ok (.iload_n 1, 1) := by decide +kernel
theorem d_Mo_readTest_155 : decode prog_14_method_69_code 155 = .ok (.bipush 6, 2) := by decide +kernel
theorem d_Mo_readTest_157 : decode prog_14_method_69_code 157 = .ok (.iadd, 1) := by decide +kernel
theorem d_Mo_readTest_158 : decode prog_14_method_69_code 158 = .ok (.aload_n 0, 1) := by decide +kernel
theorem d_Mo_readTest_159 : decode prog_14_method_69_code 159 = .ok (.iconst 0, 1) := by decide +kernel
theorem d_Mo_readTest_160 : decode prog_14_method_69_code 160 = .ok (.sipush 9999, 3) := by decide +kernel
theorem d_Mo_readTest_163 : decode prog_14_method_69_code 163 = .ok (.invokevirtual 247, 3) := by decide +kernel
theorem d_Mo_readTest_166 : decode prog_14_method_69_code 166 = .ok (.iastore, 1) := by decide +kernel
theorem d_Mo_readTest_167 : decode prog_14_method_69_code 167 = .ok (.return_, 1) := by decide +kernel
theorem d_Mo_many_0 : decode prog_14_method_84_code 0 = .ok (.aload_n 0, 1) := by decide +kernel
theorem d_Mo_many_1 : decode prog_14_method_84_code 1 = .ok (.iconst 0, 1) := by decide +kernel
theorem d_Mo_many_2 : decode prog_14_method_84_code 2 = .ok (.putfield 70, 3) := by decide +kernel
theorem d_Mo_many_5 : decode prog_14_method_84_code 5 = .ok (.aload_n 0, 1) := by decide +kernel
theorem d_Mo_many_6 : decode prog_14_method_84_code 6 = .ok (.iconst 0, 1) := by decide +kernel
theorem d_Mo_many_7 : decode prog_14_method_84_code 7 = .ok (.putfield 73, 3) := by decide +kernel
theorem d_Mo_many_10 : decode prog_14_method_84_code 10 = .ok (.iload_n 1, 1) := by decide +kernel
theorem d_Mo_many_11 : decode prog_14_method_84_code 11 = .ok (.i2l, 1) := by decide +kernel
theorem d_Mo_many_12 : decode prog_14_method_84_code 12 = .ok (.lconst 0, 1) := by decide +kernel
theorem d_Mo_many_13 : decode prog_14_method_84_code 13 = .ok (.ldc2_w 325, 3) := by decide +kernel
theorem d_Mo_many_16 : decode prog_14_method_84_code 16 = .ok (.invokestatic 105, 3) := by decide +kernel
theorem d_Mo_many_19 : decode prog_14_method_84_code 19 = .ok (.ifCond .ne 9, 3) := by decide +kernel
theorem d_Mo_many_22 : decode prog_14_method_84_code 22 = .ok (.aload_n 0, 1) := by decide +kernel
theorem d_Mo_many_23 : decode prog_14_method_84_code 23 = .ok (.iconst 5, 1) := by decide +kernel
theorem d_Mo_many_24 : decode prog_14_method_84_code 24 = .ok (.invokevirtual 327, 3) := by decide +kernel
theorem d_Mo_many_27 : decode prog_14_method_84_code 27 = .ok (.ireturn, 1) := by decide +kernel
theorem d_Mo_many_28 : decode prog_14_method_84_code 28 = .ok (.iload_n 1, 1) := by decide +kernel
theorem d_Mo_many_29 : decode prog_14_method_84_code 29 = .ok (.bipush 6, 2) := by decide +kernel
theorem d_Mo_many_31 : decode prog_14_method_84_code 31 = .ok (.if_icmp .ge 12, 3) := by decide +kernel
theorem d_Mo_many_34 : decode prog_14_method_84_code 34 = .ok (.aload_n 0, 1) := by decide +kernel
theorem d_Mo_many_35 : decode prog_14_method_84_code 35 = .ok (.getfield 35, 3) := by decide +kernel
theorem d_Mo_many_38 : decode prog_14_method_84_code 38 = .ok (.iload_n 1, 1) := by decide +kernel
theorem d_Mo_many_39 : decode prog_14_method_84_code 39 = .ok (.iaload, 1) := by decide +kernel
theorem d_Mo_many_40 : decode prog_14_method_84_code 40 = .ok (.goto 24, 3) := by decide +kernel
theorem d_Mo_many_43 : decode prog_14_method_84_code 43 = .ok (.iload_n 1, 1) := by decide +kernel
theorem d_Mo_many_44 : decode prog_14_method_84_code 44 = .ok (.bipush 9, 2) := by decide +kernel
theorem d_Mo_many_46 : decode prog_14_method_84_code 46 = .ok (.if_icmp .ge 14, 3) := by decide +kernel
theorem d_Mo_many_49 : decode prog_14_method_84_code 49 = .ok (.aload_n 0, 1) := by decide +kernel
theorem d_Mo_many_50 : decode prog_14_method_84_code 50 = .ok (.iload_n 1, 1) := by decide +kernel
theorem d_Mo_many_51 : decode prog_14_method_84_code 51 = .ok (.bipush 6, 2) := by decide +kernel
theorem d_Mo_many_53 : decode prog_14_method_84_code 53 = .ok (.isub, 1) := by decide +kernel
theorem d_Mo_many_54 : decode prog_14_method_84_code 54 = .ok (.invokevirtual 319, 3) := by decide +kernel
theorem d_Mo_many_57 : decode prog_14_method_84_code 57 = .ok (.goto 7, 3) := by decide +kernel
theorem d_Mo_many_60 : decode prog_14_method_84_code 60 = .ok (.aload_n 0, 1) := by decide +kernel
theorem d_Mo_many_61 : decode prog_14_method_84_code 61 = .ok (.invokevirtual 330, 3) := by decide +kernel
theorem d_Mo_many_64 : decode prog_14_method_84_code 64 = .ok (.ireturn, 1) := by decide +kernel
theorem d_Mo_refuse_0 : decode prog_14_method_6_code 0 = .ok (.aload_n 0, 1) := by decide +kernel
theorem d_Mo_refuse_1 : decode prog_14_method_6_code 1 = .ok (.iload_n 1, 1) := by decide +kernel
theorem d_Mo_refuse_2 : decode prog_14_method_6_code 2 = .ok (.putfield 73, 3) := by decide +kernel
theorem d_Mo_refuse_5 : decode prog_14_method_6_code 5 = .ok (.iconst (-1), 1) := by decide +kernel
theorem d_Mo_refuse_6 : decode prog_14_method_6_code 6 = .ok (.ireturn, 1) := by decide +kernel
theorem d_Mo_tinsThat_0 : decode prog_14_method_79_code 0 = .ok (.iconst 0, 1) := by decide +kernel
theorem d_Mo_tinsThat_1 : decode prog_14_method_79_code 1 = .ok (.istore_n 2, 1) := by decide +kernel
theorem d_Mo_tinsThat_2 : decode prog_14_method_79_code 2 = .ok (.iconst 0, 1) := by decide +kernel
theorem d_Mo_tinsThat_3 : decode prog_14_method_79_code 3 = .ok (.istore_n 3, 1) := by decide +kernel
theorem d_Mo_tinsThat_4 : decode prog_14_method_79_code 4 = .ok (.iload_n 3, 1) := by decide +kernel
theorem d_Mo_tinsThat_5 : decode prog_14_method_79_code 5 = .ok (.aload_n 0, 1) := by decide +kernel
theorem d_Mo_tinsThat_6 : decode prog_14_method_79_code 6 = .ok (.getfield 35, 3) := by decide +kernel
theorem d_Mo_tinsThat_9 : decode prog_14_method_79_code 9 = .ok (.iconst 3, 1) := by decide +kernel
theorem d_Mo_tinsThat_10 : decode prog_14_method_79_code 10 = .ok (.iaload, 1) := by decide +kernel
theorem d_Mo_tinsThat_11 : decode prog_14_method_79_code 11 = .ok (.if_icmp .ge 57, 3) := by decide +kernel
theorem d_Mo_tinsThat_14 : decode prog_14_method_79_code 14 = .ok (.iload_n 2, 1) := by decide +kernel
theorem d_Mo_tinsThat_15 : decode prog_14_method_79_code 15 = .ok (.iload_n 1, 1) := by decide +kernel
theorem d_Mo_tinsThat_16 : decode prog_14_method_79_code 16 = .ok (.ifCond .ne 14, 3) := by decide +kernel
theorem d_Mo_tinsThat_19 : decode prog_14_method_79_code 19 = .ok (.aload_n 0, 1) := by decide +kernel
theorem d_Mo_tinsThat_20 : decode prog_14_method_79_code 20 = .ok (.iload_n 3, 1) := by decide +kernel
theorem d_Mo_tinsThat_21 : decode prog_14_method_79_code 21 = .ok (.invokevirtual 310, 3) := by decide +kernel
theorem d_Mo_tinsThat_24 : decode prog_14_method_79_code 24 = .ok (.ifCond .eq 35, 3) := by decide +kernel
theorem d_Mo_tinsThat_27 : decode prog_14_method_79_code 27 = .ok (.goto 26, 3) := by decide +kernel
theorem d_Mo_tinsThat_30 : decode prog_14_method_79_code 30 = .ok (.aload_n 0, 1) := by decide +kernel
theorem d_Mo_tinsThat_31 : decode prog_14_method_79_code 31 = .ok (.getfield 35, 3) := by decide +kernel
theorem d_Mo_tinsThat_34 : decode prog_14_method_79_code 34 = .ok (.iload_n 1, 1) := by decide +kernel
theorem d_Mo_tinsThat_35 : decode prog_14_method_79_code 35 = .ok (.iconst 1, 1) := by decide +kernel
theorem d_Mo_tinsThat_36 : decode prog_14_method_79_code 36 = .ok (.if_icmp .ne 8, 3) := by decide +kernel
theorem d_Mo_tinsThat_39 : decode prog_14_method_79_code 39 = .ok (.bipush 60, 2) := by decide +kernel
theorem d_Mo_tinsThat_41 : decode prog_14_method_79_code 41 = .ok (.goto 5, 3) := by decide +kernel
theorem d_Mo_tinsThat_44 : decode prog_14_method_79_code 44 = .ok (.bipush 51, 2) := by decide +kernel
theorem d_Mo_tinsThat_46 : decode prog_14_method_79_code 46 = .ok (.iload_n 3, 1) := by decide +kernel
theorem d_Mo_tinsThat_47 : decode prog_14_method_79_code 47 = .ok (.iadd, 1) := by decide +kernel
theorem d_Mo_tinsThat_48 : decode prog_14_method_79_code 48 = .ok (.iaload, 1) := by decide +kernel
theorem d_Mo_tinsThat_49 : decode prog_14_method_79_code 49 = .ok (.iconst 1, 1) := by decide +kernel
theorem d_Mo_tinsThat_50 : decode prog_14_method_79_code 50 = .ok (.if_icmp .ne 9, 3) := by decide +kernel
theorem d_Mo_tinsThat_53 : decode prog_14_method_79_code 53 = .ok (.iconst 1, 1) := by decide +kernel
theorem d_Mo_tinsThat_54 : decode prog_14_method_79_code 54 = .ok (.iload_n 3, 1) := by decide +kernel
theorem d_Mo_tinsThat_55 : decode prog_14_method_79_code 55 = .ok (.ishl, 1) := by decide +kernel
theorem d_Mo_tinsThat_56 : decode prog_14_method_79_code 56 = .ok (.goto 4, 3) := by decide +kernel
theorem d_Mo_tinsThat_59 : decode prog_14_method_79_code 59 = .ok (.iconst 0, 1) := by decide +kernel
theorem d_Mo_tinsThat_60 : decode prog_14_method_79_code 60 = .ok (.ior, 1) := by decide +kernel
theorem d_Mo_tinsThat_61 : decode prog_14_method_79_code 61 = .ok (.istore_n 2, 1) := by decide +kernel
theorem d_Mo_tinsThat_62 : decode prog_14_method_79_code 62 = .ok (.iinc 3 1, 3) := by decide +kernel
theorem d_Mo_tinsThat_65 : decode prog_14_method_79_code 65 = .ok (.goto (-61), 3) := by decide +kernel
theorem d_Mo_tinsThat_68 : decode prog_14_method_79_code 68 = .ok (.iload_n 2, 1) := by decide +kernel
theorem d_Mo_tinsThat_69 : decode prog_14_method_79_code 69 = .ok (.ireturn, 1) := by decide +kernel
theorem d_Mo_isGone_0 : decode prog_14_method_76_code 0 = .ok (.aload_n 0, 1) := by decide +kernel
theorem d_Mo_isGone_1 : decode prog_14_method_76_code 1 = .ok (.getfield 35, 3) := by decide +kernel
theorem d_Mo_isGone_4 : decode prog_14_method_76_code 4 = .ok (.bipush 42, 2) := by decide +kernel
theorem d_Mo_isGone_6 : decode prog_14_method_76_code 6 = .ok (.iload_n 1, 1) := by decide +kernel
theorem d_Mo_isGone_7 : decode prog_14_method_76_code 7 = .ok (.iadd, 1) := by decide +kernel
theorem d_Mo_isGone_8 : decode prog_14_method_76_code 8 = .ok (.iaload, 1) := by decide +kernel
theorem d_Mo_isGone_9 : decode prog_14_method_76_code 9 = .ok (.ifCond .ge 7, 3) := by decide +kernel
theorem d_Mo_isGone_12 : decode prog_14_method_76_code 12 = .ok (.iconst 1, 1) := by decide +kernel
theorem d_Mo_isGone_13 : decode prog_14_method_76_code 13 = .ok (.goto 4, 3) := by decide +kernel
theorem d_Mo_isGone_16 : decode prog_14_method_76_code 16 = .ok (.iconst 0, 1) := by decide +kernel
theorem d_Mo_isGone_17 : decode prog_14_method_76_code 17 = .ok (.ireturn, 1) := by decide +kernel
theorem d_Mo_allThere_0 : decode prog_14_method_83_code 0 = .ok (.aload_n 0, 1) := by decide +kernel
theorem d_Mo_allThere_1 : decode prog_14_method_83_code 1 = .ok (.aload_n 0, 1) := by decide +kernel
theorem d_Mo_allThere_2 : decode prog_14_method_83_code 2 = .ok (.invokevirtual 316, 3) := by decide +kernel
theorem d_Mo_allThere_5 : decode prog_14_method_83_code 5 = .ok (.aload_n 0, 1) := by decide +kernel
theorem d_Mo_allThere_6 : decode prog_14_method_83_code 6 = .ok (.iconst 0, 1) := by decide +kernel
theorem d_Mo_allThere_7 : decode prog_14_method_83_code 7 = .ok (.invokevirtual 319, 3) := by decide +kernel
theorem d_Mo_allThere_10 : decode prog_14_method_83_code 10 = .ok (.iconst (-1), 1) := by decide +kernel
theorem d_Mo_allThere_11 : decode prog_14_method_83_code 11 = .ok (.ixor, 1) := by decide +kernel
theorem d_Mo_allThere_12 : decode prog_14_method_83_code 12 = .ok (.iand, 1) := by decide +kernel
theorem d_Mo_allThere_13 : decode prog_14_method_83_code 13 = .ok (.invokevirtual 322, 3) := by decide +kernel
theorem d_Mo_allThere_16 : decode prog_14_method_83_code 16 = .ok (.ireturn, 1) := by decide +kernel
theorem d_Mo_allTins_0 : decode prog_14_method_82_code 0 = .ok (.iconst 1, 1) := by decide +kernel
theorem d_Mo_allTins_1 : decode prog_14_method_82_code 1 = .ok (.aload_n 0, 1) := by decide +kernel
theorem d_Mo_allTins_2 : decode prog_14_method_82_code 2 = .ok (.getfield 35, 3) := by decide +kernel
theorem d_Mo_allTins_5 : decode prog_14_method_82_code 5 = .ok (.iconst 3, 1) := by decide +kernel
theorem d_Mo_allTins_6 : decode prog_14_method_82_code 6 = .ok (.iaload, 1) := by decide +kernel
theorem d_Mo_allTins_7 : decode prog_14_method_82_code 7 = .ok (.ishl, 1) := by decide +kernel
theorem d_Mo_allTins_8 : decode prog_14_method_82_code 8 = .ok (.iconst 1, 1) := by decide +kernel
theorem d_Mo_allTins_9 : decode prog_14_method_82_code 9 = .ok (.isub, 1) := by decide +kernel
theorem d_Mo_allTins_10 : decode prog_14_method_82_code 10 = .ok (.ireturn, 1) := by decide +kernel
theorem d_Mo_worthAll_0 : decode prog_14_method_81_code 0 = .ok (.iconst 0, 1) := by decide +kernel
theorem d_Mo_worthAll_1 : decode prog_14_method_81_code 1 = .ok (.istore_n 2, 1) := by decide +kernel
theorem d_Mo_worthAll_2 : decode prog_14_method_81_code 2 = .ok (.iconst 0, 1) := by decide +kernel
theorem d_Mo_worthAll_3 : decode prog_14_method_81_code 3 = .ok (.istore_n 3, 1) := by decide +kernel
theorem d_Mo_worthAll_4 : decode prog_14_method_81_code 4 = .ok (.iload_n 3, 1) := by decide +kernel
theorem d_Mo_worthAll_5 : decode prog_14_method_81_code 5 = .ok (.aload_n 0, 1) := by decide +kernel
theorem d_Mo_worthAll_6 : decode prog_14_method_81_code 6 = .ok (.getfield 35, 3) := by decide +kernel
theorem d_Mo_worthAll_9 : decode prog_14_method_81_code 9 = .ok (.iconst 3, 1) := by decide +kernel
theorem d_Mo_worthAll_10 : decode prog_14_method_81_code 10 = .ok (.iaload, 1) := by decide +kernel
theorem d_Mo_worthAll_11 : decode prog_14_method_81_code 11 = .ok (.if_icmp .ge 29, 3) := by decide +kernel
theorem d_Mo_worthAll_14 : decode prog_14_method_81_code 14 = .ok (.iload_n 2, 1) := by decide +kernel
theorem d_Mo_worthAll_15 : decode prog_14_method_81_code 15 = .ok (.iload_n 1, 1) := by decide +kernel
theorem d_Mo_worthAll_16 : decode prog_14_method_81_code 16 = .ok (.iload_n 3, 1) := by decide +kernel
theorem d_Mo_worthAll_17 : decode prog_14_method_81_code 17 = .ok (.invokestatic 109, 3) := by decide +kernel
theorem d_Mo_worthAll_20 : decode prog_14_method_81_code 20 = .ok (.ifCond .eq 11, 3) := by decide +kernel
theorem d_Mo_worthAll_23 : decode prog_14_method_81_code 23 = .ok (.aload_n 0, 1) := by decide +kernel
theorem d_Mo_worthAll_24 : decode prog_14_method_81_code 24 = .ok (.iload_n 3, 1) := by decide +kernel
theorem d_Mo_worthAll_25 : decode prog_14_method_81_code 25 = .ok (.invokevirtual 313, 3) := by decide +kernel
theorem d_Mo_worthAll_28 : decode prog_14_method_81_code 28 = .ok (.goto 4, 3) := by decide +kernel
theorem d_Mo_worthAll_31 : decode prog_14_method_81_code 31 = .ok (.iconst 0, 1) := by decide +kernel
theorem d_Mo_worthAll_32 : decode prog_14_method_81_code 32 = .ok (.iadd, 1) := by decide +kernel
theorem d_Mo_worthAll_33 : decode prog_14_method_81_code 33 = .ok (.istore_n 2, 1) := by decide +kernel
theorem d_Mo_worthAll_34 : decode prog_14_method_81_code 34 = .ok (.iinc 3 1, 3) := by decide +kernel
theorem d_Mo_worthAll_37 : decode prog_14_method_81_code 37 = .ok (.goto (-33), 3) := by decide +kernel
theorem d_Mo_worthAll_40 : decode prog_14_method_81_code 40 = .ok (.iload_n 2, 1) := by decide +kernel
theorem d_Mo_worthAll_41 : decode prog_14_method_81_code 41 = .ok (.ireturn, 1) := by decide +kernel
theorem d_Mo_worthOf_0 : decode prog_14_method_77_code 0 = .ok (.aload_n 0, 1) := by decide +kernel
theorem d_Mo_worthOf_1 : decode prog_14_method_77_code 1 = .ok (.getfield 35, 3) := by decide +kernel
theorem d_Mo_worthOf_4 : decode prog_14_method_77_code 4 = .ok (.bipush 6, 2) := by decide +kernel
theorem d_Mo_worthOf_6 : decode prog_14_method_77_code 6 = .ok (.aload_n 0, 1) := by decide +kernel
theorem d_Mo_worthOf_7 : decode prog_14_method_77_code 7 = .ok (.getfield 35, 3) := by decide +kernel
theorem d_Mo_worthOf_10 : decode prog_14_method_77_code 10 = .ok (.bipush 33, 2) := by decide +kernel
theorem d_Mo_worthOf_12 : decode prog_14_method_77_code 12 = .ok (.iload_n 1, 1) := by decide +kernel
theorem d_Mo_worthOf_13 : decode prog_14_method_77_code 13 = .ok (.iadd, 1) := by decide +kernel
theorem d_Mo_worthOf_14 : decode prog_14_method_77_code 14 = .ok (.iaload, 1) := by decide +kernel
theorem d_Mo_worthOf_15 : decode prog_14_method_77_code 15 = .ok (.iadd, 1) := by decide +kernel
theorem d_Mo_worthOf_16 : decode prog_14_method_77_code 16 = .ok (.iaload, 1) := by decide +kernel
theorem d_Mo_worthOf_17 : decode prog_14_method_77_code 17 = .ok (.ireturn, 1) := by decide +kernel
theorem d_Mo_worth_0 : decode prog_14_method_85_code 0 = .ok (.aload_n 0, 1) := by decide +kernel
theorem d_Mo_worth_1 : decode prog_14_method_85_code 1 = .ok (.iconst 0, 1) := by decide +kernel
theorem d_Mo_worth_2 : decode prog_14_method_85_code 2 = .ok (.putfield 70, 3) := by decide +kernel
theorem d_Mo_worth_5 : decode prog_14_method_85_code 5 = .ok (.aload_n 0, 1) := by decide +kernel
theorem d_Mo_worth_6 : decode prog_14_method_85_code 6 = .ok (.iconst 0, 1) := by decide +kernel
theorem d_Mo_worth_7 : decode prog_14_method_85_code 7 = .ok (.putfield 73, 3) := by decide +kernel
theorem d_Mo_worth_10 : decode prog_14_method_85_code 10 = .ok (.aload_n 0, 1) := by decide +kernel
theorem d_Mo_worth_11 : decode prog_14_method_85_code 11 = .ok (.iload_n 1, 1) := by decide +kernel
theorem d_Mo_worth_12 : decode prog_14_method_85_code 12 = .ok (.invokevirtual 333, 3) := by decide +kernel
theorem d_Mo_worth_15 : decode prog_14_method_85_code 15 = .ok (.ifCond .eq 15, 3) := by decide +kernel
theorem d_Mo_worth_18 : decode prog_14_method_85_code 18 = .ok (.aload_n 0, 1) := by decide +kernel
theorem d_Mo_worth_19 : decode prog_14_method_85_code 19 = .ok (.getfield 35, 3) := by decide +kernel
theorem d_Mo_worth_22 : decode prog_14_method_85_code 22 = .ok (.bipush 6, 2) := by decide +kernel
theorem d_Mo_worth_24 : decode prog_14_method_85_code 24 = .ok (.iload_n 1, 1) := by decide +kernel
theorem d_Mo_worth_25 : decode prog_14_method_85_code 25 = .ok (.iadd, 1) := by decide +kernel
theorem d_Mo_worth_26 : decode prog_14_method_85_code 26 = .ok (.iaload, 1) := by decide +kernel
theorem d_Mo_worth_27 : decode prog_14_method_85_code 27 = .ok (.goto 8, 3) := by decide +kernel
theorem d_Mo_worth_30 : decode prog_14_method_85_code 30 = .ok (.aload_n 0, 1) := by decide +kernel
theorem d_Mo_worth_31 : decode prog_14_method_85_code 31 = .ok (.iconst 2, 1) := by decide +kernel
theorem d_Mo_worth_32 : decode prog_14_method_85_code 32 = .ok (.invokevirtual 327, 3) := by decide +kernel
theorem d_Mo_worth_35 : decode prog_14_method_85_code 35 = .ok (.ireturn, 1) := by decide +kernel
theorem d_Mo_isTraitAt_0 : decode prog_14_method_73_code 0 = .ok (.iload_n 1, 1) := by decide +kernel
theorem d_Mo_isTraitAt_1 : decode prog_14_method_73_code 1 = .ok (.i2l, 1) := by decide +kernel
theorem d_Mo_isTraitAt_2 : decode prog_14_method_73_code 2 = .ok (.lconst 0, 1) := by decide +kernel
theorem d_Mo_isTraitAt_3 : decode prog_14_method_73_code 3 = .ok (.aload_n 0, 1) := by decide +kernel
theorem d_Mo_isTraitAt_4 : decode prog_14_method_73_code 4 = .ok (.getfield 35, 3) := by decide +kernel
theorem d_Mo_isTraitAt_7 : decode prog_14_method_73_code 7 = .ok (.iconst 0, 1) := by decide +kernel
theorem d_Mo_isTraitAt_8 : decode prog_14_method_73_code 8 = .ok (.iaload, 1) := by decide +kernel
theorem d_Mo_isTraitAt_9 : decode prog_14_method_73_code 9 = .ok (.iconst 1, 1) := by decide +kernel
theorem d_Mo_isTraitAt_10 : decode prog_14_method_73_code 10 = .ok (.isub, 1) := by decide +kernel
theorem d_Mo_isTraitAt_11 : decode prog_14_method_73_code 11 = .ok (.i2l, 1) := by decide +kernel
theorem d_Mo_isTraitAt_12 : decode prog_14_method_73_code 12 = .ok (.invokestatic 105, 3) := by decide +kernel
theorem d_Mo_isTraitAt_15 : decode prog_14_method_73_code 15 = .ok (.ireturn, 1) := by decide +kernel
theorem d_Mo_person_0 : decode prog_14_method_86_code 0 = .ok (.aload_n 0, 1) := by decide +kernel
theorem d_Mo_person_1 : decode prog_14_method_86_code 1 = .ok (.iconst 0, 1) := by decide +kernel
theorem d_Mo_person_2 : decode prog_14_method_86_code 2 = .ok (.putfield 70, 3) := by decide +kernel
theorem d_Mo_person_5 : decode prog_14_method_86_code 5 = .ok (.aload_n 0, 1) := by decide +kernel
theorem d_Mo_person_6 : decode prog_14_method_86_code 6 = .ok (.iconst 0, 1) := by decide +kernel
theorem d_Mo_person_7 : decode prog_14_method_86_code 7 = .ok (.putfield 73, 3) := by decide +kernel
theorem d_Mo_person_10 : decode prog_14_method_86_code 10 = .ok (.aload_n 0, 1) := by decide +kernel
theorem d_Mo_person_11 : decode prog_14_method_86_code 11 = .ok (.iload_n 1, 1) := by decide +kernel
theorem d_Mo_person_12 : decode prog_14_method_86_code 12 = .ok (.i2l, 1) := by decide +kernel
theorem d_Mo_person_13 : decode prog_14_method_86_code 13 = .ok (.invokevirtual 336, 3) := by decide +kernel
theorem d_Mo_person_16 : decode prog_14_method_86_code 16 = .ok (.ifCond .ne 9, 3) := by decide +kernel
theorem d_Mo_person_19 : decode prog_14_method_86_code 19 = .ok (.aload_n 0, 1) := by decide +kernel
theorem d_Mo_person_20 : decode prog_14_method_86_code 20 = .ok (.iconst 2, 1) := by decide +kernel
theorem d_Mo_person_21 : decode prog_14_method_86_code 21 = .ok (.invokevirtual 327, 3) := by decide +kernel
theorem d_Mo_person_24 : decode prog_14_method_86_code 24 = .ok (.ireturn, 1) := by decide +kernel
theorem d_Mo_person_25 : decode prog_14_method_86_code 25 = .ok (.iload_n 2, 1) := by decide +kernel
theorem d_Mo_person_26 : decode prog_14_method_86_code 26 = .ok (.i2l, 1) := by decide +kernel
theorem d_Mo_person_27 : decode prog_14_method_86_code 27 = .ok (.lconst 0, 1) := by decide +kernel
theorem d_Mo_person_28 : decode prog_14_method_86_code 28 = .ok (.ldc2_w 339, 3) := by decide +kernel
theorem d_Mo_person_31 : decode prog_14_method_86_code 31 = .ok (.invokestatic 105, 3) := by decide +kernel
theorem d_Mo_person_34 : decode prog_14_method_86_code 34 = .ok (.ifCond .ne 9, 3) := by decide +kernel
theorem d_Mo_person_37 : decode prog_14_method_86_code 37 = .ok (.aload_n 0, 1) := by decide +kernel
theorem d_Mo_person_38 : decode prog_14_method_86_code 38 = .ok (.iconst 5, 1) := by decide +kernel
theorem d_Mo_person_39 : decode prog_14_method_86_code 39 = .ok (.invokevirtual 327, 3) := by decide +kernel
theorem d_Mo_person_42 : decode prog_14_method_86_code 42 = .ok (.ireturn, 1) := by decide +kernel
theorem d_Mo_person_43 : decode prog_14_method_86_code 43 = .ok (.iload_n 2, 1) := by decide +kernel
theorem d_Mo_person_44 : decode prog_14_method_86_code 44 = .ok (.iconst 2, 1) := by decide +kernel
theorem d_Mo_person_45 : decode prog_14_method_86_code 45 = .ok (.if_icmp .ne 9, 3) := by decide +kernel
theorem d_Mo_person_48 : decode prog_14_method_86_code 48 = .ok (.aload_n 0, 1) := by decide +kernel
theorem d_Mo_person_49 : decode prog_14_method_86_code 49 = .ok (.iload_n 1, 1) := by decide +kernel
theorem d_Mo_person_50 : decode prog_14_method_86_code 50 = .ok (.invokevirtual 341, 3) := by decide +kernel
theorem d_Mo_person_53 : decode prog_14_method_86_code 53 = .ok (.ireturn, 1) := by decide +kernel
theorem d_Mo_person_54 : decode prog_14_method_86_code 54 = .ok (.iload_n 2, 1) := by decide +kernel
theorem d_Mo_person_55 : decode prog_14_method_86_code 55 = .ok (.iconst 4, 1) := by decide +kernel
theorem d_Mo_person_56 : decode prog_14_method_86_code 56 = .ok (.if_icmp .ne 13, 3) := by decide +kernel
theorem d_Mo_person_59 : decode prog_14_method_86_code 59 = .ok (.aload_n 0, 1) := by decide +kernel
theorem d_Mo_person_60 : decode prog_14_method_86_code 60 = .ok (.aload_n 0, 1) := by decide +kernel
theorem d_Mo_person_61 : decode prog_14_method_86_code 61 = .ok (.iload_n 1, 1) := by decide +kernel
theorem d_Mo_person_62 : decode prog_14_method_86_code 62 = .ok (.invokevirtual 341, 3) := by decide +kernel
theorem d_Mo_person_65 : decode prog_14_method_86_code 65 = .ok (.invokevirtual 322, 3) := by decide +kernel
theorem d_Mo_person_68 : decode prog_14_method_86_code 68 = .ok (.ireturn, 1) := by decide +kernel
theorem d_Mo_person_69 : decode prog_14_method_86_code 69 = .ok (.aload_n 0, 1) := by decide +kernel
theorem d_Mo_person_70 : decode prog_14_method_86_code 70 = .ok (.getfield 35, 3) := by decide +kernel
theorem d_Mo_person_73 : decode prog_14_method_86_code 73 = .ok (.iload_n 2, 1) := by decide +kernel
theorem d_Mo_person_74 : decode prog_14_method_86_code 74 = .ok (.ifCond .ne 8, 3) := by decide +kernel
theorem d_Mo_person_77 : decode prog_14_method_86_code 77 = .ok (.bipush 12, 2) := by decide +kernel
theorem d_Mo_person_79 : decode prog_14_method_86_code 79 = .ok (.goto 15, 3) := by decide +kernel
theorem d_Mo_person_82 : decode prog_14_method_86_code 82 = .ok (.iload_n 2, 1) := by decide +kernel
theorem d_Mo_person_83 : decode prog_14_method_86_code 83 = .ok (.iconst 1, 1) := by decide +kernel
theorem d_Mo_person_84 : decode prog_14_method_86_code 84 = .ok (.if_icmp .ne 8, 3) := by decide +kernel
theorem d_Mo_person_87 : decode prog_14_method_86_code 87 = .ok (.bipush 19, 2) := by decide +kernel
theorem d_Mo_person_89 : decode prog_14_method_86_code 89 = .ok (.goto 5, 3) := by decide +kernel
theorem d_Mo_person_92 : decode prog_14_method_86_code 92 = .ok (.bipush 26, 2) := by decide +kernel
theorem d_Mo_person_94 : decode prog_14_method_86_code 94 = .ok (.iload_n 1, 1) := by decide +kernel
theorem d_Mo_person_95 : decode prog_14_method_86_code 95 = .ok (.iadd, 1) := by decide +kernel
theorem d_Mo_person_96 : decode prog_14_method_86_code 96 = .ok (.iaload, 1) := by decide +kernel
theorem d_Mo_person_97 : decode prog_14_method_86_code 97 = .ok (.ireturn, 1) := by decide +kernel
theorem d_Mo_isPersonAt_0 : decode prog_14_method_74_code 0 = .ok (.lload_n 1, 1) := by decide +kernel
theorem d_Mo_isPersonAt_1 : decode prog_14_method_74_code 1 = .ok (.lconst 0, 1) := by decide +kernel
theorem d_Mo_isPersonAt_2 : decode prog_14_method_74_code 2 = .ok (.aload_n 0, 1) := by decide +kernel
theorem d_Mo_isPersonAt_3 : decode prog_14_method_74_code 3 = .ok (.getfield 35, 3) := by decide +kernel
theorem d_Mo_isPersonAt_6 : decode prog_14_method_74_code 6 = .ok (.iconst 1, 1) := by decide +kernel
theorem d_Mo_isPersonAt_7 : decode prog_14_method_74_code 7 = .ok (.iaload, 1) := by decide +kernel
theorem d_Mo_isPersonAt_8 : decode prog_14_method_74_code 8 = .ok (.iconst 1, 1) := by decide +kernel
theorem d_Mo_isPersonAt_9 : decode prog_14_method_74_code 9 = .ok (.isub, 1) := by decide +kernel
theorem d_Mo_isPersonAt_10 : decode prog_14_method_74_code 10 = .ok (.i2l, 1) := by decide +kernel
theorem d_Mo_isPersonAt_11 : decode prog_14_method_74_code 11 = .ok (.invokestatic 105, 3) := by decide +kernel
theorem d_Mo_isPersonAt_14 : decode prog_14_method_74_code 14 = .ok (.ireturn, 1) := by decide +kernel
theorem d_Mo_tinsOn_0 : decode prog_14_method_80_code 0 = .ok (.iconst 0, 1) := by decide +kernel
theorem d_Mo_tinsOn_1 : decode prog_14_method_80_code 1 = .ok (.istore_n 2, 1) := by decide +kernel
theorem d_Mo_tinsOn_2 : decode prog_14_method_80_code 2 = .ok (.iconst 0, 1) := by decide +kernel
theorem d_Mo_tinsOn_3 : decode prog_14_method_80_code 3 = .ok (.istore_n 3, 1) := by decide +kernel
theorem d_Mo_tinsOn_4 : decode prog_14_method_80_code 4 = .ok (.iload_n 3, 1) := by decide +kernel
theorem d_Mo_tinsOn_5 : decode prog_14_method_80_code 5 = .ok (.aload_n 0, 1) := by decide +kernel
theorem d_Mo_tinsOn_6 : decode prog_14_method_80_code 6 = .ok (.getfield 35, 3) := by decide +kernel
theorem d_Mo_tinsOn_9 : decode prog_14_method_80_code 9 = .ok (.iconst 3, 1) := by decide +kernel
theorem d_Mo_tinsOn_10 : decode prog_14_method_80_code 10 = .ok (.iaload, 1) := by decide +kernel
theorem d_Mo_tinsOn_11 : decode prog_14_method_80_code 11 = .ok (.if_icmp .ge 32, 3) := by decide +kernel
theorem d_Mo_tinsOn_14 : decode prog_14_method_80_code 14 = .ok (.iload_n 2, 1) := by decide +kernel
theorem d_Mo_tinsOn_15 : decode prog_14_method_80_code 15 = .ok (.aload_n 0, 1) := by decide +kernel
theorem d_Mo_tinsOn_16 : decode prog_14_method_80_code 16 = .ok (.getfield 35, 3) := by decide +kernel
theorem d_Mo_tinsOn_19 : decode prog_14_method_80_code 19 = .ok (.bipush 42, 2) := by decide +kernel
theorem d_Mo_tinsOn_21 : decode prog_14_method_80_code 21 = .ok (.iload_n 3, 1) := by decide +kernel
theorem d_Mo_tinsOn_22 : decode prog_14_method_80_code 22 = .ok (.iadd, 1) := by decide +kernel
theorem d_Mo_tinsOn_23 : decode prog_14_method_80_code 23 = .ok (.iaload, 1) := by decide +kernel
theorem d_Mo_tinsOn_24 : decode prog_14_method_80_code 24 = .ok (.iload_n 1, 1) := by decide +kernel
theorem d_Mo_tinsOn_25 : decode prog_14_method_80_code 25 = .ok (.if_icmp .ne 9, 3) := by decide +kernel
theorem d_Mo_tinsOn_28 : decode prog_14_method_80_code 28 = .ok (.iconst 1, 1) := by decide +kernel
theorem d_Mo_tinsOn_29 : decode prog_14_method_80_code 29 = .ok (.iload_n 3, 1) := by decide +kernel
theorem d_Mo_tinsOn_30 : decode prog_14_method_80_code 30 = .ok (.ishl, 1) := by decide +kernel
theorem d_Mo_tinsOn_31 : decode prog_14_method_80_code 31 = .ok (.goto 4, 3) := by decide +kernel
theorem d_Mo_tinsOn_34 : decode prog_14_method_80_code 34 = .ok (.iconst 0, 1) := by decide +kernel
theorem d_Mo_tinsOn_35 : decode prog_14_method_80_code 35 = .ok (.ior, 1) := by decide +kernel
theorem d_Mo_tinsOn_36 : decode prog_14_method_80_code 36 = .ok (.istore_n 2, 1) := by decide +kernel
theorem d_Mo_tinsOn_37 : decode prog_14_method_80_code 37 = .ok (.iinc 3 1, 3) := by decide +kernel
theorem d_Mo_tinsOn_40 : decode prog_14_method_80_code 40 = .ok (.goto (-36), 3) := by decide +kernel
theorem d_Mo_tinsOn_43 : decode prog_14_method_80_code 43 = .ok (.iload_n 2, 1) := by decide +kernel
theorem d_Mo_tinsOn_44 : decode prog_14_method_80_code 44 = .ok (.ireturn, 1) := by decide +kernel
theorem d_Mo_tin_0 : decode prog_14_method_87_code 0 = .ok (.aload_n 0, 1) := by decide +kernel
theorem d_Mo_tin_1 : decode prog_14_method_87_code 1 = .ok (.iconst 0, 1) := by decide +kernel
theorem d_Mo_tin_2 : decode prog_14_method_87_code 2 = .ok (.putfield 70, 3) := by decide +kernel
theorem d_Mo_tin_5 : decode prog_14_method_87_code 5 = .ok (.aload_n 0, 1) := by decide +kernel
theorem d_Mo_tin_6 : decode prog_14_method_87_code 6 = .ok (.iconst 0, 1) := by decide +kernel
theorem d_Mo_tin_7 : decode prog_14_method_87_code 7 = .ok (.putfield 73, 3) := by decide +kernel
theorem d_Mo_tin_10 : decode prog_14_method_87_code 10 = .ok (.aload_n 0, 1) := by decide +kernel
theorem d_Mo_tin_11 : decode prog_14_method_87_code 11 = .ok (.iload_n 1, 1) := by decide +kernel
theorem d_Mo_tin_12 : decode prog_14_method_87_code 12 = .ok (.invokevirtual 344, 3) := by decide +kernel
theorem d_Mo_tin_15 : decode prog_14_method_87_code 15 = .ok (.ifCond .ne 9, 3) := by decide +kernel
theorem d_Mo_tin_18 : decode prog_14_method_87_code 18 = .ok (.aload_n 0, 1) := by decide +kernel
theorem d_Mo_tin_19 : decode prog_14_method_87_code 19 = .ok (.iconst 2, 1) := by decide +kernel
theorem d_Mo_tin_20 : decode prog_14_method_87_code 20 = .ok (.invokevirtual 327, 3) := by decide +kernel
theorem d_Mo_tin_23 : decode prog_14_method_87_code 23 = .ok (.ireturn, 1) := by decide +kernel
theorem d_Mo_tin_24 : decode prog_14_method_87_code 24 = .ok (.iload_n 2, 1) := by decide +kernel
theorem d_Mo_tin_25 : decode prog_14_method_87_code 25 = .ok (.i2l, 1) := by decide +kernel
theorem d_Mo_tin_26 : decode prog_14_method_87_code 26 = .ok (.lconst 0, 1) := by decide +kernel
theorem d_Mo_tin_27 : decode prog_14_method_87_code 27 = .ok (.ldc2_w 339, 3) := by decide +kernel
theorem d_Mo_tin_30 : decode prog_14_method_87_code 30 = .ok (.invokestatic 105, 3) := by decide +kernel
theorem d_Mo_tin_33 : decode prog_14_method_87_code 33 = .ok (.ifCond .ne 9, 3) := by decide +kernel
theorem d_Mo_tin_36 : decode prog_14_method_87_code 36 = .ok (.aload_n 0, 1) := by decide +kernel
theorem d_Mo_tin_37 : decode prog_14_method_87_code 37 = .ok (.iconst 5, 1) := by decide +kernel
theorem d_Mo_tin_38 : decode prog_14_method_87_code 38 = .ok (.invokevirtual 327, 3) := by decide +kernel
theorem d_Mo_tin_41 : decode prog_14_method_87_code 41 = .ok (.ireturn, 1) := by decide +kernel
theorem d_Mo_tin_42 : decode prog_14_method_87_code 42 = .ok (.iload_n 2, 1) := by decide +kernel
theorem d_Mo_tin_43 : decode prog_14_method_87_code 43 = .ok (.iconst 1, 1) := by decide +kernel
theorem d_Mo_tin_44 : decode prog_14_method_87_code 44 = .ok (.if_icmp .ne 30, 3) := by decide +kernel
theorem d_Mo_tin_47 : decode prog_14_method_87_code 47 = .ok (.aload_n 0, 1) := by decide +kernel
theorem d_Mo_tin_48 : decode prog_14_method_87_code 48 = .ok (.iload_n 1, 1) := by decide +kernel
theorem d_Mo_tin_49 : decode prog_14_method_87_code 49 = .ok (.invokevirtual 310, 3) := by decide +kernel
theorem d_Mo_tin_52 : decode prog_14_method_87_code 52 = .ok (.ifCond .eq 12, 3) := by decide +kernel
theorem d_Mo_tin_55 : decode prog_14_method_87_code 55 = .ok (.aload_n 0, 1) := by decide +kernel
theorem d_Mo_tin_56 : decode prog_14_method_87_code 56 = .ok (.bipush 8, 2) := by decide +kernel
theorem d_Mo_tin_58 : decode prog_14_method_87_code 58 = .ok (.invokevirtual 327, 3) := by decide +kernel
theorem d_Mo_tin_61 : decode prog_14_method_87_code 61 = .ok (.goto 12, 3) := by decide +kernel
theorem d_Mo_tin_64 : decode prog_14_method_87_code 64 = .ok (.aload_n 0, 1) := by decide +kernel
theorem d_Mo_tin_65 : decode prog_14_method_87_code 65 = .ok (.getfield 35, 3) := by decide +kernel
theorem d_Mo_tin_68 : decode prog_14_method_87_code 68 = .ok (.bipush 42, 2) := by decide +kernel
theorem d_Mo_tin_70 : decode prog_14_method_87_code 70 = .ok (.iload_n 1, 1) := by decide +kernel
theorem d_Mo_tin_71 : decode prog_14_method_87_code 71 = .ok (.iadd, 1) := by decide +kernel
theorem d_Mo_tin_72 : decode prog_14_method_87_code 72 = .ok (.iaload, 1) := by decide +kernel
theorem d_Mo_tin_73 : decode prog_14_method_87_code 73 = .ok (.ireturn, 1) := by decide +kernel
theorem d_Mo_tin_74 : decode prog_14_method_87_code 74 = .ok (.aload_n 0, 1) := by decide +kernel
theorem d_Mo_tin_75 : decode prog_14_method_87_code 75 = .ok (.getfield 35, 3) := by decide +kernel
theorem d_Mo_tin_78 : decode prog_14_method_87_code 78 = .ok (.iload_n 2, 1) := by decide +kernel
theorem d_Mo_tin_79 : decode prog_14_method_87_code 79 = .ok (.ifCond .ne 8, 3) := by decide +kernel
theorem d_Mo_tin_82 : decode prog_14_method_87_code 82 = .ok (.bipush 33, 2) := by decide +kernel
theorem d_Mo_tin_84 : decode prog_14_method_87_code 84 = .ok (.goto 25, 3) := by decide +kernel
theorem d_Mo_tin_87 : decode prog_14_method_87_code 87 = .ok (.iload_n 2, 1) := by decide +kernel
theorem d_Mo_tin_88 : decode prog_14_method_87_code 88 = .ok (.iconst 2, 1) := by decide +kernel
theorem d_Mo_tin_89 : decode prog_14_method_87_code 89 = .ok (.if_icmp .ne 8, 3) := by decide +kernel
theorem d_Mo_tin_92 : decode prog_14_method_87_code 92 = .ok (.bipush 51, 2) := by decide +kernel
theorem d_Mo_tin_94 : decode prog_14_method_87_code 94 = .ok (.goto 15, 3) := by decide +kernel
theorem d_Mo_tin_97 : decode prog_14_method_87_code 97 = .ok (.iload_n 2, 1) := by decide +kernel
theorem d_Mo_tin_98 : decode prog_14_method_87_code 98 = .ok (.iconst 3, 1) := by decide +kernel
theorem d_Mo_tin_99 : decode prog_14_method_87_code 99 = .ok (.if_icmp .ne 8, 3) := by decide +kernel
theorem d_Mo_tin_102 : decode prog_14_method_87_code 102 = .ok (.bipush 69, 2) := by decide +kernel
theorem d_Mo_tin_104 : decode prog_14_method_87_code 104 = .ok (.goto 5, 3) := by decide +kernel
theorem d_Mo_tin_107 : decode prog_14_method_87_code 107 = .ok (.bipush 78, 2) := by decide +kernel
theorem d_Mo_tin_109 : decode prog_14_method_87_code 109 = .ok (.iload_n 1, 1) := by decide +kernel
theorem d_Mo_tin_110 : decode prog_14_method_87_code 110 = .ok (.iadd, 1) := by decide +kernel
theorem d_Mo_tin_111 : decode prog_14_method_87_code 111 = .ok (.iaload, 1) := by decide +kernel
theorem d_Mo_tin_112 : decode prog_14_method_87_code 112 = .ok (.ireturn, 1) := by decide +kernel
theorem d_Mo_isTinAt_0 : decode prog_14_method_75_code 0 = .ok (.iload_n 1, 1) := by decide +kernel
theorem d_Mo_isTinAt_1 : decode prog_14_method_75_code 1 = .ok (.i2l, 1) := by decide +kernel
theorem d_Mo_isTinAt_2 : decode prog_14_method_75_code 2 = .ok (.lconst 0, 1) := by decide +kernel
theorem d_Mo_isTinAt_3 : decode prog_14_method_75_code 3 = .ok (.aload_n 0, 1) := by decide +kernel
theorem d_Mo_isTinAt_4 : decode prog_14_method_75_code 4 = .ok (.getfield 35, 3) := by decide +kernel
theorem d_Mo_isTinAt_7 : decode prog_14_method_75_code 7 = .ok (.iconst 3, 1) := by decide +kernel
theorem d_Mo_isTinAt_8 : decode prog_14_method_75_code 8 = .ok (.iaload, 1) := by decide +kernel
theorem d_Mo_isTinAt_9 : decode prog_14_method_75_code 9 = .ok (.iconst 1, 1) := by decide +kernel
theorem d_Mo_isTinAt_10 : decode prog_14_method_75_code 10 = .ok (.isub, 1) := by decide +kernel
theorem d_Mo_isTinAt_11 : decode prog_14_method_75_code 11 = .ok (.i2l, 1) := by decide +kernel
theorem d_Mo_isTinAt_12 : decode prog_14_method_75_code 12 = .ok (.invokestatic 105, 3) := by decide +kernel
theorem d_Mo_isTinAt_15 : decode prog_14_method_75_code 15 = .ok (.ireturn, 1) := by decide +kernel
theorem d_Mo_copyGot_0 : decode prog_14_method_88_code 0 = .ok (.aload_n 0, 1) := by decide +kernel
theorem d_Mo_copyGot_1 : decode prog_14_method_88_code 1 = .ok (.iconst 0, 1) := by decide +kernel
theorem d_Mo_copyGot_2 : decode prog_14_method_88_code 2 = .ok (.putfield 70, 3) := by decide +kernel
theorem d_Mo_copyGot_5 : decode prog_14_method_88_code 5 = .ok (.aload_n 0, 1) := by decide +kernel
theorem d_Mo_copyGot_6 : decode prog_14_method_88_code 6 = .ok (.iconst 0, 1) := by decide +kernel
theorem d_Mo_copyGot_7 : decode prog_14_method_88_code 7 = .ok (.putfield 73, 3) := by decide +kernel
theorem d_Mo_copyGot_10 : decode prog_14_method_88_code 10 = .ok (.aload_n 0, 1) := by decide +kernel
theorem d_Mo_copyGot_11 : decode prog_14_method_88_code 11 = .ok (.iload_n 1, 1) := by decide +kernel
theorem d_Mo_copyGot_12 : decode prog_14_method_88_code 12 = .ok (.invokevirtual 347, 3) := by decide +kernel
theorem d_Mo_copyGot_15 : decode prog_14_method_88_code 15 = .ok (.ifCond .ne 9, 3) := by decide +kernel
theorem d_Mo_copyGot_18 : decode prog_14_method_88_code 18 = .ok (.aload_n 0, 1) := by decide +kernel
theorem d_Mo_copyGot_19 : decode prog_14_method_88_code 19 = .ok (.iconst 1, 1) := by decide +kernel
theorem d_Mo_copyGot_20 : decode prog_14_method_88_code 20 = .ok (.invokevirtual 327, 3) := by decide +kernel
theorem d_Mo_copyGot_23 : decode prog_14_method_88_code 23 = .ok (.ireturn, 1) := by decide +kernel
theorem d_Mo_copyGot_24 : decode prog_14_method_88_code 24 = .ok (.aload_n 0, 1) := by decide +kernel
theorem d_Mo_copyGot_25 : decode prog_14_method_88_code 25 = .ok (.getfield 17, 3) := by decide +kernel
theorem d_Mo_copyGot_28 : decode prog_14_method_88_code 28 = .ok (.iload_n 1, 1) := by decide +kernel
theorem d_Mo_copyGot_29 : decode prog_14_method_88_code 29 = .ok (.iaload, 1) := by decide +kernel
theorem d_Mo_copyGot_30 : decode prog_14_method_88_code 30 = .ok (.ifCond .ge 9, 3) := by decide +kernel
theorem d_Mo_copyGot_33 : decode prog_14_method_88_code 33 = .ok (.aload_n 0, 1) := by decide +kernel
theorem d_Mo_copyGot_34 : decode prog_14_method_88_code 34 = .ok (.iconst 3, 1) := by decide +kernel
theorem d_Mo_copyGot_35 : decode prog_14_method_88_code 35 = .ok (.invokevirtual 327, 3) := by decide +kernel
theorem d_Mo_copyGot_38 : decode prog_14_method_88_code 38 = .ok (.ireturn, 1) := by decide +kernel
theorem d_Mo_copyGot_39 : decode prog_14_method_88_code 39 = .ok (.aload_n 0, 1) := by decide +kernel
theorem d_Mo_copyGot_40 : decode prog_14_method_88_code 40 = .ok (.getfield 17, 3) := by decide +kernel
theorem d_Mo_copyGot_43 : decode prog_14_method_88_code 43 = .ok (.iload_n 1, 1) := by decide +kernel
theorem d_Mo_copyGot_44 : decode prog_14_method_88_code 44 = .ok (.iaload, 1) := by decide +kernel
theorem d_Mo_copyGot_45 : decode prog_14_method_88_code 45 = .ok (.aload_n 0, 1) := by decide +kernel
theorem d_Mo_copyGot_46 : decode prog_14_method_88_code 46 = .ok (.getfield 35, 3) := by decide +kernel
theorem d_Mo_copyGot_49 : decode prog_14_method_88_code 49 = .ok (.iconst 1, 1) := by decide +kernel
theorem d_Mo_copyGot_50 : decode prog_14_method_88_code 50 = .ok (.iaload, 1) := by decide +kernel
theorem d_Mo_copyGot_51 : decode prog_14_method_88_code 51 = .ok (.if_icmp .ge 9, 3) := by decide +kernel
theorem d_Mo_copyGot_54 : decode prog_14_method_88_code 54 = .ok (.aload_n 0, 1) := by decide +kernel
theorem d_Mo_copyGot_55 : decode prog_14_method_88_code 55 = .ok (.iconst 4, 1) := by decide +kernel
theorem d_Mo_copyGot_56 : decode prog_14_method_88_code 56 = .ok (.invokevirtual 327, 3) := by decide +kernel
theorem d_Mo_copyGot_59 : decode prog_14_method_88_code 59 = .ok (.ireturn, 1) := by decide +kernel
theorem d_Mo_copyGot_60 : decode prog_14_method_88_code 60 = .ok (.iconst 0, 1) := by decide +kernel
theorem d_Mo_copyGot_61 : decode prog_14_method_88_code 61 = .ok (.istore_n 2, 1) := by decide +kernel
theorem d_Mo_copyGot_62 : decode prog_14_method_88_code 62 = .ok (.iload_n 2, 1) := by decide +kernel
theorem d_Mo_copyGot_63 : decode prog_14_method_88_code 63 = .ok (.aload_n 0, 1) := by decide +kernel
theorem d_Mo_copyGot_64 : decode prog_14_method_88_code 64 = .ok (.getfield 35, 3) := by decide +kernel
theorem d_Mo_copyGot_67 : decode prog_14_method_88_code 67 = .ok (.iconst 1, 1) := by decide +kernel
theorem d_Mo_copyGot_68 : decode prog_14_method_88_code 68 = .ok (.iaload, 1) := by decide +kernel
theorem d_Mo_copyGot_69 : decode prog_14_method_88_code 69 = .ok (.if_icmp .ge 26, 3) := by decide +kernel
theorem d_Mo_copyGot_72 : decode prog_14_method_88_code 72 = .ok (.aload_n 0, 1) := by decide +kernel
theorem d_Mo_copyGot_73 : decode prog_14_method_88_code 73 = .ok (.iload_n 1, 1) := by decide +kernel
theorem d_Mo_copyGot_74 : decode prog_14_method_88_code 74 = .ok (.iload_n 2, 1) := by decide +kernel
theorem d_Mo_copyGot_75 : decode prog_14_method_88_code 75 = .ok (.aload_n 0, 1) := by decide +kernel
theorem d_Mo_copyGot_76 : decode prog_14_method_88_code 76 = .ok (.getfield 35, 3) := by decide +kernel
theorem d_Mo_copyGot_79 : decode prog_14_method_88_code 79 = .ok (.bipush 26, 2) := by decide +kernel
theorem d_Mo_copyGot_81 : decode prog_14_method_88_code 81 = .ok (.iload_n 2, 1) := by decide +kernel
theorem d_Mo_copyGot_82 : decode prog_14_method_88_code 82 = .ok (.iadd, 1) := by decide +kernel
theorem d_Mo_copyGot_83 : decode prog_14_method_88_code 83 = .ok (.iaload, 1) := by decide +kernel
theorem d_Mo_copyGot_84 : decode prog_14_method_88_code 84 = .ok (.i2l, 1) := by decide +kernel
theorem d_Mo_copyGot_85 : decode prog_14_method_88_code 85 = .ok (.invokevirtual 350, 3) := by decide +kernel
theorem d_Mo_copyGot_88 : decode prog_14_method_88_code 88 = .ok (.pop, 1) := by decide +kernel
theorem d_Mo_copyGot_89 : decode prog_14_method_88_code 89 = .ok (.iinc 2 1, 3) := by decide +kernel
theorem d_Mo_copyGot_92 : decode prog_14_method_88_code 92 = .ok (.goto (-30), 3) := by decide +kernel
theorem d_Mo_copyGot_95 : decode prog_14_method_88_code 95 = .ok (.aload_n 0, 1) := by decide +kernel
theorem d_Mo_copyGot_96 : decode prog_14_method_88_code 96 = .ok (.getfield 35, 3) := by decide +kernel
theorem d_Mo_copyGot_99 : decode prog_14_method_88_code 99 = .ok (.iconst 1, 1) := by decide +kernel
theorem d_Mo_copyGot_100 : decode prog_14_method_88_code 100 = .ok (.iaload, 1) := by decide +kernel
theorem d_Mo_copyGot_101 : decode prog_14_method_88_code 101 = .ok (.ireturn, 1) := by decide +kernel
theorem d_Mo_isTray_0 : decode prog_14_method_18_code 0 = .ok (.iload_n 1, 1) := by decide +kernel
theorem d_Mo_isTray_1 : decode prog_14_method_18_code 1 = .ok (.i2l, 1) := by decide +kernel
theorem d_Mo_isTray_2 : decode prog_14_method_18_code 2 = .ok (.lconst 0, 1) := by decide +kernel
theorem d_Mo_isTray_3 : decode prog_14_method_18_code 3 = .ok (.ldc2_w 103, 3) := by decide +kernel
theorem d_Mo_isTray_6 : decode prog_14_method_18_code 6 = .ok (.invokestatic 105, 3) := by decide +kernel
theorem d_Mo_isTray_9 : decode prog_14_method_18_code 9 = .ok (.ireturn, 1) := by decide +kernel
theorem d_Mo_pass_0 : decode prog_14_method_91_code 0 = .ok (.aload_n 0, 1) := by decide +kernel
theorem d_Mo_pass_1 : decode prog_14_method_91_code 1 = .ok (.iconst 0, 1) := by decide +kernel
theorem d_Mo_pass_2 : decode prog_14_method_91_code 2 = .ok (.putfield 70, 3) := by decide +kernel
theorem d_Mo_pass_5 : decode prog_14_method_91_code 5 = .ok (.aload_n 0, 1) := by decide +kernel
theorem d_Mo_pass_6 : decode prog_14_method_91_code 6 = .ok (.iconst 0, 1) := by decide +kernel
theorem d_Mo_pass_7 : decode prog_14_method_91_code 7 = .ok (.putfield 73, 3) := by decide +kernel
theorem d_Mo_pass_10 : decode prog_14_method_91_code 10 = .ok (.aload_n 0, 1) := by decide +kernel
theorem d_Mo_pass_11 : decode prog_14_method_91_code 11 = .ok (.iload_n 1, 1) := by decide +kernel
theorem d_Mo_pass_12 : decode prog_14_method_91_code 12 = .ok (.invokevirtual 344, 3) := by decide +kernel
theorem d_Mo_pass_15 : decode prog_14_method_91_code 15 = .ok (.ifCond .eq 12, 3) := by decide +kernel
theorem d_Mo_pass_18 : decode prog_14_method_91_code 18 = .ok (.aload_n 0, 1) := by decide +kernel
theorem d_Mo_pass_19 : decode prog_14_method_91_code 19 = .ok (.iload_n 2, 1) := by decide +kernel
theorem d_Mo_pass_20 : decode prog_14_method_91_code 20 = .ok (.i2l, 1) := by decide +kernel
theorem d_Mo_pass_21 : decode prog_14_method_91_code 21 = .ok (.invokevirtual 336, 3) := by decide +kernel
theorem d_Mo_pass_24 : decode prog_14_method_91_code 24 = .ok (.ifCond .ne 9, 3) := by decide +kernel
theorem d_Mo_pass_27 : decode prog_14_method_91_code 27 = .ok (.aload_n 0, 1) := by decide +kernel
theorem d_Mo_pass_28 : decode prog_14_method_91_code 28 = .ok (.iconst 2, 1) := by decide +kernel
theorem d_Mo_pass_29 : decode prog_14_method_91_code 29 = .ok (.invokevirtual 327, 3) := by decide +kernel
theorem d_Mo_pass_32 : decode prog_14_method_91_code 32 = .ok (.ireturn, 1) := by decide +kernel
theorem d_Mo_pass_33 : decode prog_14_method_91_code 33 = .ok (.aload_n 0, 1) := by decide +kernel
theorem d_Mo_pass_34 : decode prog_14_method_91_code 34 = .ok (.getfield 35, 3) := by decide +kernel
theorem d_Mo_pass_37 : decode prog_14_method_91_code 37 = .ok (.bipush 42, 2) := by decide +kernel
theorem d_Mo_pass_39 : decode prog_14_method_91_code 39 = .ok (.iload_n 1, 1) := by decide +kernel
theorem d_Mo_pass_40 : decode prog_14_method_91_code 40 = .ok (.iadd, 1) := by decide +kernel
theorem d_Mo_pass_41 : decode prog_14_method_91_code 41 = .ok (.iaload, 1) := by decide +kernel
theorem d_Mo_pass_42 : decode prog_14_method_91_code 42 = .ok (.istore_n 3, 1) := by decide +kernel
theorem d_Mo_pass_43 : decode prog_14_method_91_code 43 = .ok (.aload_n 0, 1) := by decide +kernel
theorem d_Mo_pass_44 : decode prog_14_method_91_code 44 = .ok (.iload_n 1, 1) := by decide +kernel
theorem d_Mo_pass_45 : decode prog_14_method_91_code 45 = .ok (.iload_n 2, 1) := by decide +kernel
theorem d_Mo_pass_46 : decode prog_14_method_91_code 46 = .ok (.invokevirtual 360, 3) := by decide +kernel
theorem d_Mo_pass_49 : decode prog_14_method_91_code 49 = .ok (.ifCond .eq 15, 3) := by decide +kernel
theorem d_Mo_pass_52 : decode prog_14_method_91_code 52 = .ok (.aload_n 0, 1) := by decide +kernel
theorem d_Mo_pass_53 : decode prog_14_method_91_code 53 = .ok (.getfield 35, 3) := by decide +kernel
theorem d_Mo_pass_56 : decode prog_14_method_91_code 56 = .ok (.bipush 26, 2) := by decide +kernel
theorem d_Mo_pass_58 : decode prog_14_method_91_code 58 = .ok (.iload_n 3, 1) := by decide +kernel
theorem d_Mo_pass_59 : decode prog_14_method_91_code 59 = .ok (.iadd, 1) := by decide +kernel
theorem d_Mo_pass_60 : decode prog_14_method_91_code 60 = .ok (.iaload, 1) := by decide +kernel
theorem d_Mo_pass_61 : decode prog_14_method_91_code 61 = .ok (.goto 9, 3) := by decide +kernel
theorem d_Mo_pass_64 : decode prog_14_method_91_code 64 = .ok (.aload_n 0, 1) := by decide +kernel
theorem d_Mo_pass_65 : decode prog_14_method_91_code 65 = .ok (.bipush 9, 2) := by decide +kernel
theorem d_Mo_pass_67 : decode prog_14_method_91_code 67 = .ok (.invokevirtual 327, 3) := by decide +kernel
theorem d_Mo_pass_70 : decode prog_14_method_91_code 70 = .ok (.ireturn, 1) := by decide +kernel
theorem d_Mo_passes_0 : decode prog_14_method_90_code 0 = .ok (.aload_n 0, 1) := by decide +kernel
theorem d_Mo_passes_1 : decode prog_14_method_90_code 1 = .ok (.getfield 35, 3) := by decide +kernel
theorem d_Mo_passes_4 : decode prog_14_method_90_code 4 = .ok (.bipush 42, 2) := by decide +kernel
theorem d_Mo_passes_6 : decode prog_14_method_90_code 6 = .ok (.iload_n 1, 1) := by decide +kernel
theorem d_Mo_passes_7 : decode prog_14_method_90_code 7 = .ok (.iadd, 1) := by decide +kernel
theorem d_Mo_passes_8 : decode prog_14_method_90_code 8 = .ok (.iaload, 1) := by decide +kernel
theorem d_Mo_passes_9 : decode prog_14_method_90_code 9 = .ok (.istore_n 3, 1) := by decide +kernel
theorem d_Mo_passes_10 : decode prog_14_method_90_code 10 = .ok (.iload_n 3, 1) := by decide +kernel
theorem d_Mo_passes_11 : decode prog_14_method_90_code 11 = .ok (.ifCond .lt 16, 3) := by decide +kernel
theorem d_Mo_passes_14 : decode prog_14_method_90_code 14 = .ok (.aload_n 0, 1) := by decide +kernel
theorem d_Mo_passes_15 : decode prog_14_method_90_code 15 = .ok (.iload_n 1, 1) := by decide +kernel
theorem d_Mo_passes_16 : decode prog_14_method_90_code 16 = .ok (.iload_n 3, 1) := by decide +kernel
theorem d_Mo_passes_17 : decode prog_14_method_90_code 17 = .ok (.invokevirtual 357, 3) := by decide +kernel
theorem d_Mo_passes_20 : decode prog_14_method_90_code 20 = .ok (.iload_n 2, 1) := by decide +kernel
theorem d_Mo_passes_21 : decode prog_14_method_90_code 21 = .ok (.invokestatic 109, 3) := by decide +kernel
theorem d_Mo_passes_24 : decode prog_14_method_90_code 24 = .ok (.ifCond .ne 5, 3) := by decide +kernel
theorem d_Mo_passes_27 : decode prog_14_method_90_code 27 = .ok (.iconst 0, 1) := by decide +kernel
theorem d_Mo_passes_28 : decode prog_14_method_90_code 28 = .ok (.ireturn, 1) := by decide +kernel
theorem d_Mo_passes_29 : decode prog_14_method_90_code 29 = .ok (.aload_n 0, 1) := by decide +kernel
theorem d_Mo_passes_30 : decode prog_14_method_90_code 30 = .ok (.getfield 35, 3) := by decide +kernel
theorem d_Mo_passes_33 : decode prog_14_method_90_code 33 = .ok (.bipush 26, 2) := by decide +kernel
theorem d_Mo_passes_35 : decode prog_14_method_90_code 35 = .ok (.iload_n 3, 1) := by decide +kernel
theorem d_Mo_passes_36 : decode prog_14_method_90_code 36 = .ok (.iadd, 1) := by decide +kernel
theorem d_Mo_passes_37 : decode prog_14_method_90_code 37 = .ok (.dup2, 1) := by decide +kernel
theorem d_Mo_passes_38 : decode prog_14_method_90_code 38 = .ok (.iaload, 1) := by decide +kernel
theorem d_Mo_passes_39 : decode prog_14_method_90_code 39 = .ok (.aload_n 0, 1) := by decide +kernel
theorem d_Mo_passes_40 : decode prog_14_method_90_code 40 = .ok (.iload_n 1, 1) := by decide +kernel
theorem d_Mo_passes_41 : decode prog_14_method_90_code 41 = .ok (.invokevirtual 313, 3) := by decide +kernel
theorem d_Mo_passes_44 : decode prog_14_method_90_code 44 = .ok (.iadd, 1) := by decide +kernel
theorem d_Mo_passes_45 : decode prog_14_method_90_code 45 = .ok (.iastore, 1) := by decide +kernel
theorem d_Mo_passes_46 : decode prog_14_method_90_code 46 = .ok (.aload_n 0, 1) := by decide +kernel
theorem d_Mo_passes_47 : decode prog_14_method_90_code 47 = .ok (.getfield 35, 3) := by decide +kernel
theorem d_Mo_passes_50 : decode prog_14_method_90_code 50 = .ok (.bipush 42, 2) := by decide +kernel
theorem d_Mo_passes_52 : decode prog_14_method_90_code 52 = .ok (.iload_n 1, 1) := by decide +kernel
theorem d_Mo_passes_53 : decode prog_14_method_90_code 53 = .ok (.iadd, 1) := by decide +kernel
theorem d_Mo_passes_54 : decode prog_14_method_90_code 54 = .ok (.iload_n 2, 1) := by decide +kernel
theorem d_Mo_passes_55 : decode prog_14_method_90_code 55 = .ok (.iastore, 1) := by decide +kernel
theorem d_Mo_passes_56 : decode prog_14_method_90_code 56 = .ok (.aload_n 0, 1) := by decide +kernel
theorem d_Mo_passes_57 : decode prog_14_method_90_code 57 = .ok (.getfield 35, 3) := by decide +kernel
theorem d_Mo_passes_60 : decode prog_14_method_90_code 60 = .ok (.bipush 69, 2) := by decide +kernel
theorem d_Mo_passes_62 : decode prog_14_method_90_code 62 = .ok (.iload_n 1, 1) := by decide +kernel
theorem d_Mo_passes_63 : decode prog_14_method_90_code 63 = .ok (.iadd, 1) := by decide +kernel
theorem d_Mo_passes_64 : decode prog_14_method_90_code 64 = .ok (.dup2, 1) := by decide +kernel
theorem d_Mo_passes_65 : decode prog_14_method_90_code 65 = .ok (.iaload, 1) := by decide +kernel
theorem d_Mo_passes_66 : decode prog_14_method_90_code 66 = .ok (.iconst 1, 1) := by decide +kernel
theorem d_Mo_passes_67 : decode prog_14_method_90_code 67 = .ok (.iload_n 2, 1) := by decide +kernel
theorem d_Mo_passes_68 : decode prog_14_method_90_code 68 = .ok (.ishl, 1) := by decide +kernel
theorem d_Mo_passes_69 : decode prog_14_method_90_code 69 = .ok (.ior, 1) := by decide +kernel
theorem d_Mo_passes_70 : decode prog_14_method_90_code 70 = .ok (.iastore, 1) := by decide +kernel
theorem d_Mo_passes_71 : decode prog_14_method_90_code 71 = .ok (.aload_n 0, 1) := by decide +kernel
theorem d_Mo_passes_72 : decode prog_14_method_90_code 72 = .ok (.getfield 35, 3) := by decide +kernel
theorem d_Mo_passes_75 : decode prog_14_method_90_code 75 = .ok (.bipush 78, 2) := by decide +kernel
theorem d_Mo_passes_77 : decode prog_14_method_90_code 77 = .ok (.iload_n 1, 1) := by decide +kernel
theorem d_Mo_passes_78 : decode prog_14_method_90_code 78 = .ok (.iadd, 1) := by decide +kernel
theorem d_Mo_passes_79 : decode prog_14_method_90_code 79 = .ok (.dup2, 1) := by decide +kernel
theorem d_Mo_passes_80 : decode prog_14_method_90_code 80 = .ok (.iaload, 1) := by decide +kernel
theorem d_Mo_passes_81 : decode prog_14_method_90_code 81 = .ok (.iconst 1, 1) := by decide +kernel
theorem d_Mo_passes_82 : decode prog_14_method_90_code 82 = .ok (.iadd, 1) := by decide +kernel
theorem d_Mo_passes_83 : decode prog_14_method_90_code 83 = .ok (.iastore, 1) := by decide +kernel
theorem d_Mo_passes_84 : decode prog_14_method_90_code 84 = .ok (.aload_n 0, 1) := by decide +kernel
theorem d_Mo_passes_85 : decode prog_14_method_90_code 85 = .ok (.getfield 35, 3) := by decide +kernel
theorem d_Mo_passes_88 : decode prog_14_method_90_code 88 = .ok (.iconst 5, 1) := by decide +kernel
theorem d_Mo_passes_89 : decode prog_14_method_90_code 89 = .ok (.dup2, 1) := by decide +kernel
theorem d_Mo_passes_90 : decode prog_14_method_90_code 90 = .ok (.iaload, 1) := by decide +kernel
theorem d_Mo_passes_91 : decode prog_14_method_90_code 91 = .ok (.iconst 1, 1) := by decide +kernel
theorem d_Mo_passes_92 : decode prog_14_method_90_code 92 = .ok (.iadd, 1) := by decide +kernel
theorem d_Mo_passes_93 : decode prog_14_method_90_code 93 = .ok (.iastore, 1) := by decide +kernel
theorem d_Mo_passes_94 : decode prog_14_method_90_code 94 = .ok (.iconst 1, 1) := by decide +kernel
theorem d_Mo_passes_95 : decode prog_14_method_90_code 95 = .ok (.ireturn, 1) := by decide +kernel
theorem d_Mo_nextOf_0 : decode prog_14_method_89_code 0 = .ok (.iconst 0, 1) := by decide +kernel
theorem d_Mo_nextOf_1 : decode prog_14_method_89_code 1 = .ok (.istore_n 3, 1) := by decide +kernel
theorem d_Mo_nextOf_2 : decode prog_14_method_89_code 2 = .ok (.iconst 0, 1) := by decide +kernel
theorem d_Mo_nextOf_3 : decode prog_14_method_89_code 3 = .ok (.istore 4, 2) := by decide +kernel
theorem d_Mo_nextOf_5 : decode prog_14_method_89_code 5 = .ok (.iload 4, 2) := by decide +kernel
theorem d_Mo_nextOf_7 : decode prog_14_method_89_code 7 = .ok (.aload_n 0, 1) := by decide +kernel
theorem d_Mo_nextOf_8 : decode prog_14_method_89_code 8 = .ok (.getfield 35, 3) := by decide +kernel
theorem d_Mo_nextOf_11 : decode prog_14_method_89_code 11 = .ok (.iconst 1, 1) := by decide +kernel
theorem d_Mo_nextOf_12 : decode prog_14_method_89_code 12 = .ok (.iaload, 1) := by decide +kernel
theorem d_Mo_nextOf_13 : decode prog_14_method_89_code 13 = .ok (.if_icmp .ge 47, 3) := by decide +kernel
theorem d_Mo_nextOf_16 : decode prog_14_method_89_code 16 = .ok (.iload_n 3, 1) := by decide +kernel
theorem d_Mo_nextOf_17 : decode prog_14_method_89_code 17 = .ok (.aload_n 0, 1) := by decide +kernel
theorem d_Mo_nextOf_18 : decode prog_14_method_89_code 18 = .ok (.getfield 35, 3) := by decide +kernel
theorem d_Mo_nextOf_21 : decode prog_14_method_89_code 21 = .ok (.bipush 19, 2) := by decide +kernel
theorem d_Mo_nextOf_23 : decode prog_14_method_89_code 23 = .ok (.iload_n 2, 1) := by decide +kernel
theorem d_Mo_nextOf_24 : decode prog_14_method_89_code 24 = .ok (.iadd, 1) := by decide +kernel
theorem d_Mo_nextOf_25 : decode prog_14_method_89_code 25 = .ok (.iaload, 1) := by decide +kernel
theorem d_Mo_nextOf_26 : decode prog_14_method_89_code 26 = .ok (.iload 4, 2) := by decide +kernel
theorem d_Mo_nextOf_28 : decode prog_14_method_89_code 28 = .ok (.invokestatic 109, 3) := by decide +kernel
theorem d_Mo_nextOf_31 : decode prog_14_method_89_code 31 = .ok (.ifCond .eq 20, 3) := by decide +kernel
theorem d_Mo_nextOf_34 : decode prog_14_method_89_code 34 = .ok (.aload_n 0, 1) := by decide +kernel
theorem d_Mo_nextOf_35 : decode prog_14_method_89_code 35 = .ok (.iload_n 1, 1) := by decide +kernel
theorem d_Mo_nextOf_36 : decode prog_14_method_89_code 36 = .ok (.iload 4, 2) := by decide +kernel
theorem d_Mo_nextOf_38 : decode prog_14_method_89_code 38 = .ok (.invokevirtual 354, 3) := by decide +kernel
theorem d_Mo_nextOf_41 : decode prog_14_method_89_code 41 = .ok (.ifCond .eq 10, 3) := by decide +kernel
theorem d_Mo_nextOf_44 : decode prog_14_method_89_code 44 = .ok (.iconst 1, 1) := by decide +kernel
theorem d_Mo_nextOf_45 : decode prog_14_method_89_code 45 = .ok (.iload 4, 2) := by decide +kernel
theorem d_Mo_nextOf_47 : decode prog_14_method_89_code 47 = .ok (.ishl, 1) := by decide +kernel
theorem d_Mo_nextOf_48 : decode prog_14_method_89_code 48 = .ok (.goto 4, 3) := by decide +kernel
theorem d_Mo_nextOf_51 : decode prog_14_method_89_code 51 = .ok (.iconst 0, 1) := by decide +kernel
theorem d_Mo_nextOf_52 : decode prog_14_method_89_code 52 = .ok (.ior, 1) := by decide +kernel
theorem d_Mo_nextOf_53 : decode prog_14_method_89_code 53 = .ok (.istore_n 3, 1) := by decide +kernel
theorem d_Mo_nextOf_54 : decode prog_14_method_89_code 54 = .ok (.iinc 4 1, 3) := by decide +kernel
theorem d_Mo_nextOf_57 : decode prog_14_method_89_code 57 = .ok (.goto (-52), 3) := by decide +kernel
theorem d_Mo_nextOf_60 : decode prog_14_method_89_code 60 = .ok (.iload_n 3, 1) := by decide +kernel
theorem d_Mo_nextOf_61 : decode prog_14_method_89_code 61 = .ok (.ireturn, 1) := by decide +kernel
theorem d_Mo_isTrue_0 : decode prog_14_method_78_code 0 = .ok (.aload_n 0, 1) := by decide +kernel
theorem d_Mo_isTrue_1 : decode prog_14_method_78_code 1 = .ok (.getfield 35, 3) := by decide +kernel
theorem d_Mo_isTrue_4 : decode prog_14_method_78_code 4 = .ok (.bipush 12, 2) := by decide +kernel
theorem d_Mo_isTrue_6 : decode prog_14_method_78_code 6 = .ok (.iload_n 2, 1) := by decide +kernel
theorem d_Mo_isTrue_7 : decode prog_14_method_78_code 7 = .ok (.iadd, 1) := by decide +kernel
theorem d_Mo_isTrue_8 : decode prog_14_method_78_code 8 = .ok (.iaload, 1) := by decide +kernel
theorem d_Mo_isTrue_9 : decode prog_14_method_78_code 9 = .ok (.aload_n 0, 1) := by decide +kernel
theorem d_Mo_isTrue_10 : decode prog_14_method_78_code 10 = .ok (.getfield 35, 3) := by decide +kernel
theorem d_Mo_isTrue_13 : decode prog_14_method_78_code 13 = .ok (.bipush 33, 2) := by decide +kernel
theorem d_Mo_isTrue_15 : decode prog_14_method_78_code 15 = .ok (.iload_n 1, 1) := by decide +kernel
theorem d_Mo_isTrue_16 : decode prog_14_method_78_code 16 = .ok (.iadd, 1) := by decide +kernel
theorem d_Mo_isTrue_17 : decode prog_14_method_78_code 17 = .ok (.iaload, 1) := by decide +kernel
theorem d_Mo_isTrue_18 : decode prog_14_method_78_code 18 = .ok (.invokestatic 109, 3) := by decide +kernel
theorem d_Mo_isTrue_21 : decode prog_14_method_78_code 21 = .ok (.ireturn, 1) := by decide +kernel
theorem d_Mo_bite_0 : decode prog_14_method_92_code 0 = .ok (.aload_n 0, 1) := by decide +kernel
theorem d_Mo_bite_1 : decode prog_14_method_92_code 1 = .ok (.iconst 0, 1) := by decide +kernel
theorem d_Mo_bite_2 : decode prog_14_method_92_code 2 = .ok (.putfield 70, 3) := by decide +kernel
theorem d_Mo_bite_5 : decode prog_14_method_92_code 5 = .ok (.aload_n 0, 1) := by decide +kernel
theorem d_Mo_bite_6 : decode prog_14_method_92_code 6 = .ok (.iconst 0, 1) := by decide +kernel
theorem d_Mo_bite_7 : decode prog_14_method_92_code 7 = .ok (.putfield 73, 3) := by decide +kernel
theorem d_Mo_bite_10 : decode prog_14_method_92_code 10 = .ok (.aload_n 0, 1) := by decide +kernel
theorem d_Mo_bite_11 : decode prog_14_method_92_code 11 = .ok (.iload_n 1, 1) := by decide +kernel
theorem d_Mo_bite_12 : decode prog_14_method_92_code 12 = .ok (.invokevirtual 344, 3) := by decide +kernel
theorem d_Mo_bite_15 : decode prog_14_method_92_code 15 = .ok (.ifCond .ne 9, 3) := by decide +kernel
theorem d_Mo_bite_18 : decode prog_14_method_92_code 18 = .ok (.aload_n 0, 1) := by decide +kernel
theorem d_Mo_bite_19 : decode prog_14_method_92_code 19 = .ok (.iconst 2, 1) := by decide +kernel
theorem d_Mo_bite_20 : decode prog_14_method_92_code 20 = .ok (.invokevirtual 327, 3) := by decide +kernel
theorem d_Mo_bite_23 : decode prog_14_method_92_code 23 = .ok (.ireturn, 1) := by decide +kernel
theorem d_Mo_bite_24 : decode prog_14_method_92_code 24 = .ok (.aload_n 0, 1) := by decide +kernel
theorem d_Mo_bite_25 : decode prog_14_method_92_code 25 = .ok (.iload_n 1, 1) := by decide +kernel
theorem d_Mo_bite_26 : decode prog_14_method_92_code 26 = .ok (.invokevirtual 310, 3) := by decide +kernel
theorem d_Mo_bite_29 : decode prog_14_method_92_code 29 = .ok (.ifCond .eq 10, 3) := by decide +kernel
theorem d_Mo_bite_32 : decode prog_14_method_92_code 32 = .ok (.aload_n 0, 1) := by decide +kernel
theorem d_Mo_bite_33 : decode prog_14_method_92_code 33 = .ok (.bipush 9, 2) := by decide +kernel
theorem d_Mo_bite_35 : decode prog_14_method_92_code 35 = .ok (.invokevirtual 327, 3) := by decide +kernel
theorem d_Mo_bite_38 : decode prog_14_method_92_code 38 = .ok (.ireturn, 1) := by decide +kernel
theorem d_Mo_bite_39 : decode prog_14_method_92_code 39 = .ok (.aload_n 0, 1) := by decide +kernel
theorem d_Mo_bite_40 : decode prog_14_method_92_code 40 = .ok (.getfield 35, 3) := by decide +kernel
theorem d_Mo_bite_43 : decode prog_14_method_92_code 43 = .ok (.bipush 51, 2) := by decide +kernel
theorem d_Mo_bite_45 : decode prog_14_method_92_code 45 = .ok (.iload_n 1, 1) := by decide +kernel
theorem d_Mo_bite_46 : decode prog_14_method_92_code 46 = .ok (.iadd, 1) := by decide +kernel
theorem d_Mo_bite_47 : decode prog_14_method_92_code 47 = .ok (.iaload, 1) := by decide +kernel
theorem d_Mo_bite_48 : decode prog_14_method_92_code 48 = .ok (.iconst 1, 1) := by decide +kernel
theorem d_Mo_bite_49 : decode prog_14_method_92_code 49 = .ok (.if_icmp .ne 8, 3) := by decide +kernel
theorem d_Mo_bite_52 : decode prog_14_method_92_code 52 = .ok (.aload_n 0, 1) := by decide +kernel
theorem d_Mo_bite_53 : decode prog_14_method_92_code 53 = .ok (.iload_n 1, 1) := by decide +kernel
theorem d_Mo_bite_54 : decode prog_14_method_92_code 54 = .ok (.invokevirtual 363, 3) := by decide +kernel
theorem d_Mo_bite_57 : decode prog_14_method_92_code 57 = .ok (.aload_n 0, 1) := by decide +kernel
theorem d_Mo_bite_58 : decode prog_14_method_92_code 58 = .ok (.getfield 35, 3) := by decide +kernel
theorem d_Mo_bite_61 : decode prog_14_method_92_code 61 = .ok (.bipush 60, 2) := by decide +kernel
theorem d_Mo_bite_63 : decode prog_14_method_92_code 63 = .ok (.iload_n 1, 1) := by decide +kernel
theorem d_Mo_bite_64 : decode prog_14_method_92_code 64 = .ok (.iadd, 1) := by decide +kernel
theorem d_Mo_bite_65 : decode prog_14_method_92_code 65 = .ok (.iaload, 1) := by decide +kernel
theorem d_Mo_bite_66 : decode prog_14_method_92_code 66 = .ok (.ireturn, 1) := by decide +kernel
theorem d_Mo_finds_0 : decode prog_14_method_93_code 0 = .ok (.aload_n 0, 1) := by decide +kernel
theorem d_Mo_finds_1 : decode prog_14_method_93_code 1 = .ok (.getfield 35, 3) := by decide +kernel
theorem d_Mo_finds_4 : decode prog_14_method_93_code 4 = .ok (.bipush 60, 2) := by decide +kernel
theorem d_Mo_finds_6 : decode prog_14_method_93_code 6 = .ok (.iload_n 1, 1) := by decide +kernel
theorem d_Mo_finds_7 : decode prog_14_method_93_code 7 = .ok (.iadd, 1) := by decide +kernel
theorem d_Mo_finds_8 : decode prog_14_method_93_code 8 = .ok (.iconst 1, 1) := by decide +kernel
theorem d_Mo_finds_9 : decode prog_14_method_93_code 9 = .ok (.iastore, 1) := by decide +kernel
theorem d_Mo_finds_10 : decode prog_14_method_93_code 10 = .ok (.aload_n 0, 1) := by decide +kernel
theorem d_Mo_finds_11 : decode prog_14_method_93_code 11 = .ok (.getfield 35, 3) := by decide +kernel
theorem d_Mo_finds_14 : decode prog_14_method_93_code 14 = .ok (.bipush 42, 2) := by decide +kernel
theorem d_Mo_finds_16 : decode prog_14_method_93_code 16 = .ok (.iload_n 1, 1) := by decide +kernel
theorem d_Mo_finds_17 : decode prog_14_method_93_code 17 = .ok (.iadd, 1) := by decide +kernel
theorem d_Mo_finds_18 : decode prog_14_method_93_code 18 = .ok (.iconst (-1), 1) := by decide +kernel
theorem d_Mo_finds_19 : decode prog_14_method_93_code 19 = .ok (.iastore, 1) := by decide +kernel
theorem d_Mo_finds_20 : decode prog_14_method_93_code 20 = .ok (.return_, 1) := by decide +kernel
theorem d_Mo_recite_0 : decode prog_14_method_94_code 0 = .ok (.aload_n 0, 1) := by decide +kernel
theorem d_Mo_recite_1 : decode prog_14_method_94_code 1 = .ok (.iconst 0, 1) := by decide +kernel
theorem d_Mo_recite_2 : decode prog_14_method_94_code 2 = .ok (.putfield 70, 3) := by decide +kernel
theorem d_Mo_recite_5 : decode prog_14_method_94_code 5 = .ok (.aload_n 0, 1) := by decide +kernel
theorem d_Mo_recite_6 : decode prog_14_method_94_code 6 = .ok (.iconst 0, 1) := by decide +kernel
theorem d_Mo_recite_7 : decode prog_14_method_94_code 7 = .ok (.putfield 73, 3) := by decide +kernel
theorem d_Mo_recite_10 : decode prog_14_method_94_code 10 = .ok (.aload_n 0, 1) := by decide +kernel
theorem d_Mo_recite_11 : decode prog_14_method_94_code 11 = .ok (.iload_n 1, 1) := by decide +kernel
theorem d_Mo_recite_12 : decode prog_14_method_94_code 12 = .ok (.invokevirtual 344, 3) := by decide +kernel
theorem d_Mo_recite_15 : decode prog_14_method_94_code 15 = .ok (.ifCond .eq 12, 3) := by decide +kernel
theorem d_Mo_recite_18 : decode prog_14_method_94_code 18 = .ok (.aload_n 0, 1) := by decide +kernel
theorem d_Mo_recite_19 : decode prog_14_method_94_code 19 = .ok (.iload_n 2, 1) := by decide +kernel
theorem d_Mo_recite_20 : decode prog_14_method_94_code 20 = .ok (.i2l, 1) := by decide +kernel
theorem d_Mo_recite_21 : decode prog_14_method_94_code 21 = .ok (.invokevirtual 336, 3) := by decide +kernel
theorem d_Mo_recite_24 : decode prog_14_method_94_code 24 = .ok (.ifCond .ne 9, 3) := by decide +kernel
theorem d_Mo_recite_27 : decode prog_14_method_94_code 27 = .ok (.aload_n 0, 1) := by decide +kernel
theorem d_Mo_recite_28 : decode prog_14_method_94_code 28 = .ok (.iconst 2, 1) := by decide +kernel
theorem d_Mo_recite_29 : decode prog_14_method_94_code 29 = .ok (.invokevirtual 85, 3) := by decide +kernel
theorem d_Mo_recite_32 : decode prog_14_method_94_code 32 = .ok (.ireturn, 1) := by decide +kernel
theorem d_Mo_recite_33 : decode prog_14_method_94_code 33 = .ok (.aload_n 0, 1) := by decide +kernel
theorem d_Mo_recite_34 : decode prog_14_method_94_code 34 = .ok (.getfield 35, 3) := by decide +kernel
theorem d_Mo_recite_37 : decode prog_14_method_94_code 37 = .ok (.bipush 60, 2) := by decide +kernel
theorem d_Mo_recite_39 : decode prog_14_method_94_code 39 = .ok (.iload_n 1, 1) := by decide +kernel
theorem d_Mo_recite_40 : decode prog_14_method_94_code 40 = .ok (.iadd, 1) := by decide +kernel
theorem d_Mo_recite_41 : decode prog_14_method_94_code 41 = .ok (.iaload, 1) := by decide +kernel
theorem d_Mo_recite_42 : decode prog_14_method_94_code 42 = .ok (.iconst 1, 1) := by decide +kernel
theorem d_Mo_recite_43 : decode prog_14_method_94_code 43 = .ok (.if_icmp .eq 25, 3) := by decide +kernel
theorem d_Mo_recite_46 : decode prog_14_method_94_code 46 = .ok (.aload_n 0, 1) := by decide +kernel
theorem d_Mo_recite_47 : decode prog_14_method_94_code 47 = .ok (.iload_n 1, 1) := by decide +kernel
theorem d_Mo_recite_48 : decode prog_14_method_94_code 48 = .ok (.iload_n 2, 1) := by decide +kernel
theorem d_Mo_recite_49 : decode prog_14_method_94_code 49 = .ok (.invokevirtual 354, 3) := by decide +kernel
theorem d_Mo_recite_52 : decode prog_14_method_94_code 52 = .ok (.ifCond .eq 16, 3) := by decide +kernel
theorem d_Mo_recite_55 : decode prog_14_method_94_code 55 = .ok (.aload_n 0, 1) := by decide +kernel
theorem d_Mo_recite_56 : decode prog_14_method_94_code 56 = .ok (.getfield 35, 3) := by decide +kernel
theorem d_Mo_recite_59 : decode prog_14_method_94_code 59 = .ok (.bipush 42, 2) := by decide +kernel
theorem d_Mo_recite_61 : decode prog_14_method_94_code 61 = .ok (.iload_n 1, 1) := by decide +kernel
theorem d_Mo_recite_62 : decode prog_14_method_94_code 62 = .ok (.iadd, 1) := by decide +kernel
theorem d_Mo_recite_63 : decode prog_14_method_94_code 63 = .ok (.iaload, 1) := by decide +kernel
theorem d_Mo_recite_64 : decode prog_14_method_94_code 64 = .ok (.iload_n 2, 1) := by decide +kernel
theorem d_Mo_recite_65 : decode prog_14_method_94_code 65 = .ok (.if_icmp .ne 10, 3) := by decide +kernel
theorem d_Mo_recite_68 : decode prog_14_method_94_code 68 = .ok (.aload_n 0, 1) := by decide +kernel
theorem d_Mo_recite_69 : decode prog_14_method_94_code 69 = .ok (.bipush 9, 2) := by decide +kernel
theorem d_Mo_recite_71 : decode prog_14_method_94_code 71 = .ok (.invokevirtual 85, 3) := by decide +kernel
theorem d_Mo_recite_74 : decode prog_14_method_94_code 74 = .ok (.ireturn, 1) := by decide +kernel
theorem d_Mo_recite_75 : decode prog_14_method_94_code 75 = .ok (.aload_n 0, 1) := by decide +kernel
theorem d_Mo_recite_76 : decode prog_14_method_94_code 76 = .ok (.getfield 35, 3) := by decide +kernel
theorem d_Mo_recite_79 : decode prog_14_method_94_code 79 = .ok (.bipush 42, 2) := by decide +kernel
theorem d_Mo_recite_81 : decode prog_14_method_94_code 81 = .ok (.iload_n 1, 1) := by decide +kernel
theorem d_Mo_recite_82 : decode prog_14_method_94_code 82 = .ok (.iadd, 1) := by decide +kernel
theorem d_Mo_recite_83 : decode prog_14_method_94_code 83 = .ok (.iload_n 2, 1) := by decide +kernel
theorem d_Mo_recite_84 : decode prog_14_method_94_code 84 = .ok (.iastore, 1) := by decide +kernel
theorem d_Mo_recite_85 : decode prog_14_method_94_code 85 = .ok (.aload_n 0, 1) := by decide +kernel
theorem d_Mo_recite_86 : decode prog_14_method_94_code 86 = .ok (.getfield 35, 3) := by decide +kernel
theorem d_Mo_recite_89 : decode prog_14_method_94_code 89 = .ok (.bipush 69, 2) := by decide +kernel
theorem d_Mo_recite_91 : decode prog_14_method_94_code 91 = .ok (.iload_n 1, 1) := by decide +kernel
theorem d_Mo_recite_92 : decode prog_14_method_94_code 92 = .ok (.iadd, 1) := by decide +kernel
theorem d_Mo_recite_93 : decode prog_14_method_94_code 93 = .ok (.dup2, 1) := by decide +kernel
theorem d_Mo_recite_94 : decode prog_14_method_94_code 94 = .ok (.iaload, 1) := by decide +kernel
theorem d_Mo_recite_95 : decode prog_14_method_94_code 95 = .ok (.iconst 1, 1) := by decide +kernel
theorem d_Mo_recite_96 : decode prog_14_method_94_code 96 = .ok (.iload_n 2, 1) := by decide +kernel
theorem d_Mo_recite_97 : decode prog_14_method_94_code 97 = .ok (.ishl, 1) := by decide +kernel
theorem d_Mo_recite_98 : decode prog_14_method_94_code 98 = .ok (.ior, 1) := by decide +kernel
theorem d_Mo_recite_99 : decode prog_14_method_94_code 99 = .ok (.iastore, 1) := by decide +kernel
theorem d_Mo_recite_100 : decode prog_14_method_94_code 100 = .ok (.iconst 1, 1) := by decide +kernel
theorem d_Mo_recite_101 : decode prog_14_method_94_code 101 = .ok (.ireturn, 1) := by decide +kernel
theorem d_Mo_drop_0 : decode prog_14_method_95_code 0 = .ok (.aload_n 0, 1) := by decide +kernel
theorem d_Mo_drop_1 : decode prog_14_method_95_code 1 = .ok (.iconst 0, 1) := by decide +kernel
theorem d_Mo_drop_2 : decode prog_14_method_95_code 2 = .ok (.putfield 70, 3) := by decide +kernel
theorem d_Mo_drop_5 : decode prog_14_method_95_code 5 = .ok (.aload_n 0, 1) := by decide +kernel
theorem d_Mo_drop_6 : decode prog_14_method_95_code 6 = .ok (.iconst 0, 1) := by decide +kernel
theorem d_Mo_drop_7 : decode prog_14_method_95_code 7 = .ok (.putfield 73, 3) := by decide +kernel
theorem d_Mo_drop_10 : decode prog_14_method_95_code 10 = .ok (.aload_n 0, 1) := by decide +kernel
theorem d_Mo_drop_11 : decode prog_14_method_95_code 11 = .ok (.iload_n 1, 1) := by decide +kernel
theorem d_Mo_drop_12 : decode prog_14_method_95_code 12 = .ok (.invokevirtual 344, 3) := by decide +kernel
theorem d_Mo_drop_15 : decode prog_14_method_95_code 15 = .ok (.ifCond .ne 9, 3) := by decide +kernel
theorem d_Mo_drop_18 : decode prog_14_method_95_code 18 = .ok (.aload_n 0, 1) := by decide +kernel
theorem d_Mo_drop_19 : decode prog_14_method_95_code 19 = .ok (.iconst 2, 1) := by decide +kernel
theorem d_Mo_drop_20 : decode prog_14_method_95_code 20 = .ok (.invokevirtual 327, 3) := by decide +kernel
theorem d_Mo_drop_23 : decode prog_14_method_95_code 23 = .ok (.ireturn, 1) := by decide +kernel
theorem d_Mo_drop_24 : decode prog_14_method_95_code 24 = .ok (.aload_n 0, 1) := by decide +kernel
theorem d_Mo_drop_25 : decode prog_14_method_95_code 25 = .ok (.iload_n 1, 1) := by decide +kernel
theorem d_Mo_drop_26 : decode prog_14_method_95_code 26 = .ok (.invokevirtual 310, 3) := by decide +kernel
theorem d_Mo_drop_29 : decode prog_14_method_95_code 29 = .ok (.ifCond .eq 10, 3) := by decide +kernel
theorem d_Mo_drop_32 : decode prog_14_method_95_code 32 = .ok (.aload_n 0, 1) := by decide +kernel
theorem d_Mo_drop_33 : decode prog_14_method_95_code 33 = .ok (.bipush 9, 2) := by decide +kernel
theorem d_Mo_drop_35 : decode prog_14_method_95_code 35 = .ok (.invokevirtual 327, 3) := by decide +kernel
theorem d_Mo_drop_38 : decode prog_14_method_95_code 38 = .ok (.ireturn, 1) := by decide +kernel
theorem d_Mo_drop_39 : decode prog_14_method_95_code 39 = .ok (.aload_n 0, 1) := by decide +kernel
theorem d_Mo_drop_40 : decode prog_14_method_95_code 40 = .ok (.getfield 35, 3) := by decide +kernel
theorem d_Mo_drop_43 : decode prog_14_method_95_code 43 = .ok (.bipush 42, 2) := by decide +kernel
theorem d_Mo_drop_45 : decode prog_14_method_95_code 45 = .ok (.iload_n 1, 1) := by decide +kernel
theorem d_Mo_drop_46 : decode prog_14_method_95_code 46 = .ok (.iadd, 1) := by decide +kernel
theorem d_Mo_drop_47 : decode prog_14_method_95_code 47 = .ok (.iaload, 1) := by decide +kernel
theorem d_Mo_drop_48 : decode prog_14_method_95_code 48 = .ok (.istore_n 2, 1) := by decide +kernel
theorem d_Mo_drop_49 : decode prog_14_method_95_code 49 = .ok (.aload_n 0, 1) := by decide +kernel
theorem d_Mo_drop_50 : decode prog_14_method_95_code 50 = .ok (.getfield 35, 3) := by decide +kernel
theorem d_Mo_drop_53 : decode prog_14_method_95_code 53 = .ok (.bipush 42, 2) := by decide +kernel
theorem d_Mo_drop_55 : decode prog_14_method_95_code 55 = .ok (.iload_n 1, 1) := by decide +kernel
theorem d_Mo_drop_56 : decode prog_14_method_95_code 56 = .ok (.iadd, 1) := by decide +kernel
theorem d_Mo_drop_57 : decode prog_14_method_95_code 57 = .ok (.iconst (-1), 1) := by decide +kernel
theorem d_Mo_drop_58 : decode prog_14_method_95_code 58 = .ok (.iastore, 1) := by decide +kernel
theorem d_Mo_drop_59 : decode prog_14_method_95_code 59 = .ok (.iload_n 2, 1) := by decide +kernel
theorem d_Mo_drop_60 : decode prog_14_method_95_code 60 = .ok (.ireturn, 1) := by decide +kernel
theorem d_Mo_strike_0 : decode prog_14_method_96_code 0 = .ok (.aload_n 0, 1) := by decide +kernel
theorem d_Mo_strike_1 : decode prog_14_method_96_code 1 = .ok (.iconst 0, 1) := by decide +kernel
theorem d_Mo_strike_2 : decode prog_14_method_96_code 2 = .ok (.putfield 70, 3) := by decide +kernel
theorem d_Mo_strike_5 : decode prog_14_method_96_code 5 = .ok (.aload_n 0, 1) := by decide +kernel
theorem d_Mo_strike_6 : decode prog_14_method_96_code 6 = .ok (.iconst 0, 1) := by decide +kernel
theorem d_Mo_strike_7 : decode prog_14_method_96_code 7 = .ok (.putfield 73, 3) := by decide +kernel
theorem d_Mo_strike_10 : decode prog_14_method_96_code 10 = .ok (.aload_n 0, 1) := by decide +kernel
theorem d_Mo_strike_11 : decode prog_14_method_96_code 11 = .ok (.iload_n 1, 1) := by decide +kernel
theorem d_Mo_strike_12 : decode prog_14_method_96_code 12 = .ok (.invokevirtual 333, 3) := by decide +kernel
theorem d_Mo_strike_15 : decode prog_14_method_96_code 15 = .ok (.ifCond .eq 12, 3) := by decide +kernel
theorem d_Mo_strike_18 : decode prog_14_method_96_code 18 = .ok (.aload_n 0, 1) := by decide +kernel
theorem d_Mo_strike_19 : decode prog_14_method_96_code 19 = .ok (.iload_n 2, 1) := by decide +kernel
theorem d_Mo_strike_20 : decode prog_14_method_96_code 20 = .ok (.i2l, 1) := by decide +kernel
theorem d_Mo_strike_21 : decode prog_14_method_96_code 21 = .ok (.invokevirtual 336, 3) := by decide +kernel
theorem d_Mo_strike_24 : decode prog_14_method_96_code 24 = .ok (.ifCond .ne 9, 3) := by decide +kernel
theorem d_Mo_strike_27 : decode prog_14_method_96_code 27 = .ok (.aload_n 0, 1) := by decide +kernel
theorem d_Mo_strike_28 : decode prog_14_method_96_code 28 = .ok (.iconst 2, 1) := by decide +kernel
theorem d_Mo_strike_29 : decode prog_14_method_96_code 29 = .ok (.invokevirtual 327, 3) := by decide +kernel
theorem d_Mo_strike_32 : decode prog_14_method_96_code 32 = .ok (.ireturn, 1) := by decide +kernel
theorem d_Mo_strike_33 : decode prog_14_method_96_code 33 = .ok (.aload_n 0, 1) := by decide +kernel
theorem d_Mo_strike_34 : decode prog_14_method_96_code 34 = .ok (.getfield 35, 3) := by decide +kernel
theorem d_Mo_strike_37 : decode prog_14_method_96_code 37 = .ok (.iconst 3, 1) := by decide +kernel
theorem d_Mo_strike_38 : decode prog_14_method_96_code 38 = .ok (.iaload, 1) := by decide +kernel
theorem d_Mo_strike_39 : decode prog_14_method_96_code 39 = .ok (.istore 4, 2) := by decide +kernel
theorem d_Mo_strike_41 : decode prog_14_method_96_code 41 = .ok (.iload 4, 2) := by decide +kernel
theorem d_Mo_strike_43 : decode prog_14_method_96_code 43 = .ok (.bipush 9, 2) := by decide +kernel
theorem d_Mo_strike_45 : decode prog_14_method_96_code 45 = .ok (.if_icmp .ne 10, 3) := by decide +kernel
theorem d_Mo_strike_48 : decode prog_14_method_96_code 48 = .ok (.aload_n 0, 1) := by decide +kernel
theorem d_Mo_strike_49 : decode prog_14_method_96_code 49 = .ok (.bipush 7, 2) := by decide +kernel
theorem d_Mo_strike_51 : decode prog_14_method_96_code 51 = .ok (.invokevirtual 327, 3) := by decide +kernel
theorem d_Mo_strike_54 : decode prog_14_method_96_code 54 = .ok (.ireturn, 1) := by decide +kernel
theorem d_Mo_strike_55 : decode prog_14_method_96_code 55 = .ok (.aload_n 0, 1) := by decide +kernel
theorem d_Mo_strike_56 : decode prog_14_method_96_code 56 = .ok (.getfield 41, 3) := by decide +kernel
theorem d_Mo_strike_59 : decode prog_14_method_96_code 59 = .ok (.iconst 3, 1) := by decide +kernel
theorem d_Mo_strike_60 : decode prog_14_method_96_code 60 = .ok (.invokestatic 224, 3) := by decide +kernel
theorem d_Mo_strike_63 : decode prog_14_method_96_code 63 = .ok (.iload 4, 2) := by decide +kernel
theorem d_Mo_strike_65 : decode prog_14_method_96_code 65 = .ok (.iadd, 1) := by decide +kernel
theorem d_Mo_strike_66 : decode prog_14_method_96_code 66 = .ok (.lconst 0, 1) := by decide +kernel
theorem d_Mo_strike_67 : decode prog_14_method_96_code 67 = .ok (.lastore, 1) := by decide +kernel
theorem d_Mo_strike_68 : decode prog_14_method_96_code 68 = .ok (.aload_n 0, 1) := by decide +kernel
theorem d_Mo_strike_69 : decode prog_14_method_96_code 69 = .ok (.iconst 0, 1) := by decide +kernel
theorem d_Mo_strike_70 : decode prog_14_method_96_code 70 = .ok (.iload 4, 2) := by decide +kernel
theorem d_Mo_strike_72 : decode prog_14_method_96_code 72 = .ok (.iload_n 1, 1) := by decide +kernel
theorem d_Mo_strike_73 : decode prog_14_method_96_code 73 = .ok (.iload_n 2, 1) := by decide +kernel
theorem d_Mo_strike_74 : decode prog_14_method_96_code 74 = .ok (.iload_n 3, 1) := by decide +kernel
theorem d_Mo_strike_75 : decode prog_14_method_96_code 75 = .ok (.ifCond .eq 7, 3) := by decide +kernel
theorem d_Mo_strike_78 : decode prog_14_method_96_code 78 = .ok (.iconst 1, 1) := by decide +kernel
theorem d_Mo_strike_79 : decode prog_14_method_96_code 79 = .ok (.goto 4, 3) := by decide +kernel
theorem d_Mo_strike_82 : decode prog_14_method_96_code 82 = .ok (.iconst 0, 1) := by decide +kernel
theorem d_Mo_strike_83 : decode prog_14_method_96_code 83 = .ok (.invokevirtual 264, 3) := by decide +kernel
theorem d_Mo_strike_86 : decode prog_14_method_96_code 86 = .ok (.iload 4, 2) := by decide +kernel
theorem d_Mo_strike_88 : decode prog_14_method_96_code 88 = .ok (.ireturn, 1) := by decide +kernel
theorem d_Mo_teach_0 : decode prog_14_method_98_code 0 = .ok (.aload_n 0, 1) := by decide +kernel
theorem d_Mo_teach_1 : decode prog_14_method_98_code 1 = .ok (.iconst 0, 1) := by decide +kernel
theorem d_Mo_teach_2 : decode prog_14_method_98_code 2 = .ok (.putfield 70, 3) := by decide +kernel
theorem d_Mo_teach_5 : decode prog_14_method_98_code 5 = .ok (.aload_n 0, 1) := by decide +kernel
theorem d_Mo_teach_6 : decode prog_14_method_98_code 6 = .ok (.iconst 0, 1) := by decide +kernel
theorem d_Mo_teach_7 : decode prog_14_method_98_code 7 = .ok (.putfield 73, 3) := by decide +kernel
theorem d_Mo_teach_10 : decode prog_14_method_98_code 10 = .ok (.aload_n 0, 1) := by decide +kernel
theorem d_Mo_teach_11 : decode prog_14_method_98_code 11 = .ok (.iload_n 1, 1) := by decide +kernel
theorem d_Mo_teach_12 : decode prog_14_method_98_code 12 = .ok (.i2l, 1) := by decide +kernel
theorem d_Mo_teach_13 : decode prog_14_method_98_code 13 = .ok (.invokevirtual 336, 3) := by decide +kernel
theorem d_Mo_teach_16 : decode prog_14_method_98_code 16 = .ok (.ifCond .eq 11, 3) := by decide +kernel
theorem d_Mo_teach_19 : decode prog_14_method_98_code 19 = .ok (.aload_n 0, 1) := by decide +kernel
theorem d_Mo_teach_20 : decode prog_14_method_98_code 20 = .ok (.iload_n 2, 1) := by decide +kernel
theorem d_Mo_teach_21 : decode prog_14_method_98_code 21 = .ok (.invokevirtual 333, 3) := by decide +kernel
theorem d_Mo_teach_24 : decode prog_14_method_98_code 24 = .ok (.ifCond .ne 9, 3) := by decide +kernel
theorem d_Mo_teach_27 : decode prog_14_method_98_code 27 = .ok (.aload_n 0, 1) := by decide +kernel
theorem d_Mo_teach_28 : decode prog_14_method_98_code 28 = .ok (.iconst 2, 1) := by decide +kernel
theorem d_Mo_teach_29 : decode prog_14_method_98_code 29 = .ok (.invokevirtual 85, 3) := by decide +kernel
theorem d_Mo_teach_32 : decode prog_14_method_98_code 32 = .ok (.ireturn, 1) := by decide +kernel
theorem d_Mo_teach_33 : decode prog_14_method_98_code 33 = .ok (.aload_n 0, 1) := by decide +kernel
theorem d_Mo_teach_34 : decode prog_14_method_98_code 34 = .ok (.iload_n 1, 1) := by decide +kernel
theorem d_Mo_teach_35 : decode prog_14_method_98_code 35 = .ok (.iload_n 2, 1) := by decide +kernel
theorem d_Mo_teach_36 : decode prog_14_method_98_code 36 = .ok (.iload_n 3, 1) := by decide +kernel
theorem d_Mo_teach_37 : decode prog_14_method_98_code 37 = .ok (.invokevirtual 366, 3) := by decide +kernel
theorem d_Mo_teach_40 : decode prog_14_method_98_code 40 = .ok (.ifCond .ne 12, 3) := by decide +kernel
theorem d_Mo_teach_43 : decode prog_14_method_98_code 43 = .ok (.aload_n 0, 1) := by decide +kernel
theorem d_Mo_teach_44 : decode prog_14_method_98_code 44 = .ok (.bipush 9, 2) := by decide +kernel
theorem d_Mo_teach_46 : decode prog_14_method_98_code 46 = .ok (.invokevirtual 85, 3) := by decide +kernel
theorem d_Mo_teach_49 : decode prog_14_method_98_code 49 = .ok (.ifCond .eq 7, 3) := by decide +kernel
theorem d_Mo_teach_52 : decode prog_14_method_98_code 52 = .ok (.iconst 1, 1) := by decide +kernel
theorem d_Mo_teach_53 : decode prog_14_method_98_code 53 = .ok (.goto 4, 3) := by decide +kernel
theorem d_Mo_teach_56 : decode prog_14_method_98_code 56 = .ok (.iconst 0, 1) := by decide +kernel
theorem d_Mo_teach_57 : decode prog_14_method_98_code 57 = .ok (.ireturn, 1) := by decide +kernel
theorem d_Mo_teaches_0 : decode prog_14_method_97_code 0 = .ok (.aload_n 0, 1) := by decide +kernel
theorem d_Mo_teaches_1 : decode prog_14_method_97_code 1 = .ok (.getfield 35, 3) := by decide +kernel
theorem d_Mo_teaches_4 : decode prog_14_method_97_code 4 = .ok (.bipush 12, 2) := by decide +kernel
theorem d_Mo_teaches_6 : decode prog_14_method_97_code 6 = .ok (.iload_n 1, 1) := by decide +kernel
theorem d_Mo_teaches_7 : decode prog_14_method_97_code 7 = .ok (.iadd, 1) := by decide +kernel
theorem d_Mo_teaches_8 : decode prog_14_method_97_code 8 = .ok (.iaload, 1) := by decide +kernel
theorem d_Mo_teaches_9 : decode prog_14_method_97_code 9 = .ok (.iload_n 2, 1) := by decide +kernel
theorem d_Mo_teaches_10 : decode prog_14_method_97_code 10 = .ok (.invokestatic 109, 3) := by decide +kernel
theorem d_Mo_teaches_13 : decode prog_14_method_97_code 13 = .ok (.iload_n 3, 1) := by decide +kernel
theorem d_Mo_teaches_14 : decode prog_14_method_97_code 14 = .ok (.if_icmp .ne 5, 3) := by decide +kernel
theorem d_Mo_teaches_17 : decode prog_14_method_97_code 17 = .ok (.iconst 0, 1) := by decide +kernel
theorem d_Mo_teaches_18 : decode prog_14_method_97_code 18 = .ok (.ireturn, 1) := by decide +kernel
theorem d_Mo_teaches_19 : decode prog_14_method_97_code 19 = .ok (.aload_n 0, 1) := by decide +kernel
theorem d_Mo_teaches_20 : decode prog_14_method_97_code 20 = .ok (.getfield 35, 3) := by decide +kernel
theorem d_Mo_teaches_23 : decode prog_14_method_97_code 23 = .ok (.bipush 12, 2) := by decide +kernel
theorem d_Mo_teaches_25 : decode prog_14_method_97_code 25 = .ok (.iload_n 1, 1) := by decide +kernel
theorem d_Mo_teaches_26 : decode prog_14_method_97_code 26 = .ok (.iadd, 1) := by decide +kernel
theorem d_Mo_teaches_27 : decode prog_14_method_97_code 27 = .ok (.dup2, 1) := by decide +kernel
theorem d_Mo_teaches_28 : decode prog_14_method_97_code 28 = .ok (.iaload, 1) := by decide +kernel
theorem d_Mo_teaches_29 : decode prog_14_method_97_code 29 = .ok (.iconst 1, 1) := by decide +kernel
theorem d_Mo_teaches_30 : decode prog_14_method_97_code 30 = .ok (.iload_n 2, 1) := by decide +kernel
theorem d_Mo_teaches_31 : decode prog_14_method_97_code 31 = .ok (.ishl, 1) := by decide +kernel
theorem d_Mo_teaches_32 : decode prog_14_method_97_code 32 = .ok (.ixor, 1) := by decide +kernel
theorem d_Mo_teaches_33 : decode prog_14_method_97_code 33 = .ok (.iastore, 1) := by decide +kernel
theorem d_Mo_teaches_34 : decode prog_14_method_97_code 34 = .ok (.iconst 1, 1) := by decide +kernel
theorem d_Mo_teaches_35 : decode prog_14_method_97_code 35 = .ok (.ireturn, 1) := by decide +kernel
theorem d_Mo_lane_0 : decode prog_14_method_99_code 0 = .ok (.aload_n 0, 1) := by decide +kernel
theorem d_Mo_lane_1 : decode prog_14_method_99_code 1 = .ok (.iconst 0, 1) := by decide +kernel
theorem d_Mo_lane_2 : decode prog_14_method_99_code 2 = .ok (.putfield 70, 3) := by decide +kernel
theorem d_Mo_lane_5 : decode prog_14_method_99_code 5 = .ok (.aload_n 0, 1) := by decide +kernel
theorem d_Mo_lane_6 : decode prog_14_method_99_code 6 = .ok (.iconst 0, 1) := by decide +kernel
theorem d_Mo_lane_7 : decode prog_14_method_99_code 7 = .ok (.putfield 73, 3) := by decide +kernel
theorem d_Mo_lane_10 : decode prog_14_method_99_code 10 = .ok (.aload_n 0, 1) := by decide +kernel
theorem d_Mo_lane_11 : decode prog_14_method_99_code 11 = .ok (.iload_n 1, 1) := by decide +kernel
theorem d_Mo_lane_12 : decode prog_14_method_99_code 12 = .ok (.i2l, 1) := by decide +kernel
theorem d_Mo_lane_13 : decode prog_14_method_99_code 13 = .ok (.invokevirtual 336, 3) := by decide +kernel
theorem d_Mo_lane_16 : decode prog_14_method_99_code 16 = .ok (.ifCond .eq 12, 3) := by decide +kernel
theorem d_Mo_lane_19 : decode prog_14_method_99_code 19 = .ok (.aload_n 0, 1) := by decide +kernel
theorem d_Mo_lane_20 : decode prog_14_method_99_code 20 = .ok (.iload_n 2, 1) := by decide +kernel
theorem d_Mo_lane_21 : decode prog_14_method_99_code 21 = .ok (.i2l, 1) := by decide +kernel
theorem d_Mo_lane_22 : decode prog_14_method_99_code 22 = .ok (.invokevirtual 336, 3) := by decide +kernel
theorem d_Mo_lane_25 : decode prog_14_method_99_code 25 = .ok (.ifCond .ne 9, 3) := by decide +kernel
theorem d_Mo_lane_28 : decode prog_14_method_99_code 28 = .ok (.aload_n 0, 1) := by decide +kernel
theorem d_Mo_lane_29 : decode prog_14_method_99_code 29 = .ok (.iconst 2, 1) := by decide +kernel
theorem d_Mo_lane_30 : decode prog_14_method_99_code 30 = .ok (.invokevirtual 327, 3) := by decide +kernel
theorem d_Mo_lane_33 : decode prog_14_method_99_code 33 = .ok (.ireturn, 1) := by decide +kernel
theorem d_Mo_lane_34 : decode prog_14_method_99_code 34 = .ok (.iload_n 1, 1) := by decide +kernel
theorem d_Mo_lane_35 : decode prog_14_method_99_code 35 = .ok (.iload_n 2, 1) := by decide +kernel
theorem d_Mo_lane_36 : decode prog_14_method_99_code 36 = .ok (.if_icmp .ne 9, 3) := by decide +kernel
theorem d_Mo_lane_39 : decode prog_14_method_99_code 39 = .ok (.aload_n 0, 1) := by decide +kernel
theorem d_Mo_lane_40 : decode prog_14_method_99_code 40 = .ok (.iconst 5, 1) := by decide +kernel
theorem d_Mo_lane_41 : decode prog_14_method_99_code 41 = .ok (.invokevirtual 327, 3) := by decide +kernel
theorem d_Mo_lane_44 : decode prog_14_method_99_code 44 = .ok (.ireturn, 1) := by decide +kernel
theorem d_Mo_lane_45 : decode prog_14_method_99_code 45 = .ok (.aload_n 0, 1) := by decide +kernel
theorem d_Mo_lane_46 : decode prog_14_method_99_code 46 = .ok (.getfield 35, 3) := by decide +kernel
theorem d_Mo_lane_49 : decode prog_14_method_99_code 49 = .ok (.iconst 2, 1) := by decide +kernel
theorem d_Mo_lane_50 : decode prog_14_method_99_code 50 = .ok (.iaload, 1) := by decide +kernel
theorem d_Mo_lane_51 : decode prog_14_method_99_code 51 = .ok (.bipush 12, 2) := by decide +kernel
theorem d_Mo_lane_53 : decode prog_14_method_99_code 53 = .ok (.if_icmp .ne 10, 3) := by decide +kernel
theorem d_Mo_lane_56 : decode prog_14_method_99_code 56 = .ok (.aload_n 0, 1) := by decide +kernel
theorem d_Mo_lane_57 : decode prog_14_method_99_code 57 = .ok (.bipush 7, 2) := by decide +kernel
theorem d_Mo_lane_59 : decode prog_14_method_99_code 59 = .ok (.invokevirtual 327, 3) := by decide +kernel
theorem d_Mo_lane_62 : decode prog_14_method_99_code 62 = .ok (.ireturn, 1) := by decide +kernel
theorem d_Mo_lane_63 : decode prog_14_method_99_code 63 = .ok (.aload_n 0, 1) := by decide +kernel
theorem d_Mo_lane_64 : decode prog_14_method_99_code 64 = .ok (.iconst 0, 1) := by decide +kernel
theorem d_Mo_lane_65 : decode prog_14_method_99_code 65 = .ok (.iload_n 1, 1) := by decide +kernel
theorem d_Mo_lane_66 : decode prog_14_method_99_code 66 = .ok (.iload_n 2, 1) := by decide +kernel
theorem d_Mo_lane_67 : decode prog_14_method_99_code 67 = .ok (.invokevirtual 260, 3) := by decide +kernel
theorem d_Mo_lane_70 : decode prog_14_method_99_code 70 = .ok (.aload_n 0, 1) := by decide +kernel
theorem d_Mo_lane_71 : decode prog_14_method_99_code 71 = .ok (.getfield 35, 3) := by decide +kernel
theorem d_Mo_lane_74 : decode prog_14_method_99_code 74 = .ok (.iconst 2, 1) := by decide +kernel
theorem d_Mo_lane_75 : decode prog_14_method_99_code 75 = .ok (.iaload, 1) := by decide +kernel
theorem d_Mo_lane_76 : decode prog_14_method_99_code 76 = .ok (.ireturn, 1) := by decide +kernel
theorem d_Mo_price_0 : decode prog_14_method_100_code 0 = .ok (.aload_n 0, 1) := by decide +kernel
theorem d_Mo_price_1 : decode prog_14_method_100_code 1 = .ok (.iconst 0, 1) := by decide +kernel
theorem d_Mo_price_2 : decode prog_14_method_100_code 2 = .ok (.putfield 70, 3) := by decide +kernel
theorem d_Mo_price_5 : decode prog_14_method_100_code 5 = .ok (.aload_n 0, 1) := by decide +kernel
theorem d_Mo_price_6 : decode prog_14_method_100_code 6 = .ok (.iconst 0, 1) := by decide +kernel
theorem d_Mo_price_7 : decode prog_14_method_100_code 7 = .ok (.putfield 73, 3) := by decide +kernel
theorem d_Mo_price_10 : decode prog_14_method_100_code 10 = .ok (.aload_n 0, 1) := by decide +kernel
theorem d_Mo_price_11 : decode prog_14_method_100_code 11 = .ok (.iload_n 1, 1) := by decide +kernel
theorem d_Mo_price_12 : decode prog_14_method_100_code 12 = .ok (.invokevirtual 333, 3) := by decide +kernel
theorem d_Mo_price_15 : decode prog_14_method_100_code 15 = .ok (.ifCond .ne 9, 3) := by decide +kernel
theorem d_Mo_price_18 : decode prog_14_method_100_code 18 = .ok (.aload_n 0, 1) := by decide +kernel
theorem d_Mo_price_19 : decode prog_14_method_100_code 19 = .ok (.iconst 2, 1) := by decide +kernel
theorem d_Mo_price_20 : decode prog_14_method_100_code 20 = .ok (.invokevirtual 85, 3) := by decide +kernel
theorem d_Mo_price_23 : decode prog_14_method_100_code 23 = .ok (.ireturn, 1) := by decide +kernel
theorem d_Mo_price_24 : decode prog_14_method_100_code 24 = .ok (.iload_n 2, 1) := by decide +kernel
theorem d_Mo_price_25 : decode prog_14_method_100_code 25 = .ok (.i2l, 1) := by decide +kernel
theorem d_Mo_price_26 : decode prog_14_method_100_code 26 = .ok (.lconst 0, 1) := by decide +kernel
theorem d_Mo_price_27 : decode prog_14_method_100_code 27 = .ok (.ldc2_w 370, 3) := by decide +kernel
theorem d_Mo_price_30 : decode prog_14_method_100_code 30 = .ok (.invokestatic 105, 3) := by decide +kernel
theorem d_Mo_price_33 : decode prog_14_method_100_code 33 = .ok (.ifCond .ne 9, 3) := by decide +kernel
theorem d_Mo_price_36 : decode prog_14_method_100_code 36 = .ok (.aload_n 0, 1) := by decide +kernel
theorem d_Mo_price_37 : decode prog_14_method_100_code 37 = .ok (.iconst 5, 1) := by decide +kernel
theorem d_Mo_price_38 : decode prog_14_method_100_code 38 = .ok (.invokevirtual 85, 3) := by decide +kernel
theorem d_Mo_price_41 : decode prog_14_method_100_code 41 = .ok (.ireturn, 1) := by decide +kernel
theorem d_Mo_price_42 : decode prog_14_method_100_code 42 = .ok (.aload_n 0, 1) := by decide +kernel
theorem d_Mo_price_43 : decode prog_14_method_100_code 43 = .ok (.getfield 35, 3) := by decide +kernel
theorem d_Mo_price_46 : decode prog_14_method_100_code 46 = .ok (.bipush 6, 2) := by decide +kernel
theorem d_Mo_price_48 : decode prog_14_method_100_code 48 = .ok (.iload_n 1, 1) := by decide +kernel
theorem d_Mo_price_49 : decode prog_14_method_100_code 49 = .ok (.iadd, 1) := by decide +kernel
theorem d_Mo_price_50 : decode prog_14_method_100_code 50 = .ok (.iload_n 2, 1) := by decide +kernel
theorem d_Mo_price_51 : decode prog_14_method_100_code 51 = .ok (.iastore, 1) := by decide +kernel
theorem d_Mo_price_52 : decode prog_14_method_100_code 52 = .ok (.iconst 1, 1) := by decide +kernel
theorem d_Mo_price_53 : decode prog_14_method_100_code 53 = .ok (.ireturn, 1) := by decide +kernel
theorem d_Mo_rule_0 : decode prog_14_method_101_code 0 = .ok (.aload_n 0, 1) := by decide +kernel
theorem d_Mo_rule_1 : decode prog_14_method_101_code 1 = .ok (.iconst 0, 1) := by decide +kernel
theorem d_Mo_rule_2 : decode prog_14_method_101_code 2 = .ok (.putfield 70, 3) := by decide +kernel
theorem d_Mo_rule_5 : decode prog_14_method_101_code 5 = .ok (.aload_n 0, 1) := by decide +kernel
theorem d_Mo_rule_6 : decode prog_14_method_101_code 6 = .ok (.iconst 0, 1) := by decide +kernel
theorem d_Mo_rule_7 : decode prog_14_method_101_code 7 = .ok (.putfield 73, 3) := by decide +kernel
theorem d_Mo_rule_10 : decode prog_14_method_101_code 10 = .ok (.iload_n 1, 1) := by decide +kernel
theorem d_Mo_rule_11 : decode prog_14_method_101_code 11 = .ok (.i2l, 1) := by decide +kernel
theorem d_Mo_rule_12 : decode prog_14_method_101_code 12 = .ok (.lconst 0, 1) := by decide +kernel
theorem d_Mo_rule_13 : decode prog_14_method_101_code 13 = .ok (.ldc2_w 372, 3) := by decide +kernel
theorem d_Mo_rule_16 : decode prog_14_method_101_code 16 = .ok (.invokestatic 105, 3) := by decide +kernel
theorem d_Mo_rule_19 : decode prog_14_method_101_code 19 = .ok (.ifCond .ne 9, 3) := by decide +kernel
theorem d_Mo_rule_22 : decode prog_14_method_101_code 22 = .ok (.aload_n 0, 1) := by decide +kernel
theorem d_Mo_rule_23 : decode prog_14_method_101_code 23 = .ok (.iconst 5, 1) := by decide +kernel
theorem d_Mo_rule_24 : decode prog_14_method_101_code 24 = .ok (.invokevirtual 85, 3) := by decide +kernel
theorem d_Mo_rule_27 : decode prog_14_method_101_code 27 = .ok (.ireturn, 1) := by decide +kernel
theorem d_Mo_rule_28 : decode prog_14_method_101_code 28 = .ok (.aload_n 0, 1) := by decide +kernel
theorem d_Mo_rule_29 : decode prog_14_method_101_code 29 = .ok (.getfield 35, 3) := by decide +kernel
theorem d_Mo_rule_32 : decode prog_14_method_101_code 32 = .ok (.iconst 4, 1) := by decide +kernel
theorem d_Mo_rule_33 : decode prog_14_method_101_code 33 = .ok (.iload_n 1, 1) := by decide +kernel
theorem d_Mo_rule_34 : decode prog_14_method_101_code 34 = .ok (.iastore, 1) := by decide +kernel
theorem d_Mo_rule_35 : decode prog_14_method_101_code 35 = .ok (.iconst 1, 1) := by decide +kernel
theorem d_Mo_rule_36 : decode prog_14_method_101_code 36 = .ok (.ireturn, 1) := by decide +kernel
theorem d_Mo_way_0 : decode prog_14_method_104_code 0 = .ok (.aload_n 0, 1) := by decide +kernel
theorem d_Mo_way_1 : decode prog_14_method_104_code 1 = .ok (.iconst 0, 1) := by decide +kernel
theorem d_Mo_way_2 : decode prog_14_method_104_code 2 = .ok (.putfield 70, 3) := by decide +kernel
theorem d_Mo_way_5 : decode prog_14_method_104_code 5 = .ok (.aload_n 0, 1) := by decide +kernel
theorem d_Mo_way_6 : decode prog_14_method_104_code 6 = .ok (.aload_n 0, 1) := by decide +kernel
theorem d_Mo_way_7 : decode prog_14_method_104_code 7 = .ok (.iload_n 1, 1) := by decide +kernel
theorem d_Mo_way_8 : decode prog_14_method_104_code 8 = .ok (.iload_n 2, 1) := by decide +kernel
theorem d_Mo_way_9 : decode prog_14_method_104_code 9 = .ok (.invokevirtual 374, 3) := by decide +kernel
theorem d_Mo_way_12 : decode prog_14_method_104_code 12 = .ok (.putfield 73, 3) := by decide +kernel
theorem d_Mo_way_15 : decode prog_14_method_104_code 15 = .ok (.aload_n 0, 1) := by decide +kernel
theorem d_Mo_way_16 : decode prog_14_method_104_code 16 = .ok (.getfield 73, 3) := by decide +kernel
theorem d_Mo_way_19 : decode prog_14_method_104_code 19 = .ok (.ifCond .le 5, 3) := by decide +kernel
theorem d_Mo_way_22 : decode prog_14_method_104_code 22 = .ok (.iconst (-1), 1) := by decide +kernel
theorem d_Mo_way_23 : decode prog_14_method_104_code 23 = .ok (.ireturn, 1) := by decide +kernel
theorem d_Mo_way_24 : decode prog_14_method_104_code 24 = .ok (.aload_n 0, 1) := by decide +kernel
theorem d_Mo_way_25 : decode prog_14_method_104_code 25 = .ok (.iload_n 1, 1) := by decide +kernel
theorem d_Mo_way_26 : decode prog_14_method_104_code 26 = .ok (.iload_n 2, 1) := by decide +kernel
theorem d_Mo_way_27 : decode prog_14_method_104_code 27 = .ok (.invokevirtual 377, 3) := by decide +kernel
theorem d_Mo_way_30 : decode prog_14_method_104_code 30 = .ok (.aload_n 0, 1) := by decide +kernel
theorem d_Mo_way_31 : decode prog_14_method_104_code 31 = .ok (.getfield 44, 3) := by decide +kernel
theorem d_Mo_way_34 : decode prog_14_method_104_code 34 = .ok (.aload_n 0, 1) := by decide +kernel
theorem d_Mo_way_35 : decode prog_14_method_104_code 35 = .ok (.getfield 35, 3) := by decide +kernel
theorem d_Mo_way_38 : decode prog_14_method_104_code 38 = .ok (.bipush 42, 2) := by decide +kernel
theorem d_Mo_way_40 : decode prog_14_method_104_code 40 = .ok (.iload_n 1, 1) := by decide +kernel
theorem d_Mo_way_41 : decode prog_14_method_104_code 41 = .ok (.iadd, 1) := by decide +kernel
theorem d_Mo_way_42 : decode prog_14_method_104_code 42 = .ok (.iaload, 1) := by decide +kernel
theorem d_Mo_way_43 : decode prog_14_method_104_code 43 = .ok (.iaload, 1) := by decide +kernel
theorem d_Mo_way_44 : decode prog_14_method_104_code 44 = .ok (.istore_n 3, 1) := by decide +kernel
theorem d_Mo_way_45 : decode prog_14_method_104_code 45 = .ok (.iload_n 3, 1) := by decide +kernel
theorem d_Mo_way_46 : decode prog_14_method_104_code 46 = .ok (.bipush 99, 2) := by decide +kernel
theorem d_Mo_way_48 : decode prog_14_method_104_code 48 = .ok (.if_icmp .ge 7, 3) := by decide +kernel
theorem d_Mo_way_51 : decode prog_14_method_104_code 51 = .ok (.iload_n 3, 1) := by decide +kernel
theorem d_Mo_way_52 : decode prog_14_method_104_code 52 = .ok (.goto 9, 3) := by decide +kernel
theorem d_Mo_way_55 : decode prog_14_method_104_code 55 = .ok (.aload_n 0, 1) := by decide +kernel
theorem d_Mo_way_56 : decode prog_14_method_104_code 56 = .ok (.bipush 8, 2) := by decide +kernel
theorem d_Mo_way_58 : decode prog_14_method_104_code 58 = .ok (.invokevirtual 327, 3) := by decide +kernel
theorem d_Mo_way_61 : decode prog_14_method_104_code 61 = .ok (.ireturn, 1) := by decide +kernel
theorem d_Mo_whyNoWay_0 : decode prog_14_method_103_code 0 = .ok (.aload_n 0, 1) := by decide +kernel
theorem d_Mo_whyNoWay_1 : decode prog_14_method_103_code 1 = .ok (.iload_n 1, 1) := by decide +kernel
theorem d_Mo_whyNoWay_2 : decode prog_14_method_103_code 2 = .ok (.invokevirtual 344, 3) := by decide +kernel
theorem d_Mo_whyNoWay_5 : decode prog_14_method_103_code 5 = .ok (.ifCond .eq 12, 3) := by decide +kernel
theorem d_Mo_whyNoWay_8 : decode prog_14_method_103_code 8 = .ok (.aload_n 0, 1) := by decide +kernel
theorem d_Mo_whyNoWay_9 : decode prog_14_method_103_code 9 = .ok (.iload_n 2, 1) := by decide +kernel
theorem d_Mo_whyNoWay_10 : decode prog_14_method_103_code 10 = .ok (.i2l, 1) := by decide +kernel
theorem d_Mo_whyNoWay_11 : decode prog_14_method_103_code 11 = .ok (.invokevirtual 336, 3) := by decide +kernel
theorem d_Mo_whyNoWay_14 : decode prog_14_method_103_code 14 = .ok (.ifCond .ne 7, 3) := by decide +kernel
theorem d_Mo_whyNoWay_17 : decode prog_14_method_103_code 17 = .ok (.iconst 2, 1) := by decide +kernel
theorem d_Mo_whyNoWay_18 : decode prog_14_method_103_code 18 = .ok (.goto 17, 3) := by decide +kernel
theorem d_Mo_whyNoWay_21 : decode prog_14_method_103_code 21 = .ok (.aload_n 0, 1) := by decide +kernel
theorem d_Mo_whyNoWay_22 : decode prog_14_method_103_code 22 = .ok (.iload_n 1, 1) := by decide +kernel
theorem d_Mo_whyNoWay_23 : decode prog_14_method_103_code 23 = .ok (.invokevirtual 310, 3) := by decide +kernel
theorem d_Mo_whyNoWay_26 : decode prog_14_method_103_code 26 = .ok (.ifCond .eq 8, 3) := by decide +kernel
theorem d_Mo_whyNoWay_29 : decode prog_14_method_103_code 29 = .ok (.bipush 9, 2) := by decide +kernel
theorem d_Mo_whyNoWay_31 : decode prog_14_method_103_code 31 = .ok (.goto 4, 3) := by decide +kernel
theorem d_Mo_whyNoWay_34 : decode prog_14_method_103_code 34 = .ok (.iconst 0, 1) := by decide +kernel
theorem d_Mo_whyNoWay_35 : decode prog_14_method_103_code 35 = .ok (.ireturn, 1) := by decide +kernel
theorem d_Mo_laysFar_0 : decode prog_14_method_102_code 0 = .ok (.iconst 0, 1) := by decide +kernel
theorem d_Mo_laysFar_1 : decode prog_14_method_102_code 1 = .ok (.istore_n 3, 1) := by decide +kernel
theorem d_Mo_laysFar_2 : decode prog_14_method_102_code 2 = .ok (.iload_n 3, 1) := by decide +kernel
theorem d_Mo_laysFar_3 : decode prog_14_method_102_code 3 = .ok (.bipush 7, 2) := by decide +kernel
theorem d_Mo_laysFar_5 : decode prog_14_method_102_code 5 = .ok (.if_icmp .ge 26, 3) := by decide +kernel
theorem d_Mo_laysFar_8 : decode prog_14_method_102_code 8 = .ok (.aload_n 0, 1) := by decide +kernel
theorem d_Mo_laysFar_9 : decode prog_14_method_102_code 9 = .ok (.getfield 44, 3) := by decide +kernel
theorem d_Mo_laysFar_12 : decode prog_14_method_102_code 12 = .ok (.iload_n 3, 1) := by decide +kernel
theorem d_Mo_laysFar_13 : decode prog_14_method_102_code 13 = .ok (.iload_n 3, 1) := by decide +kernel
theorem d_Mo_laysFar_14 : decode prog_14_method_102_code 14 = .ok (.iload_n 2, 1) := by decide +kernel
theorem d_Mo_laysFar_15 : decode prog_14_method_102_code 15 = .ok (.if_icmp .ne 7, 3) := by decide +kernel
theorem d_Mo_laysFar_18 : decode prog_14_method_102_code 18 = .ok (.iconst 0, 1) := by decide +kernel
theorem d_Mo_laysFar_19 : decode prog_14_method_102_code 19 = .ok (.goto 5, 3) := by decide +kernel
theorem d_Mo_laysFar_22 : decode prog_14_method_102_code 22 = .ok (.bipush 99, 2) := by decide +kernel
theorem d_Mo_laysFar_24 : decode prog_14_method_102_code 24 = .ok (.iastore, 1) := by decide +kernel
theorem d_Mo_laysFar_25 : decode prog_14_method_102_code 25 = .ok (.iinc 3 1, 3) := by decide +kernel
theorem d_Mo_laysFar_28 : decode prog_14_method_102_code 28 = .ok (.goto (-26), 3) := by decide +kernel
theorem d_Mo_laysFar_31 : decode prog_14_method_102_code 31 = .ok (.iconst 0, 1) := by decide +kernel
theorem d_Mo_laysFar_32 : decode prog_14_method_102_code 32 = .ok (.istore_n 3, 1) := by decide +kernel
theorem d_Mo_laysFar_33 : decode prog_14_method_102_code 33 = .ok (.iload_n 3, 1) := by decide +kernel
theorem d_Mo_laysFar_34 : decode prog_14_method_102_code 34 = .ok (.bipush 7, 2) := by decide +kernel
theorem d_Mo_laysFar_36 : decode prog_14_method_102_code 36 = .ok (.if_icmp .ge 101, 3) := by decide +kernel
theorem d_Mo_laysFar_39 : decode prog_14_method_102_code 39 = .ok (.iconst 0, 1) := by decide +kernel
theorem d_Mo_laysFar_40 : decode prog_14_method_102_code 40 = .ok (.istore 4, 2) := by decide +kernel
theorem d_Mo_laysFar_42 : decode prog_14_method_102_code 42 = .ok (.iload 4, 2) := by decide +kernel
theorem d_Mo_laysFar_44 : decode prog_14_method_102_code 44 = .ok (.aload_n 0, 1) := by decide +kernel
theorem d_Mo_laysFar_45 : decode prog_14_method_102_code 45 = .ok (.getfield 35, 3) := by decide +kernel
theorem d_Mo_laysFar_48 : decode prog_14_method_102_code 48 = .ok (.iconst 1, 1) := by decide +kernel
theorem d_Mo_laysFar_49 : decode prog_14_method_102_code 49 = .ok (.iaload, 1) := by decide +kernel
theorem d_Mo_laysFar_50 : decode prog_14_method_102_code 50 = .ok (.if_icmp .ge 81, 3) := by decide +kernel
theorem d_Mo_laysFar_53 : decode prog_14_method_102_code 53 = .ok (.aload_n 0, 1) := by decide +kernel
theorem d_Mo_laysFar_54 : decode prog_14_method_102_code 54 = .ok (.getfield 44, 3) := by decide +kernel
theorem d_Mo_laysFar_57 : decode prog_14_method_102_code 57 = .ok (.iload 4, 2) := by decide +kernel
theorem d_Mo_laysFar_59 : decode prog_14_method_102_code 59 = .ok (.iaload, 1) := by decide +kernel
theorem d_Mo_laysFar_60 : decode prog_14_method_102_code 60 = .ok (.bipush 99, 2) := by decide +kernel
theorem d_Mo_laysFar_62 : decode prog_14_method_102_code 62 = .ok (.if_icmp .ge 7, 3) := by decide +kernel
theorem d_Mo_laysFar_65 : decode prog_14_method_102_code 65 = .ok (.iconst 0, 1) := by decide +kernel
theorem d_Mo_laysFar_66 : decode prog_14_method_102_code 66 = .ok (.goto 10, 3) := by decide +kernel
theorem d_Mo_laysFar_69 : decode prog_14_method_102_code 69 = .ok (.aload_n 0, 1) := by decide +kernel
theorem d_Mo_laysFar_70 : decode prog_14_method_102_code 70 = .ok (.iload_n 1, 1) := by decide +kernel
theorem d_Mo_laysFar_71 : decode prog_14_method_102_code 71 = .ok (.iload 4, 2) := by decide +kernel
theorem d_Mo_laysFar_73 : decode prog_14_method_102_code 73 = .ok (.invokevirtual 357, 3) := by decide +kernel
theorem d_Mo_laysFar_76 : decode prog_14_method_102_code 76 = .ok (.istore 5, 2) := by decide +kernel
theorem d_Mo_laysFar_78 : decode prog_14_method_102_code 78 = .ok (.iconst 0, 1) := by decide +kernel
theorem d_Mo_laysFar_79 : decode prog_14_method_102_code 79 = .ok (.istore 6, 2) := by decide +kernel
theorem d_Mo_laysFar_81 : decode prog_14_method_102_code 81 = .ok (.iload 6, 2) := by decide +kernel
theorem d_Mo_laysFar_83 : decode prog_14_method_102_code 83 = .ok (.bipush 7, 2) := by decide +kernel
theorem d_Mo_laysFar_85 : decode prog_14_method_102_code 85 = .ok (.if_icmp .ge 40, 3) := by decide +kernel
theorem d_Mo_laysFar_88 : decode prog_14_method_102_code 88 = .ok (.iload 5, 2) := by decide +kernel
theorem d_Mo_laysFar_90 : decode prog_14_method_102_code 90 = .ok (.iload 6, 2) := by decide +kernel
theorem d_Mo_laysFar_92 : decode prog_14_method_102_code 92 = .ok (.invokestatic 109, 3) := by decide +kernel
theorem d_Mo_laysFar_95 : decode prog_14_method_102_code 95 = .ok (.ifCond .eq 24, 3) := by decide +kernel
theorem d_Mo_laysFar_98 : decode prog_14_method_102_code 98 = .ok (.aload_n 0, 1) := by decide +kernel
theorem d_Mo_laysFar_99 : decode prog_14_method_102_code 99 = .ok (.getfield 44, 3) := by decide +kernel
theorem d_Mo_laysFar_102 : decode prog_14_method_102_code 102 = .ok (.iload 6, 2) := by decide +kernel
theorem d_Mo_laysFar_104 : decode prog_14_method_102_code 104 = .ok (.iaload, 1) := by decide +kernel
theorem d_Mo_laysFar_105 : decode prog_14_method_102_code 105 = .ok (.iload_n 3, 1) := by decide +kernel
theorem d_Mo_laysFar_106 : decode prog_14_method_102_code 106 = .ok (.if_icmp .ne 13, 3) := by decide +kernel
theorem d_Mo_laysFar_109 : decode prog_14_method_102_code 109 = .ok (.aload_n 0, 1) := by decide +kernel
theorem d_Mo_laysFar_110 : decode prog_14_method_102_code 110 = .ok (.getfield 44, 3) := by decide +kernel
theorem d_Mo_laysFar_113 : decode prog_14_method_102_code 113 = .ok (.iload 4, 2) := by decide +kernel
theorem d_Mo_laysFar_115 : decode prog_14_method_102_code 115 = .ok (.iload_n 3, 1) := by decide +kernel
theorem d_Mo_laysFar_116 : decode prog_14_method_102_code 116 = .ok (.iconst 1, 1) := by decide +kernel
theorem d_Mo_laysFar_117 : decode prog_14_method_102_code 117 = .ok (.iadd, 1) := by decide +kernel
theorem d_Mo_laysFar_118 : decode prog_14_method_102_code 118 = .ok (.iastore, 1) := by decide +kernel
theorem d_Mo_laysFar_119 : decode prog_14_method_102_code 119 = .ok (.iinc 6 1, 3) := by decide +kernel
theorem d_Mo_laysFar_122 : decode prog_14_method_102_code 122 = .ok (.goto (-41), 3) := by decide +kernel
theorem d_Mo_laysFar_125 : decode prog_14_method_102_code 125 = .ok (.iinc 4 1, 3) := by decide +kernel
theorem d_Mo_laysFar_128 : decode prog_14_method_102_code 128 = .ok (.goto (-86), 3) := by decide +kernel
theorem d_Mo_laysFar_131 : decode prog_14_method_102_code 131 = .ok (.iinc 3 1, 3) := by decide +kernel
theorem d_Mo_laysFar_134 : decode prog_14_method_102_code 134 = .ok (.goto (-101), 3) := by decide +kernel
theorem d_Mo_laysFar_137 : decode prog_14_method_102_code 137 = .ok (.return_, 1) := by decide +kernel
theorem d_Mo_wayAt_0 : decode prog_14_method_105_code 0 = .ok (.aload_n 0, 1) := by decide +kernel
theorem d_Mo_wayAt_1 : decode prog_14_method_105_code 1 = .ok (.iconst 0, 1) := by decide +kernel
theorem d_Mo_wayAt_2 : decode prog_14_method_105_code 2 = .ok (.putfield 70, 3) := by decide +kernel
theorem d_Mo_wayAt_5 : decode prog_14_method_105_code 5 = .ok (.aload_n 0, 1) := by decide +kernel
theorem d_Mo_wayAt_6 : decode prog_14_method_105_code 6 = .ok (.aload_n 0, 1) := by decide +kernel
theorem d_Mo_wayAt_7 : decode prog_14_method_105_code 7 = .ok (.iload_n 1, 1) := by decide +kernel
theorem d_Mo_wayAt_8 : decode prog_14_method_105_code 8 = .ok (.iload_n 2, 1) := by decide +kernel
theorem d_Mo_wayAt_9 : decode prog_14_method_105_code 9 = .ok (.invokevirtual 374, 3) := by decide +kernel
theorem d_Mo_wayAt_12 : decode prog_14_method_105_code 12 = .ok (.putfield 73, 3) := by decide +kernel
theorem d_Mo_wayAt_15 : decode prog_14_method_105_code 15 = .ok (.aload_n 0, 1) := by decide +kernel
theorem d_Mo_wayAt_16 : decode prog_14_method_105_code 16 = .ok (.getfield 73, 3) := by decide +kernel
theorem d_Mo_wayAt_19 : decode prog_14_method_105_code 19 = .ok (.ifCond .le 5, 3) := by decide +kernel
theorem d_Mo_wayAt_22 : decode prog_14_method_105_code 22 = .ok (.iconst (-1), 1) := by decide +kernel
theorem d_Mo_wayAt_23 : decode prog_14_method_105_code 23 = .ok (.ireturn, 1) := by decide +kernel
theorem d_Mo_wayAt_24 : decode prog_14_method_105_code 24 = .ok (.aload_n 0, 1) := by decide +kernel
theorem d_Mo_wayAt_25 : decode prog_14_method_105_code 25 = .ok (.iload_n 1, 1) := by decide +kernel
theorem d_Mo_wayAt_26 : decode prog_14_method_105_code 26 = .ok (.iload_n 2, 1) := by decide +kernel
theorem d_Mo_wayAt_27 : decode prog_14_method_105_code 27 = .ok (.invokevirtual 377, 3) := by decide +kernel
theorem d_Mo_wayAt_30 : decode prog_14_method_105_code 30 = .ok (.aload_n 0, 1) := by decide +kernel
theorem d_Mo_wayAt_31 : decode prog_14_method_105_code 31 = .ok (.getfield 35, 3) := by decide +kernel
theorem d_Mo_wayAt_34 : decode prog_14_method_105_code 34 = .ok (.bipush 42, 2) := by decide +kernel
theorem d_Mo_wayAt_36 : decode prog_14_method_105_code 36 = .ok (.iload_n 1, 1) := by decide +kernel
theorem d_Mo_wayAt_37 : decode prog_14_method_105_code 37 = .ok (.iadd, 1) := by decide +kernel
theorem d_Mo_wayAt_38 : decode prog_14_method_105_code 38 = .ok (.iaload, 1) := by decide +kernel
theorem d_Mo_wayAt_39 : decode prog_14_method_105_code 39 = .ok (.istore 4, 2) := by decide +kernel
theorem d_Mo_wayAt_41 : decode prog_14_method_105_code 41 = .ok (.aload_n 0, 1) := by decide +kernel
theorem d_Mo_wayAt_42 : decode prog_14_method_105_code 42 = .ok (.getfield 44, 3) := by decide +kernel
theorem d_Mo_wayAt_45 : decode prog_14_method_105_code 45 = .ok (.iload 4, 2) := by decide +kernel
theorem d_Mo_wayAt_47 : decode prog_14_method_105_code 47 = .ok (.iaload, 1) := by decide +kernel
theorem d_Mo_wayAt_48 : decode prog_14_method_105_code 48 = .ok (.bipush 99, 2) := by decide +kernel
theorem d_Mo_wayAt_50 : decode prog_14_method_105_code 50 = .ok (.if_icmp .ge 20, 3) := by decide +kernel
theorem d_Mo_wayAt_53 : decode prog_14_method_105_code 53 = .ok (.iload_n 3, 1) := by decide +kernel
theorem d_Mo_wayAt_54 : decode prog_14_method_105_code 54 = .ok (.i2l, 1) := by decide +kernel
theorem d_Mo_wayAt_55 : decode prog_14_method_105_code 55 = .ok (.lconst 0, 1) := by decide +kernel
theorem d_Mo_wayAt_56 : decode prog_14_method_105_code 56 = .ok (.aload_n 0, 1) := by decide +kernel
theorem d_Mo_wayAt_57 : decode prog_14_method_105_code 57 = .ok (.getfield 44, 3) := by decide +kernel
theorem d_Mo_wayAt_60 : decode prog_14_method_105_code 60 = .ok (.iload 4, 2) := by decide +kernel
theorem d_Mo_wayAt_62 : decode prog_14_method_105_code 62 = .ok (.iaload, 1) := by decide +kernel
theorem d_Mo_wayAt_63 : decode prog_14_method_105_code 63 = .ok (.i2l, 1) := by decide +kernel
theorem d_Mo_wayAt_64 : decode prog_14_method_105_code 64 = .ok (.invokestatic 105, 3) := by decide +kernel
theorem d_Mo_wayAt_67 : decode prog_14_method_105_code 67 = .ok (.ifCond .ne 10, 3) := by decide +kernel
theorem d_Mo_wayAt_70 : decode prog_14_method_105_code 70 = .ok (.aload_n 0, 1) := by decide +kernel
theorem d_Mo_wayAt_71 : decode prog_14_method_105_code 71 = .ok (.bipush 8, 2) := by decide +kernel
theorem d_Mo_wayAt_73 : decode prog_14_method_105_code 73 = .ok (.invokevirtual 327, 3) := by decide +kernel
theorem d_Mo_wayAt_76 : decode prog_14_method_105_code 76 = .ok (.ireturn, 1) := by decide +kernel
theorem d_Mo_wayAt_77 : decode prog_14_method_105_code 77 = .ok (.iconst 0, 1) := by decide +kernel
theorem d_Mo_wayAt_78 : decode prog_14_method_105_code 78 = .ok (.istore 5, 2) := by decide +kernel
theorem d_Mo_wayAt_80 : decode prog_14_method_105_code 80 = .ok (.iload 5, 2) := by decide +kernel
theorem d_Mo_wayAt_82 : decode prog_14_method_105_code 82 = .ok (.iload_n 3, 1) := by decide +kernel
theorem d_Mo_wayAt_83 : decode prog_14_method_105_code 83 = .ok (.if_icmp .ge 60, 3) := by decide +kernel
theorem d_Mo_wayAt_86 : decode prog_14_method_105_code 86 = .ok (.aload_n 0, 1) := by decide +kernel
theorem d_Mo_wayAt_87 : decode prog_14_method_105_code 87 = .ok (.iload_n 1, 1) := by decide +kernel
theorem d_Mo_wayAt_88 : decode prog_14_method_105_code 88 = .ok (.iload 4, 2) := by decide +kernel
theorem d_Mo_wayAt_90 : decode prog_14_method_105_code 90 = .ok (.invokevirtual 357, 3) := by decide +kernel
theorem d_Mo_wayAt_93 : decode prog_14_method_105_code 93 = .ok (.istore 6, 2) := by decide +kernel
theorem d_Mo_wayAt_95 : decode prog_14_method_105_code 95 = .ok (.iconst 0, 1) := by decide +kernel
theorem d_Mo_wayAt_96 : decode prog_14_method_105_code 96 = .ok (.istore 7, 2) := by decide +kernel
theorem d_Mo_wayAt_98 : decode prog_14_method_105_code 98 = .ok (.iload 6, 2) := by decide +kernel
theorem d_Mo_wayAt_100 : decode prog_14_method_105_code 100 = .ok (.iload 7, 2) := by decide +kernel
theorem d_Mo_wayAt_102 : decode prog_14_method_105_code 102 = .ok (.invokestatic 109, 3) := by decide +kernel
theorem d_Mo_wayAt_105 : decode prog_14_method_105_code 105 = .ok (.ifCond .eq 22, 3) := by decide +kernel
theorem d_Mo_wayAt_108 : decode prog_14_method_105_code 108 = .ok (.aload_n 0, 1) := by decide +kernel
theorem d_Mo_wayAt_109 : decode prog_14_method_105_code 109 = .ok (.getfield 44, 3) := by decide +kernel
theorem d_Mo_wayAt_112 : decode prog_14_method_105_code 112 = .ok (.iload 7, 2) := by decide +kernel
theorem d_Mo_wayAt_114 : decode prog_14_method_105_code 114 = .ok (.iaload, 1) := by decide +kernel
theorem d_Mo_wayAt_115 : decode prog_14_method_105_code 115 = .ok (.aload_n 0, 1) := by decide +kernel
theorem d_Mo_wayAt_116 : decode prog_14_method_105_code 116 = .ok (.getfield 44, 3) := by decide +kernel
theorem d_Mo_wayAt_119 : decode prog_14_method_105_code 119 = .ok (.iload 4, 2) := by decide +kernel
theorem d_Mo_wayAt_121 : decode prog_14_method_105_code 121 = .ok (.iaload, 1) := by decide +kernel
theorem d_Mo_wayAt_122 : decode prog_14_method_105_code 122 = .ok (.iconst 1, 1) := by decide +kernel
theorem d_Mo_wayAt_123 : decode prog_14_method_105_code 123 = .ok (.isub, 1) := by decide +kernel
theorem d_Mo_wayAt_124 : decode prog_14_method_105_code 124 = .ok (.if_icmp .eq 9, 3) := by decide +kernel
theorem d_Mo_wayAt_127 : decode prog_14_method_105_code 127 = .ok (.iinc 7 1, 3) := by decide +kernel
theorem d_Mo_wayAt_130 : decode prog_14_method_105_code 130 = .ok (.goto (-32), 3) := by decide +kernel
theorem d_Mo_wayAt_133 : decode prog_14_method_105_code 133 = .ok (.iload 7, 2) := by decide +kernel
theorem d_Mo_wayAt_135 : decode prog_14_method_105_code 135 = .ok (.istore 4, 2) := by decide +kernel
theorem d_Mo_wayAt_137 : decode prog_14_method_105_code 137 = .ok (.iinc 5 1, 3) := by decide +kernel
theorem d_Mo_wayAt_140 : decode prog_14_method_105_code 140 = .ok (.goto (-60), 3) := by decide +kernel
theorem d_Mo_wayAt_143 : decode prog_14_method_105_code 143 = .ok (.iload 4, 2) := by decide +kernel
theorem d_Mo_wayAt_145 : decode prog_14_method_105_code 145 = .ok (.ireturn, 1) := by decide +kernel
