/-! decode rows (printed by wip/tools/p09.py) -/
theorem d_FenR_new_0 : decode prog_3_method_1_code 0 = .ok (.aload_n 0, 1) := by decide +kernel
theorem d_FenR_new_1 : decode prog_3_method_1_code 1 = .ok (.invokespecial 3, 3) := by decide +kernel
theorem d_FenR_new_4 : decode prog_3_method_1_code 4 = .ok (.aload_n 0, 1) := by decide +kernel
theorem d_FenR_new_5 : decode prog_3_method_1_code 5 = .ok (.aload_n 1, 1) := by decide +kernel
theorem d_FenR_new_6 : decode prog_3_method_1_code 6 = .ok (.putfield 9, 3) := by decide +kernel
theorem d_FenR_new_9 : decode prog_3_method_1_code 9 = .ok (.return_, 1) := by decide +kernel
theorem d_Fen_new_0 : decode prog_2_method_1_code 0 = .ok (.aload_n 0, 1) := by decide +kernel
theorem d_Fen_new_1 : decode prog_2_method_1_code 1 = .ok (.invokespecial 3, 3) := by decide +kernel
theorem d_Fen_new_4 : decode prog_2_method_1_code 4 = .ok (.aload_n 0, 1) := by decide +kernel
theorem d_Fen_new_5 : decode prog_2_method_1_code 5 = .ok (.bipush 8, 2) := by decide +kernel
theorem d_Fen_new_7 : decode prog_2_method_1_code 7 = .ok (.putfield 9, 3) := by decide +kernel
theorem d_Fen_new_10 : decode prog_2_method_1_code 10 = .ok (.aload_n 0, 1) := by decide +kernel
theorem d_Fen_new_11 : decode prog_2_method_1_code 11 = .ok (.bipush 6, 2) := by decide +kernel
theorem d_Fen_new_13 : decode prog_2_method_1_code 13 = .ok (.newarray .int, 2) := by decide +kernel
theorem d_Fen_new_15 : decode prog_2_method_1_code 15 = .ok (.putfield 15, 3) := by decide +kernel
theorem d_Fen_new_18 : decode prog_2_method_1_code 18 = .ok (.aload_n 0, 1) := by decide +kernel
theorem d_Fen_new_19 : decode prog_2_method_1_code 19 = .ok (.bipush 7, 2) := by decide +kernel
theorem d_Fen_new_21 : decode prog_2_method_1_code 21 = .ok (.newarray .int, 2) := by decide +kernel
theorem d_Fen_new_23 : decode prog_2_method_1_code 23 = .ok (.putfield 19, 3) := by decide +kernel
theorem d_Fen_new_26 : decode prog_2_method_1_code 26 = .ok (.aload_n 0, 1) := by decide +kernel
theorem d_Fen_new_27 : decode prog_2_method_1_code 27 = .ok (.bipush 7, 2) := by decide +kernel
theorem d_Fen_new_29 : decode prog_2_method_1_code 29 = .ok (.newarray .int, 2) := by decide +kernel
theorem d_Fen_new_31 : decode prog_2_method_1_code 31 = .ok (.putfield 22, 3) := by decide +kernel
theorem d_Fen_new_34 : decode prog_2_method_1_code 34 = .ok (.aload_n 0, 1) := by decide +kernel
theorem d_Fen_new_35 : decode prog_2_method_1_code 35 = .ok (.bipush 7, 2) := by decide +kernel
theorem d_Fen_new_37 : decode prog_2_method_1_code 37 = .ok (.newarray .int, 2) := by decide +kernel
theorem d_Fen_new_39 : decode prog_2_method_1_code 39 = .ok (.putfield 25, 3) := by decide +kernel
theorem d_Fen_new_42 : decode prog_2_method_1_code 42 = .ok (.aload_n 0, 1) := by decide +kernel
theorem d_Fen_new_43 : decode prog_2_method_1_code 43 = .ok (.bipush 9, 2) := by decide +kernel
theorem d_Fen_new_45 : decode prog_2_method_1_code 45 = .ok (.newarray .int, 2) := by decide +kernel
theorem d_Fen_new_47 : decode prog_2_method_1_code 47 = .ok (.putfield 28, 3) := by decide +kernel
theorem d_Fen_new_50 : decode prog_2_method_1_code 50 = .ok (.aload_n 0, 1) := by decide +kernel
theorem d_Fen_new_51 : decode prog_2_method_1_code 51 = .ok (.bipush 9, 2) := by decide +kernel
theorem d_Fen_new_53 : decode prog_2_method_1_code 53 = .ok (.newarray .int, 2) := by decide +kernel
theorem d_Fen_new_55 : decode prog_2_method_1_code 55 = .ok (.putfield 31, 3) := by decide +kernel
theorem d_Fen_new_58 : decode prog_2_method_1_code 58 = .ok (.aload_n 0, 1) := by decide +kernel
theorem d_Fen_new_59 : decode prog_2_method_1_code 59 = .ok (.bipush 9, 2) := by decide +kernel
theorem d_Fen_new_61 : decode prog_2_method_1_code 61 = .ok (.newarray .int, 2) := by decide +kernel
theorem d_Fen_new_63 : decode prog_2_method_1_code 63 = .ok (.putfield 34, 3) := by decide +kernel
theorem d_Fen_new_66 : decode prog_2_method_1_code 66 = .ok (.aload_n 0, 1) := by decide +kernel
theorem d_Fen_new_67 : decode prog_2_method_1_code 67 = .ok (.bipush 9, 2) := by decide +kernel
theorem d_Fen_new_69 : decode prog_2_method_1_code 69 = .ok (.newarray .int, 2) := by decide +kernel
theorem d_Fen_new_71 : decode prog_2_method_1_code 71 = .ok (.putfield 37, 3) := by decide +kernel
theorem d_Fen_new_74 : decode prog_2_method_1_code 74 = .ok (.aload_n 0, 1) := by decide +kernel
theorem d_Fen_new_75 : decode prog_2_method_1_code 75 = .ok (.bipush 6, 2) := by decide +kernel
theorem d_Fen_new_77 : decode prog_2_method_1_code 77 = .ok (.newarray .long, 2) := by decide +kernel
theorem d_Fen_new_79 : decode prog_2_method_1_code 79 = .ok (.putfield 40, 3) := by decide +kernel
theorem d_Fen_new_82 : decode prog_2_method_1_code 82 = .ok (.aload_n 0, 1) := by decide +kernel
theorem d_Fen_new_83 : decode prog_2_method_1_code 83 = .ok (.bipush 7, 2) := by decide +kernel
theorem d_Fen_new_85 : decode prog_2_method_1_code 85 = .ok (.newarray .long, 2) := by decide +kernel
theorem d_Fen_new_87 : decode prog_2_method_1_code 87 = .ok (.putfield 44, 3) := by decide +kernel
theorem d_Fen_new_90 : decode prog_2_method_1_code 90 = .ok (.aload_n 0, 1) := by decide +kernel
theorem d_Fen_new_91 : decode prog_2_method_1_code 91 = .ok (.bipush 9, 2) := by decide +kernel
theorem d_Fen_new_93 : decode prog_2_method_1_code 93 = .ok (.newarray .long, 2) := by decide +kernel
theorem d_Fen_new_95 : decode prog_2_method_1_code 95 = .ok (.putfield 47, 3) := by decide +kernel
theorem d_Fen_new_98 : decode prog_2_method_1_code 98 = .ok (.aload_n 0, 1) := by decide +kernel
theorem d_Fen_new_99 : decode prog_2_method_1_code 99 = .ok (.new 50, 3) := by decide +kernel
theorem d_Fen_new_102 : decode prog_2_method_1_code 102 = .ok (.dup, 1) := by decide +kernel
theorem d_Fen_new_103 : decode prog_2_method_1_code 103 = .ok (.invokespecial 52, 3) := by decide +kernel
theorem d_Fen_new_106 : decode prog_2_method_1_code 106 = .ok (.putfield 53, 3) := by decide +kernel
theorem d_Fen_new_109 : decode prog_2_method_1_code 109 = .ok (.return_, 1) := by decide +kernel
theorem d_Giv_new_0 : decode prog_5_method_1_code 0 = .ok (.aload_n 0, 1) := by decide +kernel
theorem d_Giv_new_1 : decode prog_5_method_1_code 1 = .ok (.invokespecial 3, 3) := by decide +kernel
theorem d_Giv_new_4 : decode prog_5_method_1_code 4 = .ok (.aload_n 0, 1) := by decide +kernel
theorem d_Giv_new_5 : decode prog_5_method_1_code 5 = .ok (.bipush 10, 2) := by decide +kernel
theorem d_Giv_new_7 : decode prog_5_method_1_code 7 = .ok (.sipush 128, 3) := by decide +kernel
theorem d_Giv_new_10 : decode prog_5_method_1_code 10 = .ok (.multianewarray 11 2, 4) := by decide +kernel
theorem d_Giv_new_14 : decode prog_5_method_1_code 14 = .ok (.putfield 13, 3) := by decide +kernel
theorem d_Giv_new_17 : decode prog_5_method_1_code 17 = .ok (.return_, 1) := by decide +kernel
theorem d_Game_new_0 : decode prog_4_method_1_code 0 = .ok (.aload_n 0, 1) := by decide +kernel
theorem d_Game_new_1 : decode prog_4_method_1_code 1 = .ok (.invokespecial 3, 3) := by decide +kernel
theorem d_Game_new_4 : decode prog_4_method_1_code 4 = .ok (.aload_n 0, 1) := by decide +kernel
theorem d_Game_new_5 : decode prog_4_method_1_code 5 = .ok (.bipush 9, 2) := by decide +kernel
theorem d_Game_new_7 : decode prog_4_method_1_code 7 = .ok (.newarray .int, 2) := by decide +kernel
theorem d_Game_new_9 : decode prog_4_method_1_code 9 = .ok (.putfield 9, 3) := by decide +kernel
theorem d_Game_new_12 : decode prog_4_method_1_code 12 = .ok (.aload_n 0, 1) := by decide +kernel
theorem d_Game_new_13 : decode prog_4_method_1_code 13 = .ok (.bipush 9, 2) := by decide +kernel
theorem d_Game_new_15 : decode prog_4_method_1_code 15 = .ok (.newarray .int, 2) := by decide +kernel
theorem d_Game_new_17 : decode prog_4_method_1_code 17 = .ok (.putfield 15, 3) := by decide +kernel
theorem d_Game_new_20 : decode prog_4_method_1_code 20 = .ok (.aload_n 0, 1) := by decide +kernel
theorem d_Game_new_21 : decode prog_4_method_1_code 21 = .ok (.bipush 9, 2) := by decide +kernel
theorem d_Game_new_23 : decode prog_4_method_1_code 23 = .ok (.newarray .int, 2) := by decide +kernel
theorem d_Game_new_25 : decode prog_4_method_1_code 25 = .ok (.putfield 18, 3) := by decide +kernel
theorem d_Game_new_28 : decode prog_4_method_1_code 28 = .ok (.return_, 1) := by decide +kernel
theorem d_FenR_readInto_0 : decode prog_3_method_2_code 0 = .ok (.aload_n 1, 1) := by decide +kernel
theorem d_FenR_readInto_1 : decode prog_3_method_2_code 1 = .ok (.invokevirtual 15, 3) := by decide +kernel
theorem d_FenR_readInto_4 : decode prog_3_method_2_code 4 = .ok (.aload_n 0, 1) := by decide +kernel
theorem d_FenR_readInto_5 : decode prog_3_method_2_code 5 = .ok (.iconst 0, 1) := by decide +kernel
theorem d_FenR_readInto_6 : decode prog_3_method_2_code 6 = .ok (.putfield 20, 3) := by decide +kernel
theorem d_FenR_readInto_9 : decode prog_3_method_2_code 9 = .ok (.aload_n 0, 1) := by decide +kernel
theorem d_FenR_readInto_10 : decode prog_3_method_2_code 10 = .ok (.getfield 9, 3) := by decide +kernel
theorem d_FenR_readInto_13 : decode prog_3_method_2_code 13 = .ok (.aload_n 2, 1) := by decide +kernel
theorem d_FenR_readInto_14 : decode prog_3_method_2_code 14 = .ok (.iload_n 3, 1) := by decide +kernel
theorem d_FenR_readInto_15 : decode prog_3_method_2_code 15 = .ok (.invokevirtual 24, 3) := by decide +kernel
theorem d_FenR_readInto_18 : decode prog_3_method_2_code 18 = .ok (.iconst 0, 1) := by decide +kernel
theorem d_FenR_readInto_19 : decode prog_3_method_2_code 19 = .ok (.istore 4, 2) := by decide +kernel
theorem d_FenR_readInto_21 : decode prog_3_method_2_code 21 = .ok (.iload 4, 2) := by decide +kernel
theorem d_FenR_readInto_23 : decode prog_3_method_2_code 23 = .ok (.sipush 900, 3) := by decide +kernel
theorem d_FenR_readInto_26 : decode prog_3_method_2_code 26 = .ok (.if_icmp .ge 29, 3) := by decide +kernel
theorem d_FenR_readInto_29 : decode prog_3_method_2_code 29 = .ok (.aload_n 0, 1) := by decide +kernel
theorem d_FenR_readInto_30 : decode prog_3_method_2_code 30 = .ok (.getfield 9, 3) := by decide +kernel
theorem d_FenR_readInto_33 : decode prog_3_method_2_code 33 = .ok (.getfield 30, 3) := by decide +kernel
theorem d_FenR_readInto_36 : decode prog_3_method_2_code 36 = .ok (.ifCond .eq 19, 3) := by decide +kernel
theorem d_FenR_readInto_39 : decode prog_3_method_2_code 39 = .ok (.aload_n 0, 1) := by decide +kernel
theorem d_FenR_readInto_40 : decode prog_3_method_2_code 40 = .ok (.aload_n 1, 1) := by decide +kernel
theorem d_FenR_readInto_41 : decode prog_3_method_2_code 41 = .ok (.invokevirtual 34, 3) := by decide +kernel
theorem d_FenR_readInto_44 : decode prog_3_method_2_code 44 = .ok (.ifCond .ne 5, 3) := by decide +kernel
theorem d_FenR_readInto_47 : decode prog_3_method_2_code 47 = .ok (.iconst 0, 1) := by decide +kernel
theorem d_FenR_readInto_48 : decode prog_3_method_2_code 48 = .ok (.ireturn, 1) := by decide +kernel
theorem d_FenR_readInto_49 : decode prog_3_method_2_code 49 = .ok (.iinc 4 1, 3) := by decide +kernel
theorem d_FenR_readInto_52 : decode prog_3_method_2_code 52 = .ok (.goto (-31), 3) := by decide +kernel
theorem d_FenR_readInto_55 : decode prog_3_method_2_code 55 = .ok (.iconst 1, 1) := by decide +kernel
theorem d_FenR_readInto_56 : decode prog_3_method_2_code 56 = .ok (.ireturn, 1) := by decide +kernel
theorem d_Fen_clear_0 : decode prog_2_method_2_code 0 = .ok (.aload_n 0, 1) := by decide +kernel
theorem d_Fen_clear_1 : decode prog_2_method_2_code 1 = .ok (.bipush 8, 2) := by decide +kernel
theorem d_Fen_clear_3 : decode prog_2_method_2_code 3 = .ok (.putfield 9, 3) := by decide +kernel
theorem d_Fen_clear_6 : decode prog_2_method_2_code 6 = .ok (.aload_n 0, 1) := by decide +kernel
theorem d_Fen_clear_7 : decode prog_2_method_2_code 7 = .ok (.iconst 0, 1) := by decide +kernel
theorem d_Fen_clear_8 : decode prog_2_method_2_code 8 = .ok (.putfield 57, 3) := by decide +kernel
theorem d_Fen_clear_11 : decode prog_2_method_2_code 11 = .ok (.aload_n 0, 1) := by decide +kernel
theorem d_Fen_clear_12 : decode prog_2_method_2_code 12 = .ok (.iconst 0, 1) := by decide +kernel
theorem d_Fen_clear_13 : decode prog_2_method_2_code 13 = .ok (.putfield 60, 3) := by decide +kernel
theorem d_Fen_clear_16 : decode prog_2_method_2_code 16 = .ok (.aload_n 0, 1) := by decide +kernel
theorem d_Fen_clear_17 : decode prog_2_method_2_code 17 = .ok (.iconst 0, 1) := by decide +kernel
theorem d_Fen_clear_18 : decode prog_2_method_2_code 18 = .ok (.putfield 63, 3) := by decide +kernel
theorem d_Fen_clear_21 : decode prog_2_method_2_code 21 = .ok (.aload_n 0, 1) := by decide +kernel
theorem d_Fen_clear_22 : decode prog_2_method_2_code 22 = .ok (.iconst 0, 1) := by decide +kernel
theorem d_Fen_clear_23 : decode prog_2_method_2_code 23 = .ok (.putfield 66, 3) := by decide +kernel
theorem d_Fen_clear_26 : decode prog_2_method_2_code 26 = .ok (.aload_n 0, 1) := by decide +kernel
theorem d_Fen_clear_27 : decode prog_2_method_2_code 27 = .ok (.iconst 0, 1) := by decide +kernel
theorem d_Fen_clear_28 : decode prog_2_method_2_code 28 = .ok (.putfield 69, 3) := by decide +kernel
theorem d_Fen_clear_31 : decode prog_2_method_2_code 31 = .ok (.aload_n 0, 1) := by decide +kernel
theorem d_Fen_clear_32 : decode prog_2_method_2_code 32 = .ok (.iconst 0, 1) := by decide +kernel
theorem d_Fen_clear_33 : decode prog_2_method_2_code 33 = .ok (.putfield 72, 3) := by decide +kernel
theorem d_Fen_clear_36 : decode prog_2_method_2_code 36 = .ok (.aload_n 0, 1) := by decide +kernel
theorem d_Fen_clear_37 : decode prog_2_method_2_code 37 = .ok (.iconst 0, 1) := by decide +kernel
theorem d_Fen_clear_38 : decode prog_2_method_2_code 38 = .ok (.putfield 75, 3) := by decide +kernel
theorem d_Fen_clear_41 : decode prog_2_method_2_code 41 = .ok (.aload_n 0, 1) := by decide +kernel
theorem d_Fen_clear_42 : decode prog_2_method_2_code 42 = .ok (.getfield 53, 3) := by decide +kernel
theorem d_Fen_clear_45 : decode prog_2_method_2_code 45 = .ok (.invokevirtual 78, 3) := by decide +kernel
theorem d_Fen_clear_48 : decode prog_2_method_2_code 48 = .ok (.return_, 1) := by decide +kernel
theorem d_FenR_readPart_0 : decode prog_3_method_3_code 0 = .ok (.aload_n 0, 1) := by decide +kernel
theorem d_FenR_readPart_1 : decode prog_3_method_3_code 1 = .ok (.getfield 9, 3) := by decide +kernel
theorem d_FenR_readPart_4 : decode prog_3_method_3_code 4 = .ok (.getfield 38, 3) := by decide +kernel
theorem d_FenR_readPart_7 : decode prog_3_method_3_code 7 = .ok (.tableswitch 71 0 6 #[41, 47, 71, 53, 71, 59, 65], 41) := by decide +kernel
theorem d_FenR_readPart_48 : decode prog_3_method_3_code 48 = .ok (.aload_n 0, 1) := by decide +kernel
theorem d_FenR_readPart_49 : decode prog_3_method_3_code 49 = .ok (.aload_n 1, 1) := by decide +kernel
theorem d_FenR_readPart_50 : decode prog_3_method_3_code 50 = .ok (.invokevirtual 41, 3) := by decide +kernel
theorem d_FenR_readPart_53 : decode prog_3_method_3_code 53 = .ok (.ireturn, 1) := by decide +kernel
theorem d_FenR_readPart_54 : decode prog_3_method_3_code 54 = .ok (.aload_n 0, 1) := by decide +kernel
theorem d_FenR_readPart_55 : decode prog_3_method_3_code 55 = .ok (.aload_n 1, 1) := by decide +kernel
theorem d_FenR_readPart_56 : decode prog_3_method_3_code 56 = .ok (.invokevirtual 44, 3) := by decide +kernel
theorem d_FenR_readPart_59 : decode prog_3_method_3_code 59 = .ok (.ireturn, 1) := by decide +kernel
theorem d_FenR_readPart_60 : decode prog_3_method_3_code 60 = .ok (.aload_n 0, 1) := by decide +kernel
theorem d_FenR_readPart_61 : decode prog_3_method_3_code 61 = .ok (.aload_n 1, 1) := by decide +kernel
theorem d_FenR_readPart_62 : decode prog_3_method_3_code 62 = .ok (.invokevirtual 47, 3) := by decide +kernel
theorem d_FenR_readPart_65 : decode prog_3_method_3_code 65 = .ok (.ireturn, 1) := by decide +kernel
theorem d_FenR_readPart_66 : decode prog_3_method_3_code 66 = .ok (.aload_n 0, 1) := by decide +kernel
theorem d_FenR_readPart_67 : decode prog_3_method_3_code 67 = .ok (.aload_n 1, 1) := by decide +kernel
theorem d_FenR_readPart_68 : decode prog_3_method_3_code 68 = .ok (.invokevirtual 50, 3) := by decide +kernel
theorem d_FenR_readPart_71 : decode prog_3_method_3_code 71 = .ok (.ireturn, 1) := by decide +kernel
theorem d_FenR_readPart_72 : decode prog_3_method_3_code 72 = .ok (.aload_n 0, 1) := by decide +kernel
theorem d_FenR_readPart_73 : decode prog_3_method_3_code 73 = .ok (.aload_n 1, 1) := by decide +kernel
theorem d_FenR_readPart_74 : decode prog_3_method_3_code 74 = .ok (.invokevirtual 53, 3) := by decide +kernel
theorem d_FenR_readPart_77 : decode prog_3_method_3_code 77 = .ok (.ireturn, 1) := by decide +kernel
theorem d_FenR_readPart_78 : decode prog_3_method_3_code 78 = .ok (.aload_n 0, 1) := by decide +kernel
theorem d_FenR_readPart_79 : decode prog_3_method_3_code 79 = .ok (.getfield 9, 3) := by decide +kernel
theorem d_FenR_readPart_82 : decode prog_3_method_3_code 82 = .ok (.invokevirtual 56, 3) := by decide +kernel
theorem d_FenR_readPart_85 : decode prog_3_method_3_code 85 = .ok (.ireturn, 1) := by decide +kernel
theorem d_FenR_readOdds_0 : decode prog_3_method_4_code 0 = .ok (.aload_n 0, 1) := by decide +kernel
theorem d_FenR_readOdds_1 : decode prog_3_method_4_code 1 = .ok (.getfield 20, 3) := by decide +kernel
theorem d_FenR_readOdds_4 : decode prog_3_method_4_code 4 = .ok (.ifCond .eq 12, 3) := by decide +kernel
theorem d_FenR_readOdds_7 : decode prog_3_method_4_code 7 = .ok (.aload_n 0, 1) := by decide +kernel
theorem d_FenR_readOdds_8 : decode prog_3_method_4_code 8 = .ok (.getfield 9, 3) := by decide +kernel
theorem d_FenR_readOdds_11 : decode prog_3_method_4_code 11 = .ok (.iconst 5, 1) := by decide +kernel
theorem d_FenR_readOdds_12 : decode prog_3_method_4_code 12 = .ok (.invokevirtual 60, 3) := by decide +kernel
theorem d_FenR_readOdds_15 : decode prog_3_method_4_code 15 = .ok (.ireturn, 1) := by decide +kernel
theorem d_FenR_readOdds_16 : decode prog_3_method_4_code 16 = .ok (.aload_n 0, 1) := by decide +kernel
theorem d_FenR_readOdds_17 : decode prog_3_method_4_code 17 = .ok (.iconst 1, 1) := by decide +kernel
theorem d_FenR_readOdds_18 : decode prog_3_method_4_code 18 = .ok (.putfield 20, 3) := by decide +kernel
theorem d_FenR_readOdds_21 : decode prog_3_method_4_code 21 = .ok (.aload_n 0, 1) := by decide +kernel
theorem d_FenR_readOdds_22 : decode prog_3_method_4_code 22 = .ok (.getfield 9, 3) := by decide +kernel
theorem d_FenR_readOdds_25 : decode prog_3_method_4_code 25 = .ok (.invokevirtual 64, 3) := by decide +kernel
theorem d_FenR_readOdds_28 : decode prog_3_method_4_code 28 = .ok (.aload_n 0, 1) := by decide +kernel
theorem d_FenR_readOdds_29 : decode prog_3_method_4_code 29 = .ok (.getfield 9, 3) := by decide +kernel
theorem d_FenR_readOdds_32 : decode prog_3_method_4_code 32 = .ok (.iconst 0, 1) := by decide +kernel
theorem d_FenR_readOdds_33 : decode prog_3_method_4_code 33 = .ok (.bipush 16, 2) := by decide +kernel
theorem d_FenR_readOdds_35 : decode prog_3_method_4_code 35 = .ok (.invokevirtual 67, 3) := by decide +kernel
theorem d_FenR_readOdds_38 : decode prog_3_method_4_code 38 = .ok (.istore_n 2, 1) := by decide +kernel
theorem d_FenR_readOdds_39 : decode prog_3_method_4_code 39 = .ok (.iload_n 2, 1) := by decide +kernel
theorem d_FenR_readOdds_40 : decode prog_3_method_4_code 40 = .ok (.ifCond .ge 5, 3) := by decide +kernel
theorem d_FenR_readOdds_43 : decode prog_3_method_4_code 43 = .ok (.iconst 0, 1) := by decide +kernel
theorem d_FenR_readOdds_44 : decode prog_3_method_4_code 44 = .ok (.ireturn, 1) := by decide +kernel
theorem d_FenR_readOdds_45 : decode prog_3_method_4_code 45 = .ok (.aload_n 1, 1) := by decide +kernel
theorem d_FenR_readOdds_46 : decode prog_3_method_4_code 46 = .ok (.iload_n 2, 1) := by decide +kernel
theorem d_FenR_readOdds_47 : decode prog_3_method_4_code 47 = .ok (.putfield 71, 3) := by decide +kernel
theorem d_FenR_readOdds_50 : decode prog_3_method_4_code 50 = .ok (.aload_n 0, 1) := by decide +kernel
theorem d_FenR_readOdds_51 : decode prog_3_method_4_code 51 = .ok (.getfield 9, 3) := by decide +kernel
theorem d_FenR_readOdds_54 : decode prog_3_method_4_code 54 = .ok (.invokevirtual 74, 3) := by decide +kernel
theorem d_FenR_readOdds_57 : decode prog_3_method_4_code 57 = .ok (.ireturn, 1) := by decide +kernel
theorem d_FenR_readTrait_0 : decode prog_3_method_5_code 0 = .ok (.aload_n 1, 1) := by decide +kernel
theorem d_FenR_readTrait_1 : decode prog_3_method_5_code 1 = .ok (.getfield 77, 3) := by decide +kernel
theorem d_FenR_readTrait_4 : decode prog_3_method_5_code 4 = .ok (.bipush 6, 2) := by decide +kernel
theorem d_FenR_readTrait_6 : decode prog_3_method_5_code 6 = .ok (.if_icmp .lt 13, 3) := by decide +kernel
theorem d_FenR_readTrait_9 : decode prog_3_method_5_code 9 = .ok (.aload_n 0, 1) := by decide +kernel
theorem d_FenR_readTrait_10 : decode prog_3_method_5_code 10 = .ok (.getfield 9, 3) := by decide +kernel
theorem d_FenR_readTrait_13 : decode prog_3_method_5_code 13 = .ok (.bipush 6, 2) := by decide +kernel
theorem d_FenR_readTrait_15 : decode prog_3_method_5_code 15 = .ok (.invokevirtual 60, 3) := by decide +kernel
theorem d_FenR_readTrait_18 : decode prog_3_method_5_code 18 = .ok (.ireturn, 1) := by decide +kernel
theorem d_FenR_readTrait_19 : decode prog_3_method_5_code 19 = .ok (.aload_n 0, 1) := by decide +kernel
theorem d_FenR_readTrait_20 : decode prog_3_method_5_code 20 = .ok (.getfield 9, 3) := by decide +kernel
theorem d_FenR_readTrait_23 : decode prog_3_method_5_code 23 = .ok (.invokevirtual 64, 3) := by decide +kernel
theorem d_FenR_readTrait_26 : decode prog_3_method_5_code 26 = .ok (.aload_n 0, 1) := by decide +kernel
theorem d_FenR_readTrait_27 : decode prog_3_method_5_code 27 = .ok (.aload_n 1, 1) := by decide +kernel
theorem d_FenR_readTrait_28 : decode prog_3_method_5_code 28 = .ok (.invokevirtual 80, 3) := by decide +kernel
theorem d_FenR_readTrait_31 : decode prog_3_method_5_code 31 = .ok (.lstore_n 2, 1) := by decide +kernel
theorem d_FenR_readTrait_32 : decode prog_3_method_5_code 32 = .ok (.lload_n 2, 1) := by decide +kernel
theorem d_FenR_readTrait_33 : decode prog_3_method_5_code 33 = .ok (.lconst 0, 1) := by decide +kernel
theorem d_FenR_readTrait_34 : decode prog_3_method_5_code 34 = .ok (.lcmp, 1) := by decide +kernel
theorem d_FenR_readTrait_35 : decode prog_3_method_5_code 35 = .ok (.ifCond .eq 14, 3) := by decide +kernel
theorem d_FenR_readTrait_38 : decode prog_3_method_5_code 38 = .ok (.aload_n 0, 1) := by decide +kernel
theorem d_FenR_readTrait_39 : decode prog_3_method_5_code 39 = .ok (.getfield 9, 3) := by decide +kernel
theorem d_FenR_readTrait_42 : decode prog_3_method_5_code 42 = .ok (.iconst 2, 1) := by decide +kernel
theorem d_FenR_readTrait_43 : decode prog_3_method_5_code 43 = .ok (.invokevirtual 84, 3) := by decide +kernel
theorem d_FenR_readTrait_46 : decode prog_3_method_5_code 46 = .ok (.ifCond .ne 5, 3) := by decide +kernel
theorem d_FenR_readTrait_49 : decode prog_3_method_5_code 49 = .ok (.iconst 0, 1) := by decide +kernel
theorem d_FenR_readTrait_50 : decode prog_3_method_5_code 50 = .ok (.ireturn, 1) := by decide +kernel
theorem d_FenR_readTrait_51 : decode prog_3_method_5_code 51 = .ok (.aload_n 0, 1) := by decide +kernel
theorem d_FenR_readTrait_52 : decode prog_3_method_5_code 52 = .ok (.getfield 9, 3) := by decide +kernel
theorem d_FenR_readTrait_55 : decode prog_3_method_5_code 55 = .ok (.iconst 0, 1) := by decide +kernel
theorem d_FenR_readTrait_56 : decode prog_3_method_5_code 56 = .ok (.bipush 99, 2) := by decide +kernel
theorem d_FenR_readTrait_58 : decode prog_3_method_5_code 58 = .ok (.invokevirtual 67, 3) := by decide +kernel
theorem d_FenR_readTrait_61 : decode prog_3_method_5_code 61 = .ok (.istore 4, 2) := by decide +kernel
theorem d_FenR_readTrait_63 : decode prog_3_method_5_code 63 = .ok (.iload 4, 2) := by decide +kernel
theorem d_FenR_readTrait_65 : decode prog_3_method_5_code 65 = .ok (.ifCond .lt 13, 3) := by decide +kernel
theorem d_FenR_readTrait_68 : decode prog_3_method_5_code 68 = .ok (.aload_n 0, 1) := by decide +kernel
theorem d_FenR_readTrait_69 : decode prog_3_method_5_code 69 = .ok (.getfield 9, 3) := by decide +kernel
theorem d_FenR_readTrait_72 : decode prog_3_method_5_code 72 = .ok (.invokevirtual 74, 3) := by decide +kernel
theorem d_FenR_readTrait_75 : decode prog_3_method_5_code 75 = .ok (.ifCond .ne 5, 3) := by decide +kernel
theorem d_FenR_readTrait_78 : decode prog_3_method_5_code 78 = .ok (.iconst 0, 1) := by decide +kernel
theorem d_FenR_readTrait_79 : decode prog_3_method_5_code 79 = .ok (.ireturn, 1) := by decide +kernel
theorem d_FenR_readTrait_80 : decode prog_3_method_5_code 80 = .ok (.aload_n 1, 1) := by decide +kernel
theorem d_FenR_readTrait_81 : decode prog_3_method_5_code 81 = .ok (.lload_n 2, 1) := by decide +kernel
theorem d_FenR_readTrait_82 : decode prog_3_method_5_code 82 = .ok (.iload 4, 2) := by decide +kernel
theorem d_FenR_readTrait_84 : decode prog_3_method_5_code 84 = .ok (.invokevirtual 87, 3) := by decide +kernel
theorem d_FenR_readTrait_87 : decode prog_3_method_5_code 87 = .ok (.iconst 1, 1) := by decide +kernel
theorem d_FenR_readTrait_88 : decode prog_3_method_5_code 88 = .ok (.ireturn, 1) := by decide +kernel
theorem d_FenR_takeNewName_0 : decode prog_3_method_10_code 0 = .ok (.aload_n 0, 1) := by decide +kernel
theorem d_FenR_takeNewName_1 : decode prog_3_method_10_code 1 = .ok (.getfield 9, 3) := by decide +kernel
theorem d_FenR_takeNewName_4 : decode prog_3_method_10_code 4 = .ok (.invokevirtual 101, 3) := by decide +kernel
theorem d_FenR_takeNewName_7 : decode prog_3_method_10_code 7 = .ok (.ifCond .ne 13, 3) := by decide +kernel
theorem d_FenR_takeNewName_10 : decode prog_3_method_10_code 10 = .ok (.aload_n 0, 1) := by decide +kernel
theorem d_FenR_takeNewName_11 : decode prog_3_method_10_code 11 = .ok (.getfield 9, 3) := by decide +kernel
theorem d_FenR_takeNewName_14 : decode prog_3_method_10_code 14 = .ok (.invokevirtual 56, 3) := by decide +kernel
theorem d_FenR_takeNewName_17 : decode prog_3_method_10_code 17 = .ok (.pop, 1) := by decide +kernel
theorem d_FenR_takeNewName_18 : decode prog_3_method_10_code 18 = .ok (.lconst 0, 1) := by decide +kernel
theorem d_FenR_takeNewName_19 : decode prog_3_method_10_code 19 = .ok (.lreturn, 1) := by decide +kernel
theorem d_FenR_takeNewName_20 : decode prog_3_method_10_code 20 = .ok (.aload_n 0, 1) := by decide +kernel
theorem d_FenR_takeNewName_21 : decode prog_3_method_10_code 21 = .ok (.getfield 9, 3) := by decide +kernel
theorem d_FenR_takeNewName_24 : decode prog_3_method_10_code 24 = .ok (.getfield 132, 3) := by decide +kernel
theorem d_FenR_takeNewName_27 : decode prog_3_method_10_code 27 = .ok (.lstore_n 2, 1) := by decide +kernel
theorem d_FenR_takeNewName_28 : decode prog_3_method_10_code 28 = .ok (.lload_n 2, 1) := by decide +kernel
theorem d_FenR_takeNewName_29 : decode prog_3_method_10_code 29 = .ok (.aload_n 1, 1) := by decide +kernel
theorem d_FenR_takeNewName_30 : decode prog_3_method_10_code 30 = .ok (.getfield 104, 3) := by decide +kernel
theorem d_FenR_takeNewName_33 : decode prog_3_method_10_code 33 = .ok (.aload_n 1, 1) := by decide +kernel
theorem d_FenR_takeNewName_34 : decode prog_3_method_10_code 34 = .ok (.getfield 77, 3) := by decide +kernel
theorem d_FenR_takeNewName_37 : decode prog_3_method_10_code 37 = .ok (.invokestatic 136, 3) := by decide +kernel
theorem d_FenR_takeNewName_40 : decode prog_3_method_10_code 40 = .ok (.ifCond .ge 33, 3) := by decide +kernel
theorem d_FenR_takeNewName_43 : decode prog_3_method_10_code 43 = .ok (.lload_n 2, 1) := by decide +kernel
theorem d_FenR_takeNewName_44 : decode prog_3_method_10_code 44 = .ok (.aload_n 1, 1) := by decide +kernel
theorem d_FenR_takeNewName_45 : decode prog_3_method_10_code 45 = .ok (.getfield 115, 3) := by decide +kernel
theorem d_FenR_takeNewName_48 : decode prog_3_method_10_code 48 = .ok (.aload_n 1, 1) := by decide +kernel
theorem d_FenR_takeNewName_49 : decode prog_3_method_10_code 49 = .ok (.getfield 91, 3) := by decide +kernel
theorem d_FenR_takeNewName_52 : decode prog_3_method_10_code 52 = .ok (.invokestatic 136, 3) := by decide +kernel
theorem d_FenR_takeNewName_55 : decode prog_3_method_10_code 55 = .ok (.ifCond .ge 18, 3) := by decide +kernel
theorem d_FenR_takeNewName_58 : decode prog_3_method_10_code 58 = .ok (.lload_n 2, 1) := by decide +kernel
theorem d_FenR_takeNewName_59 : decode prog_3_method_10_code 59 = .ok (.aload_n 1, 1) := by decide +kernel
theorem d_FenR_takeNewName_60 : decode prog_3_method_10_code 60 = .ok (.getfield 140, 3) := by decide +kernel
theorem d_FenR_takeNewName_63 : decode prog_3_method_10_code 63 = .ok (.aload_n 1, 1) := by decide +kernel
theorem d_FenR_takeNewName_64 : decode prog_3_method_10_code 64 = .ok (.getfield 125, 3) := by decide +kernel
theorem d_FenR_takeNewName_67 : decode prog_3_method_10_code 67 = .ok (.invokestatic 136, 3) := by decide +kernel
theorem d_FenR_takeNewName_70 : decode prog_3_method_10_code 70 = .ok (.ifCond .lt 7, 3) := by decide +kernel
theorem d_FenR_takeNewName_73 : decode prog_3_method_10_code 73 = .ok (.iconst 1, 1) := by decide +kernel
theorem d_FenR_takeNewName_74 : decode prog_3_method_10_code 74 = .ok (.goto 4, 3) := by decide +kernel
theorem d_FenR_takeNewName_77 : decode prog_3_method_10_code 77 = .ok (.iconst 0, 1) := by decide +kernel
theorem d_FenR_takeNewName_78 : decode prog_3_method_10_code 78 = .ok (.istore 4, 2) := by decide +kernel
theorem d_FenR_takeNewName_80 : decode prog_3_method_10_code 80 = .ok (.iload 4, 2) := by decide +kernel
theorem d_FenR_takeNewName_82 : decode prog_3_method_10_code 82 = .ok (.ifCond .eq 14, 3) := by decide +kernel
theorem d_FenR_takeNewName_85 : decode prog_3_method_10_code 85 = .ok (.aload_n 0, 1) := by decide +kernel
theorem d_FenR_takeNewName_86 : decode prog_3_method_10_code 86 = .ok (.getfield 9, 3) := by decide +kernel
theorem d_FenR_takeNewName_89 : decode prog_3_method_10_code 89 = .ok (.iconst 3, 1) := by decide +kernel
theorem d_FenR_takeNewName_90 : decode prog_3_method_10_code 90 = .ok (.invokevirtual 60, 3) := by decide +kernel
theorem d_FenR_takeNewName_93 : decode prog_3_method_10_code 93 = .ok (.pop, 1) := by decide +kernel
theorem d_FenR_takeNewName_94 : decode prog_3_method_10_code 94 = .ok (.lconst 0, 1) := by decide +kernel
theorem d_FenR_takeNewName_95 : decode prog_3_method_10_code 95 = .ok (.lreturn, 1) := by decide +kernel
theorem d_FenR_takeNewName_96 : decode prog_3_method_10_code 96 = .ok (.aload_n 0, 1) := by decide +kernel
theorem d_FenR_takeNewName_97 : decode prog_3_method_10_code 97 = .ok (.getfield 9, 3) := by decide +kernel
theorem d_FenR_takeNewName_100 : decode prog_3_method_10_code 100 = .ok (.invokevirtual 64, 3) := by decide +kernel
theorem d_FenR_takeNewName_103 : decode prog_3_method_10_code 103 = .ok (.lload_n 2, 1) := by decide +kernel
theorem d_FenR_takeNewName_104 : decode prog_3_method_10_code 104 = .ok (.lreturn, 1) := by decide +kernel
theorem d_Fen_addTrait_0 : decode prog_2_method_4_code 0 = .ok (.aload_n 0, 1) := by decide +kernel
theorem d_Fen_addTrait_1 : decode prog_2_method_4_code 1 = .ok (.getfield 40, 3) := by decide +kernel
theorem d_Fen_addTrait_4 : decode prog_2_method_4_code 4 = .ok (.aload_n 0, 1) := by decide +kernel
theorem d_Fen_addTrait_5 : decode prog_2_method_4_code 5 = .ok (.getfield 57, 3) := by decide +kernel
theorem d_Fen_addTrait_8 : decode prog_2_method_4_code 8 = .ok (.lload_n 1, 1) := by decide +kernel
theorem d_Fen_addTrait_9 : decode prog_2_method_4_code 9 = .ok (.lastore, 1) := by decide +kernel
theorem d_Fen_addTrait_10 : decode prog_2_method_4_code 10 = .ok (.aload_n 0, 1) := by decide +kernel
theorem d_Fen_addTrait_11 : decode prog_2_method_4_code 11 = .ok (.getfield 15, 3) := by decide +kernel
theorem d_Fen_addTrait_14 : decode prog_2_method_4_code 14 = .ok (.aload_n 0, 1) := by decide +kernel
theorem d_Fen_addTrait_15 : decode prog_2_method_4_code 15 = .ok (.getfield 57, 3) := by decide +kernel
theorem d_Fen_addTrait_18 : decode prog_2_method_4_code 18 = .ok (.iload_n 3, 1) := by decide +kernel
theorem d_Fen_addTrait_19 : decode prog_2_method_4_code 19 = .ok (.iastore, 1) := by decide +kernel
theorem d_Fen_addTrait_20 : decode prog_2_method_4_code 20 = .ok (.aload_n 0, 1) := by decide +kernel
theorem d_Fen_addTrait_21 : decode prog_2_method_4_code 21 = .ok (.dup, 1) := by decide +kernel
theorem d_Fen_addTrait_22 : decode prog_2_method_4_code 22 = .ok (.getfield 57, 3) := by decide +kernel
theorem d_Fen_addTrait_25 : decode prog_2_method_4_code 25 = .ok (.iconst 1, 1) := by decide +kernel
theorem d_Fen_addTrait_26 : decode prog_2_method_4_code 26 = .ok (.iadd, 1) := by decide +kernel
theorem d_Fen_addTrait_27 : decode prog_2_method_4_code 27 = .ok (.putfield 57, 3) := by decide +kernel
theorem d_Fen_addTrait_30 : decode prog_2_method_4_code 30 = .ok (.return_, 1) := by decide +kernel
theorem d_FenR_readPerson_0 : decode prog_3_method_6_code 0 = .ok (.aload_n 1, 1) := by decide +kernel
theorem d_FenR_readPerson_1 : decode prog_3_method_6_code 1 = .ok (.getfield 91, 3) := by decide +kernel
theorem d_FenR_readPerson_4 : decode prog_3_method_6_code 4 = .ok (.bipush 7, 2) := by decide +kernel
theorem d_FenR_readPerson_6 : decode prog_3_method_6_code 6 = .ok (.if_icmp .lt 13, 3) := by decide +kernel
theorem d_FenR_readPerson_9 : decode prog_3_method_6_code 9 = .ok (.aload_n 0, 1) := by decide +kernel
theorem d_FenR_readPerson_10 : decode prog_3_method_6_code 10 = .ok (.getfield 9, 3) := by decide +kernel
theorem d_FenR_readPerson_13 : decode prog_3_method_6_code 13 = .ok (.bipush 6, 2) := by decide +kernel
theorem d_FenR_readPerson_15 : decode prog_3_method_6_code 15 = .ok (.invokevirtual 60, 3) := by decide +kernel
theorem d_FenR_readPerson_18 : decode prog_3_method_6_code 18 = .ok (.ireturn, 1) := by decide +kernel
theorem d_FenR_readPerson_19 : decode prog_3_method_6_code 19 = .ok (.aload_n 0, 1) := by decide +kernel
theorem d_FenR_readPerson_20 : decode prog_3_method_6_code 20 = .ok (.getfield 9, 3) := by decide +kernel
theorem d_FenR_readPerson_23 : decode prog_3_method_6_code 23 = .ok (.invokevirtual 64, 3) := by decide +kernel
theorem d_FenR_readPerson_26 : decode prog_3_method_6_code 26 = .ok (.aload_n 0, 1) := by decide +kernel
theorem d_FenR_readPerson_27 : decode prog_3_method_6_code 27 = .ok (.aload_n 1, 1) := by decide +kernel
theorem d_FenR_readPerson_28 : decode prog_3_method_6_code 28 = .ok (.invokevirtual 80, 3) := by decide +kernel
theorem d_FenR_readPerson_31 : decode prog_3_method_6_code 31 = .ok (.lstore_n 2, 1) := by decide +kernel
theorem d_FenR_readPerson_32 : decode prog_3_method_6_code 32 = .ok (.lload_n 2, 1) := by decide +kernel
theorem d_FenR_readPerson_33 : decode prog_3_method_6_code 33 = .ok (.lconst 0, 1) := by decide +kernel
theorem d_FenR_readPerson_34 : decode prog_3_method_6_code 34 = .ok (.lcmp, 1) := by decide +kernel
theorem d_FenR_readPerson_35 : decode prog_3_method_6_code 35 = .ok (.ifCond .ne 5, 3) := by decide +kernel
theorem d_FenR_readPerson_38 : decode prog_3_method_6_code 38 = .ok (.iconst 0, 1) := by decide +kernel
theorem d_FenR_readPerson_39 : decode prog_3_method_6_code 39 = .ok (.ireturn, 1) := by decide +kernel
theorem d_FenR_readPerson_40 : decode prog_3_method_6_code 40 = .ok (.iconst 0, 1) := by decide +kernel
theorem d_FenR_readPerson_41 : decode prog_3_method_6_code 41 = .ok (.istore 4, 2) := by decide +kernel
theorem d_FenR_readPerson_43 : decode prog_3_method_6_code 43 = .ok (.aload_n 0, 1) := by decide +kernel
theorem d_FenR_readPerson_44 : decode prog_3_method_6_code 44 = .ok (.getfield 9, 3) := by decide +kernel
theorem d_FenR_readPerson_47 : decode prog_3_method_6_code 47 = .ok (.getfield 38, 3) := by decide +kernel
theorem d_FenR_readPerson_50 : decode prog_3_method_6_code 50 = .ok (.iconst 4, 1) := by decide +kernel
theorem d_FenR_readPerson_51 : decode prog_3_method_6_code 51 = .ok (.if_icmp .ne 17, 3) := by decide +kernel
theorem d_FenR_readPerson_54 : decode prog_3_method_6_code 54 = .ok (.aload_n 0, 1) := by decide +kernel
theorem d_FenR_readPerson_55 : decode prog_3_method_6_code 55 = .ok (.getfield 9, 3) := by decide +kernel
theorem d_FenR_readPerson_58 : decode prog_3_method_6_code 58 = .ok (.invokevirtual 64, 3) := by decide +kernel
theorem d_FenR_readPerson_61 : decode prog_3_method_6_code 61 = .ok (.aload_n 0, 1) := by decide +kernel
theorem d_FenR_readPerson_62 : decode prog_3_method_6_code 62 = .ok (.aload_n 1, 1) := by decide +kernel
theorem d_FenR_readPerson_63 : decode prog_3_method_6_code 63 = .ok (.invokevirtual 94, 3) := by decide +kernel
theorem d_FenR_readPerson_66 : decode prog_3_method_6_code 66 = .ok (.istore 4, 2) := by decide +kernel
theorem d_FenR_readPerson_68 : decode prog_3_method_6_code 68 = .ok (.iload 4, 2) := by decide +kernel
theorem d_FenR_readPerson_70 : decode prog_3_method_6_code 70 = .ok (.ifCond .lt 13, 3) := by decide +kernel
theorem d_FenR_readPerson_73 : decode prog_3_method_6_code 73 = .ok (.aload_n 0, 1) := by decide +kernel
theorem d_FenR_readPerson_74 : decode prog_3_method_6_code 74 = .ok (.getfield 9, 3) := by decide +kernel
theorem d_FenR_readPerson_77 : decode prog_3_method_6_code 77 = .ok (.invokevirtual 74, 3) := by decide +kernel
theorem d_FenR_readPerson_80 : decode prog_3_method_6_code 80 = .ok (.ifCond .ne 5, 3) := by decide +kernel
theorem d_FenR_readPerson_83 : decode prog_3_method_6_code 83 = .ok (.iconst 0, 1) := by decide +kernel
theorem d_FenR_readPerson_84 : decode prog_3_method_6_code 84 = .ok (.ireturn, 1) := by decide +kernel
theorem d_FenR_readPerson_85 : decode prog_3_method_6_code 85 = .ok (.aload_n 1, 1) := by decide +kernel
theorem d_FenR_readPerson_86 : decode prog_3_method_6_code 86 = .ok (.lload_n 2, 1) := by decide +kernel
theorem d_FenR_readPerson_87 : decode prog_3_method_6_code 87 = .ok (.iload 4, 2) := by decide +kernel
theorem d_FenR_readPerson_89 : decode prog_3_method_6_code 89 = .ok (.invokevirtual 98, 3) := by decide +kernel
theorem d_FenR_readPerson_92 : decode prog_3_method_6_code 92 = .ok (.iconst 1, 1) := by decide +kernel
theorem d_FenR_readPerson_93 : decode prog_3_method_6_code 93 = .ok (.ireturn, 1) := by decide +kernel
theorem d_FenR_takeTruths_0 : decode prog_3_method_7_code 0 = .ok (.iconst 0, 1) := by decide +kernel
theorem d_FenR_takeTruths_1 : decode prog_3_method_7_code 1 = .ok (.istore_n 2, 1) := by decide +kernel
theorem d_FenR_takeTruths_2 : decode prog_3_method_7_code 2 = .ok (.iconst 0, 1) := by decide +kernel
theorem d_FenR_takeTruths_3 : decode prog_3_method_7_code 3 = .ok (.istore_n 3, 1) := by decide +kernel
theorem d_FenR_takeTruths_4 : decode prog_3_method_7_code 4 = .ok (.iload_n 3, 1) := by decide +kernel
theorem d_FenR_takeTruths_5 : decode prog_3_method_7_code 5 = .ok (.bipush 6, 2) := by decide +kernel
theorem d_FenR_takeTruths_7 : decode prog_3_method_7_code 7 = .ok (.if_icmp .gt 77, 3) := by decide +kernel
theorem d_FenR_takeTruths_10 : decode prog_3_method_7_code 10 = .ok (.aload_n 0, 1) := by decide +kernel
theorem d_FenR_takeTruths_11 : decode prog_3_method_7_code 11 = .ok (.getfield 9, 3) := by decide +kernel
theorem d_FenR_takeTruths_14 : decode prog_3_method_7_code 14 = .ok (.invokevirtual 101, 3) := by decide +kernel
theorem d_FenR_takeTruths_17 : decode prog_3_method_7_code 17 = .ok (.ifCond .eq 67, 3) := by decide +kernel
theorem d_FenR_takeTruths_20 : decode prog_3_method_7_code 20 = .ok (.aload_n 0, 1) := by decide +kernel
theorem d_FenR_takeTruths_21 : decode prog_3_method_7_code 21 = .ok (.getfield 9, 3) := by decide +kernel
theorem d_FenR_takeTruths_24 : decode prog_3_method_7_code 24 = .ok (.aload_n 1, 1) := by decide +kernel
theorem d_FenR_takeTruths_25 : decode prog_3_method_7_code 25 = .ok (.getfield 104, 3) := by decide +kernel
theorem d_FenR_takeTruths_28 : decode prog_3_method_7_code 28 = .ok (.aload_n 1, 1) := by decide +kernel
theorem d_FenR_takeTruths_29 : decode prog_3_method_7_code 29 = .ok (.getfield 77, 3) := by decide +kernel
theorem d_FenR_takeTruths_32 : decode prog_3_method_7_code 32 = .ok (.invokevirtual 108, 3) := by decide +kernel
theorem d_FenR_takeTruths_35 : decode prog_3_method_7_code 35 = .ok (.istore 4, 2) := by decide +kernel
theorem d_FenR_takeTruths_37 : decode prog_3_method_7_code 37 = .ok (.iload 4, 2) := by decide +kernel
theorem d_FenR_takeTruths_39 : decode prog_3_method_7_code 39 = .ok (.ifCond .ge 5, 3) := by decide +kernel
theorem d_FenR_takeTruths_42 : decode prog_3_method_7_code 42 = .ok (.iconst (-1), 1) := by decide +kernel
theorem d_FenR_takeTruths_43 : decode prog_3_method_7_code 43 = .ok (.ireturn, 1) := by decide +kernel
theorem d_FenR_takeTruths_44 : decode prog_3_method_7_code 44 = .ok (.iload_n 2, 1) := by decide +kernel
theorem d_FenR_takeTruths_45 : decode prog_3_method_7_code 45 = .ok (.iload 4, 2) := by decide +kernel
theorem d_FenR_takeTruths_47 : decode prog_3_method_7_code 47 = .ok (.ishr, 1) := by decide +kernel
theorem d_FenR_takeTruths_48 : decode prog_3_method_7_code 48 = .ok (.iconst 1, 1) := by decide +kernel
theorem d_FenR_takeTruths_49 : decode prog_3_method_7_code 49 = .ok (.iand, 1) := by decide +kernel
theorem d_FenR_takeTruths_50 : decode prog_3_method_7_code 50 = .ok (.ifCond .eq 14, 3) := by decide +kernel
theorem d_FenR_takeTruths_53 : decode prog_3_method_7_code 53 = .ok (.aload_n 0, 1) := by decide +kernel
theorem d_FenR_takeTruths_54 : decode prog_3_method_7_code 54 = .ok (.getfield 9, 3) := by decide +kernel
theorem d_FenR_takeTruths_57 : decode prog_3_method_7_code 57 = .ok (.iconst 5, 1) := by decide +kernel
theorem d_FenR_takeTruths_58 : decode prog_3_method_7_code 58 = .ok (.invokevirtual 60, 3) := by decide +kernel
theorem d_FenR_takeTruths_61 : decode prog_3_method_7_code 61 = .ok (.pop, 1) := by decide +kernel
theorem d_FenR_takeTruths_62 : decode prog_3_method_7_code 62 = .ok (.iconst (-1), 1) := by decide +kernel
theorem d_FenR_takeTruths_63 : decode prog_3_method_7_code 63 = .ok (.ireturn, 1) := by decide +kernel
theorem d_FenR_takeTruths_64 : decode prog_3_method_7_code 64 = .ok (.iload_n 2, 1) := by decide +kernel
theorem d_FenR_takeTruths_65 : decode prog_3_method_7_code 65 = .ok (.iconst 1, 1) := by decide +kernel
theorem d_FenR_takeTruths_66 : decode prog_3_method_7_code 66 = .ok (.iload 4, 2) := by decide +kernel
theorem d_FenR_takeTruths_68 : decode prog_3_method_7_code 68 = .ok (.ishl, 1) := by decide +kernel
theorem d_FenR_takeTruths_69 : decode prog_3_method_7_code 69 = .ok (.ior, 1) := by decide +kernel
theorem d_FenR_takeTruths_70 : decode prog_3_method_7_code 70 = .ok (.istore_n 2, 1) := by decide +kernel
theorem d_FenR_takeTruths_71 : decode prog_3_method_7_code 71 = .ok (.aload_n 0, 1) := by decide +kernel
theorem d_FenR_takeTruths_72 : decode prog_3_method_7_code 72 = .ok (.getfield 9, 3) := by decide +kernel
theorem d_FenR_takeTruths_75 : decode prog_3_method_7_code 75 = .ok (.invokevirtual 64, 3) := by decide +kernel
theorem d_FenR_takeTruths_78 : decode prog_3_method_7_code 78 = .ok (.iinc 3 1, 3) := by decide +kernel
theorem d_FenR_takeTruths_81 : decode prog_3_method_7_code 81 = .ok (.goto (-77), 3) := by decide +kernel
theorem d_FenR_takeTruths_84 : decode prog_3_method_7_code 84 = .ok (.iload_n 2, 1) := by decide +kernel
theorem d_FenR_takeTruths_85 : decode prog_3_method_7_code 85 = .ok (.ireturn, 1) := by decide +kernel
theorem d_Fen_addPerson_0 : decode prog_2_method_5_code 0 = .ok (.aload_n 0, 1) := by decide +kernel
theorem d_Fen_addPerson_1 : decode prog_2_method_5_code 1 = .ok (.getfield 44, 3) := by decide +kernel
theorem d_Fen_addPerson_4 : decode prog_2_method_5_code 4 = .ok (.aload_n 0, 1) := by decide +kernel
theorem d_Fen_addPerson_5 : decode prog_2_method_5_code 5 = .ok (.getfield 60, 3) := by decide +kernel
theorem d_Fen_addPerson_8 : decode prog_2_method_5_code 8 = .ok (.lload_n 1, 1) := by decide +kernel
theorem d_Fen_addPerson_9 : decode prog_2_method_5_code 9 = .ok (.lastore, 1) := by decide +kernel
theorem d_Fen_addPerson_10 : decode prog_2_method_5_code 10 = .ok (.aload_n 0, 1) := by decide +kernel
theorem d_Fen_addPerson_11 : decode prog_2_method_5_code 11 = .ok (.getfield 19, 3) := by decide +kernel
theorem d_Fen_addPerson_14 : decode prog_2_method_5_code 14 = .ok (.aload_n 0, 1) := by decide +kernel
theorem d_Fen_addPerson_15 : decode prog_2_method_5_code 15 = .ok (.getfield 60, 3) := by decide +kernel
theorem d_Fen_addPerson_18 : decode prog_2_method_5_code 18 = .ok (.iload_n 3, 1) := by decide +kernel
theorem d_Fen_addPerson_19 : decode prog_2_method_5_code 19 = .ok (.iastore, 1) := by decide +kernel
theorem d_Fen_addPerson_20 : decode prog_2_method_5_code 20 = .ok (.aload_n 0, 1) := by decide +kernel
theorem d_Fen_addPerson_21 : decode prog_2_method_5_code 21 = .ok (.getfield 22, 3) := by decide +kernel
theorem d_Fen_addPerson_24 : decode prog_2_method_5_code 24 = .ok (.aload_n 0, 1) := by decide +kernel
theorem d_Fen_addPerson_25 : decode prog_2_method_5_code 25 = .ok (.getfield 60, 3) := by decide +kernel
theorem d_Fen_addPerson_28 : decode prog_2_method_5_code 28 = .ok (.iconst 0, 1) := by decide +kernel
theorem d_Fen_addPerson_29 : decode prog_2_method_5_code 29 = .ok (.iastore, 1) := by decide +kernel
theorem d_Fen_addPerson_30 : decode prog_2_method_5_code 30 = .ok (.aload_n 0, 1) := by decide +kernel
theorem d_Fen_addPerson_31 : decode prog_2_method_5_code 31 = .ok (.getfield 25, 3) := by decide +kernel
theorem d_Fen_addPerson_34 : decode prog_2_method_5_code 34 = .ok (.aload_n 0, 1) := by decide +kernel
theorem d_Fen_addPerson_35 : decode prog_2_method_5_code 35 = .ok (.getfield 60, 3) := by decide +kernel
theorem d_Fen_addPerson_38 : decode prog_2_method_5_code 38 = .ok (.iconst 0, 1) := by decide +kernel
theorem d_Fen_addPerson_39 : decode prog_2_method_5_code 39 = .ok (.iastore, 1) := by decide +kernel
theorem d_Fen_addPerson_40 : decode prog_2_method_5_code 40 = .ok (.aload_n 0, 1) := by decide +kernel
theorem d_Fen_addPerson_41 : decode prog_2_method_5_code 41 = .ok (.dup, 1) := by decide +kernel
theorem d_Fen_addPerson_42 : decode prog_2_method_5_code 42 = .ok (.getfield 60, 3) := by decide +kernel
theorem d_Fen_addPerson_45 : decode prog_2_method_5_code 45 = .ok (.iconst 1, 1) := by decide +kernel
theorem d_Fen_addPerson_46 : decode prog_2_method_5_code 46 = .ok (.iadd, 1) := by decide +kernel
theorem d_Fen_addPerson_47 : decode prog_2_method_5_code 47 = .ok (.putfield 60, 3) := by decide +kernel
theorem d_Fen_addPerson_50 : decode prog_2_method_5_code 50 = .ok (.return_, 1) := by decide +kernel
theorem d_FenR_readLane_0 : decode prog_3_method_8_code 0 = .ok (.aload_n 1, 1) := by decide +kernel
theorem d_FenR_readLane_1 : decode prog_3_method_8_code 1 = .ok (.getfield 112, 3) := by decide +kernel
theorem d_FenR_readLane_4 : decode prog_3_method_8_code 4 = .ok (.bipush 12, 2) := by decide +kernel
theorem d_FenR_readLane_6 : decode prog_3_method_8_code 6 = .ok (.if_icmp .lt 13, 3) := by decide +kernel
theorem d_FenR_readLane_9 : decode prog_3_method_8_code 9 = .ok (.aload_n 0, 1) := by decide +kernel
theorem d_FenR_readLane_10 : decode prog_3_method_8_code 10 = .ok (.getfield 9, 3) := by decide +kernel
theorem d_FenR_readLane_13 : decode prog_3_method_8_code 13 = .ok (.bipush 6, 2) := by decide +kernel
theorem d_FenR_readLane_15 : decode prog_3_method_8_code 15 = .ok (.invokevirtual 60, 3) := by decide +kernel
theorem d_FenR_readLane_18 : decode prog_3_method_8_code 18 = .ok (.ireturn, 1) := by decide +kernel
theorem d_FenR_readLane_19 : decode prog_3_method_8_code 19 = .ok (.aload_n 0, 1) := by decide +kernel
theorem d_FenR_readLane_20 : decode prog_3_method_8_code 20 = .ok (.getfield 9, 3) := by decide +kernel
theorem d_FenR_readLane_23 : decode prog_3_method_8_code 23 = .ok (.invokevirtual 64, 3) := by decide +kernel
theorem d_FenR_readLane_26 : decode prog_3_method_8_code 26 = .ok (.aload_n 0, 1) := by decide +kernel
theorem d_FenR_readLane_27 : decode prog_3_method_8_code 27 = .ok (.getfield 9, 3) := by decide +kernel
theorem d_FenR_readLane_30 : decode prog_3_method_8_code 30 = .ok (.aload_n 1, 1) := by decide +kernel
theorem d_FenR_readLane_31 : decode prog_3_method_8_code 31 = .ok (.getfield 115, 3) := by decide +kernel
theorem d_FenR_readLane_34 : decode prog_3_method_8_code 34 = .ok (.aload_n 1, 1) := by decide +kernel
theorem d_FenR_readLane_35 : decode prog_3_method_8_code 35 = .ok (.getfield 91, 3) := by decide +kernel
theorem d_FenR_readLane_38 : decode prog_3_method_8_code 38 = .ok (.invokevirtual 118, 3) := by decide +kernel
theorem d_FenR_readLane_41 : decode prog_3_method_8_code 41 = .ok (.istore_n 2, 1) := by decide +kernel
theorem d_FenR_readLane_42 : decode prog_3_method_8_code 42 = .ok (.iload_n 2, 1) := by decide +kernel
theorem d_FenR_readLane_43 : decode prog_3_method_8_code 43 = .ok (.ifCond .ge 5, 3) := by decide +kernel
theorem d_FenR_readLane_46 : decode prog_3_method_8_code 46 = .ok (.iconst 0, 1) := by decide +kernel
theorem d_FenR_readLane_47 : decode prog_3_method_8_code 47 = .ok (.ireturn, 1) := by decide +kernel
theorem d_FenR_readLane_48 : decode prog_3_method_8_code 48 = .ok (.aload_n 0, 1) := by decide +kernel
theorem d_FenR_readLane_49 : decode prog_3_method_8_code 49 = .ok (.getfield 9, 3) := by decide +kernel
theorem d_FenR_readLane_52 : decode prog_3_method_8_code 52 = .ok (.aload_n 1, 1) := by decide +kernel
theorem d_FenR_readLane_53 : decode prog_3_method_8_code 53 = .ok (.getfield 115, 3) := by decide +kernel
theorem d_FenR_readLane_56 : decode prog_3_method_8_code 56 = .ok (.aload_n 1, 1) := by decide +kernel
theorem d_FenR_readLane_57 : decode prog_3_method_8_code 57 = .ok (.getfield 91, 3) := by decide +kernel
theorem d_FenR_readLane_60 : decode prog_3_method_8_code 60 = .ok (.invokevirtual 108, 3) := by decide +kernel
theorem d_FenR_readLane_63 : decode prog_3_method_8_code 63 = .ok (.istore_n 3, 1) := by decide +kernel
theorem d_FenR_readLane_64 : decode prog_3_method_8_code 64 = .ok (.iload_n 3, 1) := by decide +kernel
theorem d_FenR_readLane_65 : decode prog_3_method_8_code 65 = .ok (.ifCond .ge 5, 3) := by decide +kernel
theorem d_FenR_readLane_68 : decode prog_3_method_8_code 68 = .ok (.iconst 0, 1) := by decide +kernel
theorem d_FenR_readLane_69 : decode prog_3_method_8_code 69 = .ok (.ireturn, 1) := by decide +kernel
theorem d_FenR_readLane_70 : decode prog_3_method_8_code 70 = .ok (.iload_n 3, 1) := by decide +kernel
theorem d_FenR_readLane_71 : decode prog_3_method_8_code 71 = .ok (.iload_n 2, 1) := by decide +kernel
theorem d_FenR_readLane_72 : decode prog_3_method_8_code 72 = .ok (.if_icmp .ne 12, 3) := by decide +kernel
theorem d_FenR_readLane_75 : decode prog_3_method_8_code 75 = .ok (.aload_n 0, 1) := by decide +kernel
theorem d_FenR_readLane_76 : decode prog_3_method_8_code 76 = .ok (.getfield 9, 3) := by decide +kernel
theorem d_FenR_readLane_79 : decode prog_3_method_8_code 79 = .ok (.iconst 5, 1) := by decide +kernel
theorem d_FenR_readLane_80 : decode prog_3_method_8_code 80 = .ok (.invokevirtual 60, 3) := by decide +kernel
theorem d_FenR_readLane_83 : decode prog_3_method_8_code 83 = .ok (.ireturn, 1) := by decide +kernel
theorem d_FenR_readLane_84 : decode prog_3_method_8_code 84 = .ok (.aload_n 0, 1) := by decide +kernel
theorem d_FenR_readLane_85 : decode prog_3_method_8_code 85 = .ok (.getfield 9, 3) := by decide +kernel
theorem d_FenR_readLane_88 : decode prog_3_method_8_code 88 = .ok (.invokevirtual 64, 3) := by decide +kernel
theorem d_FenR_readLane_91 : decode prog_3_method_8_code 91 = .ok (.aload_n 0, 1) := by decide +kernel
theorem d_FenR_readLane_92 : decode prog_3_method_8_code 92 = .ok (.getfield 9, 3) := by decide +kernel
theorem d_FenR_readLane_95 : decode prog_3_method_8_code 95 = .ok (.invokevirtual 74, 3) := by decide +kernel
theorem d_FenR_readLane_98 : decode prog_3_method_8_code 98 = .ok (.ifCond .ne 5, 3) := by decide +kernel
theorem d_FenR_readLane_101 : decode prog_3_method_8_code 101 = .ok (.iconst 0, 1) := by decide +kernel
theorem d_FenR_readLane_102 : decode prog_3_method_8_code 102 = .ok (.ireturn, 1) := by decide +kernel
theorem d_FenR_readLane_103 : decode prog_3_method_8_code 103 = .ok (.aload_n 1, 1) := by decide +kernel
theorem d_FenR_readLane_104 : decode prog_3_method_8_code 104 = .ok (.iload_n 2, 1) := by decide +kernel
theorem d_FenR_readLane_105 : decode prog_3_method_8_code 105 = .ok (.iload_n 3, 1) := by decide +kernel
theorem d_FenR_readLane_106 : decode prog_3_method_8_code 106 = .ok (.invokevirtual 121, 3) := by decide +kernel
theorem d_FenR_readLane_109 : decode prog_3_method_8_code 109 = .ok (.iconst 1, 1) := by decide +kernel
theorem d_FenR_readLane_110 : decode prog_3_method_8_code 110 = .ok (.ireturn, 1) := by decide +kernel
theorem d_Fen_addLane_0 : decode prog_2_method_6_code 0 = .ok (.aload_n 0, 1) := by decide +kernel
theorem d_Fen_addLane_1 : decode prog_2_method_6_code 1 = .ok (.getfield 22, 3) := by decide +kernel
theorem d_Fen_addLane_4 : decode prog_2_method_6_code 4 = .ok (.iload_n 1, 1) := by decide +kernel
theorem d_Fen_addLane_5 : decode prog_2_method_6_code 5 = .ok (.dup2, 1) := by decide +kernel
theorem d_Fen_addLane_6 : decode prog_2_method_6_code 6 = .ok (.iaload, 1) := by decide +kernel
theorem d_Fen_addLane_7 : decode prog_2_method_6_code 7 = .ok (.iconst 1, 1) := by decide +kernel
theorem d_Fen_addLane_8 : decode prog_2_method_6_code 8 = .ok (.iload_n 2, 1) := by decide +kernel
theorem d_Fen_addLane_9 : decode prog_2_method_6_code 9 = .ok (.ishl, 1) := by decide +kernel
theorem d_Fen_addLane_10 : decode prog_2_method_6_code 10 = .ok (.ior, 1) := by decide +kernel
theorem d_Fen_addLane_11 : decode prog_2_method_6_code 11 = .ok (.iastore, 1) := by decide +kernel
theorem d_Fen_addLane_12 : decode prog_2_method_6_code 12 = .ok (.aload_n 0, 1) := by decide +kernel
theorem d_Fen_addLane_13 : decode prog_2_method_6_code 13 = .ok (.getfield 22, 3) := by decide +kernel
theorem d_Fen_addLane_16 : decode prog_2_method_6_code 16 = .ok (.iload_n 2, 1) := by decide +kernel
theorem d_Fen_addLane_17 : decode prog_2_method_6_code 17 = .ok (.dup2, 1) := by decide +kernel
theorem d_Fen_addLane_18 : decode prog_2_method_6_code 18 = .ok (.iaload, 1) := by decide +kernel
theorem d_Fen_addLane_19 : decode prog_2_method_6_code 19 = .ok (.iconst 1, 1) := by decide +kernel
theorem d_Fen_addLane_20 : decode prog_2_method_6_code 20 = .ok (.iload_n 1, 1) := by decide +kernel
theorem d_Fen_addLane_21 : decode prog_2_method_6_code 21 = .ok (.ishl, 1) := by decide +kernel
theorem d_Fen_addLane_22 : decode prog_2_method_6_code 22 = .ok (.ior, 1) := by decide +kernel
theorem d_Fen_addLane_23 : decode prog_2_method_6_code 23 = .ok (.iastore, 1) := by decide +kernel
theorem d_Fen_addLane_24 : decode prog_2_method_6_code 24 = .ok (.aload_n 0, 1) := by decide +kernel
theorem d_Fen_addLane_25 : decode prog_2_method_6_code 25 = .ok (.dup, 1) := by decide +kernel
theorem d_Fen_addLane_26 : decode prog_2_method_6_code 26 = .ok (.getfield 63, 3) := by decide +kernel
theorem d_Fen_addLane_29 : decode prog_2_method_6_code 29 = .ok (.iconst 1, 1) := by decide +kernel
theorem d_Fen_addLane_30 : decode prog_2_method_6_code 30 = .ok (.iadd, 1) := by decide +kernel
theorem d_Fen_addLane_31 : decode prog_2_method_6_code 31 = .ok (.putfield 63, 3) := by decide +kernel
theorem d_Fen_addLane_34 : decode prog_2_method_6_code 34 = .ok (.return_, 1) := by decide +kernel
theorem d_FenR_readTin_0 : decode prog_3_method_9_code 0 = .ok (.aload_n 1, 1) := by decide +kernel
theorem d_FenR_readTin_1 : decode prog_3_method_9_code 1 = .ok (.getfield 125, 3) := by decide +kernel
theorem d_FenR_readTin_4 : decode prog_3_method_9_code 4 = .ok (.bipush 9, 2) := by decide +kernel
theorem d_FenR_readTin_6 : decode prog_3_method_9_code 6 = .ok (.if_icmp .lt 13, 3) := by decide +kernel
theorem d_FenR_readTin_9 : decode prog_3_method_9_code 9 = .ok (.aload_n 0, 1) := by decide +kernel
theorem d_FenR_readTin_10 : decode prog_3_method_9_code 10 = .ok (.getfield 9, 3) := by decide +kernel
theorem d_FenR_readTin_13 : decode prog_3_method_9_code 13 = .ok (.bipush 6, 2) := by decide +kernel
theorem d_FenR_readTin_15 : decode prog_3_method_9_code 15 = .ok (.invokevirtual 60, 3) := by decide +kernel
theorem d_FenR_readTin_18 : decode prog_3_method_9_code 18 = .ok (.ireturn, 1) := by decide +kernel
theorem d_FenR_readTin_19 : decode prog_3_method_9_code 19 = .ok (.aload_n 0, 1) := by decide +kernel
theorem d_FenR_readTin_20 : decode prog_3_method_9_code 20 = .ok (.getfield 9, 3) := by decide +kernel
theorem d_FenR_readTin_23 : decode prog_3_method_9_code 23 = .ok (.invokevirtual 64, 3) := by decide +kernel
theorem d_FenR_readTin_26 : decode prog_3_method_9_code 26 = .ok (.aload_n 0, 1) := by decide +kernel
theorem d_FenR_readTin_27 : decode prog_3_method_9_code 27 = .ok (.aload_n 1, 1) := by decide +kernel
theorem d_FenR_readTin_28 : decode prog_3_method_9_code 28 = .ok (.invokevirtual 80, 3) := by decide +kernel
theorem d_FenR_readTin_31 : decode prog_3_method_9_code 31 = .ok (.lstore_n 2, 1) := by decide +kernel
theorem d_FenR_readTin_32 : decode prog_3_method_9_code 32 = .ok (.lload_n 2, 1) := by decide +kernel
theorem d_FenR_readTin_33 : decode prog_3_method_9_code 33 = .ok (.lconst 0, 1) := by decide +kernel
theorem d_FenR_readTin_34 : decode prog_3_method_9_code 34 = .ok (.lcmp, 1) := by decide +kernel
theorem d_FenR_readTin_35 : decode prog_3_method_9_code 35 = .ok (.ifCond .eq 15, 3) := by decide +kernel
theorem d_FenR_readTin_38 : decode prog_3_method_9_code 38 = .ok (.aload_n 0, 1) := by decide +kernel
theorem d_FenR_readTin_39 : decode prog_3_method_9_code 39 = .ok (.getfield 9, 3) := by decide +kernel
theorem d_FenR_readTin_42 : decode prog_3_method_9_code 42 = .ok (.bipush 7, 2) := by decide +kernel
theorem d_FenR_readTin_44 : decode prog_3_method_9_code 44 = .ok (.invokevirtual 84, 3) := by decide +kernel
theorem d_FenR_readTin_47 : decode prog_3_method_9_code 47 = .ok (.ifCond .ne 5, 3) := by decide +kernel
theorem d_FenR_readTin_50 : decode prog_3_method_9_code 50 = .ok (.iconst 0, 1) := by decide +kernel
theorem d_FenR_readTin_51 : decode prog_3_method_9_code 51 = .ok (.ireturn, 1) := by decide +kernel
theorem d_FenR_readTin_52 : decode prog_3_method_9_code 52 = .ok (.aload_n 0, 1) := by decide +kernel
theorem d_FenR_readTin_53 : decode prog_3_method_9_code 53 = .ok (.getfield 9, 3) := by decide +kernel
theorem d_FenR_readTin_56 : decode prog_3_method_9_code 56 = .ok (.aload_n 1, 1) := by decide +kernel
theorem d_FenR_readTin_57 : decode prog_3_method_9_code 57 = .ok (.getfield 104, 3) := by decide +kernel
theorem d_FenR_readTin_60 : decode prog_3_method_9_code 60 = .ok (.aload_n 1, 1) := by decide +kernel
theorem d_FenR_readTin_61 : decode prog_3_method_9_code 61 = .ok (.getfield 77, 3) := by decide +kernel
theorem d_FenR_readTin_64 : decode prog_3_method_9_code 64 = .ok (.invokevirtual 118, 3) := by decide +kernel
theorem d_FenR_readTin_67 : decode prog_3_method_9_code 67 = .ok (.istore 4, 2) := by decide +kernel
theorem d_FenR_readTin_69 : decode prog_3_method_9_code 69 = .ok (.iload 4, 2) := by decide +kernel
theorem d_FenR_readTin_71 : decode prog_3_method_9_code 71 = .ok (.ifCond .lt 15, 3) := by decide +kernel
theorem d_FenR_readTin_74 : decode prog_3_method_9_code 74 = .ok (.aload_n 0, 1) := by decide +kernel
theorem d_FenR_readTin_75 : decode prog_3_method_9_code 75 = .ok (.getfield 9, 3) := by decide +kernel
theorem d_FenR_readTin_78 : decode prog_3_method_9_code 78 = .ok (.bipush 8, 2) := by decide +kernel
theorem d_FenR_readTin_80 : decode prog_3_method_9_code 80 = .ok (.invokevirtual 84, 3) := by decide +kernel
theorem d_FenR_readTin_83 : decode prog_3_method_9_code 83 = .ok (.ifCond .ne 5, 3) := by decide +kernel
theorem d_FenR_readTin_86 : decode prog_3_method_9_code 86 = .ok (.iconst 0, 1) := by decide +kernel
theorem d_FenR_readTin_87 : decode prog_3_method_9_code 87 = .ok (.ireturn, 1) := by decide +kernel
theorem d_FenR_readTin_88 : decode prog_3_method_9_code 88 = .ok (.aload_n 0, 1) := by decide +kernel
theorem d_FenR_readTin_89 : decode prog_3_method_9_code 89 = .ok (.getfield 9, 3) := by decide +kernel
theorem d_FenR_readTin_92 : decode prog_3_method_9_code 92 = .ok (.aload_n 1, 1) := by decide +kernel
theorem d_FenR_readTin_93 : decode prog_3_method_9_code 93 = .ok (.getfield 115, 3) := by decide +kernel
theorem d_FenR_readTin_96 : decode prog_3_method_9_code 96 = .ok (.aload_n 1, 1) := by decide +kernel
theorem d_FenR_readTin_97 : decode prog_3_method_9_code 97 = .ok (.getfield 91, 3) := by decide +kernel
theorem d_FenR_readTin_100 : decode prog_3_method_9_code 100 = .ok (.invokevirtual 118, 3) := by decide +kernel
theorem d_FenR_readTin_103 : decode prog_3_method_9_code 103 = .ok (.istore 5, 2) := by decide +kernel
theorem d_FenR_readTin_105 : decode prog_3_method_9_code 105 = .ok (.iload 5, 2) := by decide +kernel
theorem d_FenR_readTin_107 : decode prog_3_method_9_code 107 = .ok (.ifCond .ge 5, 3) := by decide +kernel
theorem d_FenR_readTin_110 : decode prog_3_method_9_code 110 = .ok (.iconst 0, 1) := by decide +kernel
theorem d_FenR_readTin_111 : decode prog_3_method_9_code 111 = .ok (.ireturn, 1) := by decide +kernel
theorem d_FenR_readTin_112 : decode prog_3_method_9_code 112 = .ok (.aload_n 0, 1) := by decide +kernel
theorem d_FenR_readTin_113 : decode prog_3_method_9_code 113 = .ok (.getfield 9, 3) := by decide +kernel
theorem d_FenR_readTin_116 : decode prog_3_method_9_code 116 = .ok (.getfield 38, 3) := by decide +kernel
theorem d_FenR_readTin_119 : decode prog_3_method_9_code 119 = .ok (.bipush 9, 2) := by decide +kernel
theorem d_FenR_readTin_121 : decode prog_3_method_9_code 121 = .ok (.if_icmp .ne 7, 3) := by decide +kernel
theorem d_FenR_readTin_124 : decode prog_3_method_9_code 124 = .ok (.iconst 1, 1) := by decide +kernel
theorem d_FenR_readTin_125 : decode prog_3_method_9_code 125 = .ok (.goto 4, 3) := by decide +kernel
theorem d_FenR_readTin_128 : decode prog_3_method_9_code 128 = .ok (.iconst 0, 1) := by decide +kernel
theorem d_FenR_readTin_129 : decode prog_3_method_9_code 129 = .ok (.istore 6, 2) := by decide +kernel
theorem d_FenR_readTin_131 : decode prog_3_method_9_code 131 = .ok (.iload 6, 2) := by decide +kernel
theorem d_FenR_readTin_133 : decode prog_3_method_9_code 133 = .ok (.ifCond .eq 10, 3) := by decide +kernel
theorem d_FenR_readTin_136 : decode prog_3_method_9_code 136 = .ok (.aload_n 0, 1) := by decide +kernel
theorem d_FenR_readTin_137 : decode prog_3_method_9_code 137 = .ok (.getfield 9, 3) := by decide +kernel
theorem d_FenR_readTin_140 : decode prog_3_method_9_code 140 = .ok (.invokevirtual 64, 3) := by decide +kernel
theorem d_FenR_readTin_143 : decode prog_3_method_9_code 143 = .ok (.aload_n 0, 1) := by decide +kernel
theorem d_FenR_readTin_144 : decode prog_3_method_9_code 144 = .ok (.getfield 9, 3) := by decide +kernel
theorem d_FenR_readTin_147 : decode prog_3_method_9_code 147 = .ok (.invokevirtual 74, 3) := by decide +kernel
theorem d_FenR_readTin_150 : decode prog_3_method_9_code 150 = .ok (.ifCond .ne 5, 3) := by decide +kernel
theorem d_FenR_readTin_153 : decode prog_3_method_9_code 153 = .ok (.iconst 0, 1) := by decide +kernel
theorem d_FenR_readTin_154 : decode prog_3_method_9_code 154 = .ok (.ireturn, 1) := by decide +kernel
theorem d_FenR_readTin_155 : decode prog_3_method_9_code 155 = .ok (.aload_n 1, 1) := by decide +kernel
theorem d_FenR_readTin_156 : decode prog_3_method_9_code 156 = .ok (.lload_n 2, 1) := by decide +kernel
theorem d_FenR_readTin_157 : decode prog_3_method_9_code 157 = .ok (.iload 4, 2) := by decide +kernel
theorem d_FenR_readTin_159 : decode prog_3_method_9_code 159 = .ok (.iload 5, 2) := by decide +kernel
theorem d_FenR_readTin_161 : decode prog_3_method_9_code 161 = .ok (.iload 6, 2) := by decide +kernel
theorem d_FenR_readTin_163 : decode prog_3_method_9_code 163 = .ok (.invokevirtual 128, 3) := by decide +kernel
theorem d_FenR_readTin_166 : decode prog_3_method_9_code 166 = .ok (.iconst 1, 1) := by decide +kernel
theorem d_FenR_readTin_167 : decode prog_3_method_9_code 167 = .ok (.ireturn, 1) := by decide +kernel
theorem d_Fen_addTin_0 : decode prog_2_method_7_code 0 = .ok (.aload_n 0, 1) := by decide +kernel
theorem d_Fen_addTin_1 : decode prog_2_method_7_code 1 = .ok (.getfield 47, 3) := by decide +kernel
theorem d_Fen_addTin_4 : decode prog_2_method_7_code 4 = .ok (.aload_n 0, 1) := by decide +kernel
theorem d_Fen_addTin_5 : decode prog_2_method_7_code 5 = .ok (.getfield 66, 3) := by decide +kernel
theorem d_Fen_addTin_8 : decode prog_2_method_7_code 8 = .ok (.lload_n 1, 1) := by decide +kernel
theorem d_Fen_addTin_9 : decode prog_2_method_7_code 9 = .ok (.lastore, 1) := by decide +kernel
theorem d_Fen_addTin_10 : decode prog_2_method_7_code 10 = .ok (.aload_n 0, 1) := by decide +kernel
theorem d_Fen_addTin_11 : decode prog_2_method_7_code 11 = .ok (.getfield 28, 3) := by decide +kernel
theorem d_Fen_addTin_14 : decode prog_2_method_7_code 14 = .ok (.aload_n 0, 1) := by decide +kernel
theorem d_Fen_addTin_15 : decode prog_2_method_7_code 15 = .ok (.getfield 66, 3) := by decide +kernel
theorem d_Fen_addTin_18 : decode prog_2_method_7_code 18 = .ok (.iload_n 3, 1) := by decide +kernel
theorem d_Fen_addTin_19 : decode prog_2_method_7_code 19 = .ok (.iastore, 1) := by decide +kernel
theorem d_Fen_addTin_20 : decode prog_2_method_7_code 20 = .ok (.aload_n 0, 1) := by decide +kernel
theorem d_Fen_addTin_21 : decode prog_2_method_7_code 21 = .ok (.getfield 31, 3) := by decide +kernel
theorem d_Fen_addTin_24 : decode prog_2_method_7_code 24 = .ok (.aload_n 0, 1) := by decide +kernel
theorem d_Fen_addTin_25 : decode prog_2_method_7_code 25 = .ok (.getfield 66, 3) := by decide +kernel
theorem d_Fen_addTin_28 : decode prog_2_method_7_code 28 = .ok (.iload 4, 2) := by decide +kernel
theorem d_Fen_addTin_30 : decode prog_2_method_7_code 30 = .ok (.iastore, 1) := by decide +kernel
theorem d_Fen_addTin_31 : decode prog_2_method_7_code 31 = .ok (.aload_n 0, 1) := by decide +kernel
theorem d_Fen_addTin_32 : decode prog_2_method_7_code 32 = .ok (.getfield 34, 3) := by decide +kernel
theorem d_Fen_addTin_35 : decode prog_2_method_7_code 35 = .ok (.aload_n 0, 1) := by decide +kernel
theorem d_Fen_addTin_36 : decode prog_2_method_7_code 36 = .ok (.getfield 66, 3) := by decide +kernel
theorem d_Fen_addTin_39 : decode prog_2_method_7_code 39 = .ok (.iconst 1, 1) := by decide +kernel
theorem d_Fen_addTin_40 : decode prog_2_method_7_code 40 = .ok (.iload 4, 2) := by decide +kernel
theorem d_Fen_addTin_42 : decode prog_2_method_7_code 42 = .ok (.ishl, 1) := by decide +kernel
theorem d_Fen_addTin_43 : decode prog_2_method_7_code 43 = .ok (.iastore, 1) := by decide +kernel
theorem d_Fen_addTin_44 : decode prog_2_method_7_code 44 = .ok (.aload_n 0, 1) := by decide +kernel
theorem d_Fen_addTin_45 : decode prog_2_method_7_code 45 = .ok (.getfield 37, 3) := by decide +kernel
theorem d_Fen_addTin_48 : decode prog_2_method_7_code 48 = .ok (.aload_n 0, 1) := by decide +kernel
theorem d_Fen_addTin_49 : decode prog_2_method_7_code 49 = .ok (.getfield 66, 3) := by decide +kernel
theorem d_Fen_addTin_52 : decode prog_2_method_7_code 52 = .ok (.iconst 0, 1) := by decide +kernel
theorem d_Fen_addTin_53 : decode prog_2_method_7_code 53 = .ok (.iastore, 1) := by decide +kernel
theorem d_Fen_addTin_54 : decode prog_2_method_7_code 54 = .ok (.iload 5, 2) := by decide +kernel
theorem d_Fen_addTin_56 : decode prog_2_method_7_code 56 = .ok (.ifCond .eq 18, 3) := by decide +kernel
theorem d_Fen_addTin_59 : decode prog_2_method_7_code 59 = .ok (.aload_n 0, 1) := by decide +kernel
theorem d_Fen_addTin_60 : decode prog_2_method_7_code 60 = .ok (.dup, 1) := by decide +kernel
theorem d_Fen_addTin_61 : decode prog_2_method_7_code 61 = .ok (.getfield 72, 3) := by decide +kernel
theorem d_Fen_addTin_64 : decode prog_2_method_7_code 64 = .ok (.iconst 1, 1) := by decide +kernel
theorem d_Fen_addTin_65 : decode prog_2_method_7_code 65 = .ok (.aload_n 0, 1) := by decide +kernel
theorem d_Fen_addTin_66 : decode prog_2_method_7_code 66 = .ok (.getfield 66, 3) := by decide +kernel
theorem d_Fen_addTin_69 : decode prog_2_method_7_code 69 = .ok (.ishl, 1) := by decide +kernel
theorem d_Fen_addTin_70 : decode prog_2_method_7_code 70 = .ok (.ior, 1) := by decide +kernel
theorem d_Fen_addTin_71 : decode prog_2_method_7_code 71 = .ok (.putfield 72, 3) := by decide +kernel
theorem d_Fen_addTin_74 : decode prog_2_method_7_code 74 = .ok (.aload_n 0, 1) := by decide +kernel
theorem d_Fen_addTin_75 : decode prog_2_method_7_code 75 = .ok (.dup, 1) := by decide +kernel
theorem d_Fen_addTin_76 : decode prog_2_method_7_code 76 = .ok (.getfield 66, 3) := by decide +kernel
theorem d_Fen_addTin_79 : decode prog_2_method_7_code 79 = .ok (.iconst 1, 1) := by decide +kernel
theorem d_Fen_addTin_80 : decode prog_2_method_7_code 80 = .ok (.iadd, 1) := by decide +kernel
theorem d_Fen_addTin_81 : decode prog_2_method_7_code 81 = .ok (.putfield 66, 3) := by decide +kernel
theorem d_Fen_addTin_84 : decode prog_2_method_7_code 84 = .ok (.return_, 1) := by decide +kernel
theorem d_Fen_wornBy_0 : decode prog_2_method_12_code 0 = .ok (.iconst 0, 1) := by decide +kernel
theorem d_Fen_wornBy_1 : decode prog_2_method_12_code 1 = .ok (.istore_n 2, 1) := by decide +kernel
theorem d_Fen_wornBy_2 : decode prog_2_method_12_code 2 = .ok (.iconst 0, 1) := by decide +kernel
theorem d_Fen_wornBy_3 : decode prog_2_method_12_code 3 = .ok (.istore_n 3, 1) := by decide +kernel
theorem d_Fen_wornBy_4 : decode prog_2_method_12_code 4 = .ok (.iload_n 3, 1) := by decide +kernel
theorem d_Fen_wornBy_5 : decode prog_2_method_12_code 5 = .ok (.aload_n 0, 1) := by decide +kernel
theorem d_Fen_wornBy_6 : decode prog_2_method_12_code 6 = .ok (.getfield 66, 3) := by decide +kernel
theorem d_Fen_wornBy_9 : decode prog_2_method_12_code 9 = .ok (.if_icmp .ge 25, 3) := by decide +kernel
theorem d_Fen_wornBy_12 : decode prog_2_method_12_code 12 = .ok (.aload_n 0, 1) := by decide +kernel
theorem d_Fen_wornBy_13 : decode prog_2_method_12_code 13 = .ok (.getfield 31, 3) := by decide +kernel
theorem d_Fen_wornBy_16 : decode prog_2_method_12_code 16 = .ok (.iload_n 3, 1) := by decide +kernel
theorem d_Fen_wornBy_17 : decode prog_2_method_12_code 17 = .ok (.iaload, 1) := by decide +kernel
theorem d_Fen_wornBy_18 : decode prog_2_method_12_code 18 = .ok (.iload_n 1, 1) := by decide +kernel
theorem d_Fen_wornBy_19 : decode prog_2_method_12_code 19 = .ok (.if_icmp .ne 9, 3) := by decide +kernel
theorem d_Fen_wornBy_22 : decode prog_2_method_12_code 22 = .ok (.iload_n 2, 1) := by decide +kernel
theorem d_Fen_wornBy_23 : decode prog_2_method_12_code 23 = .ok (.iconst 1, 1) := by decide +kernel
theorem d_Fen_wornBy_24 : decode prog_2_method_12_code 24 = .ok (.iload_n 3, 1) := by decide +kernel
theorem d_Fen_wornBy_25 : decode prog_2_method_12_code 25 = .ok (.ishl, 1) := by decide +kernel
theorem d_Fen_wornBy_26 : decode prog_2_method_12_code 26 = .ok (.ior, 1) := by decide +kernel
theorem d_Fen_wornBy_27 : decode prog_2_method_12_code 27 = .ok (.istore_n 2, 1) := by decide +kernel
theorem d_Fen_wornBy_28 : decode prog_2_method_12_code 28 = .ok (.iinc 3 1, 3) := by decide +kernel
theorem d_Fen_wornBy_31 : decode prog_2_method_12_code 31 = .ok (.goto (-27), 3) := by decide +kernel
theorem d_Fen_wornBy_34 : decode prog_2_method_12_code 34 = .ok (.iload_n 2, 1) := by decide +kernel
theorem d_Fen_wornBy_35 : decode prog_2_method_12_code 35 = .ok (.ireturn, 1) := by decide +kernel
theorem d_Fen_worthOfAll_0 : decode prog_2_method_14_code 0 = .ok (.aload_n 0, 1) := by decide +kernel
theorem d_Fen_worthOfAll_1 : decode prog_2_method_14_code 1 = .ok (.aload_n 0, 1) := by decide +kernel
theorem d_Fen_worthOfAll_2 : decode prog_2_method_14_code 2 = .ok (.iconst (-1), 1) := by decide +kernel
theorem d_Fen_worthOfAll_3 : decode prog_2_method_14_code 3 = .ok (.invokevirtual 91, 3) := by decide +kernel
theorem d_Fen_worthOfAll_6 : decode prog_2_method_14_code 6 = .ok (.iconst (-1), 1) := by decide +kernel
theorem d_Fen_worthOfAll_7 : decode prog_2_method_14_code 7 = .ok (.ixor, 1) := by decide +kernel
theorem d_Fen_worthOfAll_8 : decode prog_2_method_14_code 8 = .ok (.invokevirtual 95, 3) := by decide +kernel
theorem d_Fen_worthOfAll_11 : decode prog_2_method_14_code 11 = .ok (.ireturn, 1) := by decide +kernel
theorem d_Fen_worthOf_0 : decode prog_2_method_13_code 0 = .ok (.iconst 0, 1) := by decide +kernel
theorem d_Fen_worthOf_1 : decode prog_2_method_13_code 1 = .ok (.istore_n 2, 1) := by decide +kernel
theorem d_Fen_worthOf_2 : decode prog_2_method_13_code 2 = .ok (.iconst 0, 1) := by decide +kernel
theorem d_Fen_worthOf_3 : decode prog_2_method_13_code 3 = .ok (.istore_n 3, 1) := by decide +kernel
theorem d_Fen_worthOf_4 : decode prog_2_method_13_code 4 = .ok (.iload_n 3, 1) := by decide +kernel
theorem d_Fen_worthOf_5 : decode prog_2_method_13_code 5 = .ok (.aload_n 0, 1) := by decide +kernel
theorem d_Fen_worthOf_6 : decode prog_2_method_13_code 6 = .ok (.getfield 66, 3) := by decide +kernel
theorem d_Fen_worthOf_9 : decode prog_2_method_13_code 9 = .ok (.if_icmp .ge 31, 3) := by decide +kernel
theorem d_Fen_worthOf_12 : decode prog_2_method_13_code 12 = .ok (.iload_n 1, 1) := by decide +kernel
theorem d_Fen_worthOf_13 : decode prog_2_method_13_code 13 = .ok (.iload_n 3, 1) := by decide +kernel
theorem d_Fen_worthOf_14 : decode prog_2_method_13_code 14 = .ok (.ishr, 1) := by decide +kernel
theorem d_Fen_worthOf_15 : decode prog_2_method_13_code 15 = .ok (.iconst 1, 1) := by decide +kernel
theorem d_Fen_worthOf_16 : decode prog_2_method_13_code 16 = .ok (.iand, 1) := by decide +kernel
theorem d_Fen_worthOf_17 : decode prog_2_method_13_code 17 = .ok (.ifCond .eq 17, 3) := by decide +kernel
theorem d_Fen_worthOf_20 : decode prog_2_method_13_code 20 = .ok (.iload_n 2, 1) := by decide +kernel
theorem d_Fen_worthOf_21 : decode prog_2_method_13_code 21 = .ok (.aload_n 0, 1) := by decide +kernel
theorem d_Fen_worthOf_22 : decode prog_2_method_13_code 22 = .ok (.getfield 15, 3) := by decide +kernel
theorem d_Fen_worthOf_25 : decode prog_2_method_13_code 25 = .ok (.aload_n 0, 1) := by decide +kernel
theorem d_Fen_worthOf_26 : decode prog_2_method_13_code 26 = .ok (.getfield 28, 3) := by decide +kernel
theorem d_Fen_worthOf_29 : decode prog_2_method_13_code 29 = .ok (.iload_n 3, 1) := by decide +kernel
theorem d_Fen_worthOf_30 : decode prog_2_method_13_code 30 = .ok (.iaload, 1) := by decide +kernel
theorem d_Fen_worthOf_31 : decode prog_2_method_13_code 31 = .ok (.iaload, 1) := by decide +kernel
theorem d_Fen_worthOf_32 : decode prog_2_method_13_code 32 = .ok (.iadd, 1) := by decide +kernel
theorem d_Fen_worthOf_33 : decode prog_2_method_13_code 33 = .ok (.istore_n 2, 1) := by decide +kernel
theorem d_Fen_worthOf_34 : decode prog_2_method_13_code 34 = .ok (.iinc 3 1, 3) := by decide +kernel
theorem d_Fen_worthOf_37 : decode prog_2_method_13_code 37 = .ok (.goto (-33), 3) := by decide +kernel
theorem d_Fen_worthOf_40 : decode prog_2_method_13_code 40 = .ok (.iload_n 2, 1) := by decide +kernel
theorem d_Fen_worthOf_41 : decode prog_2_method_13_code 41 = .ok (.ireturn, 1) := by decide +kernel
theorem d_Fen_isGone_0 : decode prog_2_method_10_code 0 = .ok (.aload_n 0, 1) := by decide +kernel
theorem d_Fen_isGone_1 : decode prog_2_method_10_code 1 = .ok (.getfield 31, 3) := by decide +kernel
theorem d_Fen_isGone_4 : decode prog_2_method_10_code 4 = .ok (.iload_n 1, 1) := by decide +kernel
theorem d_Fen_isGone_5 : decode prog_2_method_10_code 5 = .ok (.iaload, 1) := by decide +kernel
theorem d_Fen_isGone_6 : decode prog_2_method_10_code 6 = .ok (.ifCond .ge 7, 3) := by decide +kernel
theorem d_Fen_isGone_9 : decode prog_2_method_10_code 9 = .ok (.iconst 1, 1) := by decide +kernel
theorem d_Fen_isGone_10 : decode prog_2_method_10_code 10 = .ok (.goto 4, 3) := by decide +kernel
theorem d_Fen_isGone_13 : decode prog_2_method_10_code 13 = .ok (.iconst 0, 1) := by decide +kernel
theorem d_Fen_isGone_14 : decode prog_2_method_10_code 14 = .ok (.ireturn, 1) := by decide +kernel
theorem d_Fen_canHand_0 : decode prog_2_method_18_code 0 = .ok (.aload_n 0, 1) := by decide +kernel
theorem d_Fen_canHand_1 : decode prog_2_method_18_code 1 = .ok (.iload_n 1, 1) := by decide +kernel
theorem d_Fen_canHand_2 : decode prog_2_method_18_code 2 = .ok (.invokevirtual 102, 3) := by decide +kernel
theorem d_Fen_canHand_5 : decode prog_2_method_18_code 5 = .ok (.ifCond .ne 39, 3) := by decide +kernel
theorem d_Fen_canHand_8 : decode prog_2_method_18_code 8 = .ok (.aload_n 0, 1) := by decide +kernel
theorem d_Fen_canHand_9 : decode prog_2_method_18_code 9 = .ok (.getfield 22, 3) := by decide +kernel
theorem d_Fen_canHand_12 : decode prog_2_method_18_code 12 = .ok (.aload_n 0, 1) := by decide +kernel
theorem d_Fen_canHand_13 : decode prog_2_method_18_code 13 = .ok (.getfield 31, 3) := by decide +kernel
theorem d_Fen_canHand_16 : decode prog_2_method_18_code 16 = .ok (.iload_n 1, 1) := by decide +kernel
theorem d_Fen_canHand_17 : decode prog_2_method_18_code 17 = .ok (.iaload, 1) := by decide +kernel
theorem d_Fen_canHand_18 : decode prog_2_method_18_code 18 = .ok (.iaload, 1) := by decide +kernel
theorem d_Fen_canHand_19 : decode prog_2_method_18_code 19 = .ok (.iload_n 2, 1) := by decide +kernel
theorem d_Fen_canHand_20 : decode prog_2_method_18_code 20 = .ok (.ishr, 1) := by decide +kernel
theorem d_Fen_canHand_21 : decode prog_2_method_18_code 21 = .ok (.iconst 1, 1) := by decide +kernel
theorem d_Fen_canHand_22 : decode prog_2_method_18_code 22 = .ok (.iand, 1) := by decide +kernel
theorem d_Fen_canHand_23 : decode prog_2_method_18_code 23 = .ok (.ifCond .eq 21, 3) := by decide +kernel
theorem d_Fen_canHand_26 : decode prog_2_method_18_code 26 = .ok (.aload_n 0, 1) := by decide +kernel
theorem d_Fen_canHand_27 : decode prog_2_method_18_code 27 = .ok (.iload_n 2, 1) := by decide +kernel
theorem d_Fen_canHand_28 : decode prog_2_method_18_code 28 = .ok (.aload_n 0, 1) := by decide +kernel
theorem d_Fen_canHand_29 : decode prog_2_method_18_code 29 = .ok (.getfield 28, 3) := by decide +kernel
theorem d_Fen_canHand_32 : decode prog_2_method_18_code 32 = .ok (.iload_n 1, 1) := by decide +kernel
theorem d_Fen_canHand_33 : decode prog_2_method_18_code 33 = .ok (.iaload, 1) := by decide +kernel
theorem d_Fen_canHand_34 : decode prog_2_method_18_code 34 = .ok (.invokevirtual 98, 3) := by decide +kernel
theorem d_Fen_canHand_37 : decode prog_2_method_18_code 37 = .ok (.ifCond .eq 7, 3) := by decide +kernel
theorem d_Fen_canHand_40 : decode prog_2_method_18_code 40 = .ok (.iconst 1, 1) := by decide +kernel
theorem d_Fen_canHand_41 : decode prog_2_method_18_code 41 = .ok (.goto 4, 3) := by decide +kernel
theorem d_Fen_canHand_44 : decode prog_2_method_18_code 44 = .ok (.iconst 0, 1) := by decide +kernel
theorem d_Fen_canHand_45 : decode prog_2_method_18_code 45 = .ok (.ireturn, 1) := by decide +kernel
theorem d_Fen_isTrue_0 : decode prog_2_method_8_code 0 = .ok (.aload_n 0, 1) := by decide +kernel
theorem d_Fen_isTrue_1 : decode prog_2_method_8_code 1 = .ok (.getfield 19, 3) := by decide +kernel
theorem d_Fen_isTrue_4 : decode prog_2_method_8_code 4 = .ok (.iload_n 1, 1) := by decide +kernel
theorem d_Fen_isTrue_5 : decode prog_2_method_8_code 5 = .ok (.iaload, 1) := by decide +kernel
theorem d_Fen_isTrue_6 : decode prog_2_method_8_code 6 = .ok (.iload_n 2, 1) := by decide +kernel
theorem d_Fen_isTrue_7 : decode prog_2_method_8_code 7 = .ok (.ishr, 1) := by decide +kernel
theorem d_Fen_isTrue_8 : decode prog_2_method_8_code 8 = .ok (.iconst 1, 1) := by decide +kernel
theorem d_Fen_isTrue_9 : decode prog_2_method_8_code 9 = .ok (.iand, 1) := by decide +kernel
theorem d_Fen_isTrue_10 : decode prog_2_method_8_code 10 = .ok (.ifCond .eq 7, 3) := by decide +kernel
theorem d_Fen_isTrue_13 : decode prog_2_method_8_code 13 = .ok (.iconst 1, 1) := by decide +kernel
theorem d_Fen_isTrue_14 : decode prog_2_method_8_code 14 = .ok (.goto 4, 3) := by decide +kernel
theorem d_Fen_isTrue_17 : decode prog_2_method_8_code 17 = .ok (.iconst 0, 1) := by decide +kernel
theorem d_Fen_isTrue_18 : decode prog_2_method_8_code 18 = .ok (.ireturn, 1) := by decide +kernel
theorem d_Fen_hand_0 : decode prog_2_method_19_code 0 = .ok (.aload_n 0, 1) := by decide +kernel
theorem d_Fen_hand_1 : decode prog_2_method_19_code 1 = .ok (.getfield 25, 3) := by decide +kernel
theorem d_Fen_hand_4 : decode prog_2_method_19_code 4 = .ok (.aload_n 0, 1) := by decide +kernel
theorem d_Fen_hand_5 : decode prog_2_method_19_code 5 = .ok (.getfield 31, 3) := by decide +kernel
theorem d_Fen_hand_8 : decode prog_2_method_19_code 8 = .ok (.iload_n 1, 1) := by decide +kernel
theorem d_Fen_hand_9 : decode prog_2_method_19_code 9 = .ok (.iaload, 1) := by decide +kernel
theorem d_Fen_hand_10 : decode prog_2_method_19_code 10 = .ok (.dup2, 1) := by decide +kernel
theorem d_Fen_hand_11 : decode prog_2_method_19_code 11 = .ok (.iaload, 1) := by decide +kernel
theorem d_Fen_hand_12 : decode prog_2_method_19_code 12 = .ok (.aload_n 0, 1) := by decide +kernel
theorem d_Fen_hand_13 : decode prog_2_method_19_code 13 = .ok (.getfield 15, 3) := by decide +kernel
theorem d_Fen_hand_16 : decode prog_2_method_19_code 16 = .ok (.aload_n 0, 1) := by decide +kernel
theorem d_Fen_hand_17 : decode prog_2_method_19_code 17 = .ok (.getfield 28, 3) := by decide +kernel
theorem d_Fen_hand_20 : decode prog_2_method_19_code 20 = .ok (.iload_n 1, 1) := by decide +kernel
theorem d_Fen_hand_21 : decode prog_2_method_19_code 21 = .ok (.iaload, 1) := by decide +kernel
theorem d_Fen_hand_22 : decode prog_2_method_19_code 22 = .ok (.iaload, 1) := by decide +kernel
theorem d_Fen_hand_23 : decode prog_2_method_19_code 23 = .ok (.iadd, 1) := by decide +kernel
theorem d_Fen_hand_24 : decode prog_2_method_19_code 24 = .ok (.iastore, 1) := by decide +kernel
theorem d_Fen_hand_25 : decode prog_2_method_19_code 25 = .ok (.aload_n 0, 1) := by decide +kernel
theorem d_Fen_hand_26 : decode prog_2_method_19_code 26 = .ok (.dup, 1) := by decide +kernel
theorem d_Fen_hand_27 : decode prog_2_method_19_code 27 = .ok (.getfield 69, 3) := by decide +kernel
theorem d_Fen_hand_30 : decode prog_2_method_19_code 30 = .ok (.iconst 1, 1) := by decide +kernel
theorem d_Fen_hand_31 : decode prog_2_method_19_code 31 = .ok (.iadd, 1) := by decide +kernel
theorem d_Fen_hand_32 : decode prog_2_method_19_code 32 = .ok (.putfield 69, 3) := by decide +kernel
theorem d_Fen_hand_35 : decode prog_2_method_19_code 35 = .ok (.aload_n 0, 1) := by decide +kernel
theorem d_Fen_hand_36 : decode prog_2_method_19_code 36 = .ok (.getfield 37, 3) := by decide +kernel
theorem d_Fen_hand_39 : decode prog_2_method_19_code 39 = .ok (.iload_n 1, 1) := by decide +kernel
theorem d_Fen_hand_40 : decode prog_2_method_19_code 40 = .ok (.dup2, 1) := by decide +kernel
theorem d_Fen_hand_41 : decode prog_2_method_19_code 41 = .ok (.iaload, 1) := by decide +kernel
theorem d_Fen_hand_42 : decode prog_2_method_19_code 42 = .ok (.iconst 1, 1) := by decide +kernel
theorem d_Fen_hand_43 : decode prog_2_method_19_code 43 = .ok (.iadd, 1) := by decide +kernel
theorem d_Fen_hand_44 : decode prog_2_method_19_code 44 = .ok (.iastore, 1) := by decide +kernel
theorem d_Fen_hand_45 : decode prog_2_method_19_code 45 = .ok (.aload_n 0, 1) := by decide +kernel
theorem d_Fen_hand_46 : decode prog_2_method_19_code 46 = .ok (.iload_n 1, 1) := by decide +kernel
theorem d_Fen_hand_47 : decode prog_2_method_19_code 47 = .ok (.iload_n 2, 1) := by decide +kernel
theorem d_Fen_hand_48 : decode prog_2_method_19_code 48 = .ok (.invokevirtual 109, 3) := by decide +kernel
theorem d_Fen_hand_51 : decode prog_2_method_19_code 51 = .ok (.return_, 1) := by decide +kernel
theorem d_Fen_putOn_0 : decode prog_2_method_20_code 0 = .ok (.aload_n 0, 1) := by decide +kernel
theorem d_Fen_putOn_1 : decode prog_2_method_20_code 1 = .ok (.getfield 31, 3) := by decide +kernel
theorem d_Fen_putOn_4 : decode prog_2_method_20_code 4 = .ok (.iload_n 1, 1) := by decide +kernel
theorem d_Fen_putOn_5 : decode prog_2_method_20_code 5 = .ok (.iload_n 2, 1) := by decide +kernel
theorem d_Fen_putOn_6 : decode prog_2_method_20_code 6 = .ok (.iastore, 1) := by decide +kernel
theorem d_Fen_putOn_7 : decode prog_2_method_20_code 7 = .ok (.aload_n 0, 1) := by decide +kernel
theorem d_Fen_putOn_8 : decode prog_2_method_20_code 8 = .ok (.getfield 34, 3) := by decide +kernel
theorem d_Fen_putOn_11 : decode prog_2_method_20_code 11 = .ok (.iload_n 1, 1) := by decide +kernel
theorem d_Fen_putOn_12 : decode prog_2_method_20_code 12 = .ok (.dup2, 1) := by decide +kernel
theorem d_Fen_putOn_13 : decode prog_2_method_20_code 13 = .ok (.iaload, 1) := by decide +kernel
theorem d_Fen_putOn_14 : decode prog_2_method_20_code 14 = .ok (.iconst 1, 1) := by decide +kernel
theorem d_Fen_putOn_15 : decode prog_2_method_20_code 15 = .ok (.iload_n 2, 1) := by decide +kernel
theorem d_Fen_putOn_16 : decode prog_2_method_20_code 16 = .ok (.ishl, 1) := by decide +kernel
theorem d_Fen_putOn_17 : decode prog_2_method_20_code 17 = .ok (.ior, 1) := by decide +kernel
theorem d_Fen_putOn_18 : decode prog_2_method_20_code 18 = .ok (.iastore, 1) := by decide +kernel
theorem d_Fen_putOn_19 : decode prog_2_method_20_code 19 = .ok (.return_, 1) := by decide +kernel
theorem d_Fen_isLead_0 : decode prog_2_method_11_code 0 = .ok (.aload_n 0, 1) := by decide +kernel
theorem d_Fen_isLead_1 : decode prog_2_method_11_code 1 = .ok (.getfield 72, 3) := by decide +kernel
theorem d_Fen_isLead_4 : decode prog_2_method_11_code 4 = .ok (.iload_n 1, 1) := by decide +kernel
theorem d_Fen_isLead_5 : decode prog_2_method_11_code 5 = .ok (.ishr, 1) := by decide +kernel
theorem d_Fen_isLead_6 : decode prog_2_method_11_code 6 = .ok (.iconst 1, 1) := by decide +kernel
theorem d_Fen_isLead_7 : decode prog_2_method_11_code 7 = .ok (.iand, 1) := by decide +kernel
theorem d_Fen_isLead_8 : decode prog_2_method_11_code 8 = .ok (.ifCond .eq 7, 3) := by decide +kernel
theorem d_Fen_isLead_11 : decode prog_2_method_11_code 11 = .ok (.iconst 1, 1) := by decide +kernel
theorem d_Fen_isLead_12 : decode prog_2_method_11_code 12 = .ok (.goto 4, 3) := by decide +kernel
theorem d_Fen_isLead_15 : decode prog_2_method_11_code 15 = .ok (.iconst 0, 1) := by decide +kernel
theorem d_Fen_isLead_16 : decode prog_2_method_11_code 16 = .ok (.ireturn, 1) := by decide +kernel
theorem d_Fen_find_0 : decode prog_2_method_21_code 0 = .ok (.aload_n 0, 1) := by decide +kernel
theorem d_Fen_find_1 : decode prog_2_method_21_code 1 = .ok (.dup, 1) := by decide +kernel
theorem d_Fen_find_2 : decode prog_2_method_21_code 2 = .ok (.getfield 75, 3) := by decide +kernel
theorem d_Fen_find_5 : decode prog_2_method_21_code 5 = .ok (.iconst 1, 1) := by decide +kernel
theorem d_Fen_find_6 : decode prog_2_method_21_code 6 = .ok (.iload_n 1, 1) := by decide +kernel
theorem d_Fen_find_7 : decode prog_2_method_21_code 7 = .ok (.ishl, 1) := by decide +kernel
theorem d_Fen_find_8 : decode prog_2_method_21_code 8 = .ok (.ior, 1) := by decide +kernel
theorem d_Fen_find_9 : decode prog_2_method_21_code 9 = .ok (.putfield 75, 3) := by decide +kernel
theorem d_Fen_find_12 : decode prog_2_method_21_code 12 = .ok (.aload_n 0, 1) := by decide +kernel
theorem d_Fen_find_13 : decode prog_2_method_21_code 13 = .ok (.getfield 31, 3) := by decide +kernel
theorem d_Fen_find_16 : decode prog_2_method_21_code 16 = .ok (.iload_n 1, 1) := by decide +kernel
theorem d_Fen_find_17 : decode prog_2_method_21_code 17 = .ok (.iconst (-1), 1) := by decide +kernel
theorem d_Fen_find_18 : decode prog_2_method_21_code 18 = .ok (.iastore, 1) := by decide +kernel
theorem d_Fen_find_19 : decode prog_2_method_21_code 19 = .ok (.return_, 1) := by decide +kernel
theorem d_Fen_turn_0 : decode prog_2_method_9_code 0 = .ok (.aload_n 0, 1) := by decide +kernel
theorem d_Fen_turn_1 : decode prog_2_method_9_code 1 = .ok (.getfield 19, 3) := by decide +kernel
theorem d_Fen_turn_4 : decode prog_2_method_9_code 4 = .ok (.iload_n 1, 1) := by decide +kernel
theorem d_Fen_turn_5 : decode prog_2_method_9_code 5 = .ok (.dup2, 1) := by decide +kernel
theorem d_Fen_turn_6 : decode prog_2_method_9_code 6 = .ok (.iaload, 1) := by decide +kernel
theorem d_Fen_turn_7 : decode prog_2_method_9_code 7 = .ok (.iconst 1, 1) := by decide +kernel
theorem d_Fen_turn_8 : decode prog_2_method_9_code 8 = .ok (.iload_n 2, 1) := by decide +kernel
theorem d_Fen_turn_9 : decode prog_2_method_9_code 9 = .ok (.ishl, 1) := by decide +kernel
theorem d_Fen_turn_10 : decode prog_2_method_9_code 10 = .ok (.ixor, 1) := by decide +kernel
theorem d_Fen_turn_11 : decode prog_2_method_9_code 11 = .ok (.iastore, 1) := by decide +kernel
theorem d_Fen_turn_12 : decode prog_2_method_9_code 12 = .ok (.return_, 1) := by decide +kernel
theorem d_Fen_believersIn_0 : decode prog_2_method_16_code 0 = .ok (.iconst 0, 1) := by decide +kernel
theorem d_Fen_believersIn_1 : decode prog_2_method_16_code 1 = .ok (.istore_n 2, 1) := by decide +kernel
theorem d_Fen_believersIn_2 : decode prog_2_method_16_code 2 = .ok (.iconst 0, 1) := by decide +kernel
theorem d_Fen_believersIn_3 : decode prog_2_method_16_code 3 = .ok (.istore_n 3, 1) := by decide +kernel
theorem d_Fen_believersIn_4 : decode prog_2_method_16_code 4 = .ok (.iload_n 3, 1) := by decide +kernel
theorem d_Fen_believersIn_5 : decode prog_2_method_16_code 5 = .ok (.aload_n 0, 1) := by decide +kernel
theorem d_Fen_believersIn_6 : decode prog_2_method_16_code 6 = .ok (.getfield 60, 3) := by decide +kernel
theorem d_Fen_believersIn_9 : decode prog_2_method_16_code 9 = .ok (.if_icmp .ge 29, 3) := by decide +kernel
theorem d_Fen_believersIn_12 : decode prog_2_method_16_code 12 = .ok (.aload_n 0, 1) := by decide +kernel
theorem d_Fen_believersIn_13 : decode prog_2_method_16_code 13 = .ok (.iload_n 3, 1) := by decide +kernel
theorem d_Fen_believersIn_14 : decode prog_2_method_16_code 14 = .ok (.aload_n 0, 1) := by decide +kernel
theorem d_Fen_believersIn_15 : decode prog_2_method_16_code 15 = .ok (.getfield 28, 3) := by decide +kernel
theorem d_Fen_believersIn_18 : decode prog_2_method_16_code 18 = .ok (.iload_n 1, 1) := by decide +kernel
theorem d_Fen_believersIn_19 : decode prog_2_method_16_code 19 = .ok (.iaload, 1) := by decide +kernel
theorem d_Fen_believersIn_20 : decode prog_2_method_16_code 20 = .ok (.invokevirtual 98, 3) := by decide +kernel
theorem d_Fen_believersIn_23 : decode prog_2_method_16_code 23 = .ok (.ifCond .eq 9, 3) := by decide +kernel
theorem d_Fen_believersIn_26 : decode prog_2_method_16_code 26 = .ok (.iload_n 2, 1) := by decide +kernel
theorem d_Fen_believersIn_27 : decode prog_2_method_16_code 27 = .ok (.iconst 1, 1) := by decide +kernel
theorem d_Fen_believersIn_28 : decode prog_2_method_16_code 28 = .ok (.iload_n 3, 1) := by decide +kernel
theorem d_Fen_believersIn_29 : decode prog_2_method_16_code 29 = .ok (.ishl, 1) := by decide +kernel
theorem d_Fen_believersIn_30 : decode prog_2_method_16_code 30 = .ok (.ior, 1) := by decide +kernel
theorem d_Fen_believersIn_31 : decode prog_2_method_16_code 31 = .ok (.istore_n 2, 1) := by decide +kernel
theorem d_Fen_believersIn_32 : decode prog_2_method_16_code 32 = .ok (.iinc 3 1, 3) := by decide +kernel
theorem d_Fen_believersIn_35 : decode prog_2_method_16_code 35 = .ok (.goto (-31), 3) := by decide +kernel
theorem d_Fen_believersIn_38 : decode prog_2_method_16_code 38 = .ok (.iload_n 2, 1) := by decide +kernel
theorem d_Fen_believersIn_39 : decode prog_2_method_16_code 39 = .ok (.ireturn, 1) := by decide +kernel
theorem d_Fen_takers_0 : decode prog_2_method_17_code 0 = .ok (.aload_n 0, 1) := by decide +kernel
theorem d_Fen_takers_1 : decode prog_2_method_17_code 1 = .ok (.iload_n 1, 1) := by decide +kernel
theorem d_Fen_takers_2 : decode prog_2_method_17_code 2 = .ok (.invokevirtual 102, 3) := by decide +kernel
theorem d_Fen_takers_5 : decode prog_2_method_17_code 5 = .ok (.ifCond .eq 7, 3) := by decide +kernel
theorem d_Fen_takers_8 : decode prog_2_method_17_code 8 = .ok (.iconst 0, 1) := by decide +kernel
theorem d_Fen_takers_9 : decode prog_2_method_17_code 9 = .ok (.goto 20, 3) := by decide +kernel
theorem d_Fen_takers_12 : decode prog_2_method_17_code 12 = .ok (.aload_n 0, 1) := by decide +kernel
theorem d_Fen_takers_13 : decode prog_2_method_17_code 13 = .ok (.getfield 22, 3) := by decide +kernel
theorem d_Fen_takers_16 : decode prog_2_method_17_code 16 = .ok (.aload_n 0, 1) := by decide +kernel
theorem d_Fen_takers_17 : decode prog_2_method_17_code 17 = .ok (.getfield 31, 3) := by decide +kernel
theorem d_Fen_takers_20 : decode prog_2_method_17_code 20 = .ok (.iload_n 1, 1) := by decide +kernel
theorem d_Fen_takers_21 : decode prog_2_method_17_code 21 = .ok (.iaload, 1) := by decide +kernel
theorem d_Fen_takers_22 : decode prog_2_method_17_code 22 = .ok (.iaload, 1) := by decide +kernel
theorem d_Fen_takers_23 : decode prog_2_method_17_code 23 = .ok (.aload_n 0, 1) := by decide +kernel
theorem d_Fen_takers_24 : decode prog_2_method_17_code 24 = .ok (.iload_n 1, 1) := by decide +kernel
theorem d_Fen_takers_25 : decode prog_2_method_17_code 25 = .ok (.invokevirtual 106, 3) := by decide +kernel
theorem d_Fen_takers_28 : decode prog_2_method_17_code 28 = .ok (.iand, 1) := by decide +kernel
theorem d_Fen_takers_29 : decode prog_2_method_17_code 29 = .ok (.ireturn, 1) := by decide +kernel
theorem d_Giv_mostOf_0 : decode prog_5_method_2_code 0 = .ok (.aload_n 0, 1) := by decide +kernel
theorem d_Giv_mostOf_1 : decode prog_5_method_2_code 1 = .ok (.aload_n 1, 1) := by decide +kernel
theorem d_Giv_mostOf_2 : decode prog_5_method_2_code 2 = .ok (.iload_n 2, 1) := by decide +kernel
theorem d_Giv_mostOf_3 : decode prog_5_method_2_code 3 = .ok (.iconst 0, 1) := by decide +kernel
theorem d_Giv_mostOf_4 : decode prog_5_method_2_code 4 = .ok (.invokevirtual 16, 3) := by decide +kernel
theorem d_Giv_mostOf_7 : decode prog_5_method_2_code 7 = .ok (.aload_n 0, 1) := by decide +kernel
theorem d_Giv_mostOf_8 : decode prog_5_method_2_code 8 = .ok (.getfield 13, 3) := by decide +kernel
theorem d_Giv_mostOf_11 : decode prog_5_method_2_code 11 = .ok (.iconst 0, 1) := by decide +kernel
theorem d_Giv_mostOf_12 : decode prog_5_method_2_code 12 = .ok (.aaload, 1) := by decide +kernel
theorem d_Giv_mostOf_13 : decode prog_5_method_2_code 13 = .ok (.iconst 0, 1) := by decide +kernel
theorem d_Giv_mostOf_14 : decode prog_5_method_2_code 14 = .ok (.iaload, 1) := by decide +kernel
theorem d_Giv_mostOf_15 : decode prog_5_method_2_code 15 = .ok (.ireturn, 1) := by decide +kernel
theorem d_Giv_fill_0 : decode prog_5_method_6_code 0 = .ok (.iconst 1, 1) := by decide +kernel
theorem d_Giv_fill_1 : decode prog_5_method_6_code 1 = .ok (.aload_n 1, 1) := by decide +kernel
theorem d_Giv_fill_2 : decode prog_5_method_6_code 2 = .ok (.getfield 30, 3) := by decide +kernel
theorem d_Giv_fill_5 : decode prog_5_method_6_code 5 = .ok (.ishl, 1) := by decide +kernel
theorem d_Giv_fill_6 : decode prog_5_method_6_code 6 = .ok (.istore 4, 2) := by decide +kernel
theorem d_Giv_fill_8 : decode prog_5_method_6_code 8 = .ok (.aload_n 0, 1) := by decide +kernel
theorem d_Giv_fill_9 : decode prog_5_method_6_code 9 = .ok (.getfield 13, 3) := by decide +kernel
theorem d_Giv_fill_12 : decode prog_5_method_6_code 12 = .ok (.aload_n 1, 1) := by decide +kernel
theorem d_Giv_fill_13 : decode prog_5_method_6_code 13 = .ok (.getfield 34, 3) := by decide +kernel
theorem d_Giv_fill_16 : decode prog_5_method_6_code 16 = .ok (.aaload, 1) := by decide +kernel
theorem d_Giv_fill_17 : decode prog_5_method_6_code 17 = .ok (.iload_n 3, 1) := by decide +kernel
theorem d_Giv_fill_18 : decode prog_5_method_6_code 18 = .ok (.ifCond .eq 7, 3) := by decide +kernel
theorem d_Giv_fill_21 : decode prog_5_method_6_code 21 = .ok (.iconst 1, 1) := by decide +kernel
theorem d_Giv_fill_22 : decode prog_5_method_6_code 22 = .ok (.goto 4, 3) := by decide +kernel
theorem d_Giv_fill_25 : decode prog_5_method_6_code 25 = .ok (.iconst 0, 1) := by decide +kernel
theorem d_Giv_fill_26 : decode prog_5_method_6_code 26 = .ok (.invokestatic 37, 3) := by decide +kernel
theorem d_Giv_fill_29 : decode prog_5_method_6_code 29 = .ok (.aload_n 1, 1) := by decide +kernel
theorem d_Giv_fill_30 : decode prog_5_method_6_code 30 = .ok (.getfield 34, 3) := by decide +kernel
theorem d_Giv_fill_33 : decode prog_5_method_6_code 33 = .ok (.iconst 1, 1) := by decide +kernel
theorem d_Giv_fill_34 : decode prog_5_method_6_code 34 = .ok (.isub, 1) := by decide +kernel
theorem d_Giv_fill_35 : decode prog_5_method_6_code 35 = .ok (.istore 5, 2) := by decide +kernel
theorem d_Giv_fill_37 : decode prog_5_method_6_code 37 = .ok (.iload 5, 2) := by decide +kernel
theorem d_Giv_fill_39 : decode prog_5_method_6_code 39 = .ok (.ifCond .lt 157, 3) := by decide +kernel
theorem d_Giv_fill_42 : decode prog_5_method_6_code 42 = .ok (.iload_n 2, 1) := by decide +kernel
theorem d_Giv_fill_43 : decode prog_5_method_6_code 43 = .ok (.iload 5, 2) := by decide +kernel
theorem d_Giv_fill_45 : decode prog_5_method_6_code 45 = .ok (.ishr, 1) := by decide +kernel
theorem d_Giv_fill_46 : decode prog_5_method_6_code 46 = .ok (.iconst 1, 1) := by decide +kernel
theorem d_Giv_fill_47 : decode prog_5_method_6_code 47 = .ok (.iand, 1) := by decide +kernel
theorem d_Giv_fill_48 : decode prog_5_method_6_code 48 = .ok (.ifCond .eq 7, 3) := by decide +kernel
theorem d_Giv_fill_51 : decode prog_5_method_6_code 51 = .ok (.iconst 1, 1) := by decide +kernel
theorem d_Giv_fill_52 : decode prog_5_method_6_code 52 = .ok (.goto 4, 3) := by decide +kernel
theorem d_Giv_fill_55 : decode prog_5_method_6_code 55 = .ok (.iconst 0, 1) := by decide +kernel
theorem d_Giv_fill_56 : decode prog_5_method_6_code 56 = .ok (.istore 6, 2) := by decide +kernel
theorem d_Giv_fill_58 : decode prog_5_method_6_code 58 = .ok (.iload 6, 2) := by decide +kernel
theorem d_Giv_fill_60 : decode prog_5_method_6_code 60 = .ok (.ifCond .eq 12, 3) := by decide +kernel
theorem d_Giv_fill_63 : decode prog_5_method_6_code 63 = .ok (.aload_n 1, 1) := by decide +kernel
theorem d_Giv_fill_64 : decode prog_5_method_6_code 64 = .ok (.iload 5, 2) := by decide +kernel
theorem d_Giv_fill_66 : decode prog_5_method_6_code 66 = .ok (.invokevirtual 24, 3) := by decide +kernel
theorem d_Giv_fill_69 : decode prog_5_method_6_code 69 = .ok (.goto 4, 3) := by decide +kernel
theorem d_Giv_fill_72 : decode prog_5_method_6_code 72 = .ok (.iconst 0, 1) := by decide +kernel
theorem d_Giv_fill_73 : decode prog_5_method_6_code 73 = .ok (.istore 7, 2) := by decide +kernel
theorem d_Giv_fill_75 : decode prog_5_method_6_code 75 = .ok (.iconst 0, 1) := by decide +kernel
theorem d_Giv_fill_76 : decode prog_5_method_6_code 76 = .ok (.istore 8, 2) := by decide +kernel
theorem d_Giv_fill_78 : decode prog_5_method_6_code 78 = .ok (.iload 8, 2) := by decide +kernel
theorem d_Giv_fill_80 : decode prog_5_method_6_code 80 = .ok (.iload 4, 2) := by decide +kernel
theorem d_Giv_fill_82 : decode prog_5_method_6_code 82 = .ok (.if_icmp .ge 108, 3) := by decide +kernel
theorem d_Giv_fill_85 : decode prog_5_method_6_code 85 = .ok (.iload 6, 2) := by decide +kernel
theorem d_Giv_fill_87 : decode prog_5_method_6_code 87 = .ok (.ifCond .ne 28, 3) := by decide +kernel
theorem d_Giv_fill_90 : decode prog_5_method_6_code 90 = .ok (.aload_n 0, 1) := by decide +kernel
theorem d_Giv_fill_91 : decode prog_5_method_6_code 91 = .ok (.getfield 13, 3) := by decide +kernel
theorem d_Giv_fill_94 : decode prog_5_method_6_code 94 = .ok (.iload 5, 2) := by decide +kernel
theorem d_Giv_fill_96 : decode prog_5_method_6_code 96 = .ok (.aaload, 1) := by decide +kernel
theorem d_Giv_fill_97 : decode prog_5_method_6_code 97 = .ok (.iload 8, 2) := by decide +kernel
theorem d_Giv_fill_99 : decode prog_5_method_6_code 99 = .ok (.aload_n 0, 1) := by decide +kernel
theorem d_Giv_fill_100 : decode prog_5_method_6_code 100 = .ok (.getfield 13, 3) := by decide +kernel
theorem d_Giv_fill_103 : decode prog_5_method_6_code 103 = .ok (.iload 5, 2) := by decide +kernel
theorem d_Giv_fill_105 : decode prog_5_method_6_code 105 = .ok (.iconst 1, 1) := by decide +kernel
theorem d_Giv_fill_106 : decode prog_5_method_6_code 106 = .ok (.iadd, 1) := by decide +kernel
theorem d_Giv_fill_107 : decode prog_5_method_6_code 107 = .ok (.aaload, 1) := by decide +kernel
theorem d_Giv_fill_108 : decode prog_5_method_6_code 108 = .ok (.iload 8, 2) := by decide +kernel
theorem d_Giv_fill_110 : decode prog_5_method_6_code 110 = .ok (.iaload, 1) := by decide +kernel
theorem d_Giv_fill_111 : decode prog_5_method_6_code 111 = .ok (.iastore, 1) := by decide +kernel
theorem d_Giv_fill_112 : decode prog_5_method_6_code 112 = .ok (.goto 72, 3) := by decide +kernel
theorem d_Giv_fill_115 : decode prog_5_method_6_code 115 = .ok (.iload_n 3, 1) := by decide +kernel
theorem d_Giv_fill_116 : decode prog_5_method_6_code 116 = .ok (.ifCond .eq 37, 3) := by decide +kernel
theorem d_Giv_fill_119 : decode prog_5_method_6_code 119 = .ok (.aload_n 0, 1) := by decide +kernel
theorem d_Giv_fill_120 : decode prog_5_method_6_code 120 = .ok (.getfield 13, 3) := by decide +kernel
theorem d_Giv_fill_123 : decode prog_5_method_6_code 123 = .ok (.iload 5, 2) := by decide +kernel
theorem d_Giv_fill_125 : decode prog_5_method_6_code 125 = .ok (.aaload, 1) := by decide +kernel
theorem d_Giv_fill_126 : decode prog_5_method_6_code 126 = .ok (.iload 8, 2) := by decide +kernel
theorem d_Giv_fill_128 : decode prog_5_method_6_code 128 = .ok (.aload_n 0, 1) := by decide +kernel
theorem d_Giv_fill_129 : decode prog_5_method_6_code 129 = .ok (.getfield 13, 3) := by decide +kernel
theorem d_Giv_fill_132 : decode prog_5_method_6_code 132 = .ok (.iload 5, 2) := by decide +kernel
theorem d_Giv_fill_134 : decode prog_5_method_6_code 134 = .ok (.iconst 1, 1) := by decide +kernel
theorem d_Giv_fill_135 : decode prog_5_method_6_code 135 = .ok (.iadd, 1) := by decide +kernel
theorem d_Giv_fill_136 : decode prog_5_method_6_code 136 = .ok (.aaload, 1) := by decide +kernel
theorem d_Giv_fill_137 : decode prog_5_method_6_code 137 = .ok (.iload 8, 2) := by decide +kernel
theorem d_Giv_fill_139 : decode prog_5_method_6_code 139 = .ok (.iload 7, 2) := by decide +kernel
theorem d_Giv_fill_141 : decode prog_5_method_6_code 141 = .ok (.iload 8, 2) := by decide +kernel
theorem d_Giv_fill_143 : decode prog_5_method_6_code 143 = .ok (.iconst (-1), 1) := by decide +kernel
theorem d_Giv_fill_144 : decode prog_5_method_6_code 144 = .ok (.ixor, 1) := by decide +kernel
theorem d_Giv_fill_145 : decode prog_5_method_6_code 145 = .ok (.iand, 1) := by decide +kernel
theorem d_Giv_fill_146 : decode prog_5_method_6_code 146 = .ok (.invokestatic 42, 3) := by decide +kernel
theorem d_Giv_fill_149 : decode prog_5_method_6_code 149 = .ok (.iastore, 1) := by decide +kernel
theorem d_Giv_fill_150 : decode prog_5_method_6_code 150 = .ok (.goto 34, 3) := by decide +kernel
theorem d_Giv_fill_153 : decode prog_5_method_6_code 153 = .ok (.aload_n 0, 1) := by decide +kernel
theorem d_Giv_fill_154 : decode prog_5_method_6_code 154 = .ok (.getfield 13, 3) := by decide +kernel
theorem d_Giv_fill_157 : decode prog_5_method_6_code 157 = .ok (.iload 5, 2) := by decide +kernel
theorem d_Giv_fill_159 : decode prog_5_method_6_code 159 = .ok (.aaload, 1) := by decide +kernel
theorem d_Giv_fill_160 : decode prog_5_method_6_code 160 = .ok (.iload 8, 2) := by decide +kernel
theorem d_Giv_fill_162 : decode prog_5_method_6_code 162 = .ok (.aload_n 0, 1) := by decide +kernel
theorem d_Giv_fill_163 : decode prog_5_method_6_code 163 = .ok (.getfield 13, 3) := by decide +kernel
theorem d_Giv_fill_166 : decode prog_5_method_6_code 166 = .ok (.iload 5, 2) := by decide +kernel
theorem d_Giv_fill_168 : decode prog_5_method_6_code 168 = .ok (.iconst 1, 1) := by decide +kernel
theorem d_Giv_fill_169 : decode prog_5_method_6_code 169 = .ok (.iadd, 1) := by decide +kernel
theorem d_Giv_fill_170 : decode prog_5_method_6_code 170 = .ok (.aaload, 1) := by decide +kernel
theorem d_Giv_fill_171 : decode prog_5_method_6_code 171 = .ok (.iload 8, 2) := by decide +kernel
theorem d_Giv_fill_173 : decode prog_5_method_6_code 173 = .ok (.iload 7, 2) := by decide +kernel
theorem d_Giv_fill_175 : decode prog_5_method_6_code 175 = .ok (.iload 8, 2) := by decide +kernel
theorem d_Giv_fill_177 : decode prog_5_method_6_code 177 = .ok (.iconst (-1), 1) := by decide +kernel
theorem d_Giv_fill_178 : decode prog_5_method_6_code 178 = .ok (.ixor, 1) := by decide +kernel
theorem d_Giv_fill_179 : decode prog_5_method_6_code 179 = .ok (.iand, 1) := by decide +kernel
theorem d_Giv_fill_180 : decode prog_5_method_6_code 180 = .ok (.invokestatic 46, 3) := by decide +kernel
theorem d_Giv_fill_183 : decode prog_5_method_6_code 183 = .ok (.iastore, 1) := by decide +kernel
theorem d_Giv_fill_184 : decode prog_5_method_6_code 184 = .ok (.iinc 8 1, 3) := by decide +kernel
theorem d_Giv_fill_187 : decode prog_5_method_6_code 187 = .ok (.goto (-109), 3) := by decide +kernel
theorem d_Giv_fill_190 : decode prog_5_method_6_code 190 = .ok (.iinc 5 (-1), 3) := by decide +kernel
theorem d_Giv_fill_193 : decode prog_5_method_6_code 193 = .ok (.goto (-156), 3) := by decide +kernel
theorem d_Giv_fill_196 : decode prog_5_method_6_code 196 = .ok (.return_, 1) := by decide +kernel
theorem d_Giv_sumOver_0 : decode prog_5_method_7_code 0 = .ok (.iconst 0, 1) := by decide +kernel
theorem d_Giv_sumOver_1 : decode prog_5_method_7_code 1 = .ok (.istore_n 3, 1) := by decide +kernel
theorem d_Giv_sumOver_2 : decode prog_5_method_7_code 2 = .ok (.iconst 0, 1) := by decide +kernel
theorem d_Giv_sumOver_3 : decode prog_5_method_7_code 3 = .ok (.istore 4, 2) := by decide +kernel
theorem d_Giv_sumOver_5 : decode prog_5_method_7_code 5 = .ok (.iload 4, 2) := by decide +kernel
theorem d_Giv_sumOver_7 : decode prog_5_method_7_code 7 = .ok (.bipush 7, 2) := by decide +kernel
theorem d_Giv_sumOver_9 : decode prog_5_method_7_code 9 = .ok (.if_icmp .ge 29, 3) := by decide +kernel
theorem d_Giv_sumOver_12 : decode prog_5_method_7_code 12 = .ok (.iload_n 2, 1) := by decide +kernel
theorem d_Giv_sumOver_13 : decode prog_5_method_7_code 13 = .ok (.iload 4, 2) := by decide +kernel
theorem d_Giv_sumOver_15 : decode prog_5_method_7_code 15 = .ok (.ishr, 1) := by decide +kernel
theorem d_Giv_sumOver_16 : decode prog_5_method_7_code 16 = .ok (.iconst 1, 1) := by decide +kernel
theorem d_Giv_sumOver_17 : decode prog_5_method_7_code 17 = .ok (.iand, 1) := by decide +kernel
theorem d_Giv_sumOver_18 : decode prog_5_method_7_code 18 = .ok (.ifCond .eq 14, 3) := by decide +kernel
theorem d_Giv_sumOver_21 : decode prog_5_method_7_code 21 = .ok (.iload_n 3, 1) := by decide +kernel
theorem d_Giv_sumOver_22 : decode prog_5_method_7_code 22 = .ok (.aload_n 0, 1) := by decide +kernel
theorem d_Giv_sumOver_23 : decode prog_5_method_7_code 23 = .ok (.iload_n 1, 1) := by decide +kernel
theorem d_Giv_sumOver_24 : decode prog_5_method_7_code 24 = .ok (.iconst 1, 1) := by decide +kernel
theorem d_Giv_sumOver_25 : decode prog_5_method_7_code 25 = .ok (.iload 4, 2) := by decide +kernel
theorem d_Giv_sumOver_27 : decode prog_5_method_7_code 27 = .ok (.ishl, 1) := by decide +kernel
theorem d_Giv_sumOver_28 : decode prog_5_method_7_code 28 = .ok (.ior, 1) := by decide +kernel
theorem d_Giv_sumOver_29 : decode prog_5_method_7_code 29 = .ok (.iaload, 1) := by decide +kernel
theorem d_Giv_sumOver_30 : decode prog_5_method_7_code 30 = .ok (.iadd, 1) := by decide +kernel
theorem d_Giv_sumOver_31 : decode prog_5_method_7_code 31 = .ok (.istore_n 3, 1) := by decide +kernel
theorem d_Giv_sumOver_32 : decode prog_5_method_7_code 32 = .ok (.iinc 4 1, 3) := by decide +kernel
theorem d_Giv_sumOver_35 : decode prog_5_method_7_code 35 = .ok (.goto (-30), 3) := by decide +kernel
theorem d_Giv_sumOver_38 : decode prog_5_method_7_code 38 = .ok (.iload_n 3, 1) := by decide +kernel
theorem d_Giv_sumOver_39 : decode prog_5_method_7_code 39 = .ok (.ireturn, 1) := by decide +kernel
theorem d_Giv_bestOver_0 : decode prog_5_method_8_code 0 = .ok (.aload_n 0, 1) := by decide +kernel
theorem d_Giv_bestOver_1 : decode prog_5_method_8_code 1 = .ok (.iload_n 1, 1) := by decide +kernel
theorem d_Giv_bestOver_2 : decode prog_5_method_8_code 2 = .ok (.iaload, 1) := by decide +kernel
theorem d_Giv_bestOver_3 : decode prog_5_method_8_code 3 = .ok (.istore_n 3, 1) := by decide +kernel
theorem d_Giv_bestOver_4 : decode prog_5_method_8_code 4 = .ok (.iconst 0, 1) := by decide +kernel
theorem d_Giv_bestOver_5 : decode prog_5_method_8_code 5 = .ok (.istore 4, 2) := by decide +kernel
theorem d_Giv_bestOver_7 : decode prog_5_method_8_code 7 = .ok (.iload 4, 2) := by decide +kernel
theorem d_Giv_bestOver_9 : decode prog_5_method_8_code 9 = .ok (.bipush 7, 2) := by decide +kernel
theorem d_Giv_bestOver_11 : decode prog_5_method_8_code 11 = .ok (.if_icmp .ge 33, 3) := by decide +kernel
theorem d_Giv_bestOver_14 : decode prog_5_method_8_code 14 = .ok (.iload_n 2, 1) := by decide +kernel
theorem d_Giv_bestOver_15 : decode prog_5_method_8_code 15 = .ok (.iload 4, 2) := by decide +kernel
theorem d_Giv_bestOver_17 : decode prog_5_method_8_code 17 = .ok (.ishr, 1) := by decide +kernel
theorem d_Giv_bestOver_18 : decode prog_5_method_8_code 18 = .ok (.iconst 1, 1) := by decide +kernel
theorem d_Giv_bestOver_19 : decode prog_5_method_8_code 19 = .ok (.iand, 1) := by decide +kernel
theorem d_Giv_bestOver_20 : decode prog_5_method_8_code 20 = .ok (.ifCond .eq 18, 3) := by decide +kernel
theorem d_Giv_bestOver_23 : decode prog_5_method_8_code 23 = .ok (.iload_n 3, 1) := by decide +kernel
theorem d_Giv_bestOver_24 : decode prog_5_method_8_code 24 = .ok (.iconst 1, 1) := by decide +kernel
theorem d_Giv_bestOver_25 : decode prog_5_method_8_code 25 = .ok (.aload_n 0, 1) := by decide +kernel
theorem d_Giv_bestOver_26 : decode prog_5_method_8_code 26 = .ok (.iload_n 1, 1) := by decide +kernel
theorem d_Giv_bestOver_27 : decode prog_5_method_8_code 27 = .ok (.iconst 1, 1) := by decide +kernel
theorem d_Giv_bestOver_28 : decode prog_5_method_8_code 28 = .ok (.iload 4, 2) := by decide +kernel
theorem d_Giv_bestOver_30 : decode prog_5_method_8_code 30 = .ok (.ishl, 1) := by decide +kernel
theorem d_Giv_bestOver_31 : decode prog_5_method_8_code 31 = .ok (.ior, 1) := by decide +kernel
theorem d_Giv_bestOver_32 : decode prog_5_method_8_code 32 = .ok (.iaload, 1) := by decide +kernel
theorem d_Giv_bestOver_33 : decode prog_5_method_8_code 33 = .ok (.iadd, 1) := by decide +kernel
theorem d_Giv_bestOver_34 : decode prog_5_method_8_code 34 = .ok (.invokestatic 49, 3) := by decide +kernel
theorem d_Giv_bestOver_37 : decode prog_5_method_8_code 37 = .ok (.istore_n 3, 1) := by decide +kernel
theorem d_Giv_bestOver_38 : decode prog_5_method_8_code 38 = .ok (.iinc 4 1, 3) := by decide +kernel
theorem d_Giv_bestOver_41 : decode prog_5_method_8_code 41 = .ok (.goto (-34), 3) := by decide +kernel
theorem d_Giv_bestOver_44 : decode prog_5_method_8_code 44 = .ok (.iload_n 3, 1) := by decide +kernel
theorem d_Giv_bestOver_45 : decode prog_5_method_8_code 45 = .ok (.ireturn, 1) := by decide +kernel
theorem d_Giv_waysOf_0 : decode prog_5_method_3_code 0 = .ok (.aload_n 0, 1) := by decide +kernel
theorem d_Giv_waysOf_1 : decode prog_5_method_3_code 1 = .ok (.aload_n 1, 1) := by decide +kernel
theorem d_Giv_waysOf_2 : decode prog_5_method_3_code 2 = .ok (.iload_n 2, 1) := by decide +kernel
theorem d_Giv_waysOf_3 : decode prog_5_method_3_code 3 = .ok (.iconst 1, 1) := by decide +kernel
theorem d_Giv_waysOf_4 : decode prog_5_method_3_code 4 = .ok (.invokevirtual 16, 3) := by decide +kernel
theorem d_Giv_waysOf_7 : decode prog_5_method_3_code 7 = .ok (.aload_n 0, 1) := by decide +kernel
theorem d_Giv_waysOf_8 : decode prog_5_method_3_code 8 = .ok (.getfield 13, 3) := by decide +kernel
theorem d_Giv_waysOf_11 : decode prog_5_method_3_code 11 = .ok (.iconst 0, 1) := by decide +kernel
theorem d_Giv_waysOf_12 : decode prog_5_method_3_code 12 = .ok (.aaload, 1) := by decide +kernel
theorem d_Giv_waysOf_13 : decode prog_5_method_3_code 13 = .ok (.iconst 0, 1) := by decide +kernel
theorem d_Giv_waysOf_14 : decode prog_5_method_3_code 14 = .ok (.iaload, 1) := by decide +kernel
theorem d_Giv_waysOf_15 : decode prog_5_method_3_code 15 = .ok (.ireturn, 1) := by decide +kernel
theorem d_Giv_firstGiving_0 : decode prog_5_method_4_code 0 = .ok (.aload_n 0, 1) := by decide +kernel
theorem d_Giv_firstGiving_1 : decode prog_5_method_4_code 1 = .ok (.aload_n 1, 1) := by decide +kernel
theorem d_Giv_firstGiving_2 : decode prog_5_method_4_code 2 = .ok (.iload_n 2, 1) := by decide +kernel
theorem d_Giv_firstGiving_3 : decode prog_5_method_4_code 3 = .ok (.iconst 1, 1) := by decide +kernel
theorem d_Giv_firstGiving_4 : decode prog_5_method_4_code 4 = .ok (.invokevirtual 16, 3) := by decide +kernel
theorem d_Giv_firstGiving_7 : decode prog_5_method_4_code 7 = .ok (.aload_n 0, 1) := by decide +kernel
theorem d_Giv_firstGiving_8 : decode prog_5_method_4_code 8 = .ok (.getfield 13, 3) := by decide +kernel
theorem d_Giv_firstGiving_11 : decode prog_5_method_4_code 11 = .ok (.iconst 0, 1) := by decide +kernel
theorem d_Giv_firstGiving_12 : decode prog_5_method_4_code 12 = .ok (.aaload, 1) := by decide +kernel
theorem d_Giv_firstGiving_13 : decode prog_5_method_4_code 13 = .ok (.iconst 0, 1) := by decide +kernel
theorem d_Giv_firstGiving_14 : decode prog_5_method_4_code 14 = .ok (.iaload, 1) := by decide +kernel
theorem d_Giv_firstGiving_15 : decode prog_5_method_4_code 15 = .ok (.ifCond .ne 5, 3) := by decide +kernel
theorem d_Giv_firstGiving_18 : decode prog_5_method_4_code 18 = .ok (.iconst (-1), 1) := by decide +kernel
theorem d_Giv_firstGiving_19 : decode prog_5_method_4_code 19 = .ok (.ireturn, 1) := by decide +kernel
theorem d_Giv_firstGiving_20 : decode prog_5_method_4_code 20 = .ok (.iconst 0, 1) := by decide +kernel
theorem d_Giv_firstGiving_21 : decode prog_5_method_4_code 21 = .ok (.istore 4, 2) := by decide +kernel
theorem d_Giv_firstGiving_23 : decode prog_5_method_4_code 23 = .ok (.iconst (-1), 1) := by decide +kernel
theorem d_Giv_firstGiving_24 : decode prog_5_method_4_code 24 = .ok (.istore 5, 2) := by decide +kernel
theorem d_Giv_firstGiving_26 : decode prog_5_method_4_code 26 = .ok (.iconst 0, 1) := by decide +kernel
theorem d_Giv_firstGiving_27 : decode prog_5_method_4_code 27 = .ok (.istore 6, 2) := by decide +kernel
theorem d_Giv_firstGiving_29 : decode prog_5_method_4_code 29 = .ok (.iload 6, 2) := by decide +kernel
theorem d_Giv_firstGiving_31 : decode prog_5_method_4_code 31 = .ok (.iload_n 3, 1) := by decide +kernel
theorem d_Giv_firstGiving_32 : decode prog_5_method_4_code 32 = .ok (.if_icmp .gt 47, 3) := by decide +kernel
theorem d_Giv_firstGiving_35 : decode prog_5_method_4_code 35 = .ok (.iload_n 2, 1) := by decide +kernel
theorem d_Giv_firstGiving_36 : decode prog_5_method_4_code 36 = .ok (.iload 6, 2) := by decide +kernel
theorem d_Giv_firstGiving_38 : decode prog_5_method_4_code 38 = .ok (.ishr, 1) := by decide +kernel
theorem d_Giv_firstGiving_39 : decode prog_5_method_4_code 39 = .ok (.iconst 1, 1) := by decide +kernel
theorem d_Giv_firstGiving_40 : decode prog_5_method_4_code 40 = .ok (.iand, 1) := by decide +kernel
theorem d_Giv_firstGiving_41 : decode prog_5_method_4_code 41 = .ok (.ifCond .eq 32, 3) := by decide +kernel
theorem d_Giv_firstGiving_44 : decode prog_5_method_4_code 44 = .ok (.aload_n 0, 1) := by decide +kernel
theorem d_Giv_firstGiving_45 : decode prog_5_method_4_code 45 = .ok (.aload_n 1, 1) := by decide +kernel
theorem d_Giv_firstGiving_46 : decode prog_5_method_4_code 46 = .ok (.iload 6, 2) := by decide +kernel
theorem d_Giv_firstGiving_48 : decode prog_5_method_4_code 48 = .ok (.iload 4, 2) := by decide +kernel
theorem d_Giv_firstGiving_50 : decode prog_5_method_4_code 50 = .ok (.invokevirtual 20, 3) := by decide +kernel
theorem d_Giv_firstGiving_53 : decode prog_5_method_4_code 53 = .ok (.istore 5, 2) := by decide +kernel
theorem d_Giv_firstGiving_55 : decode prog_5_method_4_code 55 = .ok (.iload 4, 2) := by decide +kernel
theorem d_Giv_firstGiving_57 : decode prog_5_method_4_code 57 = .ok (.iload 5, 2) := by decide +kernel
theorem d_Giv_firstGiving_59 : decode prog_5_method_4_code 59 = .ok (.ifCond .ge 7, 3) := by decide +kernel
theorem d_Giv_firstGiving_62 : decode prog_5_method_4_code 62 = .ok (.iconst 0, 1) := by decide +kernel
theorem d_Giv_firstGiving_63 : decode prog_5_method_4_code 63 = .ok (.goto 7, 3) := by decide +kernel
theorem d_Giv_firstGiving_66 : decode prog_5_method_4_code 66 = .ok (.iconst 1, 1) := by decide +kernel
theorem d_Giv_firstGiving_67 : decode prog_5_method_4_code 67 = .ok (.iload 5, 2) := by decide +kernel
theorem d_Giv_firstGiving_69 : decode prog_5_method_4_code 69 = .ok (.ishl, 1) := by decide +kernel
theorem d_Giv_firstGiving_70 : decode prog_5_method_4_code 70 = .ok (.ior, 1) := by decide +kernel
theorem d_Giv_firstGiving_71 : decode prog_5_method_4_code 71 = .ok (.istore 4, 2) := by decide +kernel
theorem d_Giv_firstGiving_73 : decode prog_5_method_4_code 73 = .ok (.iinc 6 1, 3) := by decide +kernel
theorem d_Giv_firstGiving_76 : decode prog_5_method_4_code 76 = .ok (.goto (-47), 3) := by decide +kernel
theorem d_Giv_firstGiving_79 : decode prog_5_method_4_code 79 = .ok (.iload 5, 2) := by decide +kernel
theorem d_Giv_firstGiving_81 : decode prog_5_method_4_code 81 = .ok (.ireturn, 1) := by decide +kernel
theorem d_Giv_firstServed_0 : decode prog_5_method_5_code 0 = .ok (.aload_n 1, 1) := by decide +kernel
theorem d_Giv_firstServed_1 : decode prog_5_method_5_code 1 = .ok (.iload_n 2, 1) := by decide +kernel
theorem d_Giv_firstServed_2 : decode prog_5_method_5_code 2 = .ok (.invokevirtual 24, 3) := by decide +kernel
theorem d_Giv_firstServed_5 : decode prog_5_method_5_code 5 = .ok (.iload_n 3, 1) := by decide +kernel
theorem d_Giv_firstServed_6 : decode prog_5_method_5_code 6 = .ok (.iconst (-1), 1) := by decide +kernel
theorem d_Giv_firstServed_7 : decode prog_5_method_5_code 7 = .ok (.ixor, 1) := by decide +kernel
theorem d_Giv_firstServed_8 : decode prog_5_method_5_code 8 = .ok (.iand, 1) := by decide +kernel
theorem d_Giv_firstServed_9 : decode prog_5_method_5_code 9 = .ok (.istore 4, 2) := by decide +kernel
theorem d_Giv_firstServed_11 : decode prog_5_method_5_code 11 = .ok (.iconst 0, 1) := by decide +kernel
theorem d_Giv_firstServed_12 : decode prog_5_method_5_code 12 = .ok (.istore 5, 2) := by decide +kernel
theorem d_Giv_firstServed_14 : decode prog_5_method_5_code 14 = .ok (.iload 5, 2) := by decide +kernel
theorem d_Giv_firstServed_16 : decode prog_5_method_5_code 16 = .ok (.aload_n 1, 1) := by decide +kernel
theorem d_Giv_firstServed_17 : decode prog_5_method_5_code 17 = .ok (.getfield 30, 3) := by decide +kernel
theorem d_Giv_firstServed_20 : decode prog_5_method_5_code 20 = .ok (.if_icmp .ge 40, 3) := by decide +kernel
theorem d_Giv_firstServed_23 : decode prog_5_method_5_code 23 = .ok (.iload 4, 2) := by decide +kernel
theorem d_Giv_firstServed_25 : decode prog_5_method_5_code 25 = .ok (.iload 5, 2) := by decide +kernel
theorem d_Giv_firstServed_27 : decode prog_5_method_5_code 27 = .ok (.ishr, 1) := by decide +kernel
theorem d_Giv_firstServed_28 : decode prog_5_method_5_code 28 = .ok (.iconst 1, 1) := by decide +kernel
theorem d_Giv_firstServed_29 : decode prog_5_method_5_code 29 = .ok (.iand, 1) := by decide +kernel
theorem d_Giv_firstServed_30 : decode prog_5_method_5_code 30 = .ok (.ifCond .eq 24, 3) := by decide +kernel
theorem d_Giv_firstServed_33 : decode prog_5_method_5_code 33 = .ok (.aload_n 0, 1) := by decide +kernel
theorem d_Giv_firstServed_34 : decode prog_5_method_5_code 34 = .ok (.getfield 13, 3) := by decide +kernel
theorem d_Giv_firstServed_37 : decode prog_5_method_5_code 37 = .ok (.iload_n 2, 1) := by decide +kernel
theorem d_Giv_firstServed_38 : decode prog_5_method_5_code 38 = .ok (.iconst 1, 1) := by decide +kernel
theorem d_Giv_firstServed_39 : decode prog_5_method_5_code 39 = .ok (.iadd, 1) := by decide +kernel
theorem d_Giv_firstServed_40 : decode prog_5_method_5_code 40 = .ok (.aaload, 1) := by decide +kernel
theorem d_Giv_firstServed_41 : decode prog_5_method_5_code 41 = .ok (.iload_n 3, 1) := by decide +kernel
theorem d_Giv_firstServed_42 : decode prog_5_method_5_code 42 = .ok (.iconst 1, 1) := by decide +kernel
theorem d_Giv_firstServed_43 : decode prog_5_method_5_code 43 = .ok (.iload 5, 2) := by decide +kernel
theorem d_Giv_firstServed_45 : decode prog_5_method_5_code 45 = .ok (.ishl, 1) := by decide +kernel
theorem d_Giv_firstServed_46 : decode prog_5_method_5_code 46 = .ok (.ior, 1) := by decide +kernel
theorem d_Giv_firstServed_47 : decode prog_5_method_5_code 47 = .ok (.iaload, 1) := by decide +kernel
theorem d_Giv_firstServed_48 : decode prog_5_method_5_code 48 = .ok (.ifCond .le 6, 3) := by decide +kernel
theorem d_Giv_firstServed_51 : decode prog_5_method_5_code 51 = .ok (.iload 5, 2) := by decide +kernel
theorem d_Giv_firstServed_53 : decode prog_5_method_5_code 53 = .ok (.ireturn, 1) := by decide +kernel
theorem d_Giv_firstServed_54 : decode prog_5_method_5_code 54 = .ok (.iinc 5 1, 3) := by decide +kernel
theorem d_Giv_firstServed_57 : decode prog_5_method_5_code 57 = .ok (.goto (-43), 3) := by decide +kernel
theorem d_Giv_firstServed_60 : decode prog_5_method_5_code 60 = .ok (.iconst (-1), 1) := by decide +kernel
theorem d_Giv_firstServed_61 : decode prog_5_method_5_code 61 = .ok (.ireturn, 1) := by decide +kernel
theorem d_Giv_leastCover_0 : decode prog_5_method_9_code 0 = .ok (.iconst (-1), 1) := by decide +kernel
theorem d_Giv_leastCover_1 : decode prog_5_method_9_code 1 = .ok (.istore_n 1, 1) := by decide +kernel
theorem d_Giv_leastCover_2 : decode prog_5_method_9_code 2 = .ok (.iconst 0, 1) := by decide +kernel
theorem d_Giv_leastCover_3 : decode prog_5_method_9_code 3 = .ok (.istore_n 2, 1) := by decide +kernel
theorem d_Giv_leastCover_4 : decode prog_5_method_9_code 4 = .ok (.iload_n 2, 1) := by decide +kernel
theorem d_Giv_leastCover_5 : decode prog_5_method_9_code 5 = .ok (.iconst 1, 1) := by decide +kernel
theorem d_Giv_leastCover_6 : decode prog_5_method_9_code 6 = .ok (.aload_n 0, 1) := by decide +kernel
theorem d_Giv_leastCover_7 : decode prog_5_method_9_code 7 = .ok (.getfield 55, 3) := by decide +kernel
theorem d_Giv_leastCover_10 : decode prog_5_method_9_code 10 = .ok (.ishl, 1) := by decide +kernel
theorem d_Giv_leastCover_11 : decode prog_5_method_9_code 11 = .ok (.if_icmp .ge 52, 3) := by decide +kernel
theorem d_Giv_leastCover_14 : decode prog_5_method_9_code 14 = .ok (.iload_n 1, 1) := by decide +kernel
theorem d_Giv_leastCover_15 : decode prog_5_method_9_code 15 = .ok (.ifCond .lt 14, 3) := by decide +kernel
theorem d_Giv_leastCover_18 : decode prog_5_method_9_code 18 = .ok (.iload_n 2, 1) := by decide +kernel
theorem d_Giv_leastCover_19 : decode prog_5_method_9_code 19 = .ok (.invokestatic 58, 3) := by decide +kernel
theorem d_Giv_leastCover_22 : decode prog_5_method_9_code 22 = .ok (.iload_n 1, 1) := by decide +kernel
theorem d_Giv_leastCover_23 : decode prog_5_method_9_code 23 = .ok (.invokestatic 58, 3) := by decide +kernel
theorem d_Giv_leastCover_26 : decode prog_5_method_9_code 26 = .ok (.if_icmp .ge 7, 3) := by decide +kernel
theorem d_Giv_leastCover_29 : decode prog_5_method_9_code 29 = .ok (.iconst 1, 1) := by decide +kernel
theorem d_Giv_leastCover_30 : decode prog_5_method_9_code 30 = .ok (.goto 4, 3) := by decide +kernel
theorem d_Giv_leastCover_33 : decode prog_5_method_9_code 33 = .ok (.iconst 0, 1) := by decide +kernel
theorem d_Giv_leastCover_34 : decode prog_5_method_9_code 34 = .ok (.istore_n 3, 1) := by decide +kernel
theorem d_Giv_leastCover_35 : decode prog_5_method_9_code 35 = .ok (.iload_n 3, 1) := by decide +kernel
theorem d_Giv_leastCover_36 : decode prog_5_method_9_code 36 = .ok (.ifCond .eq 21, 3) := by decide +kernel
theorem d_Giv_leastCover_39 : decode prog_5_method_9_code 39 = .ok (.iload_n 2, 1) := by decide +kernel
theorem d_Giv_leastCover_40 : decode prog_5_method_9_code 40 = .ok (.aload_n 0, 1) := by decide +kernel
theorem d_Giv_leastCover_41 : decode prog_5_method_9_code 41 = .ok (.getfield 63, 3) := by decide +kernel
theorem d_Giv_leastCover_44 : decode prog_5_method_9_code 44 = .ok (.aload_n 0, 1) := by decide +kernel
theorem d_Giv_leastCover_45 : decode prog_5_method_9_code 45 = .ok (.getfield 30, 3) := by decide +kernel
theorem d_Giv_leastCover_48 : decode prog_5_method_9_code 48 = .ok (.iconst (-1), 1) := by decide +kernel
theorem d_Giv_leastCover_49 : decode prog_5_method_9_code 49 = .ok (.invokestatic 67, 3) := by decide +kernel
theorem d_Giv_leastCover_52 : decode prog_5_method_9_code 52 = .ok (.ifCond .eq 5, 3) := by decide +kernel
theorem d_Giv_leastCover_55 : decode prog_5_method_9_code 55 = .ok (.iload_n 2, 1) := by decide +kernel
theorem d_Giv_leastCover_56 : decode prog_5_method_9_code 56 = .ok (.istore_n 1, 1) := by decide +kernel
theorem d_Giv_leastCover_57 : decode prog_5_method_9_code 57 = .ok (.iinc 2 1, 3) := by decide +kernel
theorem d_Giv_leastCover_60 : decode prog_5_method_9_code 60 = .ok (.goto (-56), 3) := by decide +kernel
theorem d_Giv_leastCover_63 : decode prog_5_method_9_code 63 = .ok (.iload_n 1, 1) := by decide +kernel
theorem d_Giv_leastCover_64 : decode prog_5_method_9_code 64 = .ok (.ireturn, 1) := by decide +kernel
theorem d_Giv_meetsEach_0 : decode prog_5_method_11_code 0 = .ok (.iconst 0, 1) := by decide +kernel
theorem d_Giv_meetsEach_1 : decode prog_5_method_11_code 1 = .ok (.istore 4, 2) := by decide +kernel
theorem d_Giv_meetsEach_3 : decode prog_5_method_11_code 3 = .ok (.iload 4, 2) := by decide +kernel
theorem d_Giv_meetsEach_5 : decode prog_5_method_11_code 5 = .ok (.iload_n 2, 1) := by decide +kernel
theorem d_Giv_meetsEach_6 : decode prog_5_method_11_code 6 = .ok (.if_icmp .ge 29, 3) := by decide +kernel
theorem d_Giv_meetsEach_9 : decode prog_5_method_11_code 9 = .ok (.iload_n 3, 1) := by decide +kernel
theorem d_Giv_meetsEach_10 : decode prog_5_method_11_code 10 = .ok (.iload 4, 2) := by decide +kernel
theorem d_Giv_meetsEach_12 : decode prog_5_method_11_code 12 = .ok (.ishr, 1) := by decide +kernel
theorem d_Giv_meetsEach_13 : decode prog_5_method_11_code 13 = .ok (.iconst 1, 1) := by decide +kernel
theorem d_Giv_meetsEach_14 : decode prog_5_method_11_code 14 = .ok (.iand, 1) := by decide +kernel
theorem d_Giv_meetsEach_15 : decode prog_5_method_11_code 15 = .ok (.ifCond .eq 14, 3) := by decide +kernel
theorem d_Giv_meetsEach_18 : decode prog_5_method_11_code 18 = .ok (.aload_n 1, 1) := by decide +kernel
theorem d_Giv_meetsEach_19 : decode prog_5_method_11_code 19 = .ok (.iload 4, 2) := by decide +kernel
theorem d_Giv_meetsEach_21 : decode prog_5_method_11_code 21 = .ok (.iaload, 1) := by decide +kernel
theorem d_Giv_meetsEach_22 : decode prog_5_method_11_code 22 = .ok (.iload_n 0, 1) := by decide +kernel
theorem d_Giv_meetsEach_23 : decode prog_5_method_11_code 23 = .ok (.iand, 1) := by decide +kernel
theorem d_Giv_meetsEach_24 : decode prog_5_method_11_code 24 = .ok (.ifCond .ne 5, 3) := by decide +kernel
theorem d_Giv_meetsEach_27 : decode prog_5_method_11_code 27 = .ok (.iconst 0, 1) := by decide +kernel
theorem d_Giv_meetsEach_28 : decode prog_5_method_11_code 28 = .ok (.ireturn, 1) := by decide +kernel
theorem d_Giv_meetsEach_29 : decode prog_5_method_11_code 29 = .ok (.iinc 4 1, 3) := by decide +kernel
theorem d_Giv_meetsEach_32 : decode prog_5_method_11_code 32 = .ok (.goto (-29), 3) := by decide +kernel
theorem d_Giv_meetsEach_35 : decode prog_5_method_11_code 35 = .ok (.iconst 1, 1) := by decide +kernel
theorem d_Giv_meetsEach_36 : decode prog_5_method_11_code 36 = .ok (.ireturn, 1) := by decide +kernel
theorem d_Giv_leastBlamed_0 : decode prog_5_method_10_code 0 = .ok (.iconst 1, 1) := by decide +kernel
theorem d_Giv_leastBlamed_1 : decode prog_5_method_10_code 1 = .ok (.aload_n 0, 1) := by decide +kernel
theorem d_Giv_leastBlamed_2 : decode prog_5_method_10_code 2 = .ok (.getfield 30, 3) := by decide +kernel
theorem d_Giv_leastBlamed_5 : decode prog_5_method_10_code 5 = .ok (.ishl, 1) := by decide +kernel
theorem d_Giv_leastBlamed_6 : decode prog_5_method_10_code 6 = .ok (.iconst 1, 1) := by decide +kernel
theorem d_Giv_leastBlamed_7 : decode prog_5_method_10_code 7 = .ok (.isub, 1) := by decide +kernel
theorem d_Giv_leastBlamed_8 : decode prog_5_method_10_code 8 = .ok (.istore_n 1, 1) := by decide +kernel
theorem d_Giv_leastBlamed_9 : decode prog_5_method_10_code 9 = .ok (.iconst 0, 1) := by decide +kernel
theorem d_Giv_leastBlamed_10 : decode prog_5_method_10_code 10 = .ok (.istore_n 2, 1) := by decide +kernel
theorem d_Giv_leastBlamed_11 : decode prog_5_method_10_code 11 = .ok (.iload_n 2, 1) := by decide +kernel
theorem d_Giv_leastBlamed_12 : decode prog_5_method_10_code 12 = .ok (.iconst 1, 1) := by decide +kernel
theorem d_Giv_leastBlamed_13 : decode prog_5_method_10_code 13 = .ok (.aload_n 0, 1) := by decide +kernel
theorem d_Giv_leastBlamed_14 : decode prog_5_method_10_code 14 = .ok (.getfield 30, 3) := by decide +kernel
theorem d_Giv_leastBlamed_17 : decode prog_5_method_10_code 17 = .ok (.ishl, 1) := by decide +kernel
theorem d_Giv_leastBlamed_18 : decode prog_5_method_10_code 18 = .ok (.if_icmp .ge 51, 3) := by decide +kernel
theorem d_Giv_leastBlamed_21 : decode prog_5_method_10_code 21 = .ok (.iload_n 2, 1) := by decide +kernel
theorem d_Giv_leastBlamed_22 : decode prog_5_method_10_code 22 = .ok (.invokestatic 58, 3) := by decide +kernel
theorem d_Giv_leastBlamed_25 : decode prog_5_method_10_code 25 = .ok (.iload_n 1, 1) := by decide +kernel
theorem d_Giv_leastBlamed_26 : decode prog_5_method_10_code 26 = .ok (.invokestatic 58, 3) := by decide +kernel
theorem d_Giv_leastBlamed_29 : decode prog_5_method_10_code 29 = .ok (.if_icmp .ge 7, 3) := by decide +kernel
theorem d_Giv_leastBlamed_32 : decode prog_5_method_10_code 32 = .ok (.iconst 1, 1) := by decide +kernel
theorem d_Giv_leastBlamed_33 : decode prog_5_method_10_code 33 = .ok (.goto 4, 3) := by decide +kernel
theorem d_Giv_leastBlamed_36 : decode prog_5_method_10_code 36 = .ok (.iconst 0, 1) := by decide +kernel
theorem d_Giv_leastBlamed_37 : decode prog_5_method_10_code 37 = .ok (.istore_n 3, 1) := by decide +kernel
theorem d_Giv_leastBlamed_38 : decode prog_5_method_10_code 38 = .ok (.iload_n 3, 1) := by decide +kernel
theorem d_Giv_leastBlamed_39 : decode prog_5_method_10_code 39 = .ok (.ifCond .eq 24, 3) := by decide +kernel
theorem d_Giv_leastBlamed_42 : decode prog_5_method_10_code 42 = .ok (.iload_n 2, 1) := by decide +kernel
theorem d_Giv_leastBlamed_43 : decode prog_5_method_10_code 43 = .ok (.aload_n 0, 1) := by decide +kernel
theorem d_Giv_leastBlamed_44 : decode prog_5_method_10_code 44 = .ok (.getfield 71, 3) := by decide +kernel
theorem d_Giv_leastBlamed_47 : decode prog_5_method_10_code 47 = .ok (.aload_n 0, 1) := by decide +kernel
theorem d_Giv_leastBlamed_48 : decode prog_5_method_10_code 48 = .ok (.getfield 34, 3) := by decide +kernel
theorem d_Giv_leastBlamed_51 : decode prog_5_method_10_code 51 = .ok (.aload_n 0, 1) := by decide +kernel
theorem d_Giv_leastBlamed_52 : decode prog_5_method_10_code 52 = .ok (.getfield 74, 3) := by decide +kernel
theorem d_Giv_leastBlamed_55 : decode prog_5_method_10_code 55 = .ok (.invokestatic 67, 3) := by decide +kernel
theorem d_Giv_leastBlamed_58 : decode prog_5_method_10_code 58 = .ok (.ifCond .eq 5, 3) := by decide +kernel
theorem d_Giv_leastBlamed_61 : decode prog_5_method_10_code 61 = .ok (.iload_n 2, 1) := by decide +kernel
theorem d_Giv_leastBlamed_62 : decode prog_5_method_10_code 62 = .ok (.istore_n 1, 1) := by decide +kernel
theorem d_Giv_leastBlamed_63 : decode prog_5_method_10_code 63 = .ok (.iinc 2 1, 3) := by decide +kernel
theorem d_Giv_leastBlamed_66 : decode prog_5_method_10_code 66 = .ok (.goto (-55), 3) := by decide +kernel
theorem d_Giv_leastBlamed_69 : decode prog_5_method_10_code 69 = .ok (.iload_n 1, 1) := by decide +kernel
theorem d_Giv_leastBlamed_70 : decode prog_5_method_10_code 70 = .ok (.ireturn, 1) := by decide +kernel
theorem d_Game_settle_0 : decode prog_4_method_2_code 0 = .ok (.aload_n 0, 1) := by decide +kernel
theorem d_Game_settle_1 : decode prog_4_method_2_code 1 = .ok (.aload_n 1, 1) := by decide +kernel
theorem d_Game_settle_2 : decode prog_4_method_2_code 2 = .ok (.getfield 21, 3) := by decide +kernel
theorem d_Game_settle_5 : decode prog_4_method_2_code 5 = .ok (.putfield 27, 3) := by decide +kernel
theorem d_Game_settle_8 : decode prog_4_method_2_code 8 = .ok (.iconst 0, 1) := by decide +kernel
theorem d_Game_settle_9 : decode prog_4_method_2_code 9 = .ok (.istore 5, 2) := by decide +kernel
theorem d_Game_settle_11 : decode prog_4_method_2_code 11 = .ok (.iload 5, 2) := by decide +kernel
theorem d_Game_settle_13 : decode prog_4_method_2_code 13 = .ok (.aload_n 0, 1) := by decide +kernel
theorem d_Game_settle_14 : decode prog_4_method_2_code 14 = .ok (.getfield 27, 3) := by decide +kernel
theorem d_Game_settle_17 : decode prog_4_method_2_code 17 = .ok (.if_icmp .ge 55, 3) := by decide +kernel
theorem d_Game_settle_20 : decode prog_4_method_2_code 20 = .ok (.aload_n 0, 1) := by decide +kernel
theorem d_Game_settle_21 : decode prog_4_method_2_code 21 = .ok (.getfield 9, 3) := by decide +kernel
theorem d_Game_settle_24 : decode prog_4_method_2_code 24 = .ok (.iload 5, 2) := by decide +kernel
theorem d_Game_settle_26 : decode prog_4_method_2_code 26 = .ok (.aload_n 1, 1) := by decide +kernel
theorem d_Game_settle_27 : decode prog_4_method_2_code 27 = .ok (.getfield 28, 3) := by decide +kernel
theorem d_Game_settle_30 : decode prog_4_method_2_code 30 = .ok (.iload 5, 2) := by decide +kernel
theorem d_Game_settle_32 : decode prog_4_method_2_code 32 = .ok (.iaload, 1) := by decide +kernel
theorem d_Game_settle_33 : decode prog_4_method_2_code 33 = .ok (.iastore, 1) := by decide +kernel
theorem d_Game_settle_34 : decode prog_4_method_2_code 34 = .ok (.aload_n 0, 1) := by decide +kernel
theorem d_Game_settle_35 : decode prog_4_method_2_code 35 = .ok (.getfield 15, 3) := by decide +kernel
theorem d_Game_settle_38 : decode prog_4_method_2_code 38 = .ok (.iload 5, 2) := by decide +kernel
theorem d_Game_settle_40 : decode prog_4_method_2_code 40 = .ok (.aload_n 1, 1) := by decide +kernel
theorem d_Game_settle_41 : decode prog_4_method_2_code 41 = .ok (.iload 5, 2) := by decide +kernel
theorem d_Game_settle_43 : decode prog_4_method_2_code 43 = .ok (.invokevirtual 31, 3) := by decide +kernel
theorem d_Game_settle_46 : decode prog_4_method_2_code 46 = .ok (.iastore, 1) := by decide +kernel
theorem d_Game_settle_47 : decode prog_4_method_2_code 47 = .ok (.aload_n 0, 1) := by decide +kernel
theorem d_Game_settle_48 : decode prog_4_method_2_code 48 = .ok (.getfield 18, 3) := by decide +kernel
theorem d_Game_settle_51 : decode prog_4_method_2_code 51 = .ok (.iload 5, 2) := by decide +kernel
theorem d_Game_settle_53 : decode prog_4_method_2_code 53 = .ok (.aload_n 1, 1) := by decide +kernel
theorem d_Game_settle_54 : decode prog_4_method_2_code 54 = .ok (.getfield 35, 3) := by decide +kernel
theorem d_Game_settle_57 : decode prog_4_method_2_code 57 = .ok (.aload_n 1, 1) := by decide +kernel
theorem d_Game_settle_58 : decode prog_4_method_2_code 58 = .ok (.getfield 38, 3) := by decide +kernel
theorem d_Game_settle_61 : decode prog_4_method_2_code 61 = .ok (.iload 5, 2) := by decide +kernel
theorem d_Game_settle_63 : decode prog_4_method_2_code 63 = .ok (.iaload, 1) := by decide +kernel
theorem d_Game_settle_64 : decode prog_4_method_2_code 64 = .ok (.iaload, 1) := by decide +kernel
theorem d_Game_settle_65 : decode prog_4_method_2_code 65 = .ok (.iastore, 1) := by decide +kernel
theorem d_Game_settle_66 : decode prog_4_method_2_code 66 = .ok (.iinc 5 1, 3) := by decide +kernel
theorem d_Game_settle_69 : decode prog_4_method_2_code 69 = .ok (.goto (-58), 3) := by decide +kernel
theorem d_Game_settle_72 : decode prog_4_method_2_code 72 = .ok (.aload_n 0, 1) := by decide +kernel
theorem d_Game_settle_73 : decode prog_4_method_2_code 73 = .ok (.iconst (-1), 1) := by decide +kernel
theorem d_Game_settle_74 : decode prog_4_method_2_code 74 = .ok (.putfield 41, 3) := by decide +kernel
theorem d_Game_settle_77 : decode prog_4_method_2_code 77 = .ok (.aload_n 0, 1) := by decide +kernel
theorem d_Game_settle_78 : decode prog_4_method_2_code 78 = .ok (.iconst (-1), 1) := by decide +kernel
theorem d_Game_settle_79 : decode prog_4_method_2_code 79 = .ok (.putfield 44, 3) := by decide +kernel
theorem d_Game_settle_82 : decode prog_4_method_2_code 82 = .ok (.iload 4, 2) := by decide +kernel
theorem d_Game_settle_84 : decode prog_4_method_2_code 84 = .ok (.iconst 1, 1) := by decide +kernel
theorem d_Game_settle_85 : decode prog_4_method_2_code 85 = .ok (.if_icmp .ge 5, 3) := by decide +kernel
theorem d_Game_settle_88 : decode prog_4_method_2_code 88 = .ok (.iconst 0, 1) := by decide +kernel
theorem d_Game_settle_89 : decode prog_4_method_2_code 89 = .ok (.ireturn, 1) := by decide +kernel
theorem d_Game_settle_90 : decode prog_4_method_2_code 90 = .ok (.iconst 0, 1) := by decide +kernel
theorem d_Game_settle_91 : decode prog_4_method_2_code 91 = .ok (.istore 5, 2) := by decide +kernel
theorem d_Game_settle_93 : decode prog_4_method_2_code 93 = .ok (.iconst 0, 1) := by decide +kernel
theorem d_Game_settle_94 : decode prog_4_method_2_code 94 = .ok (.istore 6, 2) := by decide +kernel
theorem d_Game_settle_96 : decode prog_4_method_2_code 96 = .ok (.iload 6, 2) := by decide +kernel
theorem d_Game_settle_98 : decode prog_4_method_2_code 98 = .ok (.aload_n 0, 1) := by decide +kernel
theorem d_Game_settle_99 : decode prog_4_method_2_code 99 = .ok (.getfield 27, 3) := by decide +kernel
theorem d_Game_settle_102 : decode prog_4_method_2_code 102 = .ok (.if_icmp .ge 112, 3) := by decide +kernel
theorem d_Game_settle_105 : decode prog_4_method_2_code 105 = .ok (.aload_n 0, 1) := by decide +kernel
theorem d_Game_settle_106 : decode prog_4_method_2_code 106 = .ok (.getfield 9, 3) := by decide +kernel
theorem d_Game_settle_109 : decode prog_4_method_2_code 109 = .ok (.iload 6, 2) := by decide +kernel
theorem d_Game_settle_111 : decode prog_4_method_2_code 111 = .ok (.iaload, 1) := by decide +kernel
theorem d_Game_settle_112 : decode prog_4_method_2_code 112 = .ok (.iload_n 2, 1) := by decide +kernel
theorem d_Game_settle_113 : decode prog_4_method_2_code 113 = .ok (.if_icmp .ne 20, 3) := by decide +kernel
theorem d_Game_settle_116 : decode prog_4_method_2_code 116 = .ok (.aload_n 1, 1) := by decide +kernel
theorem d_Game_settle_117 : decode prog_4_method_2_code 117 = .ok (.getfield 47, 3) := by decide +kernel
theorem d_Game_settle_120 : decode prog_4_method_2_code 120 = .ok (.iload_n 2, 1) := by decide +kernel
theorem d_Game_settle_121 : decode prog_4_method_2_code 121 = .ok (.iaload, 1) := by decide +kernel
theorem d_Game_settle_122 : decode prog_4_method_2_code 122 = .ok (.aload_n 0, 1) := by decide +kernel
theorem d_Game_settle_123 : decode prog_4_method_2_code 123 = .ok (.getfield 15, 3) := by decide +kernel
theorem d_Game_settle_126 : decode prog_4_method_2_code 126 = .ok (.iload 6, 2) := by decide +kernel
theorem d_Game_settle_128 : decode prog_4_method_2_code 128 = .ok (.iaload, 1) := by decide +kernel
theorem d_Game_settle_129 : decode prog_4_method_2_code 129 = .ok (.iand, 1) := by decide +kernel
theorem d_Game_settle_130 : decode prog_4_method_2_code 130 = .ok (.goto 4, 3) := by decide +kernel
theorem d_Game_settle_133 : decode prog_4_method_2_code 133 = .ok (.iconst 0, 1) := by decide +kernel
theorem d_Game_settle_134 : decode prog_4_method_2_code 134 = .ok (.istore 7, 2) := by decide +kernel
theorem d_Game_settle_136 : decode prog_4_method_2_code 136 = .ok (.iconst 0, 1) := by decide +kernel
theorem d_Game_settle_137 : decode prog_4_method_2_code 137 = .ok (.istore 8, 2) := by decide +kernel
theorem d_Game_settle_139 : decode prog_4_method_2_code 139 = .ok (.iload 8, 2) := by decide +kernel
theorem d_Game_settle_141 : decode prog_4_method_2_code 141 = .ok (.aload_n 1, 1) := by decide +kernel
theorem d_Game_settle_142 : decode prog_4_method_2_code 142 = .ok (.getfield 50, 3) := by decide +kernel
theorem d_Game_settle_145 : decode prog_4_method_2_code 145 = .ok (.if_icmp .ge 63, 3) := by decide +kernel
theorem d_Game_settle_148 : decode prog_4_method_2_code 148 = .ok (.iload 7, 2) := by decide +kernel
theorem d_Game_settle_150 : decode prog_4_method_2_code 150 = .ok (.iload 8, 2) := by decide +kernel
theorem d_Game_settle_152 : decode prog_4_method_2_code 152 = .ok (.ishr, 1) := by decide +kernel
theorem d_Game_settle_153 : decode prog_4_method_2_code 153 = .ok (.iconst 1, 1) := by decide +kernel
theorem d_Game_settle_154 : decode prog_4_method_2_code 154 = .ok (.iand, 1) := by decide +kernel
theorem d_Game_settle_155 : decode prog_4_method_2_code 155 = .ok (.ifCond .eq 47, 3) := by decide +kernel
theorem d_Game_settle_158 : decode prog_4_method_2_code 158 = .ok (.aload_n 0, 1) := by decide +kernel
theorem d_Game_settle_159 : decode prog_4_method_2_code 159 = .ok (.aload_n 1, 1) := by decide +kernel
theorem d_Game_settle_160 : decode prog_4_method_2_code 160 = .ok (.iload 6, 2) := by decide +kernel
theorem d_Game_settle_162 : decode prog_4_method_2_code 162 = .ok (.iload 8, 2) := by decide +kernel
theorem d_Game_settle_164 : decode prog_4_method_2_code 164 = .ok (.iload_n 3, 1) := by decide +kernel
theorem d_Game_settle_165 : decode prog_4_method_2_code 165 = .ok (.iload 4, 2) := by decide +kernel
theorem d_Game_settle_167 : decode prog_4_method_2_code 167 = .ok (.invokevirtual 53, 3) := by decide +kernel
theorem d_Game_settle_170 : decode prog_4_method_2_code 170 = .ok (.istore 9, 2) := by decide +kernel
theorem d_Game_settle_172 : decode prog_4_method_2_code 172 = .ok (.aload_n 0, 1) := by decide +kernel
theorem d_Game_settle_173 : decode prog_4_method_2_code 173 = .ok (.getfield 41, 3) := by decide +kernel
theorem d_Game_settle_176 : decode prog_4_method_2_code 176 = .ok (.ifCond .lt 10, 3) := by decide +kernel
theorem d_Game_settle_179 : decode prog_4_method_2_code 179 = .ok (.iload 9, 2) := by decide +kernel
theorem d_Game_settle_181 : decode prog_4_method_2_code 181 = .ok (.iload 5, 2) := by decide +kernel
theorem d_Game_settle_183 : decode prog_4_method_2_code 183 = .ok (.if_icmp .le 19, 3) := by decide +kernel
theorem d_Game_settle_186 : decode prog_4_method_2_code 186 = .ok (.iload 9, 2) := by decide +kernel
theorem d_Game_settle_188 : decode prog_4_method_2_code 188 = .ok (.istore 5, 2) := by decide +kernel
theorem d_Game_settle_190 : decode prog_4_method_2_code 190 = .ok (.aload_n 0, 1) := by decide +kernel
theorem d_Game_settle_191 : decode prog_4_method_2_code 191 = .ok (.iload 6, 2) := by decide +kernel
theorem d_Game_settle_193 : decode prog_4_method_2_code 193 = .ok (.putfield 41, 3) := by decide +kernel
theorem d_Game_settle_196 : decode prog_4_method_2_code 196 = .ok (.aload_n 0, 1) := by decide +kernel
theorem d_Game_settle_197 : decode prog_4_method_2_code 197 = .ok (.iload 8, 2) := by decide +kernel
theorem d_Game_settle_199 : decode prog_4_method_2_code 199 = .ok (.putfield 44, 3) := by decide +kernel
theorem d_Game_settle_202 : decode prog_4_method_2_code 202 = .ok (.iinc 8 1, 3) := by decide +kernel
theorem d_Game_settle_205 : decode prog_4_method_2_code 205 = .ok (.goto (-66), 3) := by decide +kernel
theorem d_Game_settle_208 : decode prog_4_method_2_code 208 = .ok (.iinc 6 1, 3) := by decide +kernel
theorem d_Game_settle_211 : decode prog_4_method_2_code 211 = .ok (.goto (-115), 3) := by decide +kernel
theorem d_Game_settle_214 : decode prog_4_method_2_code 214 = .ok (.aload_n 0, 1) := by decide +kernel
theorem d_Game_settle_215 : decode prog_4_method_2_code 215 = .ok (.aload_n 1, 1) := by decide +kernel
theorem d_Game_settle_216 : decode prog_4_method_2_code 216 = .ok (.iload_n 3, 1) := by decide +kernel
theorem d_Game_settle_217 : decode prog_4_method_2_code 217 = .ok (.iload_n 2, 1) := by decide +kernel
theorem d_Game_settle_218 : decode prog_4_method_2_code 218 = .ok (.iload 4, 2) := by decide +kernel
theorem d_Game_settle_220 : decode prog_4_method_2_code 220 = .ok (.iconst 1, 1) := by decide +kernel
theorem d_Game_settle_221 : decode prog_4_method_2_code 221 = .ok (.isub, 1) := by decide +kernel
theorem d_Game_settle_222 : decode prog_4_method_2_code 222 = .ok (.invokevirtual 57, 3) := by decide +kernel
theorem d_Game_settle_225 : decode prog_4_method_2_code 225 = .ok (.ineg, 1) := by decide +kernel
theorem d_Game_settle_226 : decode prog_4_method_2_code 226 = .ok (.istore 6, 2) := by decide +kernel
theorem d_Game_settle_228 : decode prog_4_method_2_code 228 = .ok (.aload_n 0, 1) := by decide +kernel
theorem d_Game_settle_229 : decode prog_4_method_2_code 229 = .ok (.getfield 41, 3) := by decide +kernel
theorem d_Game_settle_232 : decode prog_4_method_2_code 232 = .ok (.ifCond .lt 10, 3) := by decide +kernel
theorem d_Game_settle_235 : decode prog_4_method_2_code 235 = .ok (.iload 6, 2) := by decide +kernel
theorem d_Game_settle_237 : decode prog_4_method_2_code 237 = .ok (.iload 5, 2) := by decide +kernel
theorem d_Game_settle_239 : decode prog_4_method_2_code 239 = .ok (.if_icmp .le 17, 3) := by decide +kernel
theorem d_Game_settle_242 : decode prog_4_method_2_code 242 = .ok (.iload 6, 2) := by decide +kernel
theorem d_Game_settle_244 : decode prog_4_method_2_code 244 = .ok (.istore 5, 2) := by decide +kernel
theorem d_Game_settle_246 : decode prog_4_method_2_code 246 = .ok (.aload_n 0, 1) := by decide +kernel
theorem d_Game_settle_247 : decode prog_4_method_2_code 247 = .ok (.iconst (-1), 1) := by decide +kernel
theorem d_Game_settle_248 : decode prog_4_method_2_code 248 = .ok (.putfield 41, 3) := by decide +kernel
theorem d_Game_settle_251 : decode prog_4_method_2_code 251 = .ok (.aload_n 0, 1) := by decide +kernel
theorem d_Game_settle_252 : decode prog_4_method_2_code 252 = .ok (.iconst (-1), 1) := by decide +kernel
theorem d_Game_settle_253 : decode prog_4_method_2_code 253 = .ok (.putfield 44, 3) := by decide +kernel
theorem d_Game_settle_256 : decode prog_4_method_2_code 256 = .ok (.iload 5, 2) := by decide +kernel
theorem d_Game_settle_258 : decode prog_4_method_2_code 258 = .ok (.ireturn, 1) := by decide +kernel
theorem d_Game_afterMove_0 : decode prog_4_method_3_code 0 = .ok (.aload_n 0, 1) := by decide +kernel
theorem d_Game_afterMove_1 : decode prog_4_method_3_code 1 = .ok (.getfield 9, 3) := by decide +kernel
theorem d_Game_afterMove_4 : decode prog_4_method_3_code 4 = .ok (.iload_n 2, 1) := by decide +kernel
theorem d_Game_afterMove_5 : decode prog_4_method_3_code 5 = .ok (.iaload, 1) := by decide +kernel
theorem d_Game_afterMove_6 : decode prog_4_method_3_code 6 = .ok (.istore 6, 2) := by decide +kernel
theorem d_Game_afterMove_8 : decode prog_4_method_3_code 8 = .ok (.aload_n 0, 1) := by decide +kernel
theorem d_Game_afterMove_9 : decode prog_4_method_3_code 9 = .ok (.getfield 9, 3) := by decide +kernel
theorem d_Game_afterMove_12 : decode prog_4_method_3_code 12 = .ok (.iload_n 2, 1) := by decide +kernel
theorem d_Game_afterMove_13 : decode prog_4_method_3_code 13 = .ok (.iload_n 3, 1) := by decide +kernel
theorem d_Game_afterMove_14 : decode prog_4_method_3_code 14 = .ok (.iastore, 1) := by decide +kernel
theorem d_Game_afterMove_15 : decode prog_4_method_3_code 15 = .ok (.aload_n 0, 1) := by decide +kernel
theorem d_Game_afterMove_16 : decode prog_4_method_3_code 16 = .ok (.getfield 18, 3) := by decide +kernel
theorem d_Game_afterMove_19 : decode prog_4_method_3_code 19 = .ok (.iload_n 2, 1) := by decide +kernel
theorem d_Game_afterMove_20 : decode prog_4_method_3_code 20 = .ok (.iaload, 1) := by decide +kernel
theorem d_Game_afterMove_21 : decode prog_4_method_3_code 21 = .ok (.aload_n 0, 1) := by decide +kernel
theorem d_Game_afterMove_22 : decode prog_4_method_3_code 22 = .ok (.aload_n 1, 1) := by decide +kernel
theorem d_Game_afterMove_23 : decode prog_4_method_3_code 23 = .ok (.iload 4, 2) := by decide +kernel
theorem d_Game_afterMove_25 : decode prog_4_method_3_code 25 = .ok (.iload 6, 2) := by decide +kernel
theorem d_Game_afterMove_27 : decode prog_4_method_3_code 27 = .ok (.iload 5, 2) := by decide +kernel
theorem d_Game_afterMove_29 : decode prog_4_method_3_code 29 = .ok (.iconst 1, 1) := by decide +kernel
theorem d_Game_afterMove_30 : decode prog_4_method_3_code 30 = .ok (.isub, 1) := by decide +kernel
theorem d_Game_afterMove_31 : decode prog_4_method_3_code 31 = .ok (.invokevirtual 57, 3) := by decide +kernel
theorem d_Game_afterMove_34 : decode prog_4_method_3_code 34 = .ok (.isub, 1) := by decide +kernel
theorem d_Game_afterMove_35 : decode prog_4_method_3_code 35 = .ok (.istore 7, 2) := by decide +kernel
theorem d_Game_afterMove_37 : decode prog_4_method_3_code 37 = .ok (.aload_n 0, 1) := by decide +kernel
theorem d_Game_afterMove_38 : decode prog_4_method_3_code 38 = .ok (.getfield 9, 3) := by decide +kernel
theorem d_Game_afterMove_41 : decode prog_4_method_3_code 41 = .ok (.iload_n 2, 1) := by decide +kernel
theorem d_Game_afterMove_42 : decode prog_4_method_3_code 42 = .ok (.iload 6, 2) := by decide +kernel
theorem d_Game_afterMove_44 : decode prog_4_method_3_code 44 = .ok (.iastore, 1) := by decide +kernel
theorem d_Game_afterMove_45 : decode prog_4_method_3_code 45 = .ok (.iload 7, 2) := by decide +kernel
theorem d_Game_afterMove_47 : decode prog_4_method_3_code 47 = .ok (.ireturn, 1) := by decide +kernel
theorem d_Game_bestFor_0 : decode prog_4_method_4_code 0 = .ok (.iload 4, 2) := by decide +kernel
theorem d_Game_bestFor_2 : decode prog_4_method_4_code 2 = .ok (.iconst 1, 1) := by decide +kernel
theorem d_Game_bestFor_3 : decode prog_4_method_4_code 3 = .ok (.if_icmp .ge 5, 3) := by decide +kernel
theorem d_Game_bestFor_6 : decode prog_4_method_4_code 6 = .ok (.iconst 0, 1) := by decide +kernel
theorem d_Game_bestFor_7 : decode prog_4_method_4_code 7 = .ok (.ireturn, 1) := by decide +kernel
theorem d_Game_bestFor_8 : decode prog_4_method_4_code 8 = .ok (.aload_n 0, 1) := by decide +kernel
theorem d_Game_bestFor_9 : decode prog_4_method_4_code 9 = .ok (.aload_n 1, 1) := by decide +kernel
theorem d_Game_bestFor_10 : decode prog_4_method_4_code 10 = .ok (.iload_n 3, 1) := by decide +kernel
theorem d_Game_bestFor_11 : decode prog_4_method_4_code 11 = .ok (.iload_n 2, 1) := by decide +kernel
theorem d_Game_bestFor_12 : decode prog_4_method_4_code 12 = .ok (.iload 4, 2) := by decide +kernel
theorem d_Game_bestFor_14 : decode prog_4_method_4_code 14 = .ok (.iconst 1, 1) := by decide +kernel
theorem d_Game_bestFor_15 : decode prog_4_method_4_code 15 = .ok (.isub, 1) := by decide +kernel
theorem d_Game_bestFor_16 : decode prog_4_method_4_code 16 = .ok (.invokevirtual 57, 3) := by decide +kernel
theorem d_Game_bestFor_19 : decode prog_4_method_4_code 19 = .ok (.ineg, 1) := by decide +kernel
theorem d_Game_bestFor_20 : decode prog_4_method_4_code 20 = .ok (.istore 5, 2) := by decide +kernel
theorem d_Game_bestFor_22 : decode prog_4_method_4_code 22 = .ok (.iconst 0, 1) := by decide +kernel
theorem d_Game_bestFor_23 : decode prog_4_method_4_code 23 = .ok (.istore 6, 2) := by decide +kernel
theorem d_Game_bestFor_25 : decode prog_4_method_4_code 25 = .ok (.iload 6, 2) := by decide +kernel
theorem d_Game_bestFor_27 : decode prog_4_method_4_code 27 = .ok (.aload_n 0, 1) := by decide +kernel
theorem d_Game_bestFor_28 : decode prog_4_method_4_code 28 = .ok (.getfield 27, 3) := by decide +kernel
theorem d_Game_bestFor_31 : decode prog_4_method_4_code 31 = .ok (.if_icmp .ge 120, 3) := by decide +kernel
theorem d_Game_bestFor_34 : decode prog_4_method_4_code 34 = .ok (.aload_n 0, 1) := by decide +kernel
theorem d_Game_bestFor_35 : decode prog_4_method_4_code 35 = .ok (.getfield 9, 3) := by decide +kernel
theorem d_Game_bestFor_38 : decode prog_4_method_4_code 38 = .ok (.iload 6, 2) := by decide +kernel
theorem d_Game_bestFor_40 : decode prog_4_method_4_code 40 = .ok (.iaload, 1) := by decide +kernel
theorem d_Game_bestFor_41 : decode prog_4_method_4_code 41 = .ok (.iload_n 2, 1) := by decide +kernel
theorem d_Game_bestFor_42 : decode prog_4_method_4_code 42 = .ok (.if_icmp .ne 20, 3) := by decide +kernel
theorem d_Game_bestFor_45 : decode prog_4_method_4_code 45 = .ok (.aload_n 1, 1) := by decide +kernel
theorem d_Game_bestFor_46 : decode prog_4_method_4_code 46 = .ok (.getfield 47, 3) := by decide +kernel
theorem d_Game_bestFor_49 : decode prog_4_method_4_code 49 = .ok (.iload_n 2, 1) := by decide +kernel
theorem d_Game_bestFor_50 : decode prog_4_method_4_code 50 = .ok (.iaload, 1) := by decide +kernel
theorem d_Game_bestFor_51 : decode prog_4_method_4_code 51 = .ok (.aload_n 0, 1) := by decide +kernel
theorem d_Game_bestFor_52 : decode prog_4_method_4_code 52 = .ok (.getfield 15, 3) := by decide +kernel
theorem d_Game_bestFor_55 : decode prog_4_method_4_code 55 = .ok (.iload 6, 2) := by decide +kernel
theorem d_Game_bestFor_57 : decode prog_4_method_4_code 57 = .ok (.iaload, 1) := by decide +kernel
theorem d_Game_bestFor_58 : decode prog_4_method_4_code 58 = .ok (.iand, 1) := by decide +kernel
theorem d_Game_bestFor_59 : decode prog_4_method_4_code 59 = .ok (.goto 4, 3) := by decide +kernel
theorem d_Game_bestFor_62 : decode prog_4_method_4_code 62 = .ok (.iconst 0, 1) := by decide +kernel
theorem d_Game_bestFor_63 : decode prog_4_method_4_code 63 = .ok (.istore 7, 2) := by decide +kernel
theorem d_Game_bestFor_65 : decode prog_4_method_4_code 65 = .ok (.iload 4, 2) := by decide +kernel
theorem d_Game_bestFor_67 : decode prog_4_method_4_code 67 = .ok (.iconst 1, 1) := by decide +kernel
theorem d_Game_bestFor_68 : decode prog_4_method_4_code 68 = .ok (.if_icmp .ne 25, 3) := by decide +kernel
theorem d_Game_bestFor_71 : decode prog_4_method_4_code 71 = .ok (.iload 7, 2) := by decide +kernel
theorem d_Game_bestFor_73 : decode prog_4_method_4_code 73 = .ok (.ifCond .eq 20, 3) := by decide +kernel
theorem d_Game_bestFor_76 : decode prog_4_method_4_code 76 = .ok (.iload 5, 2) := by decide +kernel
theorem d_Game_bestFor_78 : decode prog_4_method_4_code 78 = .ok (.aload_n 0, 1) := by decide +kernel
theorem d_Game_bestFor_79 : decode prog_4_method_4_code 79 = .ok (.getfield 18, 3) := by decide +kernel
theorem d_Game_bestFor_82 : decode prog_4_method_4_code 82 = .ok (.iload 6, 2) := by decide +kernel
theorem d_Game_bestFor_84 : decode prog_4_method_4_code 84 = .ok (.iaload, 1) := by decide +kernel
theorem d_Game_bestFor_85 : decode prog_4_method_4_code 85 = .ok (.invokestatic 61, 3) := by decide +kernel
theorem d_Game_bestFor_88 : decode prog_4_method_4_code 88 = .ok (.istore 5, 2) := by decide +kernel
theorem d_Game_bestFor_90 : decode prog_4_method_4_code 90 = .ok (.iconst 0, 1) := by decide +kernel
theorem d_Game_bestFor_91 : decode prog_4_method_4_code 91 = .ok (.istore 7, 2) := by decide +kernel
theorem d_Game_bestFor_93 : decode prog_4_method_4_code 93 = .ok (.iconst 0, 1) := by decide +kernel
theorem d_Game_bestFor_94 : decode prog_4_method_4_code 94 = .ok (.istore 8, 2) := by decide +kernel
theorem d_Game_bestFor_96 : decode prog_4_method_4_code 96 = .ok (.iload 7, 2) := by decide +kernel
theorem d_Game_bestFor_98 : decode prog_4_method_4_code 98 = .ok (.ifCond .eq 47, 3) := by decide +kernel
theorem d_Game_bestFor_101 : decode prog_4_method_4_code 101 = .ok (.iload 8, 2) := by decide +kernel
theorem d_Game_bestFor_103 : decode prog_4_method_4_code 103 = .ok (.aload_n 1, 1) := by decide +kernel
theorem d_Game_bestFor_104 : decode prog_4_method_4_code 104 = .ok (.getfield 50, 3) := by decide +kernel
theorem d_Game_bestFor_107 : decode prog_4_method_4_code 107 = .ok (.if_icmp .ge 38, 3) := by decide +kernel
theorem d_Game_bestFor_110 : decode prog_4_method_4_code 110 = .ok (.iload 7, 2) := by decide +kernel
theorem d_Game_bestFor_112 : decode prog_4_method_4_code 112 = .ok (.iload 8, 2) := by decide +kernel
theorem d_Game_bestFor_114 : decode prog_4_method_4_code 114 = .ok (.ishr, 1) := by decide +kernel
theorem d_Game_bestFor_115 : decode prog_4_method_4_code 115 = .ok (.iconst 1, 1) := by decide +kernel
theorem d_Game_bestFor_116 : decode prog_4_method_4_code 116 = .ok (.iand, 1) := by decide +kernel
theorem d_Game_bestFor_117 : decode prog_4_method_4_code 117 = .ok (.ifCond .eq 22, 3) := by decide +kernel
theorem d_Game_bestFor_120 : decode prog_4_method_4_code 120 = .ok (.iload 5, 2) := by decide +kernel
theorem d_Game_bestFor_122 : decode prog_4_method_4_code 122 = .ok (.aload_n 0, 1) := by decide +kernel
theorem d_Game_bestFor_123 : decode prog_4_method_4_code 123 = .ok (.aload_n 1, 1) := by decide +kernel
theorem d_Game_bestFor_124 : decode prog_4_method_4_code 124 = .ok (.iload 6, 2) := by decide +kernel
theorem d_Game_bestFor_126 : decode prog_4_method_4_code 126 = .ok (.iload 8, 2) := by decide +kernel
theorem d_Game_bestFor_128 : decode prog_4_method_4_code 128 = .ok (.iload_n 3, 1) := by decide +kernel
theorem d_Game_bestFor_129 : decode prog_4_method_4_code 129 = .ok (.iload 4, 2) := by decide +kernel
theorem d_Game_bestFor_131 : decode prog_4_method_4_code 131 = .ok (.invokevirtual 53, 3) := by decide +kernel
theorem d_Game_bestFor_134 : decode prog_4_method_4_code 134 = .ok (.invokestatic 61, 3) := by decide +kernel
theorem d_Game_bestFor_137 : decode prog_4_method_4_code 137 = .ok (.istore 5, 2) := by decide +kernel
theorem d_Game_bestFor_139 : decode prog_4_method_4_code 139 = .ok (.iinc 8 1, 3) := by decide +kernel
theorem d_Game_bestFor_142 : decode prog_4_method_4_code 142 = .ok (.goto (-46), 3) := by decide +kernel
theorem d_Game_bestFor_145 : decode prog_4_method_4_code 145 = .ok (.iinc 6 1, 3) := by decide +kernel
theorem d_Game_bestFor_148 : decode prog_4_method_4_code 148 = .ok (.goto (-123), 3) := by decide +kernel
theorem d_Game_bestFor_151 : decode prog_4_method_4_code 151 = .ok (.iload 5, 2) := by decide +kernel
theorem d_Game_bestFor_153 : decode prog_4_method_4_code 153 = .ok (.ireturn, 1) := by decide +kernel
theorem d_Fen_gotByAll_0 : decode prog_2_method_15_code 0 = .ok (.iconst 0, 1) := by decide +kernel
theorem d_Fen_gotByAll_1 : decode prog_2_method_15_code 1 = .ok (.istore_n 1, 1) := by decide +kernel
theorem d_Fen_gotByAll_2 : decode prog_2_method_15_code 2 = .ok (.iconst 0, 1) := by decide +kernel
theorem d_Fen_gotByAll_3 : decode prog_2_method_15_code 3 = .ok (.istore_n 2, 1) := by decide +kernel
theorem d_Fen_gotByAll_4 : decode prog_2_method_15_code 4 = .ok (.iload_n 2, 1) := by decide +kernel
theorem d_Fen_gotByAll_5 : decode prog_2_method_15_code 5 = .ok (.aload_n 0, 1) := by decide +kernel
theorem d_Fen_gotByAll_6 : decode prog_2_method_15_code 6 = .ok (.getfield 60, 3) := by decide +kernel
theorem d_Fen_gotByAll_9 : decode prog_2_method_15_code 9 = .ok (.if_icmp .ge 18, 3) := by decide +kernel
theorem d_Fen_gotByAll_12 : decode prog_2_method_15_code 12 = .ok (.iload_n 1, 1) := by decide +kernel
theorem d_Fen_gotByAll_13 : decode prog_2_method_15_code 13 = .ok (.aload_n 0, 1) := by decide +kernel
theorem d_Fen_gotByAll_14 : decode prog_2_method_15_code 14 = .ok (.getfield 25, 3) := by decide +kernel
theorem d_Fen_gotByAll_17 : decode prog_2_method_15_code 17 = .ok (.iload_n 2, 1) := by decide +kernel
theorem d_Fen_gotByAll_18 : decode prog_2_method_15_code 18 = .ok (.iaload, 1) := by decide +kernel
theorem d_Fen_gotByAll_19 : decode prog_2_method_15_code 19 = .ok (.iadd, 1) := by decide +kernel
theorem d_Fen_gotByAll_20 : decode prog_2_method_15_code 20 = .ok (.istore_n 1, 1) := by decide +kernel
theorem d_Fen_gotByAll_21 : decode prog_2_method_15_code 21 = .ok (.iinc 2 1, 3) := by decide +kernel
theorem d_Fen_gotByAll_24 : decode prog_2_method_15_code 24 = .ok (.goto (-20), 3) := by decide +kernel
theorem d_Fen_gotByAll_27 : decode prog_2_method_15_code 27 = .ok (.iload_n 1, 1) := by decide +kernel
theorem d_Fen_gotByAll_28 : decode prog_2_method_15_code 28 = .ok (.ireturn, 1) := by decide +kernel
theorem d_Fen_copyFrom_0 : decode prog_2_method_3_code 0 = .ok (.aload_n 0, 1) := by decide +kernel
theorem d_Fen_copyFrom_1 : decode prog_2_method_3_code 1 = .ok (.aload_n 1, 1) := by decide +kernel
theorem d_Fen_copyFrom_2 : decode prog_2_method_3_code 2 = .ok (.getfield 9, 3) := by decide +kernel
theorem d_Fen_copyFrom_5 : decode prog_2_method_3_code 5 = .ok (.putfield 9, 3) := by decide +kernel
theorem d_Fen_copyFrom_8 : decode prog_2_method_3_code 8 = .ok (.aload_n 0, 1) := by decide +kernel
theorem d_Fen_copyFrom_9 : decode prog_2_method_3_code 9 = .ok (.aload_n 1, 1) := by decide +kernel
theorem d_Fen_copyFrom_10 : decode prog_2_method_3_code 10 = .ok (.getfield 57, 3) := by decide +kernel
theorem d_Fen_copyFrom_13 : decode prog_2_method_3_code 13 = .ok (.putfield 57, 3) := by decide +kernel
theorem d_Fen_copyFrom_16 : decode prog_2_method_3_code 16 = .ok (.aload_n 0, 1) := by decide +kernel
theorem d_Fen_copyFrom_17 : decode prog_2_method_3_code 17 = .ok (.aload_n 1, 1) := by decide +kernel
theorem d_Fen_copyFrom_18 : decode prog_2_method_3_code 18 = .ok (.getfield 60, 3) := by decide +kernel
theorem d_Fen_copyFrom_21 : decode prog_2_method_3_code 21 = .ok (.putfield 60, 3) := by decide +kernel
theorem d_Fen_copyFrom_24 : decode prog_2_method_3_code 24 = .ok (.aload_n 0, 1) := by decide +kernel
theorem d_Fen_copyFrom_25 : decode prog_2_method_3_code 25 = .ok (.aload_n 1, 1) := by decide +kernel
theorem d_Fen_copyFrom_26 : decode prog_2_method_3_code 26 = .ok (.getfield 63, 3) := by decide +kernel
theorem d_Fen_copyFrom_29 : decode prog_2_method_3_code 29 = .ok (.putfield 63, 3) := by decide +kernel
theorem d_Fen_copyFrom_32 : decode prog_2_method_3_code 32 = .ok (.aload_n 0, 1) := by decide +kernel
theorem d_Fen_copyFrom_33 : decode prog_2_method_3_code 33 = .ok (.aload_n 1, 1) := by decide +kernel
theorem d_Fen_copyFrom_34 : decode prog_2_method_3_code 34 = .ok (.getfield 66, 3) := by decide +kernel
theorem d_Fen_copyFrom_37 : decode prog_2_method_3_code 37 = .ok (.putfield 66, 3) := by decide +kernel
theorem d_Fen_copyFrom_40 : decode prog_2_method_3_code 40 = .ok (.aload_n 0, 1) := by decide +kernel
theorem d_Fen_copyFrom_41 : decode prog_2_method_3_code 41 = .ok (.aload_n 1, 1) := by decide +kernel
theorem d_Fen_copyFrom_42 : decode prog_2_method_3_code 42 = .ok (.getfield 69, 3) := by decide +kernel
theorem d_Fen_copyFrom_45 : decode prog_2_method_3_code 45 = .ok (.putfield 69, 3) := by decide +kernel
theorem d_Fen_copyFrom_48 : decode prog_2_method_3_code 48 = .ok (.aload_n 0, 1) := by decide +kernel
theorem d_Fen_copyFrom_49 : decode prog_2_method_3_code 49 = .ok (.aload_n 1, 1) := by decide +kernel
theorem d_Fen_copyFrom_50 : decode prog_2_method_3_code 50 = .ok (.getfield 72, 3) := by decide +kernel
theorem d_Fen_copyFrom_53 : decode prog_2_method_3_code 53 = .ok (.putfield 72, 3) := by decide +kernel
theorem d_Fen_copyFrom_56 : decode prog_2_method_3_code 56 = .ok (.aload_n 0, 1) := by decide +kernel
theorem d_Fen_copyFrom_57 : decode prog_2_method_3_code 57 = .ok (.aload_n 1, 1) := by decide +kernel
theorem d_Fen_copyFrom_58 : decode prog_2_method_3_code 58 = .ok (.getfield 75, 3) := by decide +kernel
theorem d_Fen_copyFrom_61 : decode prog_2_method_3_code 61 = .ok (.putfield 75, 3) := by decide +kernel
theorem d_Fen_copyFrom_64 : decode prog_2_method_3_code 64 = .ok (.aload_n 1, 1) := by decide +kernel
theorem d_Fen_copyFrom_65 : decode prog_2_method_3_code 65 = .ok (.getfield 15, 3) := by decide +kernel
theorem d_Fen_copyFrom_68 : decode prog_2_method_3_code 68 = .ok (.iconst 0, 1) := by decide +kernel
theorem d_Fen_copyFrom_69 : decode prog_2_method_3_code 69 = .ok (.aload_n 0, 1) := by decide +kernel
theorem d_Fen_copyFrom_70 : decode prog_2_method_3_code 70 = .ok (.getfield 15, 3) := by decide +kernel
theorem d_Fen_copyFrom_73 : decode prog_2_method_3_code 73 = .ok (.iconst 0, 1) := by decide +kernel
theorem d_Fen_copyFrom_74 : decode prog_2_method_3_code 74 = .ok (.bipush 6, 2) := by decide +kernel
theorem d_Fen_copyFrom_76 : decode prog_2_method_3_code 76 = .ok (.invokestatic 81, 3) := by decide +kernel
theorem d_Fen_copyFrom_79 : decode prog_2_method_3_code 79 = .ok (.aload_n 1, 1) := by decide +kernel
theorem d_Fen_copyFrom_80 : decode prog_2_method_3_code 80 = .ok (.getfield 19, 3) := by decide +kernel
theorem d_Fen_copyFrom_83 : decode prog_2_method_3_code 83 = .ok (.iconst 0, 1) := by decide +kernel
theorem d_Fen_copyFrom_84 : decode prog_2_method_3_code 84 = .ok (.aload_n 0, 1) := by decide +kernel
theorem d_Fen_copyFrom_85 : decode prog_2_method_3_code 85 = .ok (.getfield 19, 3) := by decide +kernel
theorem d_Fen_copyFrom_88 : decode prog_2_method_3_code 88 = .ok (.iconst 0, 1) := by decide +kernel
theorem d_Fen_copyFrom_89 : decode prog_2_method_3_code 89 = .ok (.bipush 7, 2) := by decide +kernel
theorem d_Fen_copyFrom_91 : decode prog_2_method_3_code 91 = .ok (.invokestatic 81, 3) := by decide +kernel
theorem d_Fen_copyFrom_94 : decode prog_2_method_3_code 94 = .ok (.aload_n 1, 1) := by decide +kernel
theorem d_Fen_copyFrom_95 : decode prog_2_method_3_code 95 = .ok (.getfield 22, 3) := by decide +kernel
theorem d_Fen_copyFrom_98 : decode prog_2_method_3_code 98 = .ok (.iconst 0, 1) := by decide +kernel
theorem d_Fen_copyFrom_99 : decode prog_2_method_3_code 99 = .ok (.aload_n 0, 1) := by decide +kernel
theorem d_Fen_copyFrom_100 : decode prog_2_method_3_code 100 = .ok (.getfield 22, 3) := by decide +kernel
theorem d_Fen_copyFrom_103 : decode prog_2_method_3_code 103 = .ok (.iconst 0, 1) := by decide +kernel
theorem d_Fen_copyFrom_104 : decode prog_2_method_3_code 104 = .ok (.bipush 7, 2) := by decide +kernel
theorem d_Fen_copyFrom_106 : decode prog_2_method_3_code 106 = .ok (.invokestatic 81, 3) := by decide +kernel
theorem d_Fen_copyFrom_109 : decode prog_2_method_3_code 109 = .ok (.aload_n 1, 1) := by decide +kernel
theorem d_Fen_copyFrom_110 : decode prog_2_method_3_code 110 = .ok (.getfield 25, 3) := by decide +kernel
theorem d_Fen_copyFrom_113 : decode prog_2_method_3_code 113 = .ok (.iconst 0, 1) := by decide +kernel
theorem d_Fen_copyFrom_114 : decode prog_2_method_3_code 114 = .ok (.aload_n 0, 1) := by decide +kernel
theorem d_Fen_copyFrom_115 : decode prog_2_method_3_code 115 = .ok (.getfield 25, 3) := by decide +kernel
theorem d_Fen_copyFrom_118 : decode prog_2_method_3_code 118 = .ok (.iconst 0, 1) := by decide +kernel
theorem d_Fen_copyFrom_119 : decode prog_2_method_3_code 119 = .ok (.bipush 7, 2) := by decide +kernel
theorem d_Fen_copyFrom_121 : decode prog_2_method_3_code 121 = .ok (.invokestatic 81, 3) := by decide +kernel
theorem d_Fen_copyFrom_124 : decode prog_2_method_3_code 124 = .ok (.aload_n 1, 1) := by decide +kernel
theorem d_Fen_copyFrom_125 : decode prog_2_method_3_code 125 = .ok (.getfield 28, 3) := by decide +kernel
theorem d_Fen_copyFrom_128 : decode prog_2_method_3_code 128 = .ok (.iconst 0, 1) := by decide +kernel
theorem d_Fen_copyFrom_129 : decode prog_2_method_3_code 129 = .ok (.aload_n 0, 1) := by decide +kernel
theorem d_Fen_copyFrom_130 : decode prog_2_method_3_code 130 = .ok (.getfield 28, 3) := by decide +kernel
theorem d_Fen_copyFrom_133 : decode prog_2_method_3_code 133 = .ok (.iconst 0, 1) := by decide +kernel
theorem d_Fen_copyFrom_134 : decode prog_2_method_3_code 134 = .ok (.bipush 9, 2) := by decide +kernel
theorem d_Fen_copyFrom_136 : decode prog_2_method_3_code 136 = .ok (.invokestatic 81, 3) := by decide +kernel
theorem d_Fen_copyFrom_139 : decode prog_2_method_3_code 139 = .ok (.aload_n 1, 1) := by decide +kernel
theorem d_Fen_copyFrom_140 : decode prog_2_method_3_code 140 = .ok (.getfield 31, 3) := by decide +kernel
theorem d_Fen_copyFrom_143 : decode prog_2_method_3_code 143 = .ok (.iconst 0, 1) := by decide +kernel
theorem d_Fen_copyFrom_144 : decode prog_2_method_3_code 144 = .ok (.aload_n 0, 1) := by decide +kernel
theorem d_Fen_copyFrom_145 : decode prog_2_method_3_code 145 = .ok (.getfield 31, 3) := by decide +kernel
theorem d_Fen_copyFrom_148 : decode prog_2_method_3_code 148 = .ok (.iconst 0, 1) := by decide +kernel
theorem d_Fen_copyFrom_149 : decode prog_2_method_3_code 149 = .ok (.bipush 9, 2) := by decide +kernel
theorem d_Fen_copyFrom_151 : decode prog_2_method_3_code 151 = .ok (.invokestatic 81, 3) := by decide +kernel
theorem d_Fen_copyFrom_154 : decode prog_2_method_3_code 154 = .ok (.aload_n 1, 1) := by decide +kernel
theorem d_Fen_copyFrom_155 : decode prog_2_method_3_code 155 = .ok (.getfield 34, 3) := by decide +kernel
theorem d_Fen_copyFrom_158 : decode prog_2_method_3_code 158 = .ok (.iconst 0, 1) := by decide +kernel
theorem d_Fen_copyFrom_159 : decode prog_2_method_3_code 159 = .ok (.aload_n 0, 1) := by decide +kernel
theorem d_Fen_copyFrom_160 : decode prog_2_method_3_code 160 = .ok (.getfield 34, 3) := by decide +kernel
theorem d_Fen_copyFrom_163 : decode prog_2_method_3_code 163 = .ok (.iconst 0, 1) := by decide +kernel
theorem d_Fen_copyFrom_164 : decode prog_2_method_3_code 164 = .ok (.bipush 9, 2) := by decide +kernel
theorem d_Fen_copyFrom_166 : decode prog_2_method_3_code 166 = .ok (.invokestatic 81, 3) := by decide +kernel
theorem d_Fen_copyFrom_169 : decode prog_2_method_3_code 169 = .ok (.aload_n 1, 1) := by decide +kernel
theorem d_Fen_copyFrom_170 : decode prog_2_method_3_code 170 = .ok (.getfield 37, 3) := by decide +kernel
theorem d_Fen_copyFrom_173 : decode prog_2_method_3_code 173 = .ok (.iconst 0, 1) := by decide +kernel
theorem d_Fen_copyFrom_174 : decode prog_2_method_3_code 174 = .ok (.aload_n 0, 1) := by decide +kernel
theorem d_Fen_copyFrom_175 : decode prog_2_method_3_code 175 = .ok (.getfield 37, 3) := by decide +kernel
theorem d_Fen_copyFrom_178 : decode prog_2_method_3_code 178 = .ok (.iconst 0, 1) := by decide +kernel
theorem d_Fen_copyFrom_179 : decode prog_2_method_3_code 179 = .ok (.bipush 9, 2) := by decide +kernel
theorem d_Fen_copyFrom_181 : decode prog_2_method_3_code 181 = .ok (.invokestatic 81, 3) := by decide +kernel
theorem d_Fen_copyFrom_184 : decode prog_2_method_3_code 184 = .ok (.aload_n 1, 1) := by decide +kernel
theorem d_Fen_copyFrom_185 : decode prog_2_method_3_code 185 = .ok (.getfield 40, 3) := by decide +kernel
theorem d_Fen_copyFrom_188 : decode prog_2_method_3_code 188 = .ok (.iconst 0, 1) := by decide +kernel
theorem d_Fen_copyFrom_189 : decode prog_2_method_3_code 189 = .ok (.aload_n 0, 1) := by decide +kernel
theorem d_Fen_copyFrom_190 : decode prog_2_method_3_code 190 = .ok (.getfield 40, 3) := by decide +kernel
theorem d_Fen_copyFrom_193 : decode prog_2_method_3_code 193 = .ok (.iconst 0, 1) := by decide +kernel
theorem d_Fen_copyFrom_194 : decode prog_2_method_3_code 194 = .ok (.bipush 6, 2) := by decide +kernel
theorem d_Fen_copyFrom_196 : decode prog_2_method_3_code 196 = .ok (.invokestatic 81, 3) := by decide +kernel
theorem d_Fen_copyFrom_199 : decode prog_2_method_3_code 199 = .ok (.aload_n 1, 1) := by decide +kernel
theorem d_Fen_copyFrom_200 : decode prog_2_method_3_code 200 = .ok (.getfield 44, 3) := by decide +kernel
theorem d_Fen_copyFrom_203 : decode prog_2_method_3_code 203 = .ok (.iconst 0, 1) := by decide +kernel
theorem d_Fen_copyFrom_204 : decode prog_2_method_3_code 204 = .ok (.aload_n 0, 1) := by decide +kernel
theorem d_Fen_copyFrom_205 : decode prog_2_method_3_code 205 = .ok (.getfield 44, 3) := by decide +kernel
theorem d_Fen_copyFrom_208 : decode prog_2_method_3_code 208 = .ok (.iconst 0, 1) := by decide +kernel
theorem d_Fen_copyFrom_209 : decode prog_2_method_3_code 209 = .ok (.bipush 7, 2) := by decide +kernel
theorem d_Fen_copyFrom_211 : decode prog_2_method_3_code 211 = .ok (.invokestatic 81, 3) := by decide +kernel
theorem d_Fen_copyFrom_214 : decode prog_2_method_3_code 214 = .ok (.aload_n 1, 1) := by decide +kernel
theorem d_Fen_copyFrom_215 : decode prog_2_method_3_code 215 = .ok (.getfield 47, 3) := by decide +kernel
theorem d_Fen_copyFrom_218 : decode prog_2_method_3_code 218 = .ok (.iconst 0, 1) := by decide +kernel
theorem d_Fen_copyFrom_219 : decode prog_2_method_3_code 219 = .ok (.aload_n 0, 1) := by decide +kernel
theorem d_Fen_copyFrom_220 : decode prog_2_method_3_code 220 = .ok (.getfield 47, 3) := by decide +kernel
theorem d_Fen_copyFrom_223 : decode prog_2_method_3_code 223 = .ok (.iconst 0, 1) := by decide +kernel
theorem d_Fen_copyFrom_224 : decode prog_2_method_3_code 224 = .ok (.bipush 9, 2) := by decide +kernel
theorem d_Fen_copyFrom_226 : decode prog_2_method_3_code 226 = .ok (.invokestatic 81, 3) := by decide +kernel
theorem d_Fen_copyFrom_229 : decode prog_2_method_3_code 229 = .ok (.aload_n 0, 1) := by decide +kernel
theorem d_Fen_copyFrom_230 : decode prog_2_method_3_code 230 = .ok (.getfield 53, 3) := by decide +kernel
theorem d_Fen_copyFrom_233 : decode prog_2_method_3_code 233 = .ok (.aload_n 1, 1) := by decide +kernel
theorem d_Fen_copyFrom_234 : decode prog_2_method_3_code 234 = .ok (.getfield 53, 3) := by decide +kernel
theorem d_Fen_copyFrom_237 : decode prog_2_method_3_code 237 = .ok (.invokevirtual 87, 3) := by decide +kernel
theorem d_Fen_copyFrom_240 : decode prog_2_method_3_code 240 = .ok (.return_, 1) := by decide +kernel
