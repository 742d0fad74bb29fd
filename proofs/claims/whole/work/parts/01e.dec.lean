/-! decode rows (printed by wip/tools/p09.py) -/
theorem d_Mo_new_0 : decode prog_14_method_1_code 0 = .ok (.aload_n 0, 1) := by decide +kernel
theorem d_Mo_new_1 : decode prog_14_method_1_code 1 = .ok (.invokespecial 1, 3) := by decide +kernel
theorem d_Mo_new_4 : decode prog_14_method_1_code 4 = .ok (.aload_n 0, 1) := by decide +kernel
theorem d_Mo_new_5 : decode prog_14_method_1_code 5 = .ok (.lconst 1, 1) := by decide +kernel
theorem d_Mo_new_6 : decode prog_14_method_1_code 6 = .ok (.putfield 7, 3) := by decide +kernel
theorem d_Mo_new_9 : decode prog_14_method_1_code 9 = .ok (.aload_n 0, 1) := by decide +kernel
theorem d_Mo_new_10 : decode prog_14_method_1_code 10 = .ok (.iconst 4, 1) := by decide +kernel
theorem d_Mo_new_11 : decode prog_14_method_1_code 11 = .ok (.newarray .int, 2) := by decide +kernel
theorem d_Mo_new_13 : decode prog_14_method_1_code 13 = .ok (.putfield 13, 3) := by decide +kernel
theorem d_Mo_new_16 : decode prog_14_method_1_code 16 = .ok (.aload_n 0, 1) := by decide +kernel
theorem d_Mo_new_17 : decode prog_14_method_1_code 17 = .ok (.iconst 4, 1) := by decide +kernel
theorem d_Mo_new_18 : decode prog_14_method_1_code 18 = .ok (.newarray .int, 2) := by decide +kernel
theorem d_Mo_new_20 : decode prog_14_method_1_code 20 = .ok (.putfield 17, 3) := by decide +kernel
theorem d_Mo_new_23 : decode prog_14_method_1_code 23 = .ok (.aload_n 0, 1) := by decide +kernel
theorem d_Mo_new_24 : decode prog_14_method_1_code 24 = .ok (.sipush 240, 3) := by decide +kernel
theorem d_Mo_new_27 : decode prog_14_method_1_code 27 = .ok (.newarray .long, 2) := by decide +kernel
theorem d_Mo_new_29 : decode prog_14_method_1_code 29 = .ok (.putfield 20, 3) := by decide +kernel
theorem d_Mo_new_32 : decode prog_14_method_1_code 32 = .ok (.aload_n 0, 1) := by decide +kernel
theorem d_Mo_new_33 : decode prog_14_method_1_code 33 = .ok (.sipush 900, 3) := by decide +kernel
theorem d_Mo_new_36 : decode prog_14_method_1_code 36 = .ok (.newarray .byte, 2) := by decide +kernel
theorem d_Mo_new_38 : decode prog_14_method_1_code 38 = .ok (.putfield 24, 3) := by decide +kernel
theorem d_Mo_new_41 : decode prog_14_method_1_code 41 = .ok (.aload_n 0, 1) := by decide +kernel
theorem d_Mo_new_42 : decode prog_14_method_1_code 42 = .ok (.iconst (-1), 1) := by decide +kernel
theorem d_Mo_new_43 : decode prog_14_method_1_code 43 = .ok (.putfield 28, 3) := by decide +kernel
theorem d_Mo_new_46 : decode prog_14_method_1_code 46 = .ok (.aload_n 0, 1) := by decide +kernel
theorem d_Mo_new_47 : decode prog_14_method_1_code 47 = .ok (.iconst (-1), 1) := by decide +kernel
theorem d_Mo_new_48 : decode prog_14_method_1_code 48 = .ok (.putfield 32, 3) := by decide +kernel
theorem d_Mo_new_51 : decode prog_14_method_1_code 51 = .ok (.aload_n 0, 1) := by decide +kernel
theorem d_Mo_new_52 : decode prog_14_method_1_code 52 = .ok (.sipush 1795, 3) := by decide +kernel
theorem d_Mo_new_55 : decode prog_14_method_1_code 55 = .ok (.newarray .int, 2) := by decide +kernel
theorem d_Mo_new_57 : decode prog_14_method_1_code 57 = .ok (.putfield 35, 3) := by decide +kernel
theorem d_Mo_new_60 : decode prog_14_method_1_code 60 = .ok (.aload_n 0, 1) := by decide +kernel
theorem d_Mo_new_61 : decode prog_14_method_1_code 61 = .ok (.bipush 87, 2) := by decide +kernel
theorem d_Mo_new_63 : decode prog_14_method_1_code 63 = .ok (.newarray .int, 2) := by decide +kernel
theorem d_Mo_new_65 : decode prog_14_method_1_code 65 = .ok (.putfield 38, 3) := by decide +kernel
theorem d_Mo_new_68 : decode prog_14_method_1_code 68 = .ok (.aload_n 0, 1) := by decide +kernel
theorem d_Mo_new_69 : decode prog_14_method_1_code 69 = .ok (.bipush 110, 2) := by decide +kernel
theorem d_Mo_new_71 : decode prog_14_method_1_code 71 = .ok (.newarray .long, 2) := by decide +kernel
theorem d_Mo_new_73 : decode prog_14_method_1_code 73 = .ok (.putfield 41, 3) := by decide +kernel
theorem d_Mo_new_76 : decode prog_14_method_1_code 76 = .ok (.aload_n 0, 1) := by decide +kernel
theorem d_Mo_new_77 : decode prog_14_method_1_code 77 = .ok (.bipush 7, 2) := by decide +kernel
theorem d_Mo_new_79 : decode prog_14_method_1_code 79 = .ok (.newarray .int, 2) := by decide +kernel
theorem d_Mo_new_81 : decode prog_14_method_1_code 81 = .ok (.putfield 44, 3) := by decide +kernel
theorem d_Mo_new_84 : decode prog_14_method_1_code 84 = .ok (.aload_n 0, 1) := by decide +kernel
theorem d_Mo_new_85 : decode prog_14_method_1_code 85 = .ok (.bipush 7, 2) := by decide +kernel
theorem d_Mo_new_87 : decode prog_14_method_1_code 87 = .ok (.newarray .int, 2) := by decide +kernel
theorem d_Mo_new_89 : decode prog_14_method_1_code 89 = .ok (.putfield 47, 3) := by decide +kernel
theorem d_Mo_new_92 : decode prog_14_method_1_code 92 = .ok (.aload_n 0, 1) := by decide +kernel
theorem d_Mo_new_93 : decode prog_14_method_1_code 93 = .ok (.bipush 7, 2) := by decide +kernel
theorem d_Mo_new_95 : decode prog_14_method_1_code 95 = .ok (.newarray .int, 2) := by decide +kernel
theorem d_Mo_new_97 : decode prog_14_method_1_code 97 = .ok (.putfield 50, 3) := by decide +kernel
theorem d_Mo_new_100 : decode prog_14_method_1_code 100 = .ok (.aload_n 0, 1) := by decide +kernel
theorem d_Mo_new_101 : decode prog_14_method_1_code 101 = .ok (.sipush 128, 3) := by decide +kernel
theorem d_Mo_new_104 : decode prog_14_method_1_code 104 = .ok (.newarray .int, 2) := by decide +kernel
theorem d_Mo_new_106 : decode prog_14_method_1_code 106 = .ok (.putfield 53, 3) := by decide +kernel
theorem d_Mo_new_109 : decode prog_14_method_1_code 109 = .ok (.aload_n 0, 1) := by decide +kernel
theorem d_Mo_new_110 : decode prog_14_method_1_code 110 = .ok (.bipush 64, 2) := by decide +kernel
theorem d_Mo_new_112 : decode prog_14_method_1_code 112 = .ok (.newarray .boolean, 2) := by decide +kernel
theorem d_Mo_new_114 : decode prog_14_method_1_code 114 = .ok (.putfield 56, 3) := by decide +kernel
theorem d_Mo_new_117 : decode prog_14_method_1_code 117 = .ok (.aload_n 0, 1) := by decide +kernel
theorem d_Mo_new_118 : decode prog_14_method_1_code 118 = .ok (.bipush 10, 2) := by decide +kernel
theorem d_Mo_new_120 : decode prog_14_method_1_code 120 = .ok (.newarray .long, 2) := by decide +kernel
theorem d_Mo_new_122 : decode prog_14_method_1_code 122 = .ok (.putfield 60, 3) := by decide +kernel
theorem d_Mo_new_125 : decode prog_14_method_1_code 125 = .ok (.aload_n 0, 1) := by decide +kernel
theorem d_Mo_new_126 : decode prog_14_method_1_code 126 = .ok (.iconst 5, 1) := by decide +kernel
theorem d_Mo_new_127 : decode prog_14_method_1_code 127 = .ok (.newarray .int, 2) := by decide +kernel
theorem d_Mo_new_129 : decode prog_14_method_1_code 129 = .ok (.putfield 63, 3) := by decide +kernel
theorem d_Mo_new_132 : decode prog_14_method_1_code 132 = .ok (.iconst 0, 1) := by decide +kernel
theorem d_Mo_new_133 : decode prog_14_method_1_code 133 = .ok (.istore_n 1, 1) := by decide +kernel
theorem d_Mo_new_134 : decode prog_14_method_1_code 134 = .ok (.iload_n 1, 1) := by decide +kernel
theorem d_Mo_new_135 : decode prog_14_method_1_code 135 = .ok (.iconst 4, 1) := by decide +kernel
theorem d_Mo_new_136 : decode prog_14_method_1_code 136 = .ok (.if_icmp .ge 16, 3) := by decide +kernel
theorem d_Mo_new_139 : decode prog_14_method_1_code 139 = .ok (.aload_n 0, 1) := by decide +kernel
theorem d_Mo_new_140 : decode prog_14_method_1_code 140 = .ok (.getfield 17, 3) := by decide +kernel
theorem d_Mo_new_143 : decode prog_14_method_1_code 143 = .ok (.iload_n 1, 1) := by decide +kernel
theorem d_Mo_new_144 : decode prog_14_method_1_code 144 = .ok (.iconst (-1), 1) := by decide +kernel
theorem d_Mo_new_145 : decode prog_14_method_1_code 145 = .ok (.iastore, 1) := by decide +kernel
theorem d_Mo_new_146 : decode prog_14_method_1_code 146 = .ok (.iinc 1 1, 3) := by decide +kernel
theorem d_Mo_new_149 : decode prog_14_method_1_code 149 = .ok (.goto (-15), 3) := by decide +kernel
theorem d_Mo_new_152 : decode prog_14_method_1_code 152 = .ok (.aload_n 0, 1) := by decide +kernel
theorem d_Mo_new_153 : decode prog_14_method_1_code 153 = .ok (.iconst 0, 1) := by decide +kernel
theorem d_Mo_new_154 : decode prog_14_method_1_code 154 = .ok (.invokevirtual 66, 3) := by decide +kernel
theorem d_Mo_new_157 : decode prog_14_method_1_code 157 = .ok (.return_, 1) := by decide +kernel
theorem d_Mo_empties_0 : decode prog_14_method_54_code 0 = .ok (.sipush 359, 3) := by decide +kernel
theorem d_Mo_empties_3 : decode prog_14_method_54_code 3 = .ok (.iload_n 1, 1) := by decide +kernel
theorem d_Mo_empties_4 : decode prog_14_method_54_code 4 = .ok (.imul, 1) := by decide +kernel
theorem d_Mo_empties_5 : decode prog_14_method_54_code 5 = .ok (.istore_n 2, 1) := by decide +kernel
theorem d_Mo_empties_6 : decode prog_14_method_54_code 6 = .ok (.iconst 0, 1) := by decide +kernel
theorem d_Mo_empties_7 : decode prog_14_method_54_code 7 = .ok (.istore_n 3, 1) := by decide +kernel
theorem d_Mo_empties_8 : decode prog_14_method_54_code 8 = .ok (.iload_n 3, 1) := by decide +kernel
theorem d_Mo_empties_9 : decode prog_14_method_54_code 9 = .ok (.sipush 359, 3) := by decide +kernel
theorem d_Mo_empties_12 : decode prog_14_method_54_code 12 = .ok (.if_icmp .ge 18, 3) := by decide +kernel
theorem d_Mo_empties_15 : decode prog_14_method_54_code 15 = .ok (.aload_n 0, 1) := by decide +kernel
theorem d_Mo_empties_16 : decode prog_14_method_54_code 16 = .ok (.getfield 35, 3) := by decide +kernel
theorem d_Mo_empties_19 : decode prog_14_method_54_code 19 = .ok (.iload_n 2, 1) := by decide +kernel
theorem d_Mo_empties_20 : decode prog_14_method_54_code 20 = .ok (.iload_n 3, 1) := by decide +kernel
theorem d_Mo_empties_21 : decode prog_14_method_54_code 21 = .ok (.iadd, 1) := by decide +kernel
theorem d_Mo_empties_22 : decode prog_14_method_54_code 22 = .ok (.iconst 0, 1) := by decide +kernel
theorem d_Mo_empties_23 : decode prog_14_method_54_code 23 = .ok (.iastore, 1) := by decide +kernel
theorem d_Mo_empties_24 : decode prog_14_method_54_code 24 = .ok (.iinc 3 1, 3) := by decide +kernel
theorem d_Mo_empties_27 : decode prog_14_method_54_code 27 = .ok (.goto (-19), 3) := by decide +kernel
theorem d_Mo_empties_30 : decode prog_14_method_54_code 30 = .ok (.aload_n 0, 1) := by decide +kernel
theorem d_Mo_empties_31 : decode prog_14_method_54_code 31 = .ok (.getfield 35, 3) := by decide +kernel
theorem d_Mo_empties_34 : decode prog_14_method_54_code 34 = .ok (.iload_n 2, 1) := by decide +kernel
theorem d_Mo_empties_35 : decode prog_14_method_54_code 35 = .ok (.iconst 4, 1) := by decide +kernel
theorem d_Mo_empties_36 : decode prog_14_method_54_code 36 = .ok (.iadd, 1) := by decide +kernel
theorem d_Mo_empties_37 : decode prog_14_method_54_code 37 = .ok (.bipush 8, 2) := by decide +kernel
theorem d_Mo_empties_39 : decode prog_14_method_54_code 39 = .ok (.iastore, 1) := by decide +kernel
theorem d_Mo_empties_40 : decode prog_14_method_54_code 40 = .ok (.return_, 1) := by decide +kernel
theorem d_Mo_status_0 : decode prog_14_method_3_code 0 = .ok (.aload_n 0, 1) := by decide +kernel
theorem d_Mo_status_1 : decode prog_14_method_3_code 1 = .ok (.iconst 0, 1) := by decide +kernel
theorem d_Mo_status_2 : decode prog_14_method_3_code 2 = .ok (.putfield 70, 3) := by decide +kernel
theorem d_Mo_status_5 : decode prog_14_method_3_code 5 = .ok (.aload_n 0, 1) := by decide +kernel
theorem d_Mo_status_6 : decode prog_14_method_3_code 6 = .ok (.getfield 73, 3) := by decide +kernel
theorem d_Mo_status_9 : decode prog_14_method_3_code 9 = .ok (.ireturn, 1) := by decide +kernel
theorem d_Mo_top_0 : decode prog_14_method_4_code 0 = .ok (.aload_n 0, 1) := by decide +kernel
theorem d_Mo_top_1 : decode prog_14_method_4_code 1 = .ok (.iconst 0, 1) := by decide +kernel
theorem d_Mo_top_2 : decode prog_14_method_4_code 2 = .ok (.putfield 70, 3) := by decide +kernel
theorem d_Mo_top_5 : decode prog_14_method_4_code 5 = .ok (.aload_n 0, 1) := by decide +kernel
theorem d_Mo_top_6 : decode prog_14_method_4_code 6 = .ok (.getfield 76, 3) := by decide +kernel
theorem d_Mo_top_9 : decode prog_14_method_4_code 9 = .ok (.lreturn, 1) := by decide +kernel
theorem d_Mo_bottom_0 : decode prog_14_method_5_code 0 = .ok (.aload_n 0, 1) := by decide +kernel
theorem d_Mo_bottom_1 : decode prog_14_method_5_code 1 = .ok (.iconst 0, 1) := by decide +kernel
theorem d_Mo_bottom_2 : decode prog_14_method_5_code 2 = .ok (.putfield 70, 3) := by decide +kernel
theorem d_Mo_bottom_5 : decode prog_14_method_5_code 5 = .ok (.aload_n 0, 1) := by decide +kernel
theorem d_Mo_bottom_6 : decode prog_14_method_5_code 6 = .ok (.getfield 7, 3) := by decide +kernel
theorem d_Mo_bottom_9 : decode prog_14_method_5_code 9 = .ok (.lreturn, 1) := by decide +kernel
theorem d_Mo_tray_0 : decode prog_14_method_11_code 0 = .ok (.aload_n 0, 1) := by decide +kernel
theorem d_Mo_tray_1 : decode prog_14_method_11_code 1 = .ok (.iconst 0, 1) := by decide +kernel
theorem d_Mo_tray_2 : decode prog_14_method_11_code 2 = .ok (.putfield 70, 3) := by decide +kernel
theorem d_Mo_tray_5 : decode prog_14_method_11_code 5 = .ok (.aload_n 0, 1) := by decide +kernel
theorem d_Mo_tray_6 : decode prog_14_method_11_code 6 = .ok (.iconst 0, 1) := by decide +kernel
theorem d_Mo_tray_7 : decode prog_14_method_11_code 7 = .ok (.putfield 73, 3) := by decide +kernel
theorem d_Mo_tray_10 : decode prog_14_method_11_code 10 = .ok (.iload_n 1, 1) := by decide +kernel
theorem d_Mo_tray_11 : decode prog_14_method_11_code 11 = .ok (.ifCond .lt 17, 3) := by decide +kernel
theorem d_Mo_tray_14 : decode prog_14_method_11_code 14 = .ok (.iload_n 1, 1) := by decide +kernel
theorem d_Mo_tray_15 : decode prog_14_method_11_code 15 = .ok (.iconst 4, 1) := by decide +kernel
theorem d_Mo_tray_16 : decode prog_14_method_11_code 16 = .ok (.if_icmp .ge 12, 3) := by decide +kernel
theorem d_Mo_tray_19 : decode prog_14_method_11_code 19 = .ok (.iload_n 2, 1) := by decide +kernel
theorem d_Mo_tray_20 : decode prog_14_method_11_code 20 = .ok (.ifCond .lt 8, 3) := by decide +kernel
theorem d_Mo_tray_23 : decode prog_14_method_11_code 23 = .ok (.iload_n 2, 1) := by decide +kernel
theorem d_Mo_tray_24 : decode prog_14_method_11_code 24 = .ok (.iconst 3, 1) := by decide +kernel
theorem d_Mo_tray_25 : decode prog_14_method_11_code 25 = .ok (.if_icmp .le 9, 3) := by decide +kernel
theorem d_Mo_tray_28 : decode prog_14_method_11_code 28 = .ok (.aload_n 0, 1) := by decide +kernel
theorem d_Mo_tray_29 : decode prog_14_method_11_code 29 = .ok (.iconst 1, 1) := by decide +kernel
theorem d_Mo_tray_30 : decode prog_14_method_11_code 30 = .ok (.invokevirtual 85, 3) := by decide +kernel
theorem d_Mo_tray_33 : decode prog_14_method_11_code 33 = .ok (.ireturn, 1) := by decide +kernel
theorem d_Mo_tray_34 : decode prog_14_method_11_code 34 = .ok (.iload_n 3, 1) := by decide +kernel
theorem d_Mo_tray_35 : decode prog_14_method_11_code 35 = .ok (.bipush 60, 2) := by decide +kernel
theorem d_Mo_tray_37 : decode prog_14_method_11_code 37 = .ok (.if_icmp .le 9, 3) := by decide +kernel
theorem d_Mo_tray_40 : decode prog_14_method_11_code 40 = .ok (.aload_n 0, 1) := by decide +kernel
theorem d_Mo_tray_41 : decode prog_14_method_11_code 41 = .ok (.iconst 5, 1) := by decide +kernel
theorem d_Mo_tray_42 : decode prog_14_method_11_code 42 = .ok (.invokevirtual 85, 3) := by decide +kernel
theorem d_Mo_tray_45 : decode prog_14_method_11_code 45 = .ok (.ireturn, 1) := by decide +kernel
theorem d_Mo_tray_46 : decode prog_14_method_11_code 46 = .ok (.iload_n 3, 1) := by decide +kernel
theorem d_Mo_tray_47 : decode prog_14_method_11_code 47 = .ok (.ifCond .ge 10, 3) := by decide +kernel
theorem d_Mo_tray_50 : decode prog_14_method_11_code 50 = .ok (.aload_n 0, 1) := by decide +kernel
theorem d_Mo_tray_51 : decode prog_14_method_11_code 51 = .ok (.bipush 6, 2) := by decide +kernel
theorem d_Mo_tray_53 : decode prog_14_method_11_code 53 = .ok (.invokevirtual 85, 3) := by decide +kernel
theorem d_Mo_tray_56 : decode prog_14_method_11_code 56 = .ok (.ireturn, 1) := by decide +kernel
theorem d_Mo_tray_57 : decode prog_14_method_11_code 57 = .ok (.aload_n 0, 1) := by decide +kernel
theorem d_Mo_tray_58 : decode prog_14_method_11_code 58 = .ok (.getfield 13, 3) := by decide +kernel
theorem d_Mo_tray_61 : decode prog_14_method_11_code 61 = .ok (.iload_n 1, 1) := by decide +kernel
theorem d_Mo_tray_62 : decode prog_14_method_11_code 62 = .ok (.iload_n 2, 1) := by decide +kernel
theorem d_Mo_tray_63 : decode prog_14_method_11_code 63 = .ok (.iastore, 1) := by decide +kernel
theorem d_Mo_tray_64 : decode prog_14_method_11_code 64 = .ok (.aload_n 0, 1) := by decide +kernel
theorem d_Mo_tray_65 : decode prog_14_method_11_code 65 = .ok (.getfield 17, 3) := by decide +kernel
theorem d_Mo_tray_68 : decode prog_14_method_11_code 68 = .ok (.iload_n 1, 1) := by decide +kernel
theorem d_Mo_tray_69 : decode prog_14_method_11_code 69 = .ok (.iload_n 3, 1) := by decide +kernel
theorem d_Mo_tray_70 : decode prog_14_method_11_code 70 = .ok (.iastore, 1) := by decide +kernel
theorem d_Mo_tray_71 : decode prog_14_method_11_code 71 = .ok (.iconst 0, 1) := by decide +kernel
theorem d_Mo_tray_72 : decode prog_14_method_11_code 72 = .ok (.istore 4, 2) := by decide +kernel
theorem d_Mo_tray_74 : decode prog_14_method_11_code 74 = .ok (.iload 4, 2) := by decide +kernel
theorem d_Mo_tray_76 : decode prog_14_method_11_code 76 = .ok (.iload_n 3, 1) := by decide +kernel
theorem d_Mo_tray_77 : decode prog_14_method_11_code 77 = .ok (.if_icmp .ge 22, 3) := by decide +kernel
theorem d_Mo_tray_80 : decode prog_14_method_11_code 80 = .ok (.aload_n 0, 1) := by decide +kernel
theorem d_Mo_tray_81 : decode prog_14_method_11_code 81 = .ok (.getfield 20, 3) := by decide +kernel
theorem d_Mo_tray_84 : decode prog_14_method_11_code 84 = .ok (.bipush 60, 2) := by decide +kernel
theorem d_Mo_tray_86 : decode prog_14_method_11_code 86 = .ok (.iload_n 1, 1) := by decide +kernel
theorem d_Mo_tray_87 : decode prog_14_method_11_code 87 = .ok (.imul, 1) := by decide +kernel
theorem d_Mo_tray_88 : decode prog_14_method_11_code 88 = .ok (.iload 4, 2) := by decide +kernel
theorem d_Mo_tray_90 : decode prog_14_method_11_code 90 = .ok (.iadd, 1) := by decide +kernel
theorem d_Mo_tray_91 : decode prog_14_method_11_code 91 = .ok (.lconst 0, 1) := by decide +kernel
theorem d_Mo_tray_92 : decode prog_14_method_11_code 92 = .ok (.lastore, 1) := by decide +kernel
theorem d_Mo_tray_93 : decode prog_14_method_11_code 93 = .ok (.iinc 4 1, 3) := by decide +kernel
theorem d_Mo_tray_96 : decode prog_14_method_11_code 96 = .ok (.goto (-22), 3) := by decide +kernel
theorem d_Mo_tray_99 : decode prog_14_method_11_code 99 = .ok (.iconst 1, 1) := by decide +kernel
theorem d_Mo_tray_100 : decode prog_14_method_11_code 100 = .ok (.ireturn, 1) := by decide +kernel
theorem d_Mo_no_0 : decode prog_14_method_7_code 0 = .ok (.aload_n 0, 1) := by decide +kernel
theorem d_Mo_no_1 : decode prog_14_method_7_code 1 = .ok (.iload_n 1, 1) := by decide +kernel
theorem d_Mo_no_2 : decode prog_14_method_7_code 2 = .ok (.putfield 73, 3) := by decide +kernel
theorem d_Mo_no_5 : decode prog_14_method_7_code 5 = .ok (.iconst 0, 1) := by decide +kernel
theorem d_Mo_no_6 : decode prog_14_method_7_code 6 = .ok (.ireturn, 1) := by decide +kernel
theorem d_Mo_write_0 : decode prog_14_method_14_code 0 = .ok (.aload_n 0, 1) := by decide +kernel
theorem d_Mo_write_1 : decode prog_14_method_14_code 1 = .ok (.iconst 0, 1) := by decide +kernel
theorem d_Mo_write_2 : decode prog_14_method_14_code 2 = .ok (.putfield 70, 3) := by decide +kernel
theorem d_Mo_write_5 : decode prog_14_method_14_code 5 = .ok (.aload_n 0, 1) := by decide +kernel
theorem d_Mo_write_6 : decode prog_14_method_14_code 6 = .ok (.aload_n 0, 1) := by decide +kernel
theorem d_Mo_write_7 : decode prog_14_method_14_code 7 = .ok (.iload_n 1, 1) := by decide +kernel
theorem d_Mo_write_8 : decode prog_14_method_14_code 8 = .ok (.iload_n 2, 1) := by decide +kernel
theorem d_Mo_write_9 : decode prog_14_method_14_code 9 = .ok (.invokevirtual 93, 3) := by decide +kernel
theorem d_Mo_write_12 : decode prog_14_method_14_code 12 = .ok (.putfield 73, 3) := by decide +kernel
theorem d_Mo_write_15 : decode prog_14_method_14_code 15 = .ok (.aload_n 0, 1) := by decide +kernel
theorem d_Mo_write_16 : decode prog_14_method_14_code 16 = .ok (.getfield 73, 3) := by decide +kernel
theorem d_Mo_write_19 : decode prog_14_method_14_code 19 = .ok (.ifCond .le 5, 3) := by decide +kernel
theorem d_Mo_write_22 : decode prog_14_method_14_code 22 = .ok (.iconst 0, 1) := by decide +kernel
theorem d_Mo_write_23 : decode prog_14_method_14_code 23 = .ok (.ireturn, 1) := by decide +kernel
theorem d_Mo_write_24 : decode prog_14_method_14_code 24 = .ok (.aload_n 0, 1) := by decide +kernel
theorem d_Mo_write_25 : decode prog_14_method_14_code 25 = .ok (.getfield 20, 3) := by decide +kernel
theorem d_Mo_write_28 : decode prog_14_method_14_code 28 = .ok (.bipush 60, 2) := by decide +kernel
theorem d_Mo_write_30 : decode prog_14_method_14_code 30 = .ok (.iload_n 1, 1) := by decide +kernel
theorem d_Mo_write_31 : decode prog_14_method_14_code 31 = .ok (.imul, 1) := by decide +kernel
theorem d_Mo_write_32 : decode prog_14_method_14_code 32 = .ok (.iload_n 2, 1) := by decide +kernel
theorem d_Mo_write_33 : decode prog_14_method_14_code 33 = .ok (.iadd, 1) := by decide +kernel
theorem d_Mo_write_34 : decode prog_14_method_14_code 34 = .ok (.aload_n 0, 1) := by decide +kernel
theorem d_Mo_write_35 : decode prog_14_method_14_code 35 = .ok (.getfield 13, 3) := by decide +kernel
theorem d_Mo_write_38 : decode prog_14_method_14_code 38 = .ok (.iload_n 1, 1) := by decide +kernel
theorem d_Mo_write_39 : decode prog_14_method_14_code 39 = .ok (.iaload, 1) := by decide +kernel
theorem d_Mo_write_40 : decode prog_14_method_14_code 40 = .ok (.lload_n 3, 1) := by decide +kernel
theorem d_Mo_write_41 : decode prog_14_method_14_code 41 = .ok (.invokestatic 97, 3) := by decide +kernel
theorem d_Mo_write_44 : decode prog_14_method_14_code 44 = .ok (.lastore, 1) := by decide +kernel
theorem d_Mo_write_45 : decode prog_14_method_14_code 45 = .ok (.iconst 1, 1) := by decide +kernel
theorem d_Mo_write_46 : decode prog_14_method_14_code 46 = .ok (.ireturn, 1) := by decide +kernel
theorem d_Mo_placed_0 : decode prog_14_method_13_code 0 = .ok (.aload_n 0, 1) := by decide +kernel
theorem d_Mo_placed_1 : decode prog_14_method_13_code 1 = .ok (.iload_n 1, 1) := by decide +kernel
theorem d_Mo_placed_2 : decode prog_14_method_13_code 2 = .ok (.invokevirtual 89, 3) := by decide +kernel
theorem d_Mo_placed_5 : decode prog_14_method_13_code 5 = .ok (.istore_n 3, 1) := by decide +kernel
theorem d_Mo_placed_6 : decode prog_14_method_13_code 6 = .ok (.iload_n 3, 1) := by decide +kernel
theorem d_Mo_placed_7 : decode prog_14_method_13_code 7 = .ok (.ifCond .le 7, 3) := by decide +kernel
theorem d_Mo_placed_10 : decode prog_14_method_13_code 10 = .ok (.iload_n 3, 1) := by decide +kernel
theorem d_Mo_placed_11 : decode prog_14_method_13_code 11 = .ok (.goto 22, 3) := by decide +kernel
theorem d_Mo_placed_14 : decode prog_14_method_13_code 14 = .ok (.iload_n 2, 1) := by decide +kernel
theorem d_Mo_placed_15 : decode prog_14_method_13_code 15 = .ok (.ifCond .lt 13, 3) := by decide +kernel
theorem d_Mo_placed_18 : decode prog_14_method_13_code 18 = .ok (.iload_n 2, 1) := by decide +kernel
theorem d_Mo_placed_19 : decode prog_14_method_13_code 19 = .ok (.aload_n 0, 1) := by decide +kernel
theorem d_Mo_placed_20 : decode prog_14_method_13_code 20 = .ok (.getfield 17, 3) := by decide +kernel
theorem d_Mo_placed_23 : decode prog_14_method_13_code 23 = .ok (.iload_n 1, 1) := by decide +kernel
theorem d_Mo_placed_24 : decode prog_14_method_13_code 24 = .ok (.iaload, 1) := by decide +kernel
theorem d_Mo_placed_25 : decode prog_14_method_13_code 25 = .ok (.if_icmp .lt 7, 3) := by decide +kernel
theorem d_Mo_placed_28 : decode prog_14_method_13_code 28 = .ok (.iconst 4, 1) := by decide +kernel
theorem d_Mo_placed_29 : decode prog_14_method_13_code 29 = .ok (.goto 4, 3) := by decide +kernel
theorem d_Mo_placed_32 : decode prog_14_method_13_code 32 = .ok (.iconst 0, 1) := by decide +kernel
theorem d_Mo_placed_33 : decode prog_14_method_13_code 33 = .ok (.ireturn, 1) := by decide +kernel
theorem d_Mo_trayed_0 : decode prog_14_method_12_code 0 = .ok (.iload_n 1, 1) := by decide +kernel
theorem d_Mo_trayed_1 : decode prog_14_method_12_code 1 = .ok (.ifCond .lt 8, 3) := by decide +kernel
theorem d_Mo_trayed_4 : decode prog_14_method_12_code 4 = .ok (.iload_n 1, 1) := by decide +kernel
theorem d_Mo_trayed_5 : decode prog_14_method_12_code 5 = .ok (.iconst 4, 1) := by decide +kernel
theorem d_Mo_trayed_6 : decode prog_14_method_12_code 6 = .ok (.if_icmp .lt 7, 3) := by decide +kernel
theorem d_Mo_trayed_9 : decode prog_14_method_12_code 9 = .ok (.iconst 1, 1) := by decide +kernel
theorem d_Mo_trayed_10 : decode prog_14_method_12_code 10 = .ok (.goto 17, 3) := by decide +kernel
theorem d_Mo_trayed_13 : decode prog_14_method_12_code 13 = .ok (.aload_n 0, 1) := by decide +kernel
theorem d_Mo_trayed_14 : decode prog_14_method_12_code 14 = .ok (.getfield 17, 3) := by decide +kernel
theorem d_Mo_trayed_17 : decode prog_14_method_12_code 17 = .ok (.iload_n 1, 1) := by decide +kernel
theorem d_Mo_trayed_18 : decode prog_14_method_12_code 18 = .ok (.iaload, 1) := by decide +kernel
theorem d_Mo_trayed_19 : decode prog_14_method_12_code 19 = .ok (.ifCond .ge 7, 3) := by decide +kernel
theorem d_Mo_trayed_22 : decode prog_14_method_12_code 22 = .ok (.iconst 3, 1) := by decide +kernel
theorem d_Mo_trayed_23 : decode prog_14_method_12_code 23 = .ok (.goto 4, 3) := by decide +kernel
theorem d_Mo_trayed_26 : decode prog_14_method_12_code 26 = .ok (.iconst 0, 1) := by decide +kernel
theorem d_Mo_trayed_27 : decode prog_14_method_12_code 27 = .ok (.ireturn, 1) := by decide +kernel
theorem d_Mo_cut_0 : decode prog_14_method_10_code 0 = .ok (.iload_n 0, 1) := by decide +kernel
theorem d_Mo_cut_1 : decode prog_14_method_10_code 1 = .ok (.ifCond .ne 10, 3) := by decide +kernel
theorem d_Mo_cut_4 : decode prog_14_method_10_code 4 = .ok (.lload_n 1, 1) := by decide +kernel
theorem d_Mo_cut_5 : decode prog_14_method_10_code 5 = .ok (.l2i, 1) := by decide +kernel
theorem d_Mo_cut_6 : decode prog_14_method_10_code 6 = .ok (.i2b, 1) := by decide +kernel
theorem d_Mo_cut_7 : decode prog_14_method_10_code 7 = .ok (.i2l, 1) := by decide +kernel
theorem d_Mo_cut_8 : decode prog_14_method_10_code 8 = .ok (.goto 27, 3) := by decide +kernel
theorem d_Mo_cut_11 : decode prog_14_method_10_code 11 = .ok (.iload_n 0, 1) := by decide +kernel
theorem d_Mo_cut_12 : decode prog_14_method_10_code 12 = .ok (.iconst 1, 1) := by decide +kernel
theorem d_Mo_cut_13 : decode prog_14_method_10_code 13 = .ok (.if_icmp .ne 10, 3) := by decide +kernel
theorem d_Mo_cut_16 : decode prog_14_method_10_code 16 = .ok (.lload_n 1, 1) := by decide +kernel
theorem d_Mo_cut_17 : decode prog_14_method_10_code 17 = .ok (.l2i, 1) := by decide +kernel
theorem d_Mo_cut_18 : decode prog_14_method_10_code 18 = .ok (.i2s, 1) := by decide +kernel
theorem d_Mo_cut_19 : decode prog_14_method_10_code 19 = .ok (.i2l, 1) := by decide +kernel
theorem d_Mo_cut_20 : decode prog_14_method_10_code 20 = .ok (.goto 15, 3) := by decide +kernel
theorem d_Mo_cut_23 : decode prog_14_method_10_code 23 = .ok (.iload_n 0, 1) := by decide +kernel
theorem d_Mo_cut_24 : decode prog_14_method_10_code 24 = .ok (.iconst 2, 1) := by decide +kernel
theorem d_Mo_cut_25 : decode prog_14_method_10_code 25 = .ok (.if_icmp .ne 9, 3) := by decide +kernel
theorem d_Mo_cut_28 : decode prog_14_method_10_code 28 = .ok (.lload_n 1, 1) := by decide +kernel
theorem d_Mo_cut_29 : decode prog_14_method_10_code 29 = .ok (.l2i, 1) := by decide +kernel
theorem d_Mo_cut_30 : decode prog_14_method_10_code 30 = .ok (.i2l, 1) := by decide +kernel
theorem d_Mo_cut_31 : decode prog_14_method_10_code 31 = .ok (.goto 4, 3) := by decide +kernel
theorem d_Mo_cut_34 : decode prog_14_method_10_code 34 = .ok (.lload_n 1, 1) := by decide +kernel
theorem d_Mo_cut_35 : decode prog_14_method_10_code 35 = .ok (.lreturn, 1) := by decide +kernel
theorem d_Mo_read_0 : decode prog_14_method_15_code 0 = .ok (.aload_n 0, 1) := by decide +kernel
theorem d_Mo_read_1 : decode prog_14_method_15_code 1 = .ok (.iconst 0, 1) := by decide +kernel
theorem d_Mo_read_2 : decode prog_14_method_15_code 2 = .ok (.putfield 70, 3) := by decide +kernel
theorem d_Mo_read_5 : decode prog_14_method_15_code 5 = .ok (.aload_n 0, 1) := by decide +kernel
theorem d_Mo_read_6 : decode prog_14_method_15_code 6 = .ok (.aload_n 0, 1) := by decide +kernel
theorem d_Mo_read_7 : decode prog_14_method_15_code 7 = .ok (.iload_n 1, 1) := by decide +kernel
theorem d_Mo_read_8 : decode prog_14_method_15_code 8 = .ok (.iload_n 2, 1) := by decide +kernel
theorem d_Mo_read_9 : decode prog_14_method_15_code 9 = .ok (.invokevirtual 93, 3) := by decide +kernel
theorem d_Mo_read_12 : decode prog_14_method_15_code 12 = .ok (.putfield 73, 3) := by decide +kernel
theorem d_Mo_read_15 : decode prog_14_method_15_code 15 = .ok (.aload_n 0, 1) := by decide +kernel
theorem d_Mo_read_16 : decode prog_14_method_15_code 16 = .ok (.getfield 73, 3) := by decide +kernel
theorem d_Mo_read_19 : decode prog_14_method_15_code 19 = .ok (.ifCond .le 9, 3) := by decide +kernel
theorem d_Mo_read_22 : decode prog_14_method_15_code 22 = .ok (.ldc2_w 101, 3) := by decide +kernel
theorem d_Mo_read_25 : decode prog_14_method_15_code 25 = .ok (.goto 14, 3) := by decide +kernel
theorem d_Mo_read_28 : decode prog_14_method_15_code 28 = .ok (.aload_n 0, 1) := by decide +kernel
theorem d_Mo_read_29 : decode prog_14_method_15_code 29 = .ok (.getfield 20, 3) := by decide +kernel
theorem d_Mo_read_32 : decode prog_14_method_15_code 32 = .ok (.bipush 60, 2) := by decide +kernel
theorem d_Mo_read_34 : decode prog_14_method_15_code 34 = .ok (.iload_n 1, 1) := by decide +kernel
theorem d_Mo_read_35 : decode prog_14_method_15_code 35 = .ok (.imul, 1) := by decide +kernel
theorem d_Mo_read_36 : decode prog_14_method_15_code 36 = .ok (.iload_n 2, 1) := by decide +kernel
theorem d_Mo_read_37 : decode prog_14_method_15_code 37 = .ok (.iadd, 1) := by decide +kernel
theorem d_Mo_read_38 : decode prog_14_method_15_code 38 = .ok (.laload, 1) := by decide +kernel
theorem d_Mo_read_39 : decode prog_14_method_15_code 39 = .ok (.lreturn, 1) := by decide +kernel
theorem d_Mo_pour_0 : decode prog_14_method_16_code 0 = .ok (.aload_n 0, 1) := by decide +kernel
theorem d_Mo_pour_1 : decode prog_14_method_16_code 1 = .ok (.iconst 0, 1) := by decide +kernel
theorem d_Mo_pour_2 : decode prog_14_method_16_code 2 = .ok (.putfield 70, 3) := by decide +kernel
theorem d_Mo_pour_5 : decode prog_14_method_16_code 5 = .ok (.aload_n 0, 1) := by decide +kernel
theorem d_Mo_pour_6 : decode prog_14_method_16_code 6 = .ok (.iconst 0, 1) := by decide +kernel
theorem d_Mo_pour_7 : decode prog_14_method_16_code 7 = .ok (.putfield 73, 3) := by decide +kernel
theorem d_Mo_pour_10 : decode prog_14_method_16_code 10 = .ok (.iload_n 1, 1) := by decide +kernel
theorem d_Mo_pour_11 : decode prog_14_method_16_code 11 = .ok (.ifCond .lt 17, 3) := by decide +kernel
theorem d_Mo_pour_14 : decode prog_14_method_16_code 14 = .ok (.iload_n 1, 1) := by decide +kernel
theorem d_Mo_pour_15 : decode prog_14_method_16_code 15 = .ok (.iconst 4, 1) := by decide +kernel
theorem d_Mo_pour_16 : decode prog_14_method_16_code 16 = .ok (.if_icmp .ge 12, 3) := by decide +kernel
theorem d_Mo_pour_19 : decode prog_14_method_16_code 19 = .ok (.iload_n 3, 1) := by decide +kernel
theorem d_Mo_pour_20 : decode prog_14_method_16_code 20 = .ok (.ifCond .lt 8, 3) := by decide +kernel
theorem d_Mo_pour_23 : decode prog_14_method_16_code 23 = .ok (.iload_n 3, 1) := by decide +kernel
theorem d_Mo_pour_24 : decode prog_14_method_16_code 24 = .ok (.iconst 4, 1) := by decide +kernel
theorem d_Mo_pour_25 : decode prog_14_method_16_code 25 = .ok (.if_icmp .lt 9, 3) := by decide +kernel
theorem d_Mo_pour_28 : decode prog_14_method_16_code 28 = .ok (.aload_n 0, 1) := by decide +kernel
theorem d_Mo_pour_29 : decode prog_14_method_16_code 29 = .ok (.iconst 1, 1) := by decide +kernel
theorem d_Mo_pour_30 : decode prog_14_method_16_code 30 = .ok (.invokevirtual 85, 3) := by decide +kernel
theorem d_Mo_pour_33 : decode prog_14_method_16_code 33 = .ok (.ireturn, 1) := by decide +kernel
theorem d_Mo_pour_34 : decode prog_14_method_16_code 34 = .ok (.aload_n 0, 1) := by decide +kernel
theorem d_Mo_pour_35 : decode prog_14_method_16_code 35 = .ok (.getfield 17, 3) := by decide +kernel
theorem d_Mo_pour_38 : decode prog_14_method_16_code 38 = .ok (.iload_n 1, 1) := by decide +kernel
theorem d_Mo_pour_39 : decode prog_14_method_16_code 39 = .ok (.iaload, 1) := by decide +kernel
theorem d_Mo_pour_40 : decode prog_14_method_16_code 40 = .ok (.ifCond .lt 12, 3) := by decide +kernel
theorem d_Mo_pour_43 : decode prog_14_method_16_code 43 = .ok (.aload_n 0, 1) := by decide +kernel
theorem d_Mo_pour_44 : decode prog_14_method_16_code 44 = .ok (.getfield 17, 3) := by decide +kernel
theorem d_Mo_pour_47 : decode prog_14_method_16_code 47 = .ok (.iload_n 3, 1) := by decide +kernel
theorem d_Mo_pour_48 : decode prog_14_method_16_code 48 = .ok (.iaload, 1) := by decide +kernel
theorem d_Mo_pour_49 : decode prog_14_method_16_code 49 = .ok (.ifCond .ge 9, 3) := by decide +kernel
theorem d_Mo_pour_52 : decode prog_14_method_16_code 52 = .ok (.aload_n 0, 1) := by decide +kernel
theorem d_Mo_pour_53 : decode prog_14_method_16_code 53 = .ok (.iconst 3, 1) := by decide +kernel
theorem d_Mo_pour_54 : decode prog_14_method_16_code 54 = .ok (.invokevirtual 85, 3) := by decide +kernel
theorem d_Mo_pour_57 : decode prog_14_method_16_code 57 = .ok (.ireturn, 1) := by decide +kernel
theorem d_Mo_pour_58 : decode prog_14_method_16_code 58 = .ok (.aload_n 0, 1) := by decide +kernel
theorem d_Mo_pour_59 : decode prog_14_method_16_code 59 = .ok (.getfield 13, 3) := by decide +kernel
theorem d_Mo_pour_62 : decode prog_14_method_16_code 62 = .ok (.iload_n 1, 1) := by decide +kernel
theorem d_Mo_pour_63 : decode prog_14_method_16_code 63 = .ok (.iaload, 1) := by decide +kernel
theorem d_Mo_pour_64 : decode prog_14_method_16_code 64 = .ok (.aload_n 0, 1) := by decide +kernel
theorem d_Mo_pour_65 : decode prog_14_method_16_code 65 = .ok (.getfield 13, 3) := by decide +kernel
theorem d_Mo_pour_68 : decode prog_14_method_16_code 68 = .ok (.iload_n 3, 1) := by decide +kernel
theorem d_Mo_pour_69 : decode prog_14_method_16_code 69 = .ok (.iaload, 1) := by decide +kernel
theorem d_Mo_pour_70 : decode prog_14_method_16_code 70 = .ok (.if_icmp .eq 10, 3) := by decide +kernel
theorem d_Mo_pour_73 : decode prog_14_method_16_code 73 = .ok (.aload_n 0, 1) := by decide +kernel
theorem d_Mo_pour_74 : decode prog_14_method_16_code 74 = .ok (.bipush 11, 2) := by decide +kernel
theorem d_Mo_pour_76 : decode prog_14_method_16_code 76 = .ok (.invokevirtual 85, 3) := by decide +kernel
theorem d_Mo_pour_79 : decode prog_14_method_16_code 79 = .ok (.ireturn, 1) := by decide +kernel
theorem d_Mo_pour_80 : decode prog_14_method_16_code 80 = .ok (.iload 5, 2) := by decide +kernel
theorem d_Mo_pour_82 : decode prog_14_method_16_code 82 = .ok (.ifCond .ge 10, 3) := by decide +kernel
theorem d_Mo_pour_85 : decode prog_14_method_16_code 85 = .ok (.aload_n 0, 1) := by decide +kernel
theorem d_Mo_pour_86 : decode prog_14_method_16_code 86 = .ok (.bipush 6, 2) := by decide +kernel
theorem d_Mo_pour_88 : decode prog_14_method_16_code 88 = .ok (.invokevirtual 85, 3) := by decide +kernel
theorem d_Mo_pour_91 : decode prog_14_method_16_code 91 = .ok (.ireturn, 1) := by decide +kernel
theorem d_Mo_pour_92 : decode prog_14_method_16_code 92 = .ok (.iload_n 2, 1) := by decide +kernel
theorem d_Mo_pour_93 : decode prog_14_method_16_code 93 = .ok (.ifCond .lt 43, 3) := by decide +kernel
theorem d_Mo_pour_96 : decode prog_14_method_16_code 96 = .ok (.iload 4, 2) := by decide +kernel
theorem d_Mo_pour_98 : decode prog_14_method_16_code 98 = .ok (.ifCond .lt 38, 3) := by decide +kernel
theorem d_Mo_pour_101 : decode prog_14_method_16_code 101 = .ok (.iload_n 2, 1) := by decide +kernel
theorem d_Mo_pour_102 : decode prog_14_method_16_code 102 = .ok (.i2l, 1) := by decide +kernel
theorem d_Mo_pour_103 : decode prog_14_method_16_code 103 = .ok (.iload 5, 2) := by decide +kernel
theorem d_Mo_pour_105 : decode prog_14_method_16_code 105 = .ok (.i2l, 1) := by decide +kernel
theorem d_Mo_pour_106 : decode prog_14_method_16_code 106 = .ok (.ladd, 1) := by decide +kernel
theorem d_Mo_pour_107 : decode prog_14_method_16_code 107 = .ok (.aload_n 0, 1) := by decide +kernel
theorem d_Mo_pour_108 : decode prog_14_method_16_code 108 = .ok (.getfield 17, 3) := by decide +kernel
theorem d_Mo_pour_111 : decode prog_14_method_16_code 111 = .ok (.iload_n 1, 1) := by decide +kernel
theorem d_Mo_pour_112 : decode prog_14_method_16_code 112 = .ok (.iaload, 1) := by decide +kernel
theorem d_Mo_pour_113 : decode prog_14_method_16_code 113 = .ok (.i2l, 1) := by decide +kernel
theorem d_Mo_pour_114 : decode prog_14_method_16_code 114 = .ok (.lcmp, 1) := by decide +kernel
theorem d_Mo_pour_115 : decode prog_14_method_16_code 115 = .ok (.ifCond .gt 21, 3) := by decide +kernel
theorem d_Mo_pour_118 : decode prog_14_method_16_code 118 = .ok (.iload 4, 2) := by decide +kernel
theorem d_Mo_pour_120 : decode prog_14_method_16_code 120 = .ok (.i2l, 1) := by decide +kernel
theorem d_Mo_pour_121 : decode prog_14_method_16_code 121 = .ok (.iload 5, 2) := by decide +kernel
theorem d_Mo_pour_123 : decode prog_14_method_16_code 123 = .ok (.i2l, 1) := by decide +kernel
theorem d_Mo_pour_124 : decode prog_14_method_16_code 124 = .ok (.ladd, 1) := by decide +kernel
theorem d_Mo_pour_125 : decode prog_14_method_16_code 125 = .ok (.aload_n 0, 1) := by decide +kernel
theorem d_Mo_pour_126 : decode prog_14_method_16_code 126 = .ok (.getfield 17, 3) := by decide +kernel
theorem d_Mo_pour_129 : decode prog_14_method_16_code 129 = .ok (.iload_n 3, 1) := by decide +kernel
theorem d_Mo_pour_130 : decode prog_14_method_16_code 130 = .ok (.iaload, 1) := by decide +kernel
theorem d_Mo_pour_131 : decode prog_14_method_16_code 131 = .ok (.i2l, 1) := by decide +kernel
theorem d_Mo_pour_132 : decode prog_14_method_16_code 132 = .ok (.lcmp, 1) := by decide +kernel
theorem d_Mo_pour_133 : decode prog_14_method_16_code 133 = .ok (.ifCond .le 9, 3) := by decide +kernel
theorem d_Mo_pour_136 : decode prog_14_method_16_code 136 = .ok (.aload_n 0, 1) := by decide +kernel
theorem d_Mo_pour_137 : decode prog_14_method_16_code 137 = .ok (.iconst 4, 1) := by decide +kernel
theorem d_Mo_pour_138 : decode prog_14_method_16_code 138 = .ok (.invokevirtual 85, 3) := by decide +kernel
theorem d_Mo_pour_141 : decode prog_14_method_16_code 141 = .ok (.ireturn, 1) := by decide +kernel
theorem d_Mo_pour_142 : decode prog_14_method_16_code 142 = .ok (.iload_n 2, 1) := by decide +kernel
theorem d_Mo_pour_143 : decode prog_14_method_16_code 143 = .ok (.iload 4, 2) := by decide +kernel
theorem d_Mo_pour_145 : decode prog_14_method_16_code 145 = .ok (.if_icmp .ge 7, 3) := by decide +kernel
theorem d_Mo_pour_148 : decode prog_14_method_16_code 148 = .ok (.iconst 1, 1) := by decide +kernel
theorem d_Mo_pour_149 : decode prog_14_method_16_code 149 = .ok (.goto 4, 3) := by decide +kernel
theorem d_Mo_pour_152 : decode prog_14_method_16_code 152 = .ok (.iconst 0, 1) := by decide +kernel
theorem d_Mo_pour_153 : decode prog_14_method_16_code 153 = .ok (.istore 6, 2) := by decide +kernel
theorem d_Mo_pour_155 : decode prog_14_method_16_code 155 = .ok (.iconst 0, 1) := by decide +kernel
theorem d_Mo_pour_156 : decode prog_14_method_16_code 156 = .ok (.istore 7, 2) := by decide +kernel
theorem d_Mo_pour_158 : decode prog_14_method_16_code 158 = .ok (.iload 7, 2) := by decide +kernel
theorem d_Mo_pour_160 : decode prog_14_method_16_code 160 = .ok (.iload 5, 2) := by decide +kernel
theorem d_Mo_pour_162 : decode prog_14_method_16_code 162 = .ok (.if_icmp .ge 57, 3) := by decide +kernel
theorem d_Mo_pour_165 : decode prog_14_method_16_code 165 = .ok (.iload 6, 2) := by decide +kernel
theorem d_Mo_pour_167 : decode prog_14_method_16_code 167 = .ok (.ifCond .eq 13, 3) := by decide +kernel
theorem d_Mo_pour_170 : decode prog_14_method_16_code 170 = .ok (.iload 5, 2) := by decide +kernel
theorem d_Mo_pour_172 : decode prog_14_method_16_code 172 = .ok (.iconst 1, 1) := by decide +kernel
theorem d_Mo_pour_173 : decode prog_14_method_16_code 173 = .ok (.isub, 1) := by decide +kernel
theorem d_Mo_pour_174 : decode prog_14_method_16_code 174 = .ok (.iload 7, 2) := by decide +kernel
theorem d_Mo_pour_176 : decode prog_14_method_16_code 176 = .ok (.isub, 1) := by decide +kernel
theorem d_Mo_pour_177 : decode prog_14_method_16_code 177 = .ok (.goto 5, 3) := by decide +kernel
theorem d_Mo_pour_180 : decode prog_14_method_16_code 180 = .ok (.iload 7, 2) := by decide +kernel
theorem d_Mo_pour_182 : decode prog_14_method_16_code 182 = .ok (.istore 8, 2) := by decide +kernel
theorem d_Mo_pour_184 : decode prog_14_method_16_code 184 = .ok (.aload_n 0, 1) := by decide +kernel
theorem d_Mo_pour_185 : decode prog_14_method_16_code 185 = .ok (.getfield 20, 3) := by decide +kernel
theorem d_Mo_pour_188 : decode prog_14_method_16_code 188 = .ok (.bipush 60, 2) := by decide +kernel
theorem d_Mo_pour_190 : decode prog_14_method_16_code 190 = .ok (.iload_n 3, 1) := by decide +kernel
theorem d_Mo_pour_191 : decode prog_14_method_16_code 191 = .ok (.imul, 1) := by decide +kernel
theorem d_Mo_pour_192 : decode prog_14_method_16_code 192 = .ok (.iload 4, 2) := by decide +kernel
theorem d_Mo_pour_194 : decode prog_14_method_16_code 194 = .ok (.iadd, 1) := by decide +kernel
theorem d_Mo_pour_195 : decode prog_14_method_16_code 195 = .ok (.iload 8, 2) := by decide +kernel
theorem d_Mo_pour_197 : decode prog_14_method_16_code 197 = .ok (.iadd, 1) := by decide +kernel
theorem d_Mo_pour_198 : decode prog_14_method_16_code 198 = .ok (.aload_n 0, 1) := by decide +kernel
theorem d_Mo_pour_199 : decode prog_14_method_16_code 199 = .ok (.getfield 20, 3) := by decide +kernel
theorem d_Mo_pour_202 : decode prog_14_method_16_code 202 = .ok (.bipush 60, 2) := by decide +kernel
theorem d_Mo_pour_204 : decode prog_14_method_16_code 204 = .ok (.iload_n 1, 1) := by decide +kernel
theorem d_Mo_pour_205 : decode prog_14_method_16_code 205 = .ok (.imul, 1) := by decide +kernel
theorem d_Mo_pour_206 : decode prog_14_method_16_code 206 = .ok (.iload_n 2, 1) := by decide +kernel
theorem d_Mo_pour_207 : decode prog_14_method_16_code 207 = .ok (.iadd, 1) := by decide +kernel
theorem d_Mo_pour_208 : decode prog_14_method_16_code 208 = .ok (.iload 8, 2) := by decide +kernel
theorem d_Mo_pour_210 : decode prog_14_method_16_code 210 = .ok (.iadd, 1) := by decide +kernel
theorem d_Mo_pour_211 : decode prog_14_method_16_code 211 = .ok (.laload, 1) := by decide +kernel
theorem d_Mo_pour_212 : decode prog_14_method_16_code 212 = .ok (.lastore, 1) := by decide +kernel
theorem d_Mo_pour_213 : decode prog_14_method_16_code 213 = .ok (.iinc 7 1, 3) := by decide +kernel
theorem d_Mo_pour_216 : decode prog_14_method_16_code 216 = .ok (.goto (-58), 3) := by decide +kernel
theorem d_Mo_pour_219 : decode prog_14_method_16_code 219 = .ok (.iconst 1, 1) := by decide +kernel
theorem d_Mo_pour_220 : decode prog_14_method_16_code 220 = .ok (.ireturn, 1) := by decide +kernel
theorem d_Mo_feed_0 : decode prog_14_method_49_code 0 = .ok (.aload_n 0, 1) := by decide +kernel
theorem d_Mo_feed_1 : decode prog_14_method_49_code 1 = .ok (.iconst 0, 1) := by decide +kernel
theorem d_Mo_feed_2 : decode prog_14_method_49_code 2 = .ok (.putfield 70, 3) := by decide +kernel
theorem d_Mo_feed_5 : decode prog_14_method_49_code 5 = .ok (.aload_n 0, 1) := by decide +kernel
theorem d_Mo_feed_6 : decode prog_14_method_49_code 6 = .ok (.getfield 218, 3) := by decide +kernel
theorem d_Mo_feed_9 : decode prog_14_method_49_code 9 = .ok (.bipush 20, 2) := by decide +kernel
theorem d_Mo_feed_11 : decode prog_14_method_49_code 11 = .ok (.iadd, 1) := by decide +kernel
theorem d_Mo_feed_12 : decode prog_14_method_49_code 12 = .ok (.sipush 900, 3) := by decide +kernel
theorem d_Mo_feed_15 : decode prog_14_method_49_code 15 = .ok (.if_icmp .le 5, 3) := by decide +kernel
theorem d_Mo_feed_18 : decode prog_14_method_49_code 18 = .ok (.iconst (-1), 1) := by decide +kernel
theorem d_Mo_feed_19 : decode prog_14_method_49_code 19 = .ok (.ireturn, 1) := by decide +kernel
theorem d_Mo_feed_20 : decode prog_14_method_49_code 20 = .ok (.aload_n 0, 1) := by decide +kernel
theorem d_Mo_feed_21 : decode prog_14_method_49_code 21 = .ok (.iload_n 1, 1) := by decide +kernel
theorem d_Mo_feed_22 : decode prog_14_method_49_code 22 = .ok (.invokevirtual 221, 3) := by decide +kernel
theorem d_Mo_feed_25 : decode prog_14_method_49_code 25 = .ok (.aload_n 0, 1) := by decide +kernel
theorem d_Mo_feed_26 : decode prog_14_method_49_code 26 = .ok (.iload_n 2, 1) := by decide +kernel
theorem d_Mo_feed_27 : decode prog_14_method_49_code 27 = .ok (.invokevirtual 221, 3) := by decide +kernel
theorem d_Mo_feed_30 : decode prog_14_method_49_code 30 = .ok (.aload_n 0, 1) := by decide +kernel
theorem d_Mo_feed_31 : decode prog_14_method_49_code 31 = .ok (.iload_n 3, 1) := by decide +kernel
theorem d_Mo_feed_32 : decode prog_14_method_49_code 32 = .ok (.invokevirtual 221, 3) := by decide +kernel
theorem d_Mo_feed_35 : decode prog_14_method_49_code 35 = .ok (.aload_n 0, 1) := by decide +kernel
theorem d_Mo_feed_36 : decode prog_14_method_49_code 36 = .ok (.iload 4, 2) := by decide +kernel
theorem d_Mo_feed_38 : decode prog_14_method_49_code 38 = .ok (.invokevirtual 221, 3) := by decide +kernel
theorem d_Mo_feed_41 : decode prog_14_method_49_code 41 = .ok (.aload_n 0, 1) := by decide +kernel
theorem d_Mo_feed_42 : decode prog_14_method_49_code 42 = .ok (.iload 5, 2) := by decide +kernel
theorem d_Mo_feed_44 : decode prog_14_method_49_code 44 = .ok (.invokevirtual 221, 3) := by decide +kernel
theorem d_Mo_feed_47 : decode prog_14_method_49_code 47 = .ok (.aload_n 0, 1) := by decide +kernel
theorem d_Mo_feed_48 : decode prog_14_method_49_code 48 = .ok (.getfield 218, 3) := by decide +kernel
theorem d_Mo_feed_51 : decode prog_14_method_49_code 51 = .ok (.ireturn, 1) := by decide +kernel
theorem d_Mo_lay_0 : decode prog_14_method_50_code 0 = .ok (.iconst 3, 1) := by decide +kernel
theorem d_Mo_lay_1 : decode prog_14_method_50_code 1 = .ok (.istore_n 2, 1) := by decide +kernel
theorem d_Mo_lay_2 : decode prog_14_method_50_code 2 = .ok (.iload_n 2, 1) := by decide +kernel
theorem d_Mo_lay_3 : decode prog_14_method_50_code 3 = .ok (.ifCond .lt 35, 3) := by decide +kernel
theorem d_Mo_lay_6 : decode prog_14_method_50_code 6 = .ok (.aload_n 0, 1) := by decide +kernel
theorem d_Mo_lay_7 : decode prog_14_method_50_code 7 = .ok (.getfield 24, 3) := by decide +kernel
theorem d_Mo_lay_10 : decode prog_14_method_50_code 10 = .ok (.aload_n 0, 1) := by decide +kernel
theorem d_Mo_lay_11 : decode prog_14_method_50_code 11 = .ok (.getfield 218, 3) := by decide +kernel
theorem d_Mo_lay_14 : decode prog_14_method_50_code 14 = .ok (.iload_n 1, 1) := by decide +kernel
theorem d_Mo_lay_15 : decode prog_14_method_50_code 15 = .ok (.bipush 8, 2) := by decide +kernel
theorem d_Mo_lay_17 : decode prog_14_method_50_code 17 = .ok (.iload_n 2, 1) := by decide +kernel
theorem d_Mo_lay_18 : decode prog_14_method_50_code 18 = .ok (.imul, 1) := by decide +kernel
theorem d_Mo_lay_19 : decode prog_14_method_50_code 19 = .ok (.ishr, 1) := by decide +kernel
theorem d_Mo_lay_20 : decode prog_14_method_50_code 20 = .ok (.i2b, 1) := by decide +kernel
theorem d_Mo_lay_21 : decode prog_14_method_50_code 21 = .ok (.bastore, 1) := by decide +kernel
theorem d_Mo_lay_22 : decode prog_14_method_50_code 22 = .ok (.aload_n 0, 1) := by decide +kernel
theorem d_Mo_lay_23 : decode prog_14_method_50_code 23 = .ok (.dup, 1) := by decide +kernel
theorem d_Mo_lay_24 : decode prog_14_method_50_code 24 = .ok (.getfield 218, 3) := by decide +kernel
theorem d_Mo_lay_27 : decode prog_14_method_50_code 27 = .ok (.iconst 1, 1) := by decide +kernel
theorem d_Mo_lay_28 : decode prog_14_method_50_code 28 = .ok (.iadd, 1) := by decide +kernel
theorem d_Mo_lay_29 : decode prog_14_method_50_code 29 = .ok (.putfield 218, 3) := by decide +kernel
theorem d_Mo_lay_32 : decode prog_14_method_50_code 32 = .ok (.iinc 2 (-1), 3) := by decide +kernel
theorem d_Mo_lay_35 : decode prog_14_method_50_code 35 = .ok (.goto (-33), 3) := by decide +kernel
theorem d_Mo_lay_38 : decode prog_14_method_50_code 38 = .ok (.return_, 1) := by decide +kernel
theorem d_Mo_fault_0 : decode prog_14_method_53_code 0 = .ok (.aload_n 0, 1) := by decide +kernel
theorem d_Mo_fault_1 : decode prog_14_method_53_code 1 = .ok (.iconst 0, 1) := by decide +kernel
theorem d_Mo_fault_2 : decode prog_14_method_53_code 2 = .ok (.putfield 70, 3) := by decide +kernel
theorem d_Mo_fault_5 : decode prog_14_method_53_code 5 = .ok (.iload_n 1, 1) := by decide +kernel
theorem d_Mo_fault_6 : decode prog_14_method_53_code 6 = .ok (.ifCond .ne 10, 3) := by decide +kernel
theorem d_Mo_fault_9 : decode prog_14_method_53_code 9 = .ok (.aload_n 0, 1) := by decide +kernel
theorem d_Mo_fault_10 : decode prog_14_method_53_code 10 = .ok (.getfield 28, 3) := by decide +kernel
theorem d_Mo_fault_13 : decode prog_14_method_53_code 13 = .ok (.goto 16, 3) := by decide +kernel
theorem d_Mo_fault_16 : decode prog_14_method_53_code 16 = .ok (.iload_n 1, 1) := by decide +kernel
theorem d_Mo_fault_17 : decode prog_14_method_53_code 17 = .ok (.iconst 1, 1) := by decide +kernel
theorem d_Mo_fault_18 : decode prog_14_method_53_code 18 = .ok (.if_icmp .ne 10, 3) := by decide +kernel
theorem d_Mo_fault_21 : decode prog_14_method_53_code 21 = .ok (.aload_n 0, 1) := by decide +kernel
theorem d_Mo_fault_22 : decode prog_14_method_53_code 22 = .ok (.getfield 32, 3) := by decide +kernel
theorem d_Mo_fault_25 : decode prog_14_method_53_code 25 = .ok (.goto 4, 3) := by decide +kernel
theorem d_Mo_fault_28 : decode prog_14_method_53_code 28 = .ok (.iconst (-1), 1) := by decide +kernel
theorem d_Mo_fault_29 : decode prog_14_method_53_code 29 = .ok (.ireturn, 1) := by decide +kernel
theorem d_Mo_fen_0 : decode prog_14_method_68_code 0 = .ok (.aload_n 0, 1) := by decide +kernel
theorem d_Mo_fen_1 : decode prog_14_method_68_code 1 = .ok (.iconst 0, 1) := by decide +kernel
theorem d_Mo_fen_2 : decode prog_14_method_68_code 2 = .ok (.putfield 70, 3) := by decide +kernel
theorem d_Mo_fen_5 : decode prog_14_method_68_code 5 = .ok (.aload_n 0, 1) := by decide +kernel
theorem d_Mo_fen_6 : decode prog_14_method_68_code 6 = .ok (.iconst 0, 1) := by decide +kernel
theorem d_Mo_fen_7 : decode prog_14_method_68_code 7 = .ok (.putfield 73, 3) := by decide +kernel
theorem d_Mo_fen_10 : decode prog_14_method_68_code 10 = .ok (.aload_n 0, 1) := by decide +kernel
theorem d_Mo_fen_11 : decode prog_14_method_68_code 11 = .ok (.iload_n 1, 1) := by decide +kernel
theorem d_Mo_fen_12 : decode prog_14_method_68_code 12 = .ok (.sipush 900, 3) := by decide +kernel
theorem d_Mo_fen_15 : decode prog_14_method_68_code 15 = .ok (.invokevirtual 283, 3) := by decide +kernel
theorem d_Mo_fen_18 : decode prog_14_method_68_code 18 = .ok (.ifCond .ne 5, 3) := by decide +kernel
theorem d_Mo_fen_21 : decode prog_14_method_68_code 21 = .ok (.iconst (-1), 1) := by decide +kernel
theorem d_Mo_fen_22 : decode prog_14_method_68_code 22 = .ok (.ireturn, 1) := by decide +kernel
theorem d_Mo_fen_23 : decode prog_14_method_68_code 23 = .ok (.aload_n 0, 1) := by decide +kernel
theorem d_Mo_fen_24 : decode prog_14_method_68_code 24 = .ok (.iconst 4, 1) := by decide +kernel
theorem d_Mo_fen_25 : decode prog_14_method_68_code 25 = .ok (.invokevirtual 66, 3) := by decide +kernel
theorem d_Mo_fen_28 : decode prog_14_method_68_code 28 = .ok (.aload_n 0, 1) := by decide +kernel
theorem d_Mo_fen_29 : decode prog_14_method_68_code 29 = .ok (.iconst 0, 1) := by decide +kernel
theorem d_Mo_fen_30 : decode prog_14_method_68_code 30 = .ok (.putfield 243, 3) := by decide +kernel
theorem d_Mo_fen_33 : decode prog_14_method_68_code 33 = .ok (.aload_n 0, 1) := by decide +kernel
theorem d_Mo_fen_34 : decode prog_14_method_68_code 34 = .ok (.getfield 202, 3) := by decide +kernel
theorem d_Mo_fen_37 : decode prog_14_method_68_code 37 = .ok (.ifCond .ne 27, 3) := by decide +kernel
theorem d_Mo_fen_40 : decode prog_14_method_68_code 40 = .ok (.aload_n 0, 1) := by decide +kernel
theorem d_Mo_fen_41 : decode prog_14_method_68_code 41 = .ok (.getfield 125, 3) := by decide +kernel
theorem d_Mo_fen_44 : decode prog_14_method_68_code 44 = .ok (.ifCond .eq 20, 3) := by decide +kernel
theorem d_Mo_fen_47 : decode prog_14_method_68_code 47 = .ok (.aload_n 0, 1) := by decide +kernel
theorem d_Mo_fen_48 : decode prog_14_method_68_code 48 = .ok (.invokevirtual 286, 3) := by decide +kernel
theorem d_Mo_fen_51 : decode prog_14_method_68_code 51 = .ok (.aload_n 0, 1) := by decide +kernel
theorem d_Mo_fen_52 : decode prog_14_method_68_code 52 = .ok (.aload_n 0, 1) := by decide +kernel
theorem d_Mo_fen_53 : decode prog_14_method_68_code 53 = .ok (.bipush 59, 2) := by decide +kernel
theorem d_Mo_fen_55 : decode prog_14_method_68_code 55 = .ok (.invokevirtual 289, 3) := by decide +kernel
theorem d_Mo_fen_58 : decode prog_14_method_68_code 58 = .ok (.invokevirtual 239, 3) := by decide +kernel
theorem d_Mo_fen_61 : decode prog_14_method_68_code 61 = .ok (.goto (-28), 3) := by decide +kernel
theorem d_Mo_fen_64 : decode prog_14_method_68_code 64 = .ok (.aload_n 0, 1) := by decide +kernel
theorem d_Mo_fen_65 : decode prog_14_method_68_code 65 = .ok (.invokevirtual 292, 3) := by decide +kernel
theorem d_Mo_fen_68 : decode prog_14_method_68_code 68 = .ok (.ifCond .ne 5, 3) := by decide +kernel
theorem d_Mo_fen_71 : decode prog_14_method_68_code 71 = .ok (.iconst (-1), 1) := by decide +kernel
theorem d_Mo_fen_72 : decode prog_14_method_68_code 72 = .ok (.ireturn, 1) := by decide +kernel
theorem d_Mo_fen_73 : decode prog_14_method_68_code 73 = .ok (.aload_n 0, 1) := by decide +kernel
theorem d_Mo_fen_74 : decode prog_14_method_68_code 74 = .ok (.iconst 4, 1) := by decide +kernel
theorem d_Mo_fen_75 : decode prog_14_method_68_code 75 = .ok (.iconst 0, 1) := by decide +kernel
theorem d_Mo_fen_76 : decode prog_14_method_68_code 76 = .ok (.invokevirtual 295, 3) := by decide +kernel
theorem d_Mo_fen_79 : decode prog_14_method_68_code 79 = .ok (.aload_n 0, 1) := by decide +kernel
theorem d_Mo_fen_80 : decode prog_14_method_68_code 80 = .ok (.getfield 35, 3) := by decide +kernel
theorem d_Mo_fen_83 : decode prog_14_method_68_code 83 = .ok (.iconst 3, 1) := by decide +kernel
theorem d_Mo_fen_84 : decode prog_14_method_68_code 84 = .ok (.iaload, 1) := by decide +kernel
theorem d_Mo_fen_85 : decode prog_14_method_68_code 85 = .ok (.ireturn, 1) := by decide +kernel
theorem d_Mo_starts_0 : decode prog_14_method_51_code 0 = .ok (.iload_n 1, 1) := by decide +kernel
theorem d_Mo_starts_1 : decode prog_14_method_51_code 1 = .ok (.ifCond .lt 16, 3) := by decide +kernel
theorem d_Mo_starts_4 : decode prog_14_method_51_code 4 = .ok (.iload_n 1, 1) := by decide +kernel
theorem d_Mo_starts_5 : decode prog_14_method_51_code 5 = .ok (.aload_n 0, 1) := by decide +kernel
theorem d_Mo_starts_6 : decode prog_14_method_51_code 6 = .ok (.getfield 218, 3) := by decide +kernel
theorem d_Mo_starts_9 : decode prog_14_method_51_code 9 = .ok (.if_icmp .gt 8, 3) := by decide +kernel
theorem d_Mo_starts_12 : decode prog_14_method_51_code 12 = .ok (.iload_n 1, 1) := by decide +kernel
theorem d_Mo_starts_13 : decode prog_14_method_51_code 13 = .ok (.iload_n 2, 1) := by decide +kernel
theorem d_Mo_starts_14 : decode prog_14_method_51_code 14 = .ok (.if_icmp .le 9, 3) := by decide +kernel
theorem d_Mo_starts_17 : decode prog_14_method_51_code 17 = .ok (.aload_n 0, 1) := by decide +kernel
theorem d_Mo_starts_18 : decode prog_14_method_51_code 18 = .ok (.iconst 5, 1) := by decide +kernel
theorem d_Mo_starts_19 : decode prog_14_method_51_code 19 = .ok (.invokevirtual 85, 3) := by decide +kernel
theorem d_Mo_starts_22 : decode prog_14_method_51_code 22 = .ok (.ireturn, 1) := by decide +kernel
theorem d_Mo_starts_23 : decode prog_14_method_51_code 23 = .ok (.aload_n 0, 1) := by decide +kernel
theorem d_Mo_starts_24 : decode prog_14_method_51_code 24 = .ok (.iload_n 1, 1) := by decide +kernel
theorem d_Mo_starts_25 : decode prog_14_method_51_code 25 = .ok (.putfield 113, 3) := by decide +kernel
theorem d_Mo_starts_28 : decode prog_14_method_51_code 28 = .ok (.aload_n 0, 1) := by decide +kernel
theorem d_Mo_starts_29 : decode prog_14_method_51_code 29 = .ok (.iconst 0, 1) := by decide +kernel
theorem d_Mo_starts_30 : decode prog_14_method_51_code 30 = .ok (.putfield 218, 3) := by decide +kernel
theorem d_Mo_starts_33 : decode prog_14_method_51_code 33 = .ok (.aload_n 0, 1) := by decide +kernel
theorem d_Mo_starts_34 : decode prog_14_method_51_code 34 = .ok (.iconst 0, 1) := by decide +kernel
theorem d_Mo_starts_35 : decode prog_14_method_51_code 35 = .ok (.putfield 116, 3) := by decide +kernel
theorem d_Mo_starts_38 : decode prog_14_method_51_code 38 = .ok (.aload_n 0, 1) := by decide +kernel
theorem d_Mo_starts_39 : decode prog_14_method_51_code 39 = .ok (.iconst 0, 1) := by decide +kernel
theorem d_Mo_starts_40 : decode prog_14_method_51_code 40 = .ok (.putfield 202, 3) := by decide +kernel
theorem d_Mo_starts_43 : decode prog_14_method_51_code 43 = .ok (.aload_n 0, 1) := by decide +kernel
theorem d_Mo_starts_44 : decode prog_14_method_51_code 44 = .ok (.invokevirtual 212, 3) := by decide +kernel
theorem d_Mo_starts_47 : decode prog_14_method_51_code 47 = .ok (.iconst 1, 1) := by decide +kernel
theorem d_Mo_starts_48 : decode prog_14_method_51_code 48 = .ok (.ireturn, 1) := by decide +kernel
theorem d_Mo_advance_0 : decode prog_14_method_25_code 0 = .ok (.aload_n 0, 1) := by decide +kernel
theorem d_Mo_advance_1 : decode prog_14_method_25_code 1 = .ok (.aload_n 0, 1) := by decide +kernel
theorem d_Mo_advance_2 : decode prog_14_method_25_code 2 = .ok (.getfield 116, 3) := by decide +kernel
theorem d_Mo_advance_5 : decode prog_14_method_25_code 5 = .ok (.putfield 119, 3) := by decide +kernel
theorem d_Mo_advance_8 : decode prog_14_method_25_code 8 = .ok (.aload_n 0, 1) := by decide +kernel
theorem d_Mo_advance_9 : decode prog_14_method_25_code 9 = .ok (.getfield 119, 3) := by decide +kernel
theorem d_Mo_advance_12 : decode prog_14_method_25_code 12 = .ok (.aload_n 0, 1) := by decide +kernel
theorem d_Mo_advance_13 : decode prog_14_method_25_code 13 = .ok (.getfield 113, 3) := by decide +kernel
theorem d_Mo_advance_16 : decode prog_14_method_25_code 16 = .ok (.if_icmp .ge 42, 3) := by decide +kernel
theorem d_Mo_advance_19 : decode prog_14_method_25_code 19 = .ok (.aload_n 0, 1) := by decide +kernel
theorem d_Mo_advance_20 : decode prog_14_method_25_code 20 = .ok (.aload_n 0, 1) := by decide +kernel
theorem d_Mo_advance_21 : decode prog_14_method_25_code 21 = .ok (.getfield 119, 3) := by decide +kernel
theorem d_Mo_advance_24 : decode prog_14_method_25_code 24 = .ok (.invokevirtual 122, 3) := by decide +kernel
theorem d_Mo_advance_27 : decode prog_14_method_25_code 27 = .ok (.bipush 10, 2) := by decide +kernel
theorem d_Mo_advance_29 : decode prog_14_method_25_code 29 = .ok (.if_icmp .eq 16, 3) := by decide +kernel
theorem d_Mo_advance_32 : decode prog_14_method_25_code 32 = .ok (.aload_n 0, 1) := by decide +kernel
theorem d_Mo_advance_33 : decode prog_14_method_25_code 33 = .ok (.aload_n 0, 1) := by decide +kernel
theorem d_Mo_advance_34 : decode prog_14_method_25_code 34 = .ok (.getfield 119, 3) := by decide +kernel
theorem d_Mo_advance_37 : decode prog_14_method_25_code 37 = .ok (.invokevirtual 122, 3) := by decide +kernel
theorem d_Mo_advance_40 : decode prog_14_method_25_code 40 = .ok (.bipush 32, 2) := by decide +kernel
theorem d_Mo_advance_42 : decode prog_14_method_25_code 42 = .ok (.if_icmp .ne 16, 3) := by decide +kernel
theorem d_Mo_advance_45 : decode prog_14_method_25_code 45 = .ok (.aload_n 0, 1) := by decide +kernel
theorem d_Mo_advance_46 : decode prog_14_method_25_code 46 = .ok (.dup, 1) := by decide +kernel
theorem d_Mo_advance_47 : decode prog_14_method_25_code 47 = .ok (.getfield 119, 3) := by decide +kernel
theorem d_Mo_advance_50 : decode prog_14_method_25_code 50 = .ok (.iconst 1, 1) := by decide +kernel
theorem d_Mo_advance_51 : decode prog_14_method_25_code 51 = .ok (.iadd, 1) := by decide +kernel
theorem d_Mo_advance_52 : decode prog_14_method_25_code 52 = .ok (.putfield 119, 3) := by decide +kernel
theorem d_Mo_advance_55 : decode prog_14_method_25_code 55 = .ok (.goto (-47), 3) := by decide +kernel
theorem d_Mo_advance_58 : decode prog_14_method_25_code 58 = .ok (.aload_n 0, 1) := by decide +kernel
theorem d_Mo_advance_59 : decode prog_14_method_25_code 59 = .ok (.aload_n 0, 1) := by decide +kernel
theorem d_Mo_advance_60 : decode prog_14_method_25_code 60 = .ok (.getfield 119, 3) := by decide +kernel
theorem d_Mo_advance_63 : decode prog_14_method_25_code 63 = .ok (.putfield 116, 3) := by decide +kernel
theorem d_Mo_advance_66 : decode prog_14_method_25_code 66 = .ok (.aload_n 0, 1) := by decide +kernel
theorem d_Mo_advance_67 : decode prog_14_method_25_code 67 = .ok (.getfield 119, 3) := by decide +kernel
theorem d_Mo_advance_70 : decode prog_14_method_25_code 70 = .ok (.aload_n 0, 1) := by decide +kernel
theorem d_Mo_advance_71 : decode prog_14_method_25_code 71 = .ok (.getfield 113, 3) := by decide +kernel
theorem d_Mo_advance_74 : decode prog_14_method_25_code 74 = .ok (.if_icmp .lt 9, 3) := by decide +kernel
theorem d_Mo_advance_77 : decode prog_14_method_25_code 77 = .ok (.aload_n 0, 1) := by decide +kernel
theorem d_Mo_advance_78 : decode prog_14_method_25_code 78 = .ok (.iconst 0, 1) := by decide +kernel
theorem d_Mo_advance_79 : decode prog_14_method_25_code 79 = .ok (.putfield 125, 3) := by decide +kernel
theorem d_Mo_advance_82 : decode prog_14_method_25_code 82 = .ok (.return_, 1) := by decide +kernel
theorem d_Mo_advance_83 : decode prog_14_method_25_code 83 = .ok (.aload_n 0, 1) := by decide +kernel
theorem d_Mo_advance_84 : decode prog_14_method_25_code 84 = .ok (.aload_n 0, 1) := by decide +kernel
theorem d_Mo_advance_85 : decode prog_14_method_25_code 85 = .ok (.getfield 119, 3) := by decide +kernel
theorem d_Mo_advance_88 : decode prog_14_method_25_code 88 = .ok (.invokevirtual 122, 3) := by decide +kernel
theorem d_Mo_advance_91 : decode prog_14_method_25_code 91 = .ok (.istore_n 1, 1) := by decide +kernel
theorem d_Mo_advance_92 : decode prog_14_method_25_code 92 = .ok (.iload_n 1, 1) := by decide +kernel
theorem d_Mo_advance_93 : decode prog_14_method_25_code 93 = .ok (.invokestatic 128, 3) := by decide +kernel
theorem d_Mo_advance_96 : decode prog_14_method_25_code 96 = .ok (.ifCond .eq 102, 3) := by decide +kernel
theorem d_Mo_advance_99 : decode prog_14_method_25_code 99 = .ok (.aload_n 0, 1) := by decide +kernel
theorem d_Mo_advance_100 : decode prog_14_method_25_code 100 = .ok (.iconst 1, 1) := by decide +kernel
theorem d_Mo_advance_101 : decode prog_14_method_25_code 101 = .ok (.putfield 125, 3) := by decide +kernel
theorem d_Mo_advance_104 : decode prog_14_method_25_code 104 = .ok (.aload_n 0, 1) := by decide +kernel
theorem d_Mo_advance_105 : decode prog_14_method_25_code 105 = .ok (.lconst 0, 1) := by decide +kernel
theorem d_Mo_advance_106 : decode prog_14_method_25_code 106 = .ok (.putfield 131, 3) := by decide +kernel
theorem d_Mo_advance_109 : decode prog_14_method_25_code 109 = .ok (.aload_n 0, 1) := by decide +kernel
theorem d_Mo_advance_110 : decode prog_14_method_25_code 110 = .ok (.aload_n 0, 1) := by decide +kernel
theorem d_Mo_advance_111 : decode prog_14_method_25_code 111 = .ok (.getfield 116, 3) := by decide +kernel
theorem d_Mo_advance_114 : decode prog_14_method_25_code 114 = .ok (.invokevirtual 122, 3) := by decide +kernel
theorem d_Mo_advance_117 : decode prog_14_method_25_code 117 = .ok (.invokestatic 128, 3) := by decide +kernel
theorem d_Mo_advance_120 : decode prog_14_method_25_code 120 = .ok (.ifCond .eq 62, 3) := by decide +kernel
theorem d_Mo_advance_123 : decode prog_14_method_25_code 123 = .ok (.aload_n 0, 1) := by decide +kernel
theorem d_Mo_advance_124 : decode prog_14_method_25_code 124 = .ok (.aload_n 0, 1) := by decide +kernel
theorem d_Mo_advance_125 : decode prog_14_method_25_code 125 = .ok (.getfield 116, 3) := by decide +kernel
theorem d_Mo_advance_128 : decode prog_14_method_25_code 128 = .ok (.aload_n 0, 1) := by decide +kernel
theorem d_Mo_advance_129 : decode prog_14_method_25_code 129 = .ok (.getfield 119, 3) := by decide +kernel
theorem d_Mo_advance_132 : decode prog_14_method_25_code 132 = .ok (.isub, 1) := by decide +kernel
theorem d_Mo_advance_133 : decode prog_14_method_25_code 133 = .ok (.bipush 8, 2) := by decide +kernel
theorem d_Mo_advance_135 : decode prog_14_method_25_code 135 = .ok (.if_icmp .ge 28, 3) := by decide +kernel
theorem d_Mo_advance_138 : decode prog_14_method_25_code 138 = .ok (.aload_n 0, 1) := by decide +kernel
theorem d_Mo_advance_139 : decode prog_14_method_25_code 139 = .ok (.getfield 131, 3) := by decide +kernel
theorem d_Mo_advance_142 : decode prog_14_method_25_code 142 = .ok (.ldc2_w 134, 3) := by decide +kernel
theorem d_Mo_advance_145 : decode prog_14_method_25_code 145 = .ok (.lmul, 1) := by decide +kernel
theorem d_Mo_advance_146 : decode prog_14_method_25_code 146 = .ok (.aload_n 0, 1) := by decide +kernel
theorem d_Mo_advance_147 : decode prog_14_method_25_code 147 = .ok (.aload_n 0, 1) := by decide +kernel
theorem d_Mo_advance_148 : decode prog_14_method_25_code 148 = .ok (.getfield 116, 3) := by decide +kernel
theorem d_Mo_advance_151 : decode prog_14_method_25_code 151 = .ok (.invokevirtual 122, 3) := by decide +kernel
theorem d_Mo_advance_154 : decode prog_14_method_25_code 154 = .ok (.i2l, 1) := by decide +kernel
theorem d_Mo_advance_155 : decode prog_14_method_25_code 155 = .ok (.ladd, 1) := by decide +kernel
theorem d_Mo_advance_156 : decode prog_14_method_25_code 156 = .ok (.ldc2_w 136, 3) := by decide +kernel
theorem d_Mo_advance_159 : decode prog_14_method_25_code 159 = .ok (.lsub, 1) := by decide +kernel
theorem d_Mo_advance_160 : decode prog_14_method_25_code 160 = .ok (.goto 6, 3) := by decide +kernel
theorem d_Mo_advance_163 : decode prog_14_method_25_code 163 = .ok (.ldc2_w 101, 3) := by decide +kernel
theorem d_Mo_advance_166 : decode prog_14_method_25_code 166 = .ok (.putfield 131, 3) := by decide +kernel
theorem d_Mo_advance_169 : decode prog_14_method_25_code 169 = .ok (.aload_n 0, 1) := by decide +kernel
theorem d_Mo_advance_170 : decode prog_14_method_25_code 170 = .ok (.dup, 1) := by decide +kernel
theorem d_Mo_advance_171 : decode prog_14_method_25_code 171 = .ok (.getfield 116, 3) := by decide +kernel
theorem d_Mo_advance_174 : decode prog_14_method_25_code 174 = .ok (.iconst 1, 1) := by decide +kernel
theorem d_Mo_advance_175 : decode prog_14_method_25_code 175 = .ok (.iadd, 1) := by decide +kernel
theorem d_Mo_advance_176 : decode prog_14_method_25_code 176 = .ok (.putfield 116, 3) := by decide +kernel
theorem d_Mo_advance_179 : decode prog_14_method_25_code 179 = .ok (.goto (-70), 3) := by decide +kernel
theorem d_Mo_advance_182 : decode prog_14_method_25_code 182 = .ok (.aload_n 0, 1) := by decide +kernel
theorem d_Mo_advance_183 : decode prog_14_method_25_code 183 = .ok (.aload_n 0, 1) := by decide +kernel
theorem d_Mo_advance_184 : decode prog_14_method_25_code 184 = .ok (.getfield 116, 3) := by decide +kernel
theorem d_Mo_advance_187 : decode prog_14_method_25_code 187 = .ok (.aload_n 0, 1) := by decide +kernel
theorem d_Mo_advance_188 : decode prog_14_method_25_code 188 = .ok (.getfield 119, 3) := by decide +kernel
theorem d_Mo_advance_191 : decode prog_14_method_25_code 191 = .ok (.isub, 1) := by decide +kernel
theorem d_Mo_advance_192 : decode prog_14_method_25_code 192 = .ok (.putfield 138, 3) := by decide +kernel
theorem d_Mo_advance_195 : decode prog_14_method_25_code 195 = .ok (.goto 135, 3) := by decide +kernel
theorem d_Mo_advance_198 : decode prog_14_method_25_code 198 = .ok (.iload_n 1, 1) := by decide +kernel
theorem d_Mo_advance_199 : decode prog_14_method_25_code 199 = .ok (.invokestatic 141, 3) := by decide +kernel
theorem d_Mo_advance_202 : decode prog_14_method_25_code 202 = .ok (.ifCond .eq 96, 3) := by decide +kernel
theorem d_Mo_advance_205 : decode prog_14_method_25_code 205 = .ok (.aload_n 0, 1) := by decide +kernel
theorem d_Mo_advance_206 : decode prog_14_method_25_code 206 = .ok (.iconst 0, 1) := by decide +kernel
theorem d_Mo_advance_207 : decode prog_14_method_25_code 207 = .ok (.putfield 144, 3) := by decide +kernel
theorem d_Mo_advance_210 : decode prog_14_method_25_code 210 = .ok (.aload_n 0, 1) := by decide +kernel
theorem d_Mo_advance_211 : decode prog_14_method_25_code 211 = .ok (.aload_n 0, 1) := by decide +kernel
theorem d_Mo_advance_212 : decode prog_14_method_25_code 212 = .ok (.getfield 116, 3) := by decide +kernel
theorem d_Mo_advance_215 : decode prog_14_method_25_code 215 = .ok (.invokevirtual 122, 3) := by decide +kernel
theorem d_Mo_advance_218 : decode prog_14_method_25_code 218 = .ok (.invokestatic 141, 3) := by decide +kernel
theorem d_Mo_advance_221 : decode prog_14_method_25_code 221 = .ok (.ifCond .eq 52, 3) := by decide +kernel
theorem d_Mo_advance_224 : decode prog_14_method_25_code 224 = .ok (.aload_n 0, 1) := by decide +kernel
theorem d_Mo_advance_225 : decode prog_14_method_25_code 225 = .ok (.getfield 116, 3) := by decide +kernel
theorem d_Mo_advance_228 : decode prog_14_method_25_code 228 = .ok (.aload_n 0, 1) := by decide +kernel
theorem d_Mo_advance_229 : decode prog_14_method_25_code 229 = .ok (.getfield 119, 3) := by decide +kernel
theorem d_Mo_advance_232 : decode prog_14_method_25_code 232 = .ok (.isub, 1) := by decide +kernel
theorem d_Mo_advance_233 : decode prog_14_method_25_code 233 = .ok (.iconst 4, 1) := by decide +kernel
theorem d_Mo_advance_234 : decode prog_14_method_25_code 234 = .ok (.if_icmp .ge 26, 3) := by decide +kernel
theorem d_Mo_advance_237 : decode prog_14_method_25_code 237 = .ok (.aload_n 0, 1) := by decide +kernel
theorem d_Mo_advance_238 : decode prog_14_method_25_code 238 = .ok (.bipush 10, 2) := by decide +kernel
theorem d_Mo_advance_240 : decode prog_14_method_25_code 240 = .ok (.aload_n 0, 1) := by decide +kernel
theorem d_Mo_advance_241 : decode prog_14_method_25_code 241 = .ok (.getfield 144, 3) := by decide +kernel
theorem d_Mo_advance_244 : decode prog_14_method_25_code 244 = .ok (.imul, 1) := by decide +kernel
theorem d_Mo_advance_245 : decode prog_14_method_25_code 245 = .ok (.aload_n 0, 1) := by decide +kernel
theorem d_Mo_advance_246 : decode prog_14_method_25_code 246 = .ok (.aload_n 0, 1) := by decide +kernel
theorem d_Mo_advance_247 : decode prog_14_method_25_code 247 = .ok (.getfield 116, 3) := by decide +kernel
theorem d_Mo_advance_250 : decode prog_14_method_25_code 250 = .ok (.invokevirtual 122, 3) := by decide +kernel
theorem d_Mo_advance_253 : decode prog_14_method_25_code 253 = .ok (.iadd, 1) := by decide +kernel
theorem d_Mo_advance_254 : decode prog_14_method_25_code 254 = .ok (.bipush 48, 2) := by decide +kernel
theorem d_Mo_advance_256 : decode prog_14_method_25_code 256 = .ok (.isub, 1) := by decide +kernel
theorem d_Mo_advance_257 : decode prog_14_method_25_code 257 = .ok (.putfield 144, 3) := by decide +kernel
theorem d_Mo_advance_260 : decode prog_14_method_25_code 260 = .ok (.aload_n 0, 1) := by decide +kernel
theorem d_Mo_advance_261 : decode prog_14_method_25_code 261 = .ok (.dup, 1) := by decide +kernel
theorem d_Mo_advance_262 : decode prog_14_method_25_code 262 = .ok (.getfield 116, 3) := by decide +kernel
theorem d_Mo_advance_265 : decode prog_14_method_25_code 265 = .ok (.iconst 1, 1) := by decide +kernel
theorem d_Mo_advance_266 : decode prog_14_method_25_code 266 = .ok (.iadd, 1) := by decide +kernel
theorem d_Mo_advance_267 : decode prog_14_method_25_code 267 = .ok (.putfield 116, 3) := by decide +kernel
theorem d_Mo_advance_270 : decode prog_14_method_25_code 270 = .ok (.goto (-60), 3) := by decide +kernel
theorem d_Mo_advance_273 : decode prog_14_method_25_code 273 = .ok (.aload_n 0, 1) := by decide +kernel
theorem d_Mo_advance_274 : decode prog_14_method_25_code 274 = .ok (.aload_n 0, 1) := by decide +kernel
theorem d_Mo_advance_275 : decode prog_14_method_25_code 275 = .ok (.getfield 116, 3) := by decide +kernel
theorem d_Mo_advance_278 : decode prog_14_method_25_code 278 = .ok (.aload_n 0, 1) := by decide +kernel
theorem d_Mo_advance_279 : decode prog_14_method_25_code 279 = .ok (.getfield 119, 3) := by decide +kernel
theorem d_Mo_advance_282 : decode prog_14_method_25_code 282 = .ok (.isub, 1) := by decide +kernel
theorem d_Mo_advance_283 : decode prog_14_method_25_code 283 = .ok (.iconst 4, 1) := by decide +kernel
theorem d_Mo_advance_284 : decode prog_14_method_25_code 284 = .ok (.if_icmp .le 7, 3) := by decide +kernel
theorem d_Mo_advance_287 : decode prog_14_method_25_code 287 = .ok (.iconst 4, 1) := by decide +kernel
theorem d_Mo_advance_288 : decode prog_14_method_25_code 288 = .ok (.goto 4, 3) := by decide +kernel
theorem d_Mo_advance_291 : decode prog_14_method_25_code 291 = .ok (.iconst 2, 1) := by decide +kernel
theorem d_Mo_advance_292 : decode prog_14_method_25_code 292 = .ok (.putfield 125, 3) := by decide +kernel
theorem d_Mo_advance_295 : decode prog_14_method_25_code 295 = .ok (.goto 35, 3) := by decide +kernel
theorem d_Mo_advance_298 : decode prog_14_method_25_code 298 = .ok (.aload_n 0, 1) := by decide +kernel
theorem d_Mo_advance_299 : decode prog_14_method_25_code 299 = .ok (.aload_n 0, 1) := by decide +kernel
theorem d_Mo_advance_300 : decode prog_14_method_25_code 300 = .ok (.getfield 119, 3) := by decide +kernel
theorem d_Mo_advance_303 : decode prog_14_method_25_code 303 = .ok (.iconst 1, 1) := by decide +kernel
theorem d_Mo_advance_304 : decode prog_14_method_25_code 304 = .ok (.iadd, 1) := by decide +kernel
theorem d_Mo_advance_305 : decode prog_14_method_25_code 305 = .ok (.putfield 116, 3) := by decide +kernel
theorem d_Mo_advance_308 : decode prog_14_method_25_code 308 = .ok (.aload_n 0, 1) := by decide +kernel
theorem d_Mo_advance_309 : decode prog_14_method_25_code 309 = .ok (.iload_n 1, 1) := by decide +kernel
theorem d_Mo_advance_310 : decode prog_14_method_25_code 310 = .ok (.putfield 144, 3) := by decide +kernel
theorem d_Mo_advance_313 : decode prog_14_method_25_code 313 = .ok (.aload_n 0, 1) := by decide +kernel
theorem d_Mo_advance_314 : decode prog_14_method_25_code 314 = .ok (.aload_n 0, 1) := by decide +kernel
theorem d_Mo_advance_315 : decode prog_14_method_25_code 315 = .ok (.iload_n 1, 1) := by decide +kernel
theorem d_Mo_advance_316 : decode prog_14_method_25_code 316 = .ok (.invokevirtual 147, 3) := by decide +kernel
theorem d_Mo_advance_319 : decode prog_14_method_25_code 319 = .ok (.ifCond .eq 7, 3) := by decide +kernel
theorem d_Mo_advance_322 : decode prog_14_method_25_code 322 = .ok (.iconst 3, 1) := by decide +kernel
theorem d_Mo_advance_323 : decode prog_14_method_25_code 323 = .ok (.goto 4, 3) := by decide +kernel
theorem d_Mo_advance_326 : decode prog_14_method_25_code 326 = .ok (.iconst 4, 1) := by decide +kernel
theorem d_Mo_advance_327 : decode prog_14_method_25_code 327 = .ok (.putfield 125, 3) := by decide +kernel
theorem d_Mo_advance_330 : decode prog_14_method_25_code 330 = .ok (.return_, 1) := by decide +kernel
theorem d_Mo_look2_0 : decode prog_14_method_21_code 0 = .ok (.iload_n 1, 1) := by decide +kernel
theorem d_Mo_look2_1 : decode prog_14_method_21_code 1 = .ok (.aload_n 0, 1) := by decide +kernel
theorem d_Mo_look2_2 : decode prog_14_method_21_code 2 = .ok (.getfield 113, 3) := by decide +kernel
theorem d_Mo_look2_5 : decode prog_14_method_21_code 5 = .ok (.if_icmp .ge 16, 3) := by decide +kernel
theorem d_Mo_look2_8 : decode prog_14_method_21_code 8 = .ok (.aload_n 0, 1) := by decide +kernel
theorem d_Mo_look2_9 : decode prog_14_method_21_code 9 = .ok (.getfield 24, 3) := by decide +kernel
theorem d_Mo_look2_12 : decode prog_14_method_21_code 12 = .ok (.iload_n 1, 1) := by decide +kernel
theorem d_Mo_look2_13 : decode prog_14_method_21_code 13 = .ok (.baload, 1) := by decide +kernel
theorem d_Mo_look2_14 : decode prog_14_method_21_code 14 = .ok (.sipush 255, 3) := by decide +kernel
theorem d_Mo_look2_17 : decode prog_14_method_21_code 17 = .ok (.iand, 1) := by decide +kernel
theorem d_Mo_look2_18 : decode prog_14_method_21_code 18 = .ok (.goto 4, 3) := by decide +kernel
theorem d_Mo_look2_21 : decode prog_14_method_21_code 21 = .ok (.iconst 0, 1) := by decide +kernel
theorem d_Mo_look2_22 : decode prog_14_method_21_code 22 = .ok (.ireturn, 1) := by decide +kernel
theorem d_Mo_isLetter_0 : decode prog_14_method_22_code 0 = .ok (.iload_n 0, 1) := by decide +kernel
theorem d_Mo_isLetter_1 : decode prog_14_method_22_code 1 = .ok (.bipush 97, 2) := by decide +kernel
theorem d_Mo_isLetter_3 : decode prog_14_method_22_code 3 = .ok (.if_icmp .lt 13, 3) := by decide +kernel
theorem d_Mo_isLetter_6 : decode prog_14_method_22_code 6 = .ok (.iload_n 0, 1) := by decide +kernel
theorem d_Mo_isLetter_7 : decode prog_14_method_22_code 7 = .ok (.bipush 122, 2) := by decide +kernel
theorem d_Mo_isLetter_9 : decode prog_14_method_22_code 9 = .ok (.if_icmp .gt 7, 3) := by decide +kernel
theorem d_Mo_isLetter_12 : decode prog_14_method_22_code 12 = .ok (.iconst 1, 1) := by decide +kernel
theorem d_Mo_isLetter_13 : decode prog_14_method_22_code 13 = .ok (.goto 4, 3) := by decide +kernel
theorem d_Mo_isLetter_16 : decode prog_14_method_22_code 16 = .ok (.iconst 0, 1) := by decide +kernel
theorem d_Mo_isLetter_17 : decode prog_14_method_22_code 17 = .ok (.ireturn, 1) := by decide +kernel
theorem d_Mo_isDigit_0 : decode prog_14_method_23_code 0 = .ok (.iload_n 0, 1) := by decide +kernel
theorem d_Mo_isDigit_1 : decode prog_14_method_23_code 1 = .ok (.bipush 48, 2) := by decide +kernel
theorem d_Mo_isDigit_3 : decode prog_14_method_23_code 3 = .ok (.if_icmp .lt 13, 3) := by decide +kernel
theorem d_Mo_isDigit_6 : decode prog_14_method_23_code 6 = .ok (.iload_n 0, 1) := by decide +kernel
theorem d_Mo_isDigit_7 : decode prog_14_method_23_code 7 = .ok (.bipush 57, 2) := by decide +kernel
theorem d_Mo_isDigit_9 : decode prog_14_method_23_code 9 = .ok (.if_icmp .gt 7, 3) := by decide +kernel
theorem d_Mo_isDigit_12 : decode prog_14_method_23_code 12 = .ok (.iconst 1, 1) := by decide +kernel
theorem d_Mo_isDigit_13 : decode prog_14_method_23_code 13 = .ok (.goto 4, 3) := by decide +kernel
theorem d_Mo_isDigit_16 : decode prog_14_method_23_code 16 = .ok (.iconst 0, 1) := by decide +kernel
theorem d_Mo_isDigit_17 : decode prog_14_method_23_code 17 = .ok (.ireturn, 1) := by decide +kernel
theorem d_Mo_isSignByte_0 : decode prog_14_method_24_code 0 = .ok (.iload_n 1, 1) := by decide +kernel
theorem d_Mo_isSignByte_1 : decode prog_14_method_24_code 1 = .ok (.bipush 59, 2) := by decide +kernel
theorem d_Mo_isSignByte_3 : decode prog_14_method_24_code 3 = .ok (.if_icmp .eq 21, 3) := by decide +kernel
theorem d_Mo_isSignByte_6 : decode prog_14_method_24_code 6 = .ok (.iload_n 1, 1) := by decide +kernel
theorem d_Mo_isSignByte_7 : decode prog_14_method_24_code 7 = .ok (.bipush 60, 2) := by decide +kernel
theorem d_Mo_isSignByte_9 : decode prog_14_method_24_code 9 = .ok (.if_icmp .eq 15, 3) := by decide +kernel
theorem d_Mo_isSignByte_12 : decode prog_14_method_24_code 12 = .ok (.iload_n 1, 1) := by decide +kernel
theorem d_Mo_isSignByte_13 : decode prog_14_method_24_code 13 = .ok (.bipush 62, 2) := by decide +kernel
theorem d_Mo_isSignByte_15 : decode prog_14_method_24_code 15 = .ok (.if_icmp .eq 9, 3) := by decide +kernel
theorem d_Mo_isSignByte_18 : decode prog_14_method_24_code 18 = .ok (.iload_n 1, 1) := by decide +kernel
theorem d_Mo_isSignByte_19 : decode prog_14_method_24_code 19 = .ok (.bipush 61, 2) := by decide +kernel
theorem d_Mo_isSignByte_21 : decode prog_14_method_24_code 21 = .ok (.if_icmp .ne 7, 3) := by decide +kernel
theorem d_Mo_isSignByte_24 : decode prog_14_method_24_code 24 = .ok (.iconst 1, 1) := by decide +kernel
theorem d_Mo_isSignByte_25 : decode prog_14_method_24_code 25 = .ok (.goto 4, 3) := by decide +kernel
theorem d_Mo_isSignByte_28 : decode prog_14_method_24_code 28 = .ok (.iconst 0, 1) := by decide +kernel
theorem d_Mo_isSignByte_29 : decode prog_14_method_24_code 29 = .ok (.ireturn, 1) := by decide +kernel
theorem d_Mo_readPart_0 : decode prog_14_method_67_code 0 = .ok (.aload_n 0, 1) := by decide +kernel
theorem d_Mo_readPart_1 : decode prog_14_method_67_code 1 = .ok (.invokevirtual 162, 3) := by decide +kernel
theorem d_Mo_readPart_4 : decode prog_14_method_67_code 4 = .ok (.ifCond .eq 10, 3) := by decide +kernel
theorem d_Mo_readPart_7 : decode prog_14_method_67_code 7 = .ok (.aload_n 0, 1) := by decide +kernel
theorem d_Mo_readPart_8 : decode prog_14_method_67_code 8 = .ok (.invokevirtual 268, 3) := by decide +kernel
theorem d_Mo_readPart_11 : decode prog_14_method_67_code 11 = .ok (.goto 63, 3) := by decide +kernel
theorem d_Mo_readPart_14 : decode prog_14_method_67_code 14 = .ok (.aload_n 0, 1) := by decide +kernel
theorem d_Mo_readPart_15 : decode prog_14_method_67_code 15 = .ok (.invokevirtual 165, 3) := by decide +kernel
theorem d_Mo_readPart_18 : decode prog_14_method_67_code 18 = .ok (.ifCond .eq 10, 3) := by decide +kernel
theorem d_Mo_readPart_21 : decode prog_14_method_67_code 21 = .ok (.aload_n 0, 1) := by decide +kernel
theorem d_Mo_readPart_22 : decode prog_14_method_67_code 22 = .ok (.invokevirtual 271, 3) := by decide +kernel
theorem d_Mo_readPart_25 : decode prog_14_method_67_code 25 = .ok (.goto 49, 3) := by decide +kernel
theorem d_Mo_readPart_28 : decode prog_14_method_67_code 28 = .ok (.aload_n 0, 1) := by decide +kernel
theorem d_Mo_readPart_29 : decode prog_14_method_67_code 29 = .ok (.invokevirtual 171, 3) := by decide +kernel
theorem d_Mo_readPart_32 : decode prog_14_method_67_code 32 = .ok (.ifCond .eq 10, 3) := by decide +kernel
theorem d_Mo_readPart_35 : decode prog_14_method_67_code 35 = .ok (.aload_n 0, 1) := by decide +kernel
theorem d_Mo_readPart_36 : decode prog_14_method_67_code 36 = .ok (.invokevirtual 274, 3) := by decide +kernel
theorem d_Mo_readPart_39 : decode prog_14_method_67_code 39 = .ok (.goto 35, 3) := by decide +kernel
theorem d_Mo_readPart_42 : decode prog_14_method_67_code 42 = .ok (.aload_n 0, 1) := by decide +kernel
theorem d_Mo_readPart_43 : decode prog_14_method_67_code 43 = .ok (.invokevirtual 177, 3) := by decide +kernel
theorem d_Mo_readPart_46 : decode prog_14_method_67_code 46 = .ok (.ifCond .eq 10, 3) := by decide +kernel
theorem d_Mo_readPart_49 : decode prog_14_method_67_code 49 = .ok (.aload_n 0, 1) := by decide +kernel
theorem d_Mo_readPart_50 : decode prog_14_method_67_code 50 = .ok (.invokevirtual 277, 3) := by decide +kernel
theorem d_Mo_readPart_53 : decode prog_14_method_67_code 53 = .ok (.goto 21, 3) := by decide +kernel
theorem d_Mo_readPart_56 : decode prog_14_method_67_code 56 = .ok (.aload_n 0, 1) := by decide +kernel
theorem d_Mo_readPart_57 : decode prog_14_method_67_code 57 = .ok (.invokevirtual 180, 3) := by decide +kernel
theorem d_Mo_readPart_60 : decode prog_14_method_67_code 60 = .ok (.ifCond .eq 10, 3) := by decide +kernel
theorem d_Mo_readPart_63 : decode prog_14_method_67_code 63 = .ok (.aload_n 0, 1) := by decide +kernel
theorem d_Mo_readPart_64 : decode prog_14_method_67_code 64 = .ok (.invokevirtual 280, 3) := by decide +kernel
theorem d_Mo_readPart_67 : decode prog_14_method_67_code 67 = .ok (.goto 7, 3) := by decide +kernel
theorem d_Mo_readPart_70 : decode prog_14_method_67_code 70 = .ok (.aload_n 0, 1) := by decide +kernel
theorem d_Mo_readPart_71 : decode prog_14_method_67_code 71 = .ok (.invokevirtual 215, 3) := by decide +kernel
theorem d_Mo_readPart_74 : decode prog_14_method_67_code 74 = .ok (.return_, 1) := by decide +kernel
theorem d_Mo_isOdds_0 : decode prog_14_method_29_code 0 = .ok (.aload_n 0, 1) := by decide +kernel
theorem d_Mo_isOdds_1 : decode prog_14_method_29_code 1 = .ok (.bipush 111, 2) := by decide +kernel
theorem d_Mo_isOdds_3 : decode prog_14_method_29_code 3 = .ok (.bipush 100, 2) := by decide +kernel
theorem d_Mo_isOdds_5 : decode prog_14_method_29_code 5 = .ok (.bipush 100, 2) := by decide +kernel
theorem d_Mo_isOdds_7 : decode prog_14_method_29_code 7 = .ok (.bipush 115, 2) := by decide +kernel
theorem d_Mo_isOdds_9 : decode prog_14_method_29_code 9 = .ok (.iconst 0, 1) := by decide +kernel
theorem d_Mo_isOdds_10 : decode prog_14_method_29_code 10 = .ok (.iconst 0, 1) := by decide +kernel
theorem d_Mo_isOdds_11 : decode prog_14_method_29_code 11 = .ok (.invokestatic 150, 3) := by decide +kernel
theorem d_Mo_isOdds_14 : decode prog_14_method_29_code 14 = .ok (.invokevirtual 154, 3) := by decide +kernel
theorem d_Mo_isOdds_17 : decode prog_14_method_29_code 17 = .ok (.ireturn, 1) := by decide +kernel
theorem d_Mo_spelled_0 : decode prog_14_method_27_code 0 = .ok (.iload_n 0, 1) := by decide +kernel
theorem d_Mo_spelled_1 : decode prog_14_method_27_code 1 = .ok (.i2l, 1) := by decide +kernel
theorem d_Mo_spelled_2 : decode prog_14_method_27_code 2 = .ok (.ldc2_w 136, 3) := by decide +kernel
theorem d_Mo_spelled_5 : decode prog_14_method_27_code 5 = .ok (.lsub, 1) := by decide +kernel
theorem d_Mo_spelled_6 : decode prog_14_method_27_code 6 = .ok (.ldc2_w 134, 3) := by decide +kernel
theorem d_Mo_spelled_9 : decode prog_14_method_27_code 9 = .ok (.lmul, 1) := by decide +kernel
theorem d_Mo_spelled_10 : decode prog_14_method_27_code 10 = .ok (.iload_n 1, 1) := by decide +kernel
theorem d_Mo_spelled_11 : decode prog_14_method_27_code 11 = .ok (.i2l, 1) := by decide +kernel
theorem d_Mo_spelled_12 : decode prog_14_method_27_code 12 = .ok (.ladd, 1) := by decide +kernel
theorem d_Mo_spelled_13 : decode prog_14_method_27_code 13 = .ok (.ldc2_w 136, 3) := by decide +kernel
theorem d_Mo_spelled_16 : decode prog_14_method_27_code 16 = .ok (.lsub, 1) := by decide +kernel
theorem d_Mo_spelled_17 : decode prog_14_method_27_code 17 = .ok (.lstore 6, 2) := by decide +kernel
theorem d_Mo_spelled_19 : decode prog_14_method_27_code 19 = .ok (.iload_n 2, 1) := by decide +kernel
theorem d_Mo_spelled_20 : decode prog_14_method_27_code 20 = .ok (.ifCond .le 19, 3) := by decide +kernel
theorem d_Mo_spelled_23 : decode prog_14_method_27_code 23 = .ok (.lload 6, 2) := by decide +kernel
theorem d_Mo_spelled_25 : decode prog_14_method_27_code 25 = .ok (.ldc2_w 134, 3) := by decide +kernel
theorem d_Mo_spelled_28 : decode prog_14_method_27_code 28 = .ok (.lmul, 1) := by decide +kernel
theorem d_Mo_spelled_29 : decode prog_14_method_27_code 29 = .ok (.iload_n 2, 1) := by decide +kernel
theorem d_Mo_spelled_30 : decode prog_14_method_27_code 30 = .ok (.i2l, 1) := by decide +kernel
theorem d_Mo_spelled_31 : decode prog_14_method_27_code 31 = .ok (.ladd, 1) := by decide +kernel
theorem d_Mo_spelled_32 : decode prog_14_method_27_code 32 = .ok (.ldc2_w 136, 3) := by decide +kernel
theorem d_Mo_spelled_35 : decode prog_14_method_27_code 35 = .ok (.lsub, 1) := by decide +kernel
theorem d_Mo_spelled_36 : decode prog_14_method_27_code 36 = .ok (.goto 5, 3) := by decide +kernel
theorem d_Mo_spelled_39 : decode prog_14_method_27_code 39 = .ok (.lload 6, 2) := by decide +kernel
theorem d_Mo_spelled_41 : decode prog_14_method_27_code 41 = .ok (.lstore 6, 2) := by decide +kernel
theorem d_Mo_spelled_43 : decode prog_14_method_27_code 43 = .ok (.iload_n 3, 1) := by decide +kernel
theorem d_Mo_spelled_44 : decode prog_14_method_27_code 44 = .ok (.ifCond .le 19, 3) := by decide +kernel
theorem d_Mo_spelled_47 : decode prog_14_method_27_code 47 = .ok (.lload 6, 2) := by decide +kernel
theorem d_Mo_spelled_49 : decode prog_14_method_27_code 49 = .ok (.ldc2_w 134, 3) := by decide +kernel
theorem d_Mo_spelled_52 : decode prog_14_method_27_code 52 = .ok (.lmul, 1) := by decide +kernel
theorem d_Mo_spelled_53 : decode prog_14_method_27_code 53 = .ok (.iload_n 3, 1) := by decide +kernel
theorem d_Mo_spelled_54 : decode prog_14_method_27_code 54 = .ok (.i2l, 1) := by decide +kernel
theorem d_Mo_spelled_55 : decode prog_14_method_27_code 55 = .ok (.ladd, 1) := by decide +kernel
theorem d_Mo_spelled_56 : decode prog_14_method_27_code 56 = .ok (.ldc2_w 136, 3) := by decide +kernel
theorem d_Mo_spelled_59 : decode prog_14_method_27_code 59 = .ok (.lsub, 1) := by decide +kernel
theorem d_Mo_spelled_60 : decode prog_14_method_27_code 60 = .ok (.goto 5, 3) := by decide +kernel
theorem d_Mo_spelled_63 : decode prog_14_method_27_code 63 = .ok (.lload 6, 2) := by decide +kernel
theorem d_Mo_spelled_65 : decode prog_14_method_27_code 65 = .ok (.lstore 6, 2) := by decide +kernel
theorem d_Mo_spelled_67 : decode prog_14_method_27_code 67 = .ok (.iload 4, 2) := by decide +kernel
theorem d_Mo_spelled_69 : decode prog_14_method_27_code 69 = .ok (.ifCond .le 20, 3) := by decide +kernel
theorem d_Mo_spelled_72 : decode prog_14_method_27_code 72 = .ok (.lload 6, 2) := by decide +kernel
theorem d_Mo_spelled_74 : decode prog_14_method_27_code 74 = .ok (.ldc2_w 134, 3) := by decide +kernel
theorem d_Mo_spelled_77 : decode prog_14_method_27_code 77 = .ok (.lmul, 1) := by decide +kernel
theorem d_Mo_spelled_78 : decode prog_14_method_27_code 78 = .ok (.iload 4, 2) := by decide +kernel
theorem d_Mo_spelled_80 : decode prog_14_method_27_code 80 = .ok (.i2l, 1) := by decide +kernel
theorem d_Mo_spelled_81 : decode prog_14_method_27_code 81 = .ok (.ladd, 1) := by decide +kernel
theorem d_Mo_spelled_82 : decode prog_14_method_27_code 82 = .ok (.ldc2_w 136, 3) := by decide +kernel
theorem d_Mo_spelled_85 : decode prog_14_method_27_code 85 = .ok (.lsub, 1) := by decide +kernel
theorem d_Mo_spelled_86 : decode prog_14_method_27_code 86 = .ok (.goto 5, 3) := by decide +kernel
theorem d_Mo_spelled_89 : decode prog_14_method_27_code 89 = .ok (.lload 6, 2) := by decide +kernel
theorem d_Mo_spelled_91 : decode prog_14_method_27_code 91 = .ok (.lstore 6, 2) := by decide +kernel
theorem d_Mo_spelled_93 : decode prog_14_method_27_code 93 = .ok (.iload 5, 2) := by decide +kernel
theorem d_Mo_spelled_95 : decode prog_14_method_27_code 95 = .ok (.ifCond .le 20, 3) := by decide +kernel
theorem d_Mo_spelled_98 : decode prog_14_method_27_code 98 = .ok (.lload 6, 2) := by decide +kernel
theorem d_Mo_spelled_100 : decode prog_14_method_27_code 100 = .ok (.ldc2_w 134, 3) := by decide +kernel
theorem d_Mo_spelled_103 : decode prog_14_method_27_code 103 = .ok (.lmul, 1) := by decide +kernel
theorem d_Mo_spelled_104 : decode prog_14_method_27_code 104 = .ok (.iload 5, 2) := by decide +kernel
theorem d_Mo_spelled_106 : decode prog_14_method_27_code 106 = .ok (.i2l, 1) := by decide +kernel
theorem d_Mo_spelled_107 : decode prog_14_method_27_code 107 = .ok (.ladd, 1) := by decide +kernel
theorem d_Mo_spelled_108 : decode prog_14_method_27_code 108 = .ok (.ldc2_w 136, 3) := by decide +kernel
theorem d_Mo_spelled_111 : decode prog_14_method_27_code 111 = .ok (.lsub, 1) := by decide +kernel
theorem d_Mo_spelled_112 : decode prog_14_method_27_code 112 = .ok (.goto 5, 3) := by decide +kernel
theorem d_Mo_spelled_115 : decode prog_14_method_27_code 115 = .ok (.lload 6, 2) := by decide +kernel
theorem d_Mo_spelled_117 : decode prog_14_method_27_code 117 = .ok (.lreturn, 1) := by decide +kernel
theorem d_Mo_isWord_0 : decode prog_14_method_28_code 0 = .ok (.aload_n 0, 1) := by decide +kernel
theorem d_Mo_isWord_1 : decode prog_14_method_28_code 1 = .ok (.getfield 125, 3) := by decide +kernel
theorem d_Mo_isWord_4 : decode prog_14_method_28_code 4 = .ok (.iconst 1, 1) := by decide +kernel
theorem d_Mo_isWord_5 : decode prog_14_method_28_code 5 = .ok (.if_icmp .ne 16, 3) := by decide +kernel
theorem d_Mo_isWord_8 : decode prog_14_method_28_code 8 = .ok (.aload_n 0, 1) := by decide +kernel
theorem d_Mo_isWord_9 : decode prog_14_method_28_code 9 = .ok (.getfield 131, 3) := by decide +kernel
theorem d_Mo_isWord_12 : decode prog_14_method_28_code 12 = .ok (.lload_n 1, 1) := by decide +kernel
theorem d_Mo_isWord_13 : decode prog_14_method_28_code 13 = .ok (.lcmp, 1) := by decide +kernel
theorem d_Mo_isWord_14 : decode prog_14_method_28_code 14 = .ok (.ifCond .ne 7, 3) := by decide +kernel
theorem d_Mo_isWord_17 : decode prog_14_method_28_code 17 = .ok (.iconst 1, 1) := by decide +kernel
theorem d_Mo_isWord_18 : decode prog_14_method_28_code 18 = .ok (.goto 4, 3) := by decide +kernel
theorem d_Mo_isWord_21 : decode prog_14_method_28_code 21 = .ok (.iconst 0, 1) := by decide +kernel
theorem d_Mo_isWord_22 : decode prog_14_method_28_code 22 = .ok (.ireturn, 1) := by decide +kernel
theorem d_Mo_readOdds_0 : decode prog_14_method_60_code 0 = .ok (.aload_n 0, 1) := by decide +kernel
theorem d_Mo_readOdds_1 : decode prog_14_method_60_code 1 = .ok (.getfield 243, 3) := by decide +kernel
theorem d_Mo_readOdds_4 : decode prog_14_method_60_code 4 = .ok (.ifCond .eq 12, 3) := by decide +kernel
theorem d_Mo_readOdds_7 : decode prog_14_method_60_code 7 = .ok (.aload_n 0, 1) := by decide +kernel
theorem d_Mo_readOdds_8 : decode prog_14_method_60_code 8 = .ok (.iconst 5, 1) := by decide +kernel
theorem d_Mo_readOdds_9 : decode prog_14_method_60_code 9 = .ok (.aload_n 0, 1) := by decide +kernel
theorem d_Mo_readOdds_10 : decode prog_14_method_60_code 10 = .ok (.getfield 119, 3) := by decide +kernel
theorem d_Mo_readOdds_13 : decode prog_14_method_60_code 13 = .ok (.invokevirtual 208, 3) := by decide +kernel
theorem d_Mo_readOdds_16 : decode prog_14_method_60_code 16 = .ok (.aload_n 0, 1) := by decide +kernel
theorem d_Mo_readOdds_17 : decode prog_14_method_60_code 17 = .ok (.getfield 202, 3) := by decide +kernel
theorem d_Mo_readOdds_20 : decode prog_14_method_60_code 20 = .ok (.ifCond .le 4, 3) := by decide +kernel
theorem d_Mo_readOdds_23 : decode prog_14_method_60_code 23 = .ok (.return_, 1) := by decide +kernel
theorem d_Mo_readOdds_24 : decode prog_14_method_60_code 24 = .ok (.aload_n 0, 1) := by decide +kernel
theorem d_Mo_readOdds_25 : decode prog_14_method_60_code 25 = .ok (.iconst 1, 1) := by decide +kernel
theorem d_Mo_readOdds_26 : decode prog_14_method_60_code 26 = .ok (.putfield 243, 3) := by decide +kernel
theorem d_Mo_readOdds_29 : decode prog_14_method_60_code 29 = .ok (.aload_n 0, 1) := by decide +kernel
theorem d_Mo_readOdds_30 : decode prog_14_method_60_code 30 = .ok (.invokevirtual 212, 3) := by decide +kernel
theorem d_Mo_readOdds_33 : decode prog_14_method_60_code 33 = .ok (.aload_n 0, 1) := by decide +kernel
theorem d_Mo_readOdds_34 : decode prog_14_method_60_code 34 = .ok (.getfield 35, 3) := by decide +kernel
theorem d_Mo_readOdds_37 : decode prog_14_method_60_code 37 = .ok (.sipush 1440, 3) := by decide +kernel
theorem d_Mo_readOdds_40 : decode prog_14_method_60_code 40 = .ok (.aload_n 0, 1) := by decide +kernel
theorem d_Mo_readOdds_41 : decode prog_14_method_60_code 41 = .ok (.iconst 0, 1) := by decide +kernel
theorem d_Mo_readOdds_42 : decode prog_14_method_60_code 42 = .ok (.bipush 16, 2) := by decide +kernel
theorem d_Mo_readOdds_44 : decode prog_14_method_60_code 44 = .ok (.invokevirtual 247, 3) := by decide +kernel
theorem d_Mo_readOdds_47 : decode prog_14_method_60_code 47 = .ok (.iastore, 1) := by decide +kernel
theorem d_Mo_readOdds_48 : decode prog_14_method_60_code 48 = .ok (.return_, 1) := by decide +kernel
theorem d_Mo_fail_0 : decode prog_14_method_44_code 0 = .ok (.aload_n 0, 1) := by decide +kernel
theorem d_Mo_fail_1 : decode prog_14_method_44_code 1 = .ok (.getfield 202, 3) := by decide +kernel
theorem d_Mo_fail_4 : decode prog_14_method_44_code 4 = .ok (.ifCond .le 4, 3) := by decide +kernel
theorem d_Mo_fail_7 : decode prog_14_method_44_code 7 = .ok (.return_, 1) := by decide +kernel
theorem d_Mo_fail_8 : decode prog_14_method_44_code 8 = .ok (.aload_n 0, 1) := by decide +kernel
theorem d_Mo_fail_9 : decode prog_14_method_44_code 9 = .ok (.iload_n 1, 1) := by decide +kernel
theorem d_Mo_fail_10 : decode prog_14_method_44_code 10 = .ok (.putfield 202, 3) := by decide +kernel
theorem d_Mo_fail_13 : decode prog_14_method_44_code 13 = .ok (.aload_n 0, 1) := by decide +kernel
theorem d_Mo_fail_14 : decode prog_14_method_44_code 14 = .ok (.iload_n 2, 1) := by decide +kernel
theorem d_Mo_fail_15 : decode prog_14_method_44_code 15 = .ok (.putfield 205, 3) := by decide +kernel
theorem d_Mo_fail_18 : decode prog_14_method_44_code 18 = .ok (.return_, 1) := by decide +kernel
theorem d_Mo_count_0 : decode prog_14_method_47_code 0 = .ok (.aload_n 0, 1) := by decide +kernel
theorem d_Mo_count_1 : decode prog_14_method_47_code 1 = .ok (.getfield 202, 3) := by decide +kernel
theorem d_Mo_count_4 : decode prog_14_method_47_code 4 = .ok (.ifCond .ne 15, 3) := by decide +kernel
theorem d_Mo_count_7 : decode prog_14_method_47_code 7 = .ok (.aload_n 0, 1) := by decide +kernel
theorem d_Mo_count_8 : decode prog_14_method_47_code 8 = .ok (.getfield 125, 3) := by decide +kernel
theorem d_Mo_count_11 : decode prog_14_method_47_code 11 = .ok (.iconst 2, 1) := by decide +kernel
theorem d_Mo_count_12 : decode prog_14_method_47_code 12 = .ok (.if_icmp .eq 7, 3) := by decide +kernel
theorem d_Mo_count_15 : decode prog_14_method_47_code 15 = .ok (.aload_n 0, 1) := by decide +kernel
theorem d_Mo_count_16 : decode prog_14_method_47_code 16 = .ok (.invokevirtual 215, 3) := by decide +kernel
theorem d_Mo_count_19 : decode prog_14_method_47_code 19 = .ok (.aload_n 0, 1) := by decide +kernel
theorem d_Mo_count_20 : decode prog_14_method_47_code 20 = .ok (.getfield 202, 3) := by decide +kernel
theorem d_Mo_count_23 : decode prog_14_method_47_code 23 = .ok (.ifCond .ne 27, 3) := by decide +kernel
theorem d_Mo_count_26 : decode prog_14_method_47_code 26 = .ok (.aload_n 0, 1) := by decide +kernel
theorem d_Mo_count_27 : decode prog_14_method_47_code 27 = .ok (.getfield 144, 3) := by decide +kernel
theorem d_Mo_count_30 : decode prog_14_method_47_code 30 = .ok (.i2l, 1) := by decide +kernel
theorem d_Mo_count_31 : decode prog_14_method_47_code 31 = .ok (.iload_n 1, 1) := by decide +kernel
theorem d_Mo_count_32 : decode prog_14_method_47_code 32 = .ok (.i2l, 1) := by decide +kernel
theorem d_Mo_count_33 : decode prog_14_method_47_code 33 = .ok (.iload_n 2, 1) := by decide +kernel
theorem d_Mo_count_34 : decode prog_14_method_47_code 34 = .ok (.i2l, 1) := by decide +kernel
theorem d_Mo_count_35 : decode prog_14_method_47_code 35 = .ok (.invokestatic 105, 3) := by decide +kernel
theorem d_Mo_count_38 : decode prog_14_method_47_code 38 = .ok (.ifCond .ne 12, 3) := by decide +kernel
theorem d_Mo_count_41 : decode prog_14_method_47_code 41 = .ok (.aload_n 0, 1) := by decide +kernel
theorem d_Mo_count_42 : decode prog_14_method_47_code 42 = .ok (.iconst 4, 1) := by decide +kernel
theorem d_Mo_count_43 : decode prog_14_method_47_code 43 = .ok (.aload_n 0, 1) := by decide +kernel
theorem d_Mo_count_44 : decode prog_14_method_47_code 44 = .ok (.getfield 119, 3) := by decide +kernel
theorem d_Mo_count_47 : decode prog_14_method_47_code 47 = .ok (.invokevirtual 208, 3) := by decide +kernel
theorem d_Mo_count_50 : decode prog_14_method_47_code 50 = .ok (.aload_n 0, 1) := by decide +kernel
theorem d_Mo_count_51 : decode prog_14_method_47_code 51 = .ok (.getfield 202, 3) := by decide +kernel
theorem d_Mo_count_54 : decode prog_14_method_47_code 54 = .ok (.ifCond .le 5, 3) := by decide +kernel
theorem d_Mo_count_57 : decode prog_14_method_47_code 57 = .ok (.iconst 0, 1) := by decide +kernel
theorem d_Mo_count_58 : decode prog_14_method_47_code 58 = .ok (.ireturn, 1) := by decide +kernel
theorem d_Mo_count_59 : decode prog_14_method_47_code 59 = .ok (.aload_n 0, 1) := by decide +kernel
theorem d_Mo_count_60 : decode prog_14_method_47_code 60 = .ok (.getfield 144, 3) := by decide +kernel
theorem d_Mo_count_63 : decode prog_14_method_47_code 63 = .ok (.istore_n 3, 1) := by decide +kernel
theorem d_Mo_count_64 : decode prog_14_method_47_code 64 = .ok (.aload_n 0, 1) := by decide +kernel
theorem d_Mo_count_65 : decode prog_14_method_47_code 65 = .ok (.invokevirtual 212, 3) := by decide +kernel
theorem d_Mo_count_68 : decode prog_14_method_47_code 68 = .ok (.iload_n 3, 1) := by decide +kernel
theorem d_Mo_count_69 : decode prog_14_method_47_code 69 = .ok (.ireturn, 1) := by decide +kernel
theorem d_Mo_amiss_0 : decode prog_14_method_45_code 0 = .ok (.aload_n 0, 1) := by decide +kernel
theorem d_Mo_amiss_1 : decode prog_14_method_45_code 1 = .ok (.aload_n 0, 1) := by decide +kernel
theorem d_Mo_amiss_2 : decode prog_14_method_45_code 2 = .ok (.getfield 125, 3) := by decide +kernel
theorem d_Mo_amiss_5 : decode prog_14_method_45_code 5 = .ok (.iconst 4, 1) := by decide +kernel
theorem d_Mo_amiss_6 : decode prog_14_method_45_code 6 = .ok (.if_icmp .ne 7, 3) := by decide +kernel
theorem d_Mo_amiss_9 : decode prog_14_method_45_code 9 = .ok (.iconst 1, 1) := by decide +kernel
theorem d_Mo_amiss_10 : decode prog_14_method_45_code 10 = .ok (.goto 4, 3) := by decide +kernel
theorem d_Mo_amiss_13 : decode prog_14_method_45_code 13 = .ok (.iconst 2, 1) := by decide +kernel
theorem d_Mo_amiss_14 : decode prog_14_method_45_code 14 = .ok (.aload_n 0, 1) := by decide +kernel
theorem d_Mo_amiss_15 : decode prog_14_method_45_code 15 = .ok (.getfield 119, 3) := by decide +kernel
theorem d_Mo_amiss_18 : decode prog_14_method_45_code 18 = .ok (.invokevirtual 208, 3) := by decide +kernel
theorem d_Mo_amiss_21 : decode prog_14_method_45_code 21 = .ok (.return_, 1) := by decide +kernel
theorem d_Mo_isIn_0 : decode prog_14_method_8_code 0 = .ok (.lload_n 0, 1) := by decide +kernel
theorem d_Mo_isIn_1 : decode prog_14_method_8_code 1 = .ok (.lload_n 2, 1) := by decide +kernel
theorem d_Mo_isIn_2 : decode prog_14_method_8_code 2 = .ok (.lcmp, 1) := by decide +kernel
theorem d_Mo_isIn_3 : decode prog_14_method_8_code 3 = .ok (.ifCond .lt 14, 3) := by decide +kernel
theorem d_Mo_isIn_6 : decode prog_14_method_8_code 6 = .ok (.lload_n 0, 1) := by decide +kernel
theorem d_Mo_isIn_7 : decode prog_14_method_8_code 7 = .ok (.lload 4, 2) := by decide +kernel
theorem d_Mo_isIn_9 : decode prog_14_method_8_code 9 = .ok (.lcmp, 1) := by decide +kernel
theorem d_Mo_isIn_10 : decode prog_14_method_8_code 10 = .ok (.ifCond .gt 7, 3) := by decide +kernel
theorem d_Mo_isIn_13 : decode prog_14_method_8_code 13 = .ok (.iconst 1, 1) := by decide +kernel
theorem d_Mo_isIn_14 : decode prog_14_method_8_code 14 = .ok (.goto 4, 3) := by decide +kernel
theorem d_Mo_isIn_17 : decode prog_14_method_8_code 17 = .ok (.iconst 0, 1) := by decide +kernel
theorem d_Mo_isIn_18 : decode prog_14_method_8_code 18 = .ok (.ireturn, 1) := by decide +kernel
theorem d_Mo_isTrait_0 : decode prog_14_method_30_code 0 = .ok (.aload_n 0, 1) := by decide +kernel
theorem d_Mo_isTrait_1 : decode prog_14_method_30_code 1 = .ok (.bipush 116, 2) := by decide +kernel
theorem d_Mo_isTrait_3 : decode prog_14_method_30_code 3 = .ok (.bipush 114, 2) := by decide +kernel
theorem d_Mo_isTrait_5 : decode prog_14_method_30_code 5 = .ok (.bipush 97, 2) := by decide +kernel
theorem d_Mo_isTrait_7 : decode prog_14_method_30_code 7 = .ok (.bipush 105, 2) := by decide +kernel
theorem d_Mo_isTrait_9 : decode prog_14_method_30_code 9 = .ok (.bipush 116, 2) := by decide +kernel
theorem d_Mo_isTrait_11 : decode prog_14_method_30_code 11 = .ok (.iconst 0, 1) := by decide +kernel
theorem d_Mo_isTrait_12 : decode prog_14_method_30_code 12 = .ok (.invokestatic 150, 3) := by decide +kernel
theorem d_Mo_isTrait_15 : decode prog_14_method_30_code 15 = .ok (.invokevirtual 154, 3) := by decide +kernel
theorem d_Mo_isTrait_18 : decode prog_14_method_30_code 18 = .ok (.ireturn, 1) := by decide +kernel
theorem d_Mo_readTrait_0 : decode prog_14_method_61_code 0 = .ok (.aload_n 0, 1) := by decide +kernel
theorem d_Mo_readTrait_1 : decode prog_14_method_61_code 1 = .ok (.iconst 0, 1) := by decide +kernel
theorem d_Mo_readTrait_2 : decode prog_14_method_61_code 2 = .ok (.bipush 6, 2) := by decide +kernel
theorem d_Mo_readTrait_4 : decode prog_14_method_61_code 4 = .ok (.invokevirtual 250, 3) := by decide +kernel
theorem d_Mo_readTrait_7 : decode prog_14_method_61_code 7 = .ok (.istore_n 1, 1) := by decide +kernel
theorem d_Mo_readTrait_8 : decode prog_14_method_61_code 8 = .ok (.aload_n 0, 1) := by decide +kernel
theorem d_Mo_readTrait_9 : decode prog_14_method_61_code 9 = .ok (.aload_n 0, 1) := by decide +kernel
theorem d_Mo_readTrait_10 : decode prog_14_method_61_code 10 = .ok (.invokevirtual 168, 3) := by decide +kernel
theorem d_Mo_readTrait_13 : decode prog_14_method_61_code 13 = .ok (.invokevirtual 239, 3) := by decide +kernel
theorem d_Mo_readTrait_16 : decode prog_14_method_61_code 16 = .ok (.aload_n 0, 1) := by decide +kernel
theorem d_Mo_readTrait_17 : decode prog_14_method_61_code 17 = .ok (.iconst 0, 1) := by decide +kernel
theorem d_Mo_readTrait_18 : decode prog_14_method_61_code 18 = .ok (.bipush 99, 2) := by decide +kernel
theorem d_Mo_readTrait_20 : decode prog_14_method_61_code 20 = .ok (.invokevirtual 247, 3) := by decide +kernel
theorem d_Mo_readTrait_23 : decode prog_14_method_61_code 23 = .ok (.istore_n 2, 1) := by decide +kernel
theorem d_Mo_readTrait_24 : decode prog_14_method_61_code 24 = .ok (.aload_n 0, 1) := by decide +kernel
theorem d_Mo_readTrait_25 : decode prog_14_method_61_code 25 = .ok (.getfield 202, 3) := by decide +kernel
theorem d_Mo_readTrait_28 : decode prog_14_method_61_code 28 = .ok (.ifCond .le 4, 3) := by decide +kernel
theorem d_Mo_readTrait_31 : decode prog_14_method_61_code 31 = .ok (.return_, 1) := by decide +kernel
theorem d_Mo_readTrait_32 : decode prog_14_method_61_code 32 = .ok (.aload_n 0, 1) := by decide +kernel
theorem d_Mo_readTrait_33 : decode prog_14_method_61_code 33 = .ok (.getfield 35, 3) := by decide +kernel
theorem d_Mo_readTrait_36 : decode prog_14_method_61_code 36 = .ok (.sipush 1442, 3) := by decide +kernel
theorem d_Mo_readTrait_39 : decode prog_14_method_61_code 39 = .ok (.iload_n 1, 1) := by decide +kernel
theorem d_Mo_readTrait_40 : decode prog_14_method_61_code 40 = .ok (.iadd, 1) := by decide +kernel
theorem d_Mo_readTrait_41 : decode prog_14_method_61_code 41 = .ok (.iload_n 2, 1) := by decide +kernel
theorem d_Mo_readTrait_42 : decode prog_14_method_61_code 42 = .ok (.iastore, 1) := by decide +kernel
theorem d_Mo_readTrait_43 : decode prog_14_method_61_code 43 = .ok (.aload_n 0, 1) := by decide +kernel
theorem d_Mo_readTrait_44 : decode prog_14_method_61_code 44 = .ok (.getfield 35, 3) := by decide +kernel
theorem d_Mo_readTrait_47 : decode prog_14_method_61_code 47 = .ok (.sipush 1436, 3) := by decide +kernel
theorem d_Mo_readTrait_50 : decode prog_14_method_61_code 50 = .ok (.dup2, 1) := by decide +kernel
theorem d_Mo_readTrait_51 : decode prog_14_method_61_code 51 = .ok (.iaload, 1) := by decide +kernel
theorem d_Mo_readTrait_52 : decode prog_14_method_61_code 52 = .ok (.iconst 1, 1) := by decide +kernel
theorem d_Mo_readTrait_53 : decode prog_14_method_61_code 53 = .ok (.iadd, 1) := by decide +kernel
theorem d_Mo_readTrait_54 : decode prog_14_method_61_code 54 = .ok (.iastore, 1) := by decide +kernel
theorem d_Mo_readTrait_55 : decode prog_14_method_61_code 55 = .ok (.return_, 1) := by decide +kernel
theorem d_Mo_readNew_0 : decode prog_14_method_57_code 0 = .ok (.aload_n 0, 1) := by decide +kernel
theorem d_Mo_readNew_1 : decode prog_14_method_57_code 1 = .ok (.getfield 35, 3) := by decide +kernel
theorem d_Mo_readNew_4 : decode prog_14_method_57_code 4 = .ok (.sipush 1436, 3) := by decide +kernel
theorem d_Mo_readNew_7 : decode prog_14_method_57_code 7 = .ok (.iload_n 1, 1) := by decide +kernel
theorem d_Mo_readNew_8 : decode prog_14_method_57_code 8 = .ok (.iadd, 1) := by decide +kernel
theorem d_Mo_readNew_9 : decode prog_14_method_57_code 9 = .ok (.iaload, 1) := by decide +kernel
theorem d_Mo_readNew_10 : decode prog_14_method_57_code 10 = .ok (.istore_n 3, 1) := by decide +kernel
theorem d_Mo_readNew_11 : decode prog_14_method_57_code 11 = .ok (.iload_n 3, 1) := by decide +kernel
theorem d_Mo_readNew_12 : decode prog_14_method_57_code 12 = .ok (.iload_n 2, 1) := by decide +kernel
theorem d_Mo_readNew_13 : decode prog_14_method_57_code 13 = .ok (.if_icmp .ne 13, 3) := by decide +kernel
theorem d_Mo_readNew_16 : decode prog_14_method_57_code 16 = .ok (.aload_n 0, 1) := by decide +kernel
theorem d_Mo_readNew_17 : decode prog_14_method_57_code 17 = .ok (.bipush 6, 2) := by decide +kernel
theorem d_Mo_readNew_19 : decode prog_14_method_57_code 19 = .ok (.aload_n 0, 1) := by decide +kernel
theorem d_Mo_readNew_20 : decode prog_14_method_57_code 20 = .ok (.getfield 119, 3) := by decide +kernel
theorem d_Mo_readNew_23 : decode prog_14_method_57_code 23 = .ok (.invokevirtual 208, 3) := by decide +kernel
theorem d_Mo_readNew_26 : decode prog_14_method_57_code 26 = .ok (.aload_n 0, 1) := by decide +kernel
theorem d_Mo_readNew_27 : decode prog_14_method_57_code 27 = .ok (.getfield 202, 3) := by decide +kernel
theorem d_Mo_readNew_30 : decode prog_14_method_57_code 30 = .ok (.ifCond .le 5, 3) := by decide +kernel
theorem d_Mo_readNew_33 : decode prog_14_method_57_code 33 = .ok (.iconst 0, 1) := by decide +kernel
theorem d_Mo_readNew_34 : decode prog_14_method_57_code 34 = .ok (.ireturn, 1) := by decide +kernel
theorem d_Mo_readNew_35 : decode prog_14_method_57_code 35 = .ok (.aload_n 0, 1) := by decide +kernel
theorem d_Mo_readNew_36 : decode prog_14_method_57_code 36 = .ok (.invokevirtual 212, 3) := by decide +kernel
theorem d_Mo_readNew_39 : decode prog_14_method_57_code 39 = .ok (.aload_n 0, 1) := by decide +kernel
theorem d_Mo_readNew_40 : decode prog_14_method_57_code 40 = .ok (.invokevirtual 227, 3) := by decide +kernel
theorem d_Mo_readNew_43 : decode prog_14_method_57_code 43 = .ok (.ifCond .ne 7, 3) := by decide +kernel
theorem d_Mo_readNew_46 : decode prog_14_method_57_code 46 = .ok (.aload_n 0, 1) := by decide +kernel
theorem d_Mo_readNew_47 : decode prog_14_method_57_code 47 = .ok (.invokevirtual 215, 3) := by decide +kernel
theorem d_Mo_readNew_50 : decode prog_14_method_57_code 50 = .ok (.aload_n 0, 1) := by decide +kernel
theorem d_Mo_readNew_51 : decode prog_14_method_57_code 51 = .ok (.getfield 202, 3) := by decide +kernel
theorem d_Mo_readNew_54 : decode prog_14_method_57_code 54 = .ok (.ifCond .ne 39, 3) := by decide +kernel
theorem d_Mo_readNew_57 : decode prog_14_method_57_code 57 = .ok (.aload_n 0, 1) := by decide +kernel
theorem d_Mo_readNew_58 : decode prog_14_method_57_code 58 = .ok (.iconst 4, 1) := by decide +kernel
theorem d_Mo_readNew_59 : decode prog_14_method_57_code 59 = .ok (.iconst 0, 1) := by decide +kernel
theorem d_Mo_readNew_60 : decode prog_14_method_57_code 60 = .ok (.invokevirtual 230, 3) := by decide +kernel
theorem d_Mo_readNew_63 : decode prog_14_method_57_code 63 = .ok (.ifCond .ge 21, 3) := by decide +kernel
theorem d_Mo_readNew_66 : decode prog_14_method_57_code 66 = .ok (.aload_n 0, 1) := by decide +kernel
theorem d_Mo_readNew_67 : decode prog_14_method_57_code 67 = .ok (.iconst 4, 1) := by decide +kernel
theorem d_Mo_readNew_68 : decode prog_14_method_57_code 68 = .ok (.iconst 1, 1) := by decide +kernel
theorem d_Mo_readNew_69 : decode prog_14_method_57_code 69 = .ok (.invokevirtual 230, 3) := by decide +kernel
theorem d_Mo_readNew_72 : decode prog_14_method_57_code 72 = .ok (.ifCond .ge 12, 3) := by decide +kernel
theorem d_Mo_readNew_75 : decode prog_14_method_57_code 75 = .ok (.aload_n 0, 1) := by decide +kernel
theorem d_Mo_readNew_76 : decode prog_14_method_57_code 76 = .ok (.iconst 4, 1) := by decide +kernel
theorem d_Mo_readNew_77 : decode prog_14_method_57_code 77 = .ok (.iconst 3, 1) := by decide +kernel
theorem d_Mo_readNew_78 : decode prog_14_method_57_code 78 = .ok (.invokevirtual 230, 3) := by decide +kernel
theorem d_Mo_readNew_81 : decode prog_14_method_57_code 81 = .ok (.ifCond .lt 12, 3) := by decide +kernel
theorem d_Mo_readNew_84 : decode prog_14_method_57_code 84 = .ok (.aload_n 0, 1) := by decide +kernel
theorem d_Mo_readNew_85 : decode prog_14_method_57_code 85 = .ok (.iconst 3, 1) := by decide +kernel
theorem d_Mo_readNew_86 : decode prog_14_method_57_code 86 = .ok (.aload_n 0, 1) := by decide +kernel
theorem d_Mo_readNew_87 : decode prog_14_method_57_code 87 = .ok (.getfield 119, 3) := by decide +kernel
theorem d_Mo_readNew_90 : decode prog_14_method_57_code 90 = .ok (.invokevirtual 208, 3) := by decide +kernel
theorem d_Mo_readNew_93 : decode prog_14_method_57_code 93 = .ok (.aload_n 0, 1) := by decide +kernel
theorem d_Mo_readNew_94 : decode prog_14_method_57_code 94 = .ok (.getfield 202, 3) := by decide +kernel
theorem d_Mo_readNew_97 : decode prog_14_method_57_code 97 = .ok (.ifCond .le 5, 3) := by decide +kernel
theorem d_Mo_readNew_100 : decode prog_14_method_57_code 100 = .ok (.iconst 0, 1) := by decide +kernel
theorem d_Mo_readNew_101 : decode prog_14_method_57_code 101 = .ok (.ireturn, 1) := by decide +kernel
theorem d_Mo_readNew_102 : decode prog_14_method_57_code 102 = .ok (.aload_n 0, 1) := by decide +kernel
theorem d_Mo_readNew_103 : decode prog_14_method_57_code 103 = .ok (.getfield 41, 3) := by decide +kernel
theorem d_Mo_readNew_106 : decode prog_14_method_57_code 106 = .ok (.bipush 88, 2) := by decide +kernel
theorem d_Mo_readNew_108 : decode prog_14_method_57_code 108 = .ok (.iload_n 1, 1) := by decide +kernel
theorem d_Mo_readNew_109 : decode prog_14_method_57_code 109 = .ok (.invokestatic 224, 3) := by decide +kernel
theorem d_Mo_readNew_112 : decode prog_14_method_57_code 112 = .ok (.iadd, 1) := by decide +kernel
theorem d_Mo_readNew_113 : decode prog_14_method_57_code 113 = .ok (.iload_n 3, 1) := by decide +kernel
theorem d_Mo_readNew_114 : decode prog_14_method_57_code 114 = .ok (.iadd, 1) := by decide +kernel
theorem d_Mo_readNew_115 : decode prog_14_method_57_code 115 = .ok (.aload_n 0, 1) := by decide +kernel
theorem d_Mo_readNew_116 : decode prog_14_method_57_code 116 = .ok (.getfield 131, 3) := by decide +kernel
theorem d_Mo_readNew_119 : decode prog_14_method_57_code 119 = .ok (.lastore, 1) := by decide +kernel
theorem d_Mo_readNew_120 : decode prog_14_method_57_code 120 = .ok (.aload_n 0, 1) := by decide +kernel
theorem d_Mo_readNew_121 : decode prog_14_method_57_code 121 = .ok (.invokevirtual 212, 3) := by decide +kernel
theorem d_Mo_readNew_124 : decode prog_14_method_57_code 124 = .ok (.iload_n 3, 1) := by decide +kernel
theorem d_Mo_readNew_125 : decode prog_14_method_57_code 125 = .ok (.ireturn, 1) := by decide +kernel
theorem d_Mo_isName_0 : decode prog_14_method_43_code 0 = .ok (.aload_n 0, 1) := by decide +kernel
theorem d_Mo_isName_1 : decode prog_14_method_43_code 1 = .ok (.getfield 125, 3) := by decide +kernel
theorem d_Mo_isName_4 : decode prog_14_method_43_code 4 = .ok (.iconst 1, 1) := by decide +kernel
theorem d_Mo_isName_5 : decode prog_14_method_43_code 5 = .ok (.if_icmp .ne 23, 3) := by decide +kernel
theorem d_Mo_isName_8 : decode prog_14_method_43_code 8 = .ok (.aload_n 0, 1) := by decide +kernel
theorem d_Mo_isName_9 : decode prog_14_method_43_code 9 = .ok (.getfield 138, 3) := by decide +kernel
theorem d_Mo_isName_12 : decode prog_14_method_43_code 12 = .ok (.bipush 8, 2) := by decide +kernel
theorem d_Mo_isName_14 : decode prog_14_method_43_code 14 = .ok (.if_icmp .gt 14, 3) := by decide +kernel
theorem d_Mo_isName_17 : decode prog_14_method_43_code 17 = .ok (.aload_n 0, 1) := by decide +kernel
theorem d_Mo_isName_18 : decode prog_14_method_43_code 18 = .ok (.invokevirtual 199, 3) := by decide +kernel
theorem d_Mo_isName_21 : decode prog_14_method_43_code 21 = .ok (.ifCond .ne 7, 3) := by decide +kernel
theorem d_Mo_isName_24 : decode prog_14_method_43_code 24 = .ok (.iconst 1, 1) := by decide +kernel
theorem d_Mo_isName_25 : decode prog_14_method_43_code 25 = .ok (.goto 4, 3) := by decide +kernel
theorem d_Mo_isName_28 : decode prog_14_method_43_code 28 = .ok (.iconst 0, 1) := by decide +kernel
theorem d_Mo_isName_29 : decode prog_14_method_43_code 29 = .ok (.ireturn, 1) := by decide +kernel
theorem d_Mo_isKept_0 : decode prog_14_method_42_code 0 = .ok (.aload_n 0, 1) := by decide +kernel
theorem d_Mo_isKept_1 : decode prog_14_method_42_code 1 = .ok (.invokevirtual 162, 3) := by decide +kernel
theorem d_Mo_isKept_4 : decode prog_14_method_42_code 4 = .ok (.ifCond .ne 59, 3) := by decide +kernel
theorem d_Mo_isKept_7 : decode prog_14_method_42_code 7 = .ok (.aload_n 0, 1) := by decide +kernel
theorem d_Mo_isKept_8 : decode prog_14_method_42_code 8 = .ok (.invokevirtual 165, 3) := by decide +kernel
theorem d_Mo_isKept_11 : decode prog_14_method_42_code 11 = .ok (.ifCond .ne 52, 3) := by decide +kernel
theorem d_Mo_isKept_14 : decode prog_14_method_42_code 14 = .ok (.aload_n 0, 1) := by decide +kernel
theorem d_Mo_isKept_15 : decode prog_14_method_42_code 15 = .ok (.invokevirtual 168, 3) := by decide +kernel
theorem d_Mo_isKept_18 : decode prog_14_method_42_code 18 = .ok (.ifCond .ne 45, 3) := by decide +kernel
theorem d_Mo_isKept_21 : decode prog_14_method_42_code 21 = .ok (.aload_n 0, 1) := by decide +kernel
theorem d_Mo_isKept_22 : decode prog_14_method_42_code 22 = .ok (.invokevirtual 171, 3) := by decide +kernel
theorem d_Mo_isKept_25 : decode prog_14_method_42_code 25 = .ok (.ifCond .ne 38, 3) := by decide +kernel
theorem d_Mo_isKept_28 : decode prog_14_method_42_code 28 = .ok (.aload_n 0, 1) := by decide +kernel
theorem d_Mo_isKept_29 : decode prog_14_method_42_code 29 = .ok (.invokevirtual 174, 3) := by decide +kernel
theorem d_Mo_isKept_32 : decode prog_14_method_42_code 32 = .ok (.ifCond .ne 31, 3) := by decide +kernel
theorem d_Mo_isKept_35 : decode prog_14_method_42_code 35 = .ok (.aload_n 0, 1) := by decide +kernel
theorem d_Mo_isKept_36 : decode prog_14_method_42_code 36 = .ok (.invokevirtual 177, 3) := by decide +kernel
theorem d_Mo_isKept_39 : decode prog_14_method_42_code 39 = .ok (.ifCond .ne 24, 3) := by decide +kernel
theorem d_Mo_isKept_42 : decode prog_14_method_42_code 42 = .ok (.aload_n 0, 1) := by decide +kernel
theorem d_Mo_isKept_43 : decode prog_14_method_42_code 43 = .ok (.invokevirtual 180, 3) := by decide +kernel
theorem d_Mo_isKept_46 : decode prog_14_method_42_code 46 = .ok (.ifCond .ne 17, 3) := by decide +kernel
theorem d_Mo_isKept_49 : decode prog_14_method_42_code 49 = .ok (.aload_n 0, 1) := by decide +kernel
theorem d_Mo_isKept_50 : decode prog_14_method_42_code 50 = .ok (.invokevirtual 183, 3) := by decide +kernel
theorem d_Mo_isKept_53 : decode prog_14_method_42_code 53 = .ok (.ifCond .ne 10, 3) := by decide +kernel
theorem d_Mo_isKept_56 : decode prog_14_method_42_code 56 = .ok (.aload_n 0, 1) := by decide +kernel
theorem d_Mo_isKept_57 : decode prog_14_method_42_code 57 = .ok (.invokevirtual 186, 3) := by decide +kernel
theorem d_Mo_isKept_60 : decode prog_14_method_42_code 60 = .ok (.ifCond .eq 5, 3) := by decide +kernel
theorem d_Mo_isKept_63 : decode prog_14_method_42_code 63 = .ok (.iconst 1, 1) := by decide +kernel
theorem d_Mo_isKept_64 : decode prog_14_method_42_code 64 = .ok (.ireturn, 1) := by decide +kernel
theorem d_Mo_isKept_65 : decode prog_14_method_42_code 65 = .ok (.aload_n 0, 1) := by decide +kernel
theorem d_Mo_isKept_66 : decode prog_14_method_42_code 66 = .ok (.invokevirtual 189, 3) := by decide +kernel
theorem d_Mo_isKept_69 : decode prog_14_method_42_code 69 = .ok (.ifCond .ge 17, 3) := by decide +kernel
theorem d_Mo_isKept_72 : decode prog_14_method_42_code 72 = .ok (.aload_n 0, 1) := by decide +kernel
theorem d_Mo_isKept_73 : decode prog_14_method_42_code 73 = .ok (.invokevirtual 193, 3) := by decide +kernel
theorem d_Mo_isKept_76 : decode prog_14_method_42_code 76 = .ok (.ifCond .ge 10, 3) := by decide +kernel
theorem d_Mo_isKept_79 : decode prog_14_method_42_code 79 = .ok (.aload_n 0, 1) := by decide +kernel
theorem d_Mo_isKept_80 : decode prog_14_method_42_code 80 = .ok (.invokevirtual 196, 3) := by decide +kernel
theorem d_Mo_isKept_83 : decode prog_14_method_42_code 83 = .ok (.ifCond .eq 7, 3) := by decide +kernel
theorem d_Mo_isKept_86 : decode prog_14_method_42_code 86 = .ok (.iconst 1, 1) := by decide +kernel
theorem d_Mo_isKept_87 : decode prog_14_method_42_code 87 = .ok (.goto 4, 3) := by decide +kernel
theorem d_Mo_isKept_90 : decode prog_14_method_42_code 90 = .ok (.iconst 0, 1) := by decide +kernel
theorem d_Mo_isKept_91 : decode prog_14_method_42_code 91 = .ok (.ireturn, 1) := by decide +kernel
theorem d_Mo_isWorth_0 : decode prog_14_method_31_code 0 = .ok (.aload_n 0, 1) := by decide +kernel
theorem d_Mo_isWorth_1 : decode prog_14_method_31_code 1 = .ok (.bipush 119, 2) := by decide +kernel
theorem d_Mo_isWorth_3 : decode prog_14_method_31_code 3 = .ok (.bipush 111, 2) := by decide +kernel
theorem d_Mo_isWorth_5 : decode prog_14_method_31_code 5 = .ok (.bipush 114, 2) := by decide +kernel
theorem d_Mo_isWorth_7 : decode prog_14_method_31_code 7 = .ok (.bipush 116, 2) := by decide +kernel
theorem d_Mo_isWorth_9 : decode prog_14_method_31_code 9 = .ok (.bipush 104, 2) := by decide +kernel
theorem d_Mo_isWorth_11 : decode prog_14_method_31_code 11 = .ok (.iconst 0, 1) := by decide +kernel
theorem d_Mo_isWorth_12 : decode prog_14_method_31_code 12 = .ok (.invokestatic 150, 3) := by decide +kernel
theorem d_Mo_isWorth_15 : decode prog_14_method_31_code 15 = .ok (.invokevirtual 154, 3) := by decide +kernel
theorem d_Mo_isWorth_18 : decode prog_14_method_31_code 18 = .ok (.ireturn, 1) := by decide +kernel
theorem d_Mo_isPerson_0 : decode prog_14_method_32_code 0 = .ok (.aload_n 0, 1) := by decide +kernel
theorem d_Mo_isPerson_1 : decode prog_14_method_32_code 1 = .ok (.bipush 112, 2) := by decide +kernel
theorem d_Mo_isPerson_3 : decode prog_14_method_32_code 3 = .ok (.bipush 101, 2) := by decide +kernel
theorem d_Mo_isPerson_5 : decode prog_14_method_32_code 5 = .ok (.bipush 114, 2) := by decide +kernel
theorem d_Mo_isPerson_7 : decode prog_14_method_32_code 7 = .ok (.bipush 115, 2) := by decide +kernel
theorem d_Mo_isPerson_9 : decode prog_14_method_32_code 9 = .ok (.bipush 111, 2) := by decide +kernel
theorem d_Mo_isPerson_11 : decode prog_14_method_32_code 11 = .ok (.bipush 110, 2) := by decide +kernel
theorem d_Mo_isPerson_13 : decode prog_14_method_32_code 13 = .ok (.invokestatic 150, 3) := by decide +kernel
theorem d_Mo_isPerson_16 : decode prog_14_method_32_code 16 = .ok (.invokevirtual 154, 3) := by decide +kernel
theorem d_Mo_isPerson_19 : decode prog_14_method_32_code 19 = .ok (.ireturn, 1) := by decide +kernel
theorem d_Mo_isIs_0 : decode prog_14_method_33_code 0 = .ok (.aload_n 0, 1) := by decide +kernel
theorem d_Mo_isIs_1 : decode prog_14_method_33_code 1 = .ok (.bipush 105, 2) := by decide +kernel
theorem d_Mo_isIs_3 : decode prog_14_method_33_code 3 = .ok (.bipush 115, 2) := by decide +kernel
theorem d_Mo_isIs_5 : decode prog_14_method_33_code 5 = .ok (.iconst 0, 1) := by decide +kernel
theorem d_Mo_isIs_6 : decode prog_14_method_33_code 6 = .ok (.iconst 0, 1) := by decide +kernel
theorem d_Mo_isIs_7 : decode prog_14_method_33_code 7 = .ok (.iconst 0, 1) := by decide +kernel
theorem d_Mo_isIs_8 : decode prog_14_method_33_code 8 = .ok (.iconst 0, 1) := by decide +kernel
theorem d_Mo_isIs_9 : decode prog_14_method_33_code 9 = .ok (.invokestatic 150, 3) := by decide +kernel
theorem d_Mo_isIs_12 : decode prog_14_method_33_code 12 = .ok (.invokevirtual 154, 3) := by decide +kernel
theorem d_Mo_isIs_15 : decode prog_14_method_33_code 15 = .ok (.ireturn, 1) := by decide +kernel
theorem d_Mo_isLane_0 : decode prog_14_method_34_code 0 = .ok (.aload_n 0, 1) := by decide +kernel
theorem d_Mo_isLane_1 : decode prog_14_method_34_code 1 = .ok (.bipush 108, 2) := by decide +kernel
theorem d_Mo_isLane_3 : decode prog_14_method_34_code 3 = .ok (.bipush 97, 2) := by decide +kernel
theorem d_Mo_isLane_5 : decode prog_14_method_34_code 5 = .ok (.bipush 110, 2) := by decide +kernel
theorem d_Mo_isLane_7 : decode prog_14_method_34_code 7 = .ok (.bipush 101, 2) := by decide +kernel
theorem d_Mo_isLane_9 : decode prog_14_method_34_code 9 = .ok (.iconst 0, 1) := by decide +kernel
theorem d_Mo_isLane_10 : decode prog_14_method_34_code 10 = .ok (.iconst 0, 1) := by decide +kernel
theorem d_Mo_isLane_11 : decode prog_14_method_34_code 11 = .ok (.invokestatic 150, 3) := by decide +kernel
theorem d_Mo_isLane_14 : decode prog_14_method_34_code 14 = .ok (.invokevirtual 154, 3) := by decide +kernel
theorem d_Mo_isLane_17 : decode prog_14_method_34_code 17 = .ok (.ireturn, 1) := by decide +kernel
theorem d_Mo_isTin_0 : decode prog_14_method_35_code 0 = .ok (.aload_n 0, 1) := by decide +kernel
theorem d_Mo_isTin_1 : decode prog_14_method_35_code 1 = .ok (.bipush 116, 2) := by decide +kernel
theorem d_Mo_isTin_3 : decode prog_14_method_35_code 3 = .ok (.bipush 105, 2) := by decide +kernel
theorem d_Mo_isTin_5 : decode prog_14_method_35_code 5 = .ok (.bipush 110, 2) := by decide +kernel
theorem d_Mo_isTin_7 : decode prog_14_method_35_code 7 = .ok (.iconst 0, 1) := by decide +kernel
theorem d_Mo_isTin_8 : decode prog_14_method_35_code 8 = .ok (.iconst 0, 1) := by decide +kernel
theorem d_Mo_isTin_9 : decode prog_14_method_35_code 9 = .ok (.iconst 0, 1) := by decide +kernel
theorem d_Mo_isTin_10 : decode prog_14_method_35_code 10 = .ok (.invokestatic 150, 3) := by decide +kernel
theorem d_Mo_isTin_13 : decode prog_14_method_35_code 13 = .ok (.invokevirtual 154, 3) := by decide +kernel
theorem d_Mo_isTin_16 : decode prog_14_method_35_code 16 = .ok (.ireturn, 1) := by decide +kernel
theorem d_Mo_isOf_0 : decode prog_14_method_36_code 0 = .ok (.aload_n 0, 1) := by decide +kernel
theorem d_Mo_isOf_1 : decode prog_14_method_36_code 1 = .ok (.bipush 111, 2) := by decide +kernel
theorem d_Mo_isOf_3 : decode prog_14_method_36_code 3 = .ok (.bipush 102, 2) := by decide +kernel
theorem d_Mo_isOf_5 : decode prog_14_method_36_code 5 = .ok (.iconst 0, 1) := by decide +kernel
theorem d_Mo_isOf_6 : decode prog_14_method_36_code 6 = .ok (.iconst 0, 1) := by decide +kernel
theorem d_Mo_isOf_7 : decode prog_14_method_36_code 7 = .ok (.iconst 0, 1) := by decide +kernel
theorem d_Mo_isOf_8 : decode prog_14_method_36_code 8 = .ok (.iconst 0, 1) := by decide +kernel
theorem d_Mo_isOf_9 : decode prog_14_method_36_code 9 = .ok (.invokestatic 150, 3) := by decide +kernel
theorem d_Mo_isOf_12 : decode prog_14_method_36_code 12 = .ok (.invokevirtual 154, 3) := by decide +kernel
theorem d_Mo_isOf_15 : decode prog_14_method_36_code 15 = .ok (.ireturn, 1) := by decide +kernel
theorem d_Mo_isLead_0 : decode prog_14_method_38_code 0 = .ok (.aload_n 0, 1) := by decide +kernel
theorem d_Mo_isLead_1 : decode prog_14_method_38_code 1 = .ok (.bipush 108, 2) := by decide +kernel
theorem d_Mo_isLead_3 : decode prog_14_method_38_code 3 = .ok (.bipush 101, 2) := by decide +kernel
theorem d_Mo_isLead_5 : decode prog_14_method_38_code 5 = .ok (.bipush 97, 2) := by decide +kernel
theorem d_Mo_isLead_7 : decode prog_14_method_38_code 7 = .ok (.bipush 100, 2) := by decide +kernel
theorem d_Mo_isLead_9 : decode prog_14_method_38_code 9 = .ok (.iconst 0, 1) := by decide +kernel
theorem d_Mo_isLead_10 : decode prog_14_method_38_code 10 = .ok (.iconst 0, 1) := by decide +kernel
theorem d_Mo_isLead_11 : decode prog_14_method_38_code 11 = .ok (.invokestatic 150, 3) := by decide +kernel
theorem d_Mo_isLead_14 : decode prog_14_method_38_code 14 = .ok (.invokevirtual 154, 3) := by decide +kernel
theorem d_Mo_isLead_17 : decode prog_14_method_38_code 17 = .ok (.ireturn, 1) := by decide +kernel
theorem d_Mo_stepWord_0 : decode prog_14_method_39_code 0 = .ok (.aload_n 0, 1) := by decide +kernel
theorem d_Mo_stepWord_1 : decode prog_14_method_39_code 1 = .ok (.bipush 112, 2) := by decide +kernel
theorem d_Mo_stepWord_3 : decode prog_14_method_39_code 3 = .ok (.bipush 97, 2) := by decide +kernel
theorem d_Mo_stepWord_5 : decode prog_14_method_39_code 5 = .ok (.bipush 115, 2) := by decide +kernel
theorem d_Mo_stepWord_7 : decode prog_14_method_39_code 7 = .ok (.bipush 115, 2) := by decide +kernel
theorem d_Mo_stepWord_9 : decode prog_14_method_39_code 9 = .ok (.iconst 0, 1) := by decide +kernel
theorem d_Mo_stepWord_10 : decode prog_14_method_39_code 10 = .ok (.iconst 0, 1) := by decide +kernel
theorem d_Mo_stepWord_11 : decode prog_14_method_39_code 11 = .ok (.invokestatic 150, 3) := by decide +kernel
theorem d_Mo_stepWord_14 : decode prog_14_method_39_code 14 = .ok (.invokevirtual 154, 3) := by decide +kernel
theorem d_Mo_stepWord_17 : decode prog_14_method_39_code 17 = .ok (.ifCond .eq 5, 3) := by decide +kernel
theorem d_Mo_stepWord_20 : decode prog_14_method_39_code 20 = .ok (.iconst 0, 1) := by decide +kernel
theorem d_Mo_stepWord_21 : decode prog_14_method_39_code 21 = .ok (.ireturn, 1) := by decide +kernel
theorem d_Mo_stepWord_22 : decode prog_14_method_39_code 22 = .ok (.aload_n 0, 1) := by decide +kernel
theorem d_Mo_stepWord_23 : decode prog_14_method_39_code 23 = .ok (.bipush 98, 2) := by decide +kernel
theorem d_Mo_stepWord_25 : decode prog_14_method_39_code 25 = .ok (.bipush 105, 2) := by decide +kernel
theorem d_Mo_stepWord_27 : decode prog_14_method_39_code 27 = .ok (.bipush 116, 2) := by decide +kernel
theorem d_Mo_stepWord_29 : decode prog_14_method_39_code 29 = .ok (.bipush 101, 2) := by decide +kernel
theorem d_Mo_stepWord_31 : decode prog_14_method_39_code 31 = .ok (.iconst 0, 1) := by decide +kernel
theorem d_Mo_stepWord_32 : decode prog_14_method_39_code 32 = .ok (.iconst 0, 1) := by decide +kernel
theorem d_Mo_stepWord_33 : decode prog_14_method_39_code 33 = .ok (.invokestatic 150, 3) := by decide +kernel
theorem d_Mo_stepWord_36 : decode prog_14_method_39_code 36 = .ok (.invokevirtual 154, 3) := by decide +kernel
theorem d_Mo_stepWord_39 : decode prog_14_method_39_code 39 = .ok (.ifCond .eq 5, 3) := by decide +kernel
theorem d_Mo_stepWord_42 : decode prog_14_method_39_code 42 = .ok (.iconst 1, 1) := by decide +kernel
theorem d_Mo_stepWord_43 : decode prog_14_method_39_code 43 = .ok (.ireturn, 1) := by decide +kernel
theorem d_Mo_stepWord_44 : decode prog_14_method_39_code 44 = .ok (.aload_n 0, 1) := by decide +kernel
theorem d_Mo_stepWord_45 : decode prog_14_method_39_code 45 = .ok (.bipush 108, 2) := by decide +kernel
theorem d_Mo_stepWord_47 : decode prog_14_method_39_code 47 = .ok (.bipush 101, 2) := by decide +kernel
theorem d_Mo_stepWord_49 : decode prog_14_method_39_code 49 = .ok (.bipush 97, 2) := by decide +kernel
theorem d_Mo_stepWord_51 : decode prog_14_method_39_code 51 = .ok (.bipush 114, 2) := by decide +kernel
theorem d_Mo_stepWord_53 : decode prog_14_method_39_code 53 = .ok (.bipush 110, 2) := by decide +kernel
theorem d_Mo_stepWord_55 : decode prog_14_method_39_code 55 = .ok (.iconst 0, 1) := by decide +kernel
theorem d_Mo_stepWord_56 : decode prog_14_method_39_code 56 = .ok (.invokestatic 150, 3) := by decide +kernel
theorem d_Mo_stepWord_59 : decode prog_14_method_39_code 59 = .ok (.invokevirtual 154, 3) := by decide +kernel
theorem d_Mo_stepWord_62 : decode prog_14_method_39_code 62 = .ok (.ifCond .eq 5, 3) := by decide +kernel
theorem d_Mo_stepWord_65 : decode prog_14_method_39_code 65 = .ok (.iconst 2, 1) := by decide +kernel
theorem d_Mo_stepWord_66 : decode prog_14_method_39_code 66 = .ok (.ireturn, 1) := by decide +kernel
theorem d_Mo_stepWord_67 : decode prog_14_method_39_code 67 = .ok (.aload_n 0, 1) := by decide +kernel
theorem d_Mo_stepWord_68 : decode prog_14_method_39_code 68 = .ok (.bipush 108, 2) := by decide +kernel
theorem d_Mo_stepWord_70 : decode prog_14_method_39_code 70 = .ok (.bipush 111, 2) := by decide +kernel
theorem d_Mo_stepWord_72 : decode prog_14_method_39_code 72 = .ok (.bipush 115, 2) := by decide +kernel
theorem d_Mo_stepWord_74 : decode prog_14_method_39_code 74 = .ok (.bipush 101, 2) := by decide +kernel
theorem d_Mo_stepWord_76 : decode prog_14_method_39_code 76 = .ok (.iconst 0, 1) := by decide +kernel
theorem d_Mo_stepWord_77 : decode prog_14_method_39_code 77 = .ok (.iconst 0, 1) := by decide +kernel
theorem d_Mo_stepWord_78 : decode prog_14_method_39_code 78 = .ok (.invokestatic 150, 3) := by decide +kernel
theorem d_Mo_stepWord_81 : decode prog_14_method_39_code 81 = .ok (.invokevirtual 154, 3) := by decide +kernel
theorem d_Mo_stepWord_84 : decode prog_14_method_39_code 84 = .ok (.ifCond .eq 5, 3) := by decide +kernel
theorem d_Mo_stepWord_87 : decode prog_14_method_39_code 87 = .ok (.iconst 3, 1) := by decide +kernel
theorem d_Mo_stepWord_88 : decode prog_14_method_39_code 88 = .ok (.ireturn, 1) := by decide +kernel
theorem d_Mo_stepWord_89 : decode prog_14_method_39_code 89 = .ok (.aload_n 0, 1) := by decide +kernel
theorem d_Mo_stepWord_90 : decode prog_14_method_39_code 90 = .ok (.bipush 97, 2) := by decide +kernel
theorem d_Mo_stepWord_92 : decode prog_14_method_39_code 92 = .ok (.bipush 110, 2) := by decide +kernel
theorem d_Mo_stepWord_94 : decode prog_14_method_39_code 94 = .ok (.bipush 121, 2) := by decide +kernel
theorem d_Mo_stepWord_96 : decode prog_14_method_39_code 96 = .ok (.iconst 0, 1) := by decide +kernel
theorem d_Mo_stepWord_97 : decode prog_14_method_39_code 97 = .ok (.iconst 0, 1) := by decide +kernel
theorem d_Mo_stepWord_98 : decode prog_14_method_39_code 98 = .ok (.iconst 0, 1) := by decide +kernel
theorem d_Mo_stepWord_99 : decode prog_14_method_39_code 99 = .ok (.invokestatic 150, 3) := by decide +kernel
theorem d_Mo_stepWord_102 : decode prog_14_method_39_code 102 = .ok (.invokevirtual 154, 3) := by decide +kernel
theorem d_Mo_stepWord_105 : decode prog_14_method_39_code 105 = .ok (.ifCond .eq 5, 3) := by decide +kernel
theorem d_Mo_stepWord_108 : decode prog_14_method_39_code 108 = .ok (.iconst 4, 1) := by decide +kernel
theorem d_Mo_stepWord_109 : decode prog_14_method_39_code 109 = .ok (.ireturn, 1) := by decide +kernel
theorem d_Mo_stepWord_110 : decode prog_14_method_39_code 110 = .ok (.aload_n 0, 1) := by decide +kernel
theorem d_Mo_stepWord_111 : decode prog_14_method_39_code 111 = .ok (.bipush 119, 2) := by decide +kernel
theorem d_Mo_stepWord_113 : decode prog_14_method_39_code 113 = .ok (.bipush 104, 2) := by decide +kernel
theorem d_Mo_stepWord_115 : decode prog_14_method_39_code 115 = .ok (.bipush 101, 2) := by decide +kernel
theorem d_Mo_stepWord_117 : decode prog_14_method_39_code 117 = .ok (.bipush 110, 2) := by decide +kernel
theorem d_Mo_stepWord_119 : decode prog_14_method_39_code 119 = .ok (.iconst 0, 1) := by decide +kernel
theorem d_Mo_stepWord_120 : decode prog_14_method_39_code 120 = .ok (.iconst 0, 1) := by decide +kernel
theorem d_Mo_stepWord_121 : decode prog_14_method_39_code 121 = .ok (.invokestatic 150, 3) := by decide +kernel
theorem d_Mo_stepWord_124 : decode prog_14_method_39_code 124 = .ok (.invokevirtual 154, 3) := by decide +kernel
theorem d_Mo_stepWord_127 : decode prog_14_method_39_code 127 = .ok (.ifCond .eq 5, 3) := by decide +kernel
theorem d_Mo_stepWord_130 : decode prog_14_method_39_code 130 = .ok (.iconst 5, 1) := by decide +kernel
theorem d_Mo_stepWord_131 : decode prog_14_method_39_code 131 = .ok (.ireturn, 1) := by decide +kernel
theorem d_Mo_stepWord_132 : decode prog_14_method_39_code 132 = .ok (.aload_n 0, 1) := by decide +kernel
theorem d_Mo_stepWord_133 : decode prog_14_method_39_code 133 = .ok (.bipush 108, 2) := by decide +kernel
theorem d_Mo_stepWord_135 : decode prog_14_method_39_code 135 = .ok (.bipush 111, 2) := by decide +kernel
theorem d_Mo_stepWord_137 : decode prog_14_method_39_code 137 = .ok (.bipush 111, 2) := by decide +kernel
theorem d_Mo_stepWord_139 : decode prog_14_method_39_code 139 = .ok (.bipush 112, 2) := by decide +kernel
theorem d_Mo_stepWord_141 : decode prog_14_method_39_code 141 = .ok (.iconst 0, 1) := by decide +kernel
theorem d_Mo_stepWord_142 : decode prog_14_method_39_code 142 = .ok (.iconst 0, 1) := by decide +kernel
theorem d_Mo_stepWord_143 : decode prog_14_method_39_code 143 = .ok (.invokestatic 150, 3) := by decide +kernel
theorem d_Mo_stepWord_146 : decode prog_14_method_39_code 146 = .ok (.invokevirtual 154, 3) := by decide +kernel
theorem d_Mo_stepWord_149 : decode prog_14_method_39_code 149 = .ok (.ifCond .eq 6, 3) := by decide +kernel
theorem d_Mo_stepWord_152 : decode prog_14_method_39_code 152 = .ok (.bipush 6, 2) := by decide +kernel
theorem d_Mo_stepWord_154 : decode prog_14_method_39_code 154 = .ok (.ireturn, 1) := by decide +kernel
theorem d_Mo_stepWord_155 : decode prog_14_method_39_code 155 = .ok (.aload_n 0, 1) := by decide +kernel
theorem d_Mo_stepWord_156 : decode prog_14_method_39_code 156 = .ok (.bipush 115, 2) := by decide +kernel
theorem d_Mo_stepWord_158 : decode prog_14_method_39_code 158 = .ok (.bipush 116, 2) := by decide +kernel
theorem d_Mo_stepWord_160 : decode prog_14_method_39_code 160 = .ok (.bipush 111, 2) := by decide +kernel
theorem d_Mo_stepWord_162 : decode prog_14_method_39_code 162 = .ok (.bipush 112, 2) := by decide +kernel
theorem d_Mo_stepWord_164 : decode prog_14_method_39_code 164 = .ok (.iconst 0, 1) := by decide +kernel
theorem d_Mo_stepWord_165 : decode prog_14_method_39_code 165 = .ok (.iconst 0, 1) := by decide +kernel
theorem d_Mo_stepWord_166 : decode prog_14_method_39_code 166 = .ok (.invokestatic 150, 3) := by decide +kernel
theorem d_Mo_stepWord_169 : decode prog_14_method_39_code 169 = .ok (.invokevirtual 154, 3) := by decide +kernel
theorem d_Mo_stepWord_172 : decode prog_14_method_39_code 172 = .ok (.ifCond .eq 8, 3) := by decide +kernel
theorem d_Mo_stepWord_175 : decode prog_14_method_39_code 175 = .ok (.bipush 7, 2) := by decide +kernel
theorem d_Mo_stepWord_177 : decode prog_14_method_39_code 177 = .ok (.goto 4, 3) := by decide +kernel
theorem d_Mo_stepWord_180 : decode prog_14_method_39_code 180 = .ok (.iconst (-1), 1) := by decide +kernel
theorem d_Mo_stepWord_181 : decode prog_14_method_39_code 181 = .ok (.ireturn, 1) := by decide +kernel
theorem d_Mo_testWord_0 : decode prog_14_method_40_code 0 = .ok (.aload_n 0, 1) := by decide +kernel
theorem d_Mo_testWord_1 : decode prog_14_method_40_code 1 = .ok (.invokevirtual 158, 3) := by decide +kernel
theorem d_Mo_testWord_4 : decode prog_14_method_40_code 4 = .ok (.ifCond .eq 5, 3) := by decide +kernel
theorem d_Mo_testWord_7 : decode prog_14_method_40_code 7 = .ok (.iconst 0, 1) := by decide +kernel
theorem d_Mo_testWord_8 : decode prog_14_method_40_code 8 = .ok (.ireturn, 1) := by decide +kernel
theorem d_Mo_testWord_9 : decode prog_14_method_40_code 9 = .ok (.aload_n 0, 1) := by decide +kernel
theorem d_Mo_testWord_10 : decode prog_14_method_40_code 10 = .ok (.bipush 103, 2) := by decide +kernel
theorem d_Mo_testWord_12 : decode prog_14_method_40_code 12 = .ok (.bipush 111, 2) := by decide +kernel
theorem d_Mo_testWord_14 : decode prog_14_method_40_code 14 = .ok (.bipush 116, 2) := by decide +kernel
theorem d_Mo_testWord_16 : decode prog_14_method_40_code 16 = .ok (.iconst 0, 1) := by decide +kernel
theorem d_Mo_testWord_17 : decode prog_14_method_40_code 17 = .ok (.iconst 0, 1) := by decide +kernel
theorem d_Mo_testWord_18 : decode prog_14_method_40_code 18 = .ok (.iconst 0, 1) := by decide +kernel
theorem d_Mo_testWord_19 : decode prog_14_method_40_code 19 = .ok (.invokestatic 150, 3) := by decide +kernel
theorem d_Mo_testWord_22 : decode prog_14_method_40_code 22 = .ok (.invokevirtual 154, 3) := by decide +kernel
theorem d_Mo_testWord_25 : decode prog_14_method_40_code 25 = .ok (.ifCond .eq 5, 3) := by decide +kernel
theorem d_Mo_testWord_28 : decode prog_14_method_40_code 28 = .ok (.iconst 1, 1) := by decide +kernel
theorem d_Mo_testWord_29 : decode prog_14_method_40_code 29 = .ok (.ireturn, 1) := by decide +kernel
theorem d_Mo_testWord_30 : decode prog_14_method_40_code 30 = .ok (.aload_n 0, 1) := by decide +kernel
theorem d_Mo_testWord_31 : decode prog_14_method_40_code 31 = .ok (.bipush 103, 2) := by decide +kernel
theorem d_Mo_testWord_33 : decode prog_14_method_40_code 33 = .ok (.bipush 111, 2) := by decide +kernel
theorem d_Mo_testWord_35 : decode prog_14_method_40_code 35 = .ok (.bipush 110, 2) := by decide +kernel
theorem d_Mo_testWord_37 : decode prog_14_method_40_code 37 = .ok (.bipush 101, 2) := by decide +kernel
theorem d_Mo_testWord_39 : decode prog_14_method_40_code 39 = .ok (.iconst 0, 1) := by decide +kernel
theorem d_Mo_testWord_40 : decode prog_14_method_40_code 40 = .ok (.iconst 0, 1) := by decide +kernel
theorem d_Mo_testWord_41 : decode prog_14_method_40_code 41 = .ok (.invokestatic 150, 3) := by decide +kernel
theorem d_Mo_testWord_44 : decode prog_14_method_40_code 44 = .ok (.invokevirtual 154, 3) := by decide +kernel
theorem d_Mo_testWord_47 : decode prog_14_method_40_code 47 = .ok (.ifCond .eq 7, 3) := by decide +kernel
theorem d_Mo_testWord_50 : decode prog_14_method_40_code 50 = .ok (.iconst 2, 1) := by decide +kernel
theorem d_Mo_testWord_51 : decode prog_14_method_40_code 51 = .ok (.goto 4, 3) := by decide +kernel
theorem d_Mo_testWord_54 : decode prog_14_method_40_code 54 = .ok (.iconst (-1), 1) := by decide +kernel
theorem d_Mo_testWord_55 : decode prog_14_method_40_code 55 = .ok (.ireturn, 1) := by decide +kernel
theorem d_Mo_isOn_0 : decode prog_14_method_37_code 0 = .ok (.aload_n 0, 1) := by decide +kernel
theorem d_Mo_isOn_1 : decode prog_14_method_37_code 1 = .ok (.bipush 111, 2) := by decide +kernel
theorem d_Mo_isOn_3 : decode prog_14_method_37_code 3 = .ok (.bipush 110, 2) := by decide +kernel
theorem d_Mo_isOn_5 : decode prog_14_method_37_code 5 = .ok (.iconst 0, 1) := by decide +kernel
theorem d_Mo_isOn_6 : decode prog_14_method_37_code 6 = .ok (.iconst 0, 1) := by decide +kernel
theorem d_Mo_isOn_7 : decode prog_14_method_37_code 7 = .ok (.iconst 0, 1) := by decide +kernel
theorem d_Mo_isOn_8 : decode prog_14_method_37_code 8 = .ok (.iconst 0, 1) := by decide +kernel
theorem d_Mo_isOn_9 : decode prog_14_method_37_code 9 = .ok (.invokestatic 150, 3) := by decide +kernel
theorem d_Mo_isOn_12 : decode prog_14_method_37_code 12 = .ok (.invokevirtual 154, 3) := by decide +kernel
theorem d_Mo_isOn_15 : decode prog_14_method_37_code 15 = .ok (.ireturn, 1) := by decide +kernel
theorem d_Mo_isEnd_0 : decode prog_14_method_41_code 0 = .ok (.aload_n 0, 1) := by decide +kernel
theorem d_Mo_isEnd_1 : decode prog_14_method_41_code 1 = .ok (.bipush 101, 2) := by decide +kernel
theorem d_Mo_isEnd_3 : decode prog_14_method_41_code 3 = .ok (.bipush 110, 2) := by decide +kernel
theorem d_Mo_isEnd_5 : decode prog_14_method_41_code 5 = .ok (.bipush 100, 2) := by decide +kernel
theorem d_Mo_isEnd_7 : decode prog_14_method_41_code 7 = .ok (.iconst 0, 1) := by decide +kernel
theorem d_Mo_isEnd_8 : decode prog_14_method_41_code 8 = .ok (.iconst 0, 1) := by decide +kernel
theorem d_Mo_isEnd_9 : decode prog_14_method_41_code 9 = .ok (.iconst 0, 1) := by decide +kernel
theorem d_Mo_isEnd_10 : decode prog_14_method_41_code 10 = .ok (.invokestatic 150, 3) := by decide +kernel
theorem d_Mo_isEnd_13 : decode prog_14_method_41_code 13 = .ok (.invokevirtual 154, 3) := by decide +kernel
theorem d_Mo_isEnd_16 : decode prog_14_method_41_code 16 = .ok (.ireturn, 1) := by decide +kernel
theorem d_Mo_named_0 : decode prog_14_method_56_code 0 = .ok (.iconst 0, 1) := by decide +kernel
theorem d_Mo_named_1 : decode prog_14_method_56_code 1 = .ok (.istore_n 3, 1) := by decide +kernel
theorem d_Mo_named_2 : decode prog_14_method_56_code 2 = .ok (.iload_n 3, 1) := by decide +kernel
theorem d_Mo_named_3 : decode prog_14_method_56_code 3 = .ok (.aload_n 0, 1) := by decide +kernel
theorem d_Mo_named_4 : decode prog_14_method_56_code 4 = .ok (.getfield 35, 3) := by decide +kernel
theorem d_Mo_named_7 : decode prog_14_method_56_code 7 = .ok (.sipush 359, 3) := by decide +kernel
theorem d_Mo_named_10 : decode prog_14_method_56_code 10 = .ok (.iload_n 1, 1) := by decide +kernel
theorem d_Mo_named_11 : decode prog_14_method_56_code 11 = .ok (.imul, 1) := by decide +kernel
theorem d_Mo_named_12 : decode prog_14_method_56_code 12 = .ok (.iload_n 2, 1) := by decide +kernel
theorem d_Mo_named_13 : decode prog_14_method_56_code 13 = .ok (.iadd, 1) := by decide +kernel
theorem d_Mo_named_14 : decode prog_14_method_56_code 14 = .ok (.iaload, 1) := by decide +kernel
theorem d_Mo_named_15 : decode prog_14_method_56_code 15 = .ok (.if_icmp .ge 35, 3) := by decide +kernel
theorem d_Mo_named_18 : decode prog_14_method_56_code 18 = .ok (.aload_n 0, 1) := by decide +kernel
theorem d_Mo_named_19 : decode prog_14_method_56_code 19 = .ok (.getfield 41, 3) := by decide +kernel
theorem d_Mo_named_22 : decode prog_14_method_56_code 22 = .ok (.bipush 22, 2) := by decide +kernel
theorem d_Mo_named_24 : decode prog_14_method_56_code 24 = .ok (.iload_n 1, 1) := by decide +kernel
theorem d_Mo_named_25 : decode prog_14_method_56_code 25 = .ok (.imul, 1) := by decide +kernel
theorem d_Mo_named_26 : decode prog_14_method_56_code 26 = .ok (.iload_n 2, 1) := by decide +kernel
theorem d_Mo_named_27 : decode prog_14_method_56_code 27 = .ok (.invokestatic 224, 3) := by decide +kernel
theorem d_Mo_named_30 : decode prog_14_method_56_code 30 = .ok (.iadd, 1) := by decide +kernel
theorem d_Mo_named_31 : decode prog_14_method_56_code 31 = .ok (.iload_n 3, 1) := by decide +kernel
theorem d_Mo_named_32 : decode prog_14_method_56_code 32 = .ok (.iadd, 1) := by decide +kernel
theorem d_Mo_named_33 : decode prog_14_method_56_code 33 = .ok (.laload, 1) := by decide +kernel
theorem d_Mo_named_34 : decode prog_14_method_56_code 34 = .ok (.aload_n 0, 1) := by decide +kernel
theorem d_Mo_named_35 : decode prog_14_method_56_code 35 = .ok (.getfield 131, 3) := by decide +kernel
theorem d_Mo_named_38 : decode prog_14_method_56_code 38 = .ok (.lcmp, 1) := by decide +kernel
theorem d_Mo_named_39 : decode prog_14_method_56_code 39 = .ok (.ifCond .ne 5, 3) := by decide +kernel
theorem d_Mo_named_42 : decode prog_14_method_56_code 42 = .ok (.iload_n 3, 1) := by decide +kernel
theorem d_Mo_named_43 : decode prog_14_method_56_code 43 = .ok (.ireturn, 1) := by decide +kernel
theorem d_Mo_named_44 : decode prog_14_method_56_code 44 = .ok (.iinc 3 1, 3) := by decide +kernel
theorem d_Mo_named_47 : decode prog_14_method_56_code 47 = .ok (.goto (-45), 3) := by decide +kernel
theorem d_Mo_named_50 : decode prog_14_method_56_code 50 = .ok (.iconst (-1), 1) := by decide +kernel
theorem d_Mo_named_51 : decode prog_14_method_56_code 51 = .ok (.ireturn, 1) := by decide +kernel
theorem d_Mo_namesFrom_0 : decode prog_14_method_55_code 0 = .ok (.iload_n 0, 1) := by decide +kernel
theorem d_Mo_namesFrom_1 : decode prog_14_method_55_code 1 = .ok (.ifCond .ne 7, 3) := by decide +kernel
theorem d_Mo_namesFrom_4 : decode prog_14_method_55_code 4 = .ok (.iconst 0, 1) := by decide +kernel
theorem d_Mo_namesFrom_5 : decode prog_14_method_55_code 5 = .ok (.goto 15, 3) := by decide +kernel
theorem d_Mo_namesFrom_8 : decode prog_14_method_55_code 8 = .ok (.iload_n 0, 1) := by decide +kernel
theorem d_Mo_namesFrom_9 : decode prog_14_method_55_code 9 = .ok (.iconst 1, 1) := by decide +kernel
theorem d_Mo_namesFrom_10 : decode prog_14_method_55_code 10 = .ok (.if_icmp .ne 8, 3) := by decide +kernel
theorem d_Mo_namesFrom_13 : decode prog_14_method_55_code 13 = .ok (.bipush 6, 2) := by decide +kernel
theorem d_Mo_namesFrom_15 : decode prog_14_method_55_code 15 = .ok (.goto 5, 3) := by decide +kernel
theorem d_Mo_namesFrom_18 : decode prog_14_method_55_code 18 = .ok (.bipush 13, 2) := by decide +kernel
theorem d_Mo_namesFrom_20 : decode prog_14_method_55_code 20 = .ok (.ireturn, 1) := by decide +kernel
theorem d_Mo_must_0 : decode prog_14_method_46_code 0 = .ok (.aload_n 0, 1) := by decide +kernel
theorem d_Mo_must_1 : decode prog_14_method_46_code 1 = .ok (.getfield 202, 3) := by decide +kernel
theorem d_Mo_must_4 : decode prog_14_method_46_code 4 = .ok (.ifCond .le 4, 3) := by decide +kernel
theorem d_Mo_must_7 : decode prog_14_method_46_code 7 = .ok (.return_, 1) := by decide +kernel
theorem d_Mo_must_8 : decode prog_14_method_46_code 8 = .ok (.iload_n 1, 1) := by decide +kernel
theorem d_Mo_must_9 : decode prog_14_method_46_code 9 = .ok (.ifCond .eq 10, 3) := by decide +kernel
theorem d_Mo_must_12 : decode prog_14_method_46_code 12 = .ok (.aload_n 0, 1) := by decide +kernel
theorem d_Mo_must_13 : decode prog_14_method_46_code 13 = .ok (.invokevirtual 212, 3) := by decide +kernel
theorem d_Mo_must_16 : decode prog_14_method_46_code 16 = .ok (.goto 7, 3) := by decide +kernel
theorem d_Mo_must_19 : decode prog_14_method_46_code 19 = .ok (.aload_n 0, 1) := by decide +kernel
theorem d_Mo_must_20 : decode prog_14_method_46_code 20 = .ok (.invokevirtual 215, 3) := by decide +kernel
theorem d_Mo_must_23 : decode prog_14_method_46_code 23 = .ok (.return_, 1) := by decide +kernel
