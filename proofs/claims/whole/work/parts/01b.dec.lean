/-! decode rows (printed by wip/tools/p09.py) -/
theorem d_Tray_new_0 : decode prog_10_method_1_code 0 = .ok (.aload_n 0, 1) := by decide +kernel
theorem d_Tray_new_1 : decode prog_10_method_1_code 1 = .ok (.invokespecial 3, 3) := by decide +kernel
theorem d_Tray_new_4 : decode prog_10_method_1_code 4 = .ok (.aload_n 0, 1) := by decide +kernel
theorem d_Tray_new_5 : decode prog_10_method_1_code 5 = .ok (.bipush 60, 2) := by decide +kernel
theorem d_Tray_new_7 : decode prog_10_method_1_code 7 = .ok (.newarray .long, 2) := by decide +kernel
theorem d_Tray_new_9 : decode prog_10_method_1_code 9 = .ok (.putfield 9, 3) := by decide +kernel
theorem d_Tray_new_12 : decode prog_10_method_1_code 12 = .ok (.return_, 1) := by decide +kernel
theorem d_Tok_new_0 : decode prog_9_method_1_code 0 = .ok (.aload_n 0, 1) := by decide +kernel
theorem d_Tok_new_1 : decode prog_9_method_1_code 1 = .ok (.invokespecial 1, 3) := by decide +kernel
theorem d_Tok_new_4 : decode prog_9_method_1_code 4 = .ok (.aload_n 0, 1) := by decide +kernel
theorem d_Tok_new_5 : decode prog_9_method_1_code 5 = .ok (.iconst 0, 1) := by decide +kernel
theorem d_Tok_new_6 : decode prog_9_method_1_code 6 = .ok (.newarray .byte, 2) := by decide +kernel
theorem d_Tok_new_8 : decode prog_9_method_1_code 8 = .ok (.putfield 7, 3) := by decide +kernel
theorem d_Tok_new_11 : decode prog_9_method_1_code 11 = .ok (.aload_n 0, 1) := by decide +kernel
theorem d_Tok_new_12 : decode prog_9_method_1_code 12 = .ok (.bipush 21, 2) := by decide +kernel
theorem d_Tok_new_14 : decode prog_9_method_1_code 14 = .ok (.newarray .long, 2) := by decide +kernel
theorem d_Tok_new_16 : decode prog_9_method_1_code 16 = .ok (.putfield 13, 3) := by decide +kernel
theorem d_Tok_new_19 : decode prog_9_method_1_code 19 = .ok (.aload_n 0, 1) := by decide +kernel
theorem d_Tok_new_20 : decode prog_9_method_1_code 20 = .ok (.iconst (-1), 1) := by decide +kernel
theorem d_Tok_new_21 : decode prog_9_method_1_code 21 = .ok (.putfield 19, 3) := by decide +kernel
theorem d_Tok_new_24 : decode prog_9_method_1_code 24 = .ok (.aload_n 0, 1) := by decide +kernel
theorem d_Tok_new_25 : decode prog_9_method_1_code 25 = .ok (.iconst (-1), 1) := by decide +kernel
theorem d_Tok_new_26 : decode prog_9_method_1_code 26 = .ok (.putfield 23, 3) := by decide +kernel
theorem d_Tok_new_29 : decode prog_9_method_1_code 29 = .ok (.ldc 26, 2) := by decide +kernel
theorem d_Tok_new_31 : decode prog_9_method_1_code 31 = .ok (.invokevirtual 28, 3) := by decide +kernel
theorem d_Tok_new_34 : decode prog_9_method_1_code 34 = .ok (.newarray .byte, 2) := by decide +kernel
theorem d_Tok_new_36 : decode prog_9_method_1_code 36 = .ok (.astore_n 1, 1) := by decide +kernel
theorem d_Tok_new_37 : decode prog_9_method_1_code 37 = .ok (.iconst 0, 1) := by decide +kernel
theorem d_Tok_new_38 : decode prog_9_method_1_code 38 = .ok (.istore_n 2, 1) := by decide +kernel
theorem d_Tok_new_39 : decode prog_9_method_1_code 39 = .ok (.iload_n 2, 1) := by decide +kernel
theorem d_Tok_new_40 : decode prog_9_method_1_code 40 = .ok (.aload_n 1, 1) := by decide +kernel
theorem d_Tok_new_41 : decode prog_9_method_1_code 41 = .ok (.arraylength, 1) := by decide +kernel
theorem d_Tok_new_42 : decode prog_9_method_1_code 42 = .ok (.if_icmp .ge 19, 3) := by decide +kernel
theorem d_Tok_new_45 : decode prog_9_method_1_code 45 = .ok (.aload_n 1, 1) := by decide +kernel
theorem d_Tok_new_46 : decode prog_9_method_1_code 46 = .ok (.iload_n 2, 1) := by decide +kernel
theorem d_Tok_new_47 : decode prog_9_method_1_code 47 = .ok (.ldc 26, 2) := by decide +kernel
theorem d_Tok_new_49 : decode prog_9_method_1_code 49 = .ok (.iload_n 2, 1) := by decide +kernel
theorem d_Tok_new_50 : decode prog_9_method_1_code 50 = .ok (.invokevirtual 34, 3) := by decide +kernel
theorem d_Tok_new_53 : decode prog_9_method_1_code 53 = .ok (.i2b, 1) := by decide +kernel
theorem d_Tok_new_54 : decode prog_9_method_1_code 54 = .ok (.bastore, 1) := by decide +kernel
theorem d_Tok_new_55 : decode prog_9_method_1_code 55 = .ok (.iinc 2 1, 3) := by decide +kernel
theorem d_Tok_new_58 : decode prog_9_method_1_code 58 = .ok (.goto (-19), 3) := by decide +kernel
theorem d_Tok_new_61 : decode prog_9_method_1_code 61 = .ok (.aload_n 0, 1) := by decide +kernel
theorem d_Tok_new_62 : decode prog_9_method_1_code 62 = .ok (.aload_n 1, 1) := by decide +kernel
theorem d_Tok_new_63 : decode prog_9_method_1_code 63 = .ok (.aload_n 1, 1) := by decide +kernel
theorem d_Tok_new_64 : decode prog_9_method_1_code 64 = .ok (.arraylength, 1) := by decide +kernel
theorem d_Tok_new_65 : decode prog_9_method_1_code 65 = .ok (.invokevirtual 38, 3) := by decide +kernel
theorem d_Tok_new_68 : decode prog_9_method_1_code 68 = .ok (.iconst 0, 1) := by decide +kernel
theorem d_Tok_new_69 : decode prog_9_method_1_code 69 = .ok (.istore_n 2, 1) := by decide +kernel
theorem d_Tok_new_70 : decode prog_9_method_1_code 70 = .ok (.iload_n 2, 1) := by decide +kernel
theorem d_Tok_new_71 : decode prog_9_method_1_code 71 = .ok (.bipush 21, 2) := by decide +kernel
theorem d_Tok_new_73 : decode prog_9_method_1_code 73 = .ok (.if_icmp .ge 23, 3) := by decide +kernel
theorem d_Tok_new_76 : decode prog_9_method_1_code 76 = .ok (.aload_n 0, 1) := by decide +kernel
theorem d_Tok_new_77 : decode prog_9_method_1_code 77 = .ok (.getfield 13, 3) := by decide +kernel
theorem d_Tok_new_80 : decode prog_9_method_1_code 80 = .ok (.iload_n 2, 1) := by decide +kernel
theorem d_Tok_new_81 : decode prog_9_method_1_code 81 = .ok (.aload_n 0, 1) := by decide +kernel
theorem d_Tok_new_82 : decode prog_9_method_1_code 82 = .ok (.getfield 42, 3) := by decide +kernel
theorem d_Tok_new_85 : decode prog_9_method_1_code 85 = .ok (.lastore, 1) := by decide +kernel
theorem d_Tok_new_86 : decode prog_9_method_1_code 86 = .ok (.aload_n 0, 1) := by decide +kernel
theorem d_Tok_new_87 : decode prog_9_method_1_code 87 = .ok (.invokevirtual 46, 3) := by decide +kernel
theorem d_Tok_new_90 : decode prog_9_method_1_code 90 = .ok (.iinc 2 1, 3) := by decide +kernel
theorem d_Tok_new_93 : decode prog_9_method_1_code 93 = .ok (.goto (-23), 3) := by decide +kernel
theorem d_Tok_new_96 : decode prog_9_method_1_code 96 = .ok (.aload_n 0, 1) := by decide +kernel
theorem d_Tok_new_97 : decode prog_9_method_1_code 97 = .ok (.iconst (-1), 1) := by decide +kernel
theorem d_Tok_new_98 : decode prog_9_method_1_code 98 = .ok (.putfield 19, 3) := by decide +kernel
theorem d_Tok_new_101 : decode prog_9_method_1_code 101 = .ok (.return_, 1) := by decide +kernel
theorem d_Tok_open_0 : decode prog_9_method_2_code 0 = .ok (.aload_n 0, 1) := by decide +kernel
theorem d_Tok_open_1 : decode prog_9_method_2_code 1 = .ok (.aload_n 1, 1) := by decide +kernel
theorem d_Tok_open_2 : decode prog_9_method_2_code 2 = .ok (.putfield 7, 3) := by decide +kernel
theorem d_Tok_open_5 : decode prog_9_method_2_code 5 = .ok (.aload_n 0, 1) := by decide +kernel
theorem d_Tok_open_6 : decode prog_9_method_2_code 6 = .ok (.iload_n 2, 1) := by decide +kernel
theorem d_Tok_open_7 : decode prog_9_method_2_code 7 = .ok (.aload_n 1, 1) := by decide +kernel
theorem d_Tok_open_8 : decode prog_9_method_2_code 8 = .ok (.arraylength, 1) := by decide +kernel
theorem d_Tok_open_9 : decode prog_9_method_2_code 9 = .ok (.invokestatic 49, 3) := by decide +kernel
theorem d_Tok_open_12 : decode prog_9_method_2_code 12 = .ok (.putfield 55, 3) := by decide +kernel
theorem d_Tok_open_15 : decode prog_9_method_2_code 15 = .ok (.aload_n 0, 1) := by decide +kernel
theorem d_Tok_open_16 : decode prog_9_method_2_code 16 = .ok (.iconst 0, 1) := by decide +kernel
theorem d_Tok_open_17 : decode prog_9_method_2_code 17 = .ok (.putfield 57, 3) := by decide +kernel
theorem d_Tok_open_20 : decode prog_9_method_2_code 20 = .ok (.aload_n 0, 1) := by decide +kernel
theorem d_Tok_open_21 : decode prog_9_method_2_code 21 = .ok (.iconst 0, 1) := by decide +kernel
theorem d_Tok_open_22 : decode prog_9_method_2_code 22 = .ok (.putfield 19, 3) := by decide +kernel
theorem d_Tok_open_25 : decode prog_9_method_2_code 25 = .ok (.aload_n 0, 1) := by decide +kernel
theorem d_Tok_open_26 : decode prog_9_method_2_code 26 = .ok (.iconst (-1), 1) := by decide +kernel
theorem d_Tok_open_27 : decode prog_9_method_2_code 27 = .ok (.putfield 23, 3) := by decide +kernel
theorem d_Tok_open_30 : decode prog_9_method_2_code 30 = .ok (.aload_n 0, 1) := by decide +kernel
theorem d_Tok_open_31 : decode prog_9_method_2_code 31 = .ok (.invokevirtual 46, 3) := by decide +kernel
theorem d_Tok_open_34 : decode prog_9_method_2_code 34 = .ok (.return_, 1) := by decide +kernel
theorem d_Tok_advance_0 : decode prog_9_method_3_code 0 = .ok (.aload_n 0, 1) := by decide +kernel
theorem d_Tok_advance_1 : decode prog_9_method_3_code 1 = .ok (.getfield 57, 3) := by decide +kernel
theorem d_Tok_advance_4 : decode prog_9_method_3_code 4 = .ok (.aload_n 0, 1) := by decide +kernel
theorem d_Tok_advance_5 : decode prog_9_method_3_code 5 = .ok (.getfield 55, 3) := by decide +kernel
theorem d_Tok_advance_8 : decode prog_9_method_3_code 8 = .ok (.if_icmp .ge 44, 3) := by decide +kernel
theorem d_Tok_advance_11 : decode prog_9_method_3_code 11 = .ok (.aload_n 0, 1) := by decide +kernel
theorem d_Tok_advance_12 : decode prog_9_method_3_code 12 = .ok (.getfield 7, 3) := by decide +kernel
theorem d_Tok_advance_15 : decode prog_9_method_3_code 15 = .ok (.aload_n 0, 1) := by decide +kernel
theorem d_Tok_advance_16 : decode prog_9_method_3_code 16 = .ok (.getfield 57, 3) := by decide +kernel
theorem d_Tok_advance_19 : decode prog_9_method_3_code 19 = .ok (.baload, 1) := by decide +kernel
theorem d_Tok_advance_20 : decode prog_9_method_3_code 20 = .ok (.bipush 10, 2) := by decide +kernel
theorem d_Tok_advance_22 : decode prog_9_method_3_code 22 = .ok (.if_icmp .eq 17, 3) := by decide +kernel
theorem d_Tok_advance_25 : decode prog_9_method_3_code 25 = .ok (.aload_n 0, 1) := by decide +kernel
theorem d_Tok_advance_26 : decode prog_9_method_3_code 26 = .ok (.getfield 7, 3) := by decide +kernel
theorem d_Tok_advance_29 : decode prog_9_method_3_code 29 = .ok (.aload_n 0, 1) := by decide +kernel
theorem d_Tok_advance_30 : decode prog_9_method_3_code 30 = .ok (.getfield 57, 3) := by decide +kernel
theorem d_Tok_advance_33 : decode prog_9_method_3_code 33 = .ok (.baload, 1) := by decide +kernel
theorem d_Tok_advance_34 : decode prog_9_method_3_code 34 = .ok (.bipush 32, 2) := by decide +kernel
theorem d_Tok_advance_36 : decode prog_9_method_3_code 36 = .ok (.if_icmp .ne 16, 3) := by decide +kernel
theorem d_Tok_advance_39 : decode prog_9_method_3_code 39 = .ok (.aload_n 0, 1) := by decide +kernel
theorem d_Tok_advance_40 : decode prog_9_method_3_code 40 = .ok (.dup, 1) := by decide +kernel
theorem d_Tok_advance_41 : decode prog_9_method_3_code 41 = .ok (.getfield 57, 3) := by decide +kernel
theorem d_Tok_advance_44 : decode prog_9_method_3_code 44 = .ok (.iconst 1, 1) := by decide +kernel
theorem d_Tok_advance_45 : decode prog_9_method_3_code 45 = .ok (.iadd, 1) := by decide +kernel
theorem d_Tok_advance_46 : decode prog_9_method_3_code 46 = .ok (.putfield 57, 3) := by decide +kernel
theorem d_Tok_advance_49 : decode prog_9_method_3_code 49 = .ok (.goto (-49), 3) := by decide +kernel
theorem d_Tok_advance_52 : decode prog_9_method_3_code 52 = .ok (.aload_n 0, 1) := by decide +kernel
theorem d_Tok_advance_53 : decode prog_9_method_3_code 53 = .ok (.aload_n 0, 1) := by decide +kernel
theorem d_Tok_advance_54 : decode prog_9_method_3_code 54 = .ok (.getfield 57, 3) := by decide +kernel
theorem d_Tok_advance_57 : decode prog_9_method_3_code 57 = .ok (.putfield 60, 3) := by decide +kernel
theorem d_Tok_advance_60 : decode prog_9_method_3_code 60 = .ok (.aload_n 0, 1) := by decide +kernel
theorem d_Tok_advance_61 : decode prog_9_method_3_code 61 = .ok (.lconst 0, 1) := by decide +kernel
theorem d_Tok_advance_62 : decode prog_9_method_3_code 62 = .ok (.putfield 42, 3) := by decide +kernel
theorem d_Tok_advance_65 : decode prog_9_method_3_code 65 = .ok (.aload_n 0, 1) := by decide +kernel
theorem d_Tok_advance_66 : decode prog_9_method_3_code 66 = .ok (.iconst (-1), 1) := by decide +kernel
theorem d_Tok_advance_67 : decode prog_9_method_3_code 67 = .ok (.putfield 63, 3) := by decide +kernel
theorem d_Tok_advance_70 : decode prog_9_method_3_code 70 = .ok (.aload_n 0, 1) := by decide +kernel
theorem d_Tok_advance_71 : decode prog_9_method_3_code 71 = .ok (.iconst 0, 1) := by decide +kernel
theorem d_Tok_advance_72 : decode prog_9_method_3_code 72 = .ok (.putfield 66, 3) := by decide +kernel
theorem d_Tok_advance_75 : decode prog_9_method_3_code 75 = .ok (.aload_n 0, 1) := by decide +kernel
theorem d_Tok_advance_76 : decode prog_9_method_3_code 76 = .ok (.iconst 0, 1) := by decide +kernel
theorem d_Tok_advance_77 : decode prog_9_method_3_code 77 = .ok (.putfield 69, 3) := by decide +kernel
theorem d_Tok_advance_80 : decode prog_9_method_3_code 80 = .ok (.aload_n 0, 1) := by decide +kernel
theorem d_Tok_advance_81 : decode prog_9_method_3_code 81 = .ok (.getfield 57, 3) := by decide +kernel
theorem d_Tok_advance_84 : decode prog_9_method_3_code 84 = .ok (.aload_n 0, 1) := by decide +kernel
theorem d_Tok_advance_85 : decode prog_9_method_3_code 85 = .ok (.getfield 55, 3) := by decide +kernel
theorem d_Tok_advance_88 : decode prog_9_method_3_code 88 = .ok (.if_icmp .lt 11, 3) := by decide +kernel
theorem d_Tok_advance_91 : decode prog_9_method_3_code 91 = .ok (.aload_n 0, 1) := by decide +kernel
theorem d_Tok_advance_92 : decode prog_9_method_3_code 92 = .ok (.iconst 0, 1) := by decide +kernel
theorem d_Tok_advance_93 : decode prog_9_method_3_code 93 = .ok (.putfield 72, 3) := by decide +kernel
theorem d_Tok_advance_96 : decode prog_9_method_3_code 96 = .ok (.goto 77, 3) := by decide +kernel
theorem d_Tok_advance_99 : decode prog_9_method_3_code 99 = .ok (.aload_n 0, 1) := by decide +kernel
theorem d_Tok_advance_100 : decode prog_9_method_3_code 100 = .ok (.getfield 7, 3) := by decide +kernel
theorem d_Tok_advance_103 : decode prog_9_method_3_code 103 = .ok (.aload_n 0, 1) := by decide +kernel
theorem d_Tok_advance_104 : decode prog_9_method_3_code 104 = .ok (.getfield 57, 3) := by decide +kernel
theorem d_Tok_advance_107 : decode prog_9_method_3_code 107 = .ok (.baload, 1) := by decide +kernel
theorem d_Tok_advance_108 : decode prog_9_method_3_code 108 = .ok (.bipush 97, 2) := by decide +kernel
theorem d_Tok_advance_110 : decode prog_9_method_3_code 110 = .ok (.if_icmp .lt 24, 3) := by decide +kernel
theorem d_Tok_advance_113 : decode prog_9_method_3_code 113 = .ok (.aload_n 0, 1) := by decide +kernel
theorem d_Tok_advance_114 : decode prog_9_method_3_code 114 = .ok (.getfield 7, 3) := by decide +kernel
theorem d_Tok_advance_117 : decode prog_9_method_3_code 117 = .ok (.aload_n 0, 1) := by decide +kernel
theorem d_Tok_advance_118 : decode prog_9_method_3_code 118 = .ok (.getfield 57, 3) := by decide +kernel
theorem d_Tok_advance_121 : decode prog_9_method_3_code 121 = .ok (.baload, 1) := by decide +kernel
theorem d_Tok_advance_122 : decode prog_9_method_3_code 122 = .ok (.bipush 122, 2) := by decide +kernel
theorem d_Tok_advance_124 : decode prog_9_method_3_code 124 = .ok (.if_icmp .gt 10, 3) := by decide +kernel
theorem d_Tok_advance_127 : decode prog_9_method_3_code 127 = .ok (.aload_n 0, 1) := by decide +kernel
theorem d_Tok_advance_128 : decode prog_9_method_3_code 128 = .ok (.invokevirtual 75, 3) := by decide +kernel
theorem d_Tok_advance_131 : decode prog_9_method_3_code 131 = .ok (.goto 42, 3) := by decide +kernel
theorem d_Tok_advance_134 : decode prog_9_method_3_code 134 = .ok (.aload_n 0, 1) := by decide +kernel
theorem d_Tok_advance_135 : decode prog_9_method_3_code 135 = .ok (.getfield 7, 3) := by decide +kernel
theorem d_Tok_advance_138 : decode prog_9_method_3_code 138 = .ok (.aload_n 0, 1) := by decide +kernel
theorem d_Tok_advance_139 : decode prog_9_method_3_code 139 = .ok (.getfield 57, 3) := by decide +kernel
theorem d_Tok_advance_142 : decode prog_9_method_3_code 142 = .ok (.baload, 1) := by decide +kernel
theorem d_Tok_advance_143 : decode prog_9_method_3_code 143 = .ok (.bipush 48, 2) := by decide +kernel
theorem d_Tok_advance_145 : decode prog_9_method_3_code 145 = .ok (.if_icmp .lt 24, 3) := by decide +kernel
theorem d_Tok_advance_148 : decode prog_9_method_3_code 148 = .ok (.aload_n 0, 1) := by decide +kernel
theorem d_Tok_advance_149 : decode prog_9_method_3_code 149 = .ok (.getfield 7, 3) := by decide +kernel
theorem d_Tok_advance_152 : decode prog_9_method_3_code 152 = .ok (.aload_n 0, 1) := by decide +kernel
theorem d_Tok_advance_153 : decode prog_9_method_3_code 153 = .ok (.getfield 57, 3) := by decide +kernel
theorem d_Tok_advance_156 : decode prog_9_method_3_code 156 = .ok (.baload, 1) := by decide +kernel
theorem d_Tok_advance_157 : decode prog_9_method_3_code 157 = .ok (.bipush 57, 2) := by decide +kernel
theorem d_Tok_advance_159 : decode prog_9_method_3_code 159 = .ok (.if_icmp .gt 10, 3) := by decide +kernel
theorem d_Tok_advance_162 : decode prog_9_method_3_code 162 = .ok (.aload_n 0, 1) := by decide +kernel
theorem d_Tok_advance_163 : decode prog_9_method_3_code 163 = .ok (.invokevirtual 78, 3) := by decide +kernel
theorem d_Tok_advance_166 : decode prog_9_method_3_code 166 = .ok (.goto 7, 3) := by decide +kernel
theorem d_Tok_advance_169 : decode prog_9_method_3_code 169 = .ok (.aload_n 0, 1) := by decide +kernel
theorem d_Tok_advance_170 : decode prog_9_method_3_code 170 = .ok (.invokevirtual 81, 3) := by decide +kernel
theorem d_Tok_advance_173 : decode prog_9_method_3_code 173 = .ok (.return_, 1) := by decide +kernel
theorem d_Tok_scanWord_0 : decode prog_9_method_4_code 0 = .ok (.lconst 0, 1) := by decide +kernel
theorem d_Tok_scanWord_1 : decode prog_9_method_4_code 1 = .ok (.lstore_n 1, 1) := by decide +kernel
theorem d_Tok_scanWord_2 : decode prog_9_method_4_code 2 = .ok (.aload_n 0, 1) := by decide +kernel
theorem d_Tok_scanWord_3 : decode prog_9_method_4_code 3 = .ok (.getfield 57, 3) := by decide +kernel
theorem d_Tok_scanWord_6 : decode prog_9_method_4_code 6 = .ok (.aload_n 0, 1) := by decide +kernel
theorem d_Tok_scanWord_7 : decode prog_9_method_4_code 7 = .ok (.getfield 55, 3) := by decide +kernel
theorem d_Tok_scanWord_10 : decode prog_9_method_4_code 10 = .ok (.if_icmp .ge 66, 3) := by decide +kernel
theorem d_Tok_scanWord_13 : decode prog_9_method_4_code 13 = .ok (.aload_n 0, 1) := by decide +kernel
theorem d_Tok_scanWord_14 : decode prog_9_method_4_code 14 = .ok (.getfield 7, 3) := by decide +kernel
theorem d_Tok_scanWord_17 : decode prog_9_method_4_code 17 = .ok (.aload_n 0, 1) := by decide +kernel
theorem d_Tok_scanWord_18 : decode prog_9_method_4_code 18 = .ok (.getfield 57, 3) := by decide +kernel
theorem d_Tok_scanWord_21 : decode prog_9_method_4_code 21 = .ok (.baload, 1) := by decide +kernel
theorem d_Tok_scanWord_22 : decode prog_9_method_4_code 22 = .ok (.bipush 97, 2) := by decide +kernel
theorem d_Tok_scanWord_24 : decode prog_9_method_4_code 24 = .ok (.if_icmp .lt 52, 3) := by decide +kernel
theorem d_Tok_scanWord_27 : decode prog_9_method_4_code 27 = .ok (.aload_n 0, 1) := by decide +kernel
theorem d_Tok_scanWord_28 : decode prog_9_method_4_code 28 = .ok (.getfield 7, 3) := by decide +kernel
theorem d_Tok_scanWord_31 : decode prog_9_method_4_code 31 = .ok (.aload_n 0, 1) := by decide +kernel
theorem d_Tok_scanWord_32 : decode prog_9_method_4_code 32 = .ok (.getfield 57, 3) := by decide +kernel
theorem d_Tok_scanWord_35 : decode prog_9_method_4_code 35 = .ok (.baload, 1) := by decide +kernel
theorem d_Tok_scanWord_36 : decode prog_9_method_4_code 36 = .ok (.bipush 122, 2) := by decide +kernel
theorem d_Tok_scanWord_38 : decode prog_9_method_4_code 38 = .ok (.if_icmp .gt 38, 3) := by decide +kernel
theorem d_Tok_scanWord_41 : decode prog_9_method_4_code 41 = .ok (.lload_n 1, 1) := by decide +kernel
theorem d_Tok_scanWord_42 : decode prog_9_method_4_code 42 = .ok (.ldc2_w 84, 3) := by decide +kernel
theorem d_Tok_scanWord_45 : decode prog_9_method_4_code 45 = .ok (.lmul, 1) := by decide +kernel
theorem d_Tok_scanWord_46 : decode prog_9_method_4_code 46 = .ok (.aload_n 0, 1) := by decide +kernel
theorem d_Tok_scanWord_47 : decode prog_9_method_4_code 47 = .ok (.getfield 7, 3) := by decide +kernel
theorem d_Tok_scanWord_50 : decode prog_9_method_4_code 50 = .ok (.aload_n 0, 1) := by decide +kernel
theorem d_Tok_scanWord_51 : decode prog_9_method_4_code 51 = .ok (.getfield 57, 3) := by decide +kernel
theorem d_Tok_scanWord_54 : decode prog_9_method_4_code 54 = .ok (.baload, 1) := by decide +kernel
theorem d_Tok_scanWord_55 : decode prog_9_method_4_code 55 = .ok (.bipush 97, 2) := by decide +kernel
theorem d_Tok_scanWord_57 : decode prog_9_method_4_code 57 = .ok (.isub, 1) := by decide +kernel
theorem d_Tok_scanWord_58 : decode prog_9_method_4_code 58 = .ok (.iconst 1, 1) := by decide +kernel
theorem d_Tok_scanWord_59 : decode prog_9_method_4_code 59 = .ok (.iadd, 1) := by decide +kernel
theorem d_Tok_scanWord_60 : decode prog_9_method_4_code 60 = .ok (.i2l, 1) := by decide +kernel
theorem d_Tok_scanWord_61 : decode prog_9_method_4_code 61 = .ok (.ladd, 1) := by decide +kernel
theorem d_Tok_scanWord_62 : decode prog_9_method_4_code 62 = .ok (.lstore_n 1, 1) := by decide +kernel
theorem d_Tok_scanWord_63 : decode prog_9_method_4_code 63 = .ok (.aload_n 0, 1) := by decide +kernel
theorem d_Tok_scanWord_64 : decode prog_9_method_4_code 64 = .ok (.dup, 1) := by decide +kernel
theorem d_Tok_scanWord_65 : decode prog_9_method_4_code 65 = .ok (.getfield 57, 3) := by decide +kernel
theorem d_Tok_scanWord_68 : decode prog_9_method_4_code 68 = .ok (.iconst 1, 1) := by decide +kernel
theorem d_Tok_scanWord_69 : decode prog_9_method_4_code 69 = .ok (.iadd, 1) := by decide +kernel
theorem d_Tok_scanWord_70 : decode prog_9_method_4_code 70 = .ok (.putfield 57, 3) := by decide +kernel
theorem d_Tok_scanWord_73 : decode prog_9_method_4_code 73 = .ok (.goto (-71), 3) := by decide +kernel
theorem d_Tok_scanWord_76 : decode prog_9_method_4_code 76 = .ok (.aload_n 0, 1) := by decide +kernel
theorem d_Tok_scanWord_77 : decode prog_9_method_4_code 77 = .ok (.iconst 1, 1) := by decide +kernel
theorem d_Tok_scanWord_78 : decode prog_9_method_4_code 78 = .ok (.putfield 72, 3) := by decide +kernel
theorem d_Tok_scanWord_81 : decode prog_9_method_4_code 81 = .ok (.aload_n 0, 1) := by decide +kernel
theorem d_Tok_scanWord_82 : decode prog_9_method_4_code 82 = .ok (.getfield 57, 3) := by decide +kernel
theorem d_Tok_scanWord_85 : decode prog_9_method_4_code 85 = .ok (.aload_n 0, 1) := by decide +kernel
theorem d_Tok_scanWord_86 : decode prog_9_method_4_code 86 = .ok (.getfield 60, 3) := by decide +kernel
theorem d_Tok_scanWord_89 : decode prog_9_method_4_code 89 = .ok (.isub, 1) := by decide +kernel
theorem d_Tok_scanWord_90 : decode prog_9_method_4_code 90 = .ok (.bipush 8, 2) := by decide +kernel
theorem d_Tok_scanWord_92 : decode prog_9_method_4_code 92 = .ok (.if_icmp .le 4, 3) := by decide +kernel
theorem d_Tok_scanWord_95 : decode prog_9_method_4_code 95 = .ok (.return_, 1) := by decide +kernel
theorem d_Tok_scanWord_96 : decode prog_9_method_4_code 96 = .ok (.aload_n 0, 1) := by decide +kernel
theorem d_Tok_scanWord_97 : decode prog_9_method_4_code 97 = .ok (.lload_n 1, 1) := by decide +kernel
theorem d_Tok_scanWord_98 : decode prog_9_method_4_code 98 = .ok (.putfield 42, 3) := by decide +kernel
theorem d_Tok_scanWord_101 : decode prog_9_method_4_code 101 = .ok (.iconst 0, 1) := by decide +kernel
theorem d_Tok_scanWord_102 : decode prog_9_method_4_code 102 = .ok (.istore_n 3, 1) := by decide +kernel
theorem d_Tok_scanWord_103 : decode prog_9_method_4_code 103 = .ok (.iload_n 3, 1) := by decide +kernel
theorem d_Tok_scanWord_104 : decode prog_9_method_4_code 104 = .ok (.bipush 21, 2) := by decide +kernel
theorem d_Tok_scanWord_106 : decode prog_9_method_4_code 106 = .ok (.if_icmp .ge 25, 3) := by decide +kernel
theorem d_Tok_scanWord_109 : decode prog_9_method_4_code 109 = .ok (.aload_n 0, 1) := by decide +kernel
theorem d_Tok_scanWord_110 : decode prog_9_method_4_code 110 = .ok (.getfield 13, 3) := by decide +kernel
theorem d_Tok_scanWord_113 : decode prog_9_method_4_code 113 = .ok (.iload_n 3, 1) := by decide +kernel
theorem d_Tok_scanWord_114 : decode prog_9_method_4_code 114 = .ok (.laload, 1) := by decide +kernel
theorem d_Tok_scanWord_115 : decode prog_9_method_4_code 115 = .ok (.lload_n 1, 1) := by decide +kernel
theorem d_Tok_scanWord_116 : decode prog_9_method_4_code 116 = .ok (.lcmp, 1) := by decide +kernel
theorem d_Tok_scanWord_117 : decode prog_9_method_4_code 117 = .ok (.ifCond .ne 8, 3) := by decide +kernel
theorem d_Tok_scanWord_120 : decode prog_9_method_4_code 120 = .ok (.aload_n 0, 1) := by decide +kernel
theorem d_Tok_scanWord_121 : decode prog_9_method_4_code 121 = .ok (.iload_n 3, 1) := by decide +kernel
theorem d_Tok_scanWord_122 : decode prog_9_method_4_code 122 = .ok (.putfield 63, 3) := by decide +kernel
theorem d_Tok_scanWord_125 : decode prog_9_method_4_code 125 = .ok (.iinc 3 1, 3) := by decide +kernel
theorem d_Tok_scanWord_128 : decode prog_9_method_4_code 128 = .ok (.goto (-25), 3) := by decide +kernel
theorem d_Tok_scanWord_131 : decode prog_9_method_4_code 131 = .ok (.return_, 1) := by decide +kernel
theorem d_Tok_scanNumber_0 : decode prog_9_method_5_code 0 = .ok (.aload_n 0, 1) := by decide +kernel
theorem d_Tok_scanNumber_1 : decode prog_9_method_5_code 1 = .ok (.getfield 57, 3) := by decide +kernel
theorem d_Tok_scanNumber_4 : decode prog_9_method_5_code 4 = .ok (.aload_n 0, 1) := by decide +kernel
theorem d_Tok_scanNumber_5 : decode prog_9_method_5_code 5 = .ok (.getfield 55, 3) := by decide +kernel
theorem d_Tok_scanNumber_8 : decode prog_9_method_5_code 8 = .ok (.if_icmp .ge 81, 3) := by decide +kernel
theorem d_Tok_scanNumber_11 : decode prog_9_method_5_code 11 = .ok (.aload_n 0, 1) := by decide +kernel
theorem d_Tok_scanNumber_12 : decode prog_9_method_5_code 12 = .ok (.getfield 7, 3) := by decide +kernel
theorem d_Tok_scanNumber_15 : decode prog_9_method_5_code 15 = .ok (.aload_n 0, 1) := by decide +kernel
theorem d_Tok_scanNumber_16 : decode prog_9_method_5_code 16 = .ok (.getfield 57, 3) := by decide +kernel
theorem d_Tok_scanNumber_19 : decode prog_9_method_5_code 19 = .ok (.baload, 1) := by decide +kernel
theorem d_Tok_scanNumber_20 : decode prog_9_method_5_code 20 = .ok (.bipush 48, 2) := by decide +kernel
theorem d_Tok_scanNumber_22 : decode prog_9_method_5_code 22 = .ok (.if_icmp .lt 67, 3) := by decide +kernel
theorem d_Tok_scanNumber_25 : decode prog_9_method_5_code 25 = .ok (.aload_n 0, 1) := by decide +kernel
theorem d_Tok_scanNumber_26 : decode prog_9_method_5_code 26 = .ok (.getfield 7, 3) := by decide +kernel
theorem d_Tok_scanNumber_29 : decode prog_9_method_5_code 29 = .ok (.aload_n 0, 1) := by decide +kernel
theorem d_Tok_scanNumber_30 : decode prog_9_method_5_code 30 = .ok (.getfield 57, 3) := by decide +kernel
theorem d_Tok_scanNumber_33 : decode prog_9_method_5_code 33 = .ok (.baload, 1) := by decide +kernel
theorem d_Tok_scanNumber_34 : decode prog_9_method_5_code 34 = .ok (.bipush 57, 2) := by decide +kernel
theorem d_Tok_scanNumber_36 : decode prog_9_method_5_code 36 = .ok (.if_icmp .gt 53, 3) := by decide +kernel
theorem d_Tok_scanNumber_39 : decode prog_9_method_5_code 39 = .ok (.aload_n 0, 1) := by decide +kernel
theorem d_Tok_scanNumber_40 : decode prog_9_method_5_code 40 = .ok (.getfield 57, 3) := by decide +kernel
theorem d_Tok_scanNumber_43 : decode prog_9_method_5_code 43 = .ok (.aload_n 0, 1) := by decide +kernel
theorem d_Tok_scanNumber_44 : decode prog_9_method_5_code 44 = .ok (.getfield 60, 3) := by decide +kernel
theorem d_Tok_scanNumber_47 : decode prog_9_method_5_code 47 = .ok (.isub, 1) := by decide +kernel
theorem d_Tok_scanNumber_48 : decode prog_9_method_5_code 48 = .ok (.iconst 4, 1) := by decide +kernel
theorem d_Tok_scanNumber_49 : decode prog_9_method_5_code 49 = .ok (.if_icmp .ge 27, 3) := by decide +kernel
theorem d_Tok_scanNumber_52 : decode prog_9_method_5_code 52 = .ok (.aload_n 0, 1) := by decide +kernel
theorem d_Tok_scanNumber_53 : decode prog_9_method_5_code 53 = .ok (.aload_n 0, 1) := by decide +kernel
theorem d_Tok_scanNumber_54 : decode prog_9_method_5_code 54 = .ok (.getfield 66, 3) := by decide +kernel
theorem d_Tok_scanNumber_57 : decode prog_9_method_5_code 57 = .ok (.bipush 10, 2) := by decide +kernel
theorem d_Tok_scanNumber_59 : decode prog_9_method_5_code 59 = .ok (.imul, 1) := by decide +kernel
theorem d_Tok_scanNumber_60 : decode prog_9_method_5_code 60 = .ok (.aload_n 0, 1) := by decide +kernel
theorem d_Tok_scanNumber_61 : decode prog_9_method_5_code 61 = .ok (.getfield 7, 3) := by decide +kernel
theorem d_Tok_scanNumber_64 : decode prog_9_method_5_code 64 = .ok (.aload_n 0, 1) := by decide +kernel
theorem d_Tok_scanNumber_65 : decode prog_9_method_5_code 65 = .ok (.getfield 57, 3) := by decide +kernel
theorem d_Tok_scanNumber_68 : decode prog_9_method_5_code 68 = .ok (.baload, 1) := by decide +kernel
theorem d_Tok_scanNumber_69 : decode prog_9_method_5_code 69 = .ok (.iadd, 1) := by decide +kernel
theorem d_Tok_scanNumber_70 : decode prog_9_method_5_code 70 = .ok (.bipush 48, 2) := by decide +kernel
theorem d_Tok_scanNumber_72 : decode prog_9_method_5_code 72 = .ok (.isub, 1) := by decide +kernel
theorem d_Tok_scanNumber_73 : decode prog_9_method_5_code 73 = .ok (.putfield 66, 3) := by decide +kernel
theorem d_Tok_scanNumber_76 : decode prog_9_method_5_code 76 = .ok (.aload_n 0, 1) := by decide +kernel
theorem d_Tok_scanNumber_77 : decode prog_9_method_5_code 77 = .ok (.dup, 1) := by decide +kernel
theorem d_Tok_scanNumber_78 : decode prog_9_method_5_code 78 = .ok (.getfield 57, 3) := by decide +kernel
theorem d_Tok_scanNumber_81 : decode prog_9_method_5_code 81 = .ok (.iconst 1, 1) := by decide +kernel
theorem d_Tok_scanNumber_82 : decode prog_9_method_5_code 82 = .ok (.iadd, 1) := by decide +kernel
theorem d_Tok_scanNumber_83 : decode prog_9_method_5_code 83 = .ok (.putfield 57, 3) := by decide +kernel
theorem d_Tok_scanNumber_86 : decode prog_9_method_5_code 86 = .ok (.goto (-86), 3) := by decide +kernel
theorem d_Tok_scanNumber_89 : decode prog_9_method_5_code 89 = .ok (.aload_n 0, 1) := by decide +kernel
theorem d_Tok_scanNumber_90 : decode prog_9_method_5_code 90 = .ok (.aload_n 0, 1) := by decide +kernel
theorem d_Tok_scanNumber_91 : decode prog_9_method_5_code 91 = .ok (.getfield 57, 3) := by decide +kernel
theorem d_Tok_scanNumber_94 : decode prog_9_method_5_code 94 = .ok (.aload_n 0, 1) := by decide +kernel
theorem d_Tok_scanNumber_95 : decode prog_9_method_5_code 95 = .ok (.getfield 60, 3) := by decide +kernel
theorem d_Tok_scanNumber_98 : decode prog_9_method_5_code 98 = .ok (.isub, 1) := by decide +kernel
theorem d_Tok_scanNumber_99 : decode prog_9_method_5_code 99 = .ok (.iconst 4, 1) := by decide +kernel
theorem d_Tok_scanNumber_100 : decode prog_9_method_5_code 100 = .ok (.if_icmp .le 7, 3) := by decide +kernel
theorem d_Tok_scanNumber_103 : decode prog_9_method_5_code 103 = .ok (.iconst 4, 1) := by decide +kernel
theorem d_Tok_scanNumber_104 : decode prog_9_method_5_code 104 = .ok (.goto 4, 3) := by decide +kernel
theorem d_Tok_scanNumber_107 : decode prog_9_method_5_code 107 = .ok (.iconst 2, 1) := by decide +kernel
theorem d_Tok_scanNumber_108 : decode prog_9_method_5_code 108 = .ok (.putfield 72, 3) := by decide +kernel
theorem d_Tok_scanNumber_111 : decode prog_9_method_5_code 111 = .ok (.return_, 1) := by decide +kernel
theorem d_Tok_scanSign_0 : decode prog_9_method_6_code 0 = .ok (.aload_n 0, 1) := by decide +kernel
theorem d_Tok_scanSign_1 : decode prog_9_method_6_code 1 = .ok (.getfield 7, 3) := by decide +kernel
theorem d_Tok_scanSign_4 : decode prog_9_method_6_code 4 = .ok (.aload_n 0, 1) := by decide +kernel
theorem d_Tok_scanSign_5 : decode prog_9_method_6_code 5 = .ok (.getfield 57, 3) := by decide +kernel
theorem d_Tok_scanSign_8 : decode prog_9_method_6_code 8 = .ok (.baload, 1) := by decide +kernel
theorem d_Tok_scanSign_9 : decode prog_9_method_6_code 9 = .ok (.istore_n 1, 1) := by decide +kernel
theorem d_Tok_scanSign_10 : decode prog_9_method_6_code 10 = .ok (.iload_n 1, 1) := by decide +kernel
theorem d_Tok_scanSign_11 : decode prog_9_method_6_code 11 = .ok (.bipush 59, 2) := by decide +kernel
theorem d_Tok_scanSign_13 : decode prog_9_method_6_code 13 = .ok (.if_icmp .eq 21, 3) := by decide +kernel
theorem d_Tok_scanSign_16 : decode prog_9_method_6_code 16 = .ok (.iload_n 1, 1) := by decide +kernel
theorem d_Tok_scanSign_17 : decode prog_9_method_6_code 17 = .ok (.bipush 60, 2) := by decide +kernel
theorem d_Tok_scanSign_19 : decode prog_9_method_6_code 19 = .ok (.if_icmp .eq 15, 3) := by decide +kernel
theorem d_Tok_scanSign_22 : decode prog_9_method_6_code 22 = .ok (.iload_n 1, 1) := by decide +kernel
theorem d_Tok_scanSign_23 : decode prog_9_method_6_code 23 = .ok (.bipush 62, 2) := by decide +kernel
theorem d_Tok_scanSign_25 : decode prog_9_method_6_code 25 = .ok (.if_icmp .eq 9, 3) := by decide +kernel
theorem d_Tok_scanSign_28 : decode prog_9_method_6_code 28 = .ok (.iload_n 1, 1) := by decide +kernel
theorem d_Tok_scanSign_29 : decode prog_9_method_6_code 29 = .ok (.bipush 61, 2) := by decide +kernel
theorem d_Tok_scanSign_31 : decode prog_9_method_6_code 31 = .ok (.if_icmp .ne 7, 3) := by decide +kernel
theorem d_Tok_scanSign_34 : decode prog_9_method_6_code 34 = .ok (.iconst 1, 1) := by decide +kernel
theorem d_Tok_scanSign_35 : decode prog_9_method_6_code 35 = .ok (.goto 4, 3) := by decide +kernel
theorem d_Tok_scanSign_38 : decode prog_9_method_6_code 38 = .ok (.iconst 0, 1) := by decide +kernel
theorem d_Tok_scanSign_39 : decode prog_9_method_6_code 39 = .ok (.istore_n 2, 1) := by decide +kernel
theorem d_Tok_scanSign_40 : decode prog_9_method_6_code 40 = .ok (.aload_n 0, 1) := by decide +kernel
theorem d_Tok_scanSign_41 : decode prog_9_method_6_code 41 = .ok (.iload_n 2, 1) := by decide +kernel
theorem d_Tok_scanSign_42 : decode prog_9_method_6_code 42 = .ok (.ifCond .eq 7, 3) := by decide +kernel
theorem d_Tok_scanSign_45 : decode prog_9_method_6_code 45 = .ok (.iconst 3, 1) := by decide +kernel
theorem d_Tok_scanSign_46 : decode prog_9_method_6_code 46 = .ok (.goto 4, 3) := by decide +kernel
theorem d_Tok_scanSign_49 : decode prog_9_method_6_code 49 = .ok (.iconst 4, 1) := by decide +kernel
theorem d_Tok_scanSign_50 : decode prog_9_method_6_code 50 = .ok (.putfield 72, 3) := by decide +kernel
theorem d_Tok_scanSign_53 : decode prog_9_method_6_code 53 = .ok (.aload_n 0, 1) := by decide +kernel
theorem d_Tok_scanSign_54 : decode prog_9_method_6_code 54 = .ok (.iload_n 2, 1) := by decide +kernel
theorem d_Tok_scanSign_55 : decode prog_9_method_6_code 55 = .ok (.ifCond .eq 7, 3) := by decide +kernel
theorem d_Tok_scanSign_58 : decode prog_9_method_6_code 58 = .ok (.iload_n 1, 1) := by decide +kernel
theorem d_Tok_scanSign_59 : decode prog_9_method_6_code 59 = .ok (.goto 4, 3) := by decide +kernel
theorem d_Tok_scanSign_62 : decode prog_9_method_6_code 62 = .ok (.iconst 0, 1) := by decide +kernel
theorem d_Tok_scanSign_63 : decode prog_9_method_6_code 63 = .ok (.putfield 69, 3) := by decide +kernel
theorem d_Tok_scanSign_66 : decode prog_9_method_6_code 66 = .ok (.aload_n 0, 1) := by decide +kernel
theorem d_Tok_scanSign_67 : decode prog_9_method_6_code 67 = .ok (.dup, 1) := by decide +kernel
theorem d_Tok_scanSign_68 : decode prog_9_method_6_code 68 = .ok (.getfield 57, 3) := by decide +kernel
theorem d_Tok_scanSign_71 : decode prog_9_method_6_code 71 = .ok (.iconst 1, 1) := by decide +kernel
theorem d_Tok_scanSign_72 : decode prog_9_method_6_code 72 = .ok (.iadd, 1) := by decide +kernel
theorem d_Tok_scanSign_73 : decode prog_9_method_6_code 73 = .ok (.putfield 57, 3) := by decide +kernel
theorem d_Tok_scanSign_76 : decode prog_9_method_6_code 76 = .ok (.return_, 1) := by decide +kernel
theorem d_YearsR_new_0 : decode prog_12_method_1_code 0 = .ok (.aload_n 0, 1) := by decide +kernel
theorem d_YearsR_new_1 : decode prog_12_method_1_code 1 = .ok (.invokespecial 3, 3) := by decide +kernel
theorem d_YearsR_new_4 : decode prog_12_method_1_code 4 = .ok (.aload_n 0, 1) := by decide +kernel
theorem d_YearsR_new_5 : decode prog_12_method_1_code 5 = .ok (.iconst 3, 1) := by decide +kernel
theorem d_YearsR_new_6 : decode prog_12_method_1_code 6 = .ok (.newarray .int, 2) := by decide +kernel
theorem d_YearsR_new_8 : decode prog_12_method_1_code 8 = .ok (.putfield 11, 3) := by decide +kernel
theorem d_YearsR_new_11 : decode prog_12_method_1_code 11 = .ok (.aload_n 0, 1) := by decide +kernel
theorem d_YearsR_new_12 : decode prog_12_method_1_code 12 = .ok (.aload_n 1, 1) := by decide +kernel
theorem d_YearsR_new_13 : decode prog_12_method_1_code 13 = .ok (.putfield 15, 3) := by decide +kernel
theorem d_YearsR_new_16 : decode prog_12_method_1_code 16 = .ok (.return_, 1) := by decide +kernel
theorem d_Years_new_0 : decode prog_11_method_1_code 0 = .ok (.aload_n 0, 1) := by decide +kernel
theorem d_Years_new_1 : decode prog_11_method_1_code 1 = .ok (.invokespecial 3, 3) := by decide +kernel
theorem d_Years_new_4 : decode prog_11_method_1_code 4 = .ok (.aload_n 0, 1) := by decide +kernel
theorem d_Years_new_5 : decode prog_11_method_1_code 5 = .ok (.bipush 60, 2) := by decide +kernel
theorem d_Years_new_7 : decode prog_11_method_1_code 7 = .ok (.newarray .int, 2) := by decide +kernel
theorem d_Years_new_9 : decode prog_11_method_1_code 9 = .ok (.putfield 9, 3) := by decide +kernel
theorem d_Years_new_12 : decode prog_11_method_1_code 12 = .ok (.aload_n 0, 1) := by decide +kernel
theorem d_Years_new_13 : decode prog_11_method_1_code 13 = .ok (.bipush 60, 2) := by decide +kernel
theorem d_Years_new_15 : decode prog_11_method_1_code 15 = .ok (.newarray .int, 2) := by decide +kernel
theorem d_Years_new_17 : decode prog_11_method_1_code 17 = .ok (.putfield 13, 3) := by decide +kernel
theorem d_Years_new_20 : decode prog_11_method_1_code 20 = .ok (.aload_n 0, 1) := by decide +kernel
theorem d_Years_new_21 : decode prog_11_method_1_code 21 = .ok (.bipush 60, 2) := by decide +kernel
theorem d_Years_new_23 : decode prog_11_method_1_code 23 = .ok (.newarray .int, 2) := by decide +kernel
theorem d_Years_new_25 : decode prog_11_method_1_code 25 = .ok (.putfield 16, 3) := by decide +kernel
theorem d_Years_new_28 : decode prog_11_method_1_code 28 = .ok (.aload_n 0, 1) := by decide +kernel
theorem d_Years_new_29 : decode prog_11_method_1_code 29 = .ok (.bipush 60, 2) := by decide +kernel
theorem d_Years_new_31 : decode prog_11_method_1_code 31 = .ok (.newarray .int, 2) := by decide +kernel
theorem d_Years_new_33 : decode prog_11_method_1_code 33 = .ok (.putfield 19, 3) := by decide +kernel
theorem d_Years_new_36 : decode prog_11_method_1_code 36 = .ok (.return_, 1) := by decide +kernel
theorem d_Life_new_0 : decode prog_6_method_1_code 0 = .ok (.aload_n 0, 1) := by decide +kernel
theorem d_Life_new_1 : decode prog_6_method_1_code 1 = .ok (.invokespecial 3, 3) := by decide +kernel
theorem d_Life_new_4 : decode prog_6_method_1_code 4 = .ok (.aload_n 0, 1) := by decide +kernel
theorem d_Life_new_5 : decode prog_6_method_1_code 5 = .ok (.bipush 60, 2) := by decide +kernel
theorem d_Life_new_7 : decode prog_6_method_1_code 7 = .ok (.newarray .int, 2) := by decide +kernel
theorem d_Life_new_9 : decode prog_6_method_1_code 9 = .ok (.putfield 11, 3) := by decide +kernel
theorem d_Life_new_12 : decode prog_6_method_1_code 12 = .ok (.return_, 1) := by decide +kernel
theorem d_Rows_new_0 : decode prog_7_method_1_code 0 = .ok (.aload_n 0, 1) := by decide +kernel
theorem d_Rows_new_1 : decode prog_7_method_1_code 1 = .ok (.invokespecial 3, 3) := by decide +kernel
theorem d_Rows_new_4 : decode prog_7_method_1_code 4 = .ok (.aload_n 0, 1) := by decide +kernel
theorem d_Rows_new_5 : decode prog_7_method_1_code 5 = .ok (.bipush 7, 2) := by decide +kernel
theorem d_Rows_new_7 : decode prog_7_method_1_code 7 = .ok (.newarray .int, 2) := by decide +kernel
theorem d_Rows_new_9 : decode prog_7_method_1_code 9 = .ok (.putfield 9, 3) := by decide +kernel
theorem d_Rows_new_12 : decode prog_7_method_1_code 12 = .ok (.return_, 1) := by decide +kernel
theorem d_Seen_new_0 : decode prog_8_method_1_code 0 = .ok (.aload_n 0, 1) := by decide +kernel
theorem d_Seen_new_1 : decode prog_8_method_1_code 1 = .ok (.invokespecial 3, 3) := by decide +kernel
theorem d_Seen_new_4 : decode prog_8_method_1_code 4 = .ok (.aload_n 0, 1) := by decide +kernel
theorem d_Seen_new_5 : decode prog_8_method_1_code 5 = .ok (.bipush 7, 2) := by decide +kernel
theorem d_Seen_new_7 : decode prog_8_method_1_code 7 = .ok (.newarray .int, 2) := by decide +kernel
theorem d_Seen_new_9 : decode prog_8_method_1_code 9 = .ok (.putfield 9, 3) := by decide +kernel
theorem d_Seen_new_12 : decode prog_8_method_1_code 12 = .ok (.return_, 1) := by decide +kernel
theorem d_Tray_lay_0 : decode prog_10_method_2_code 0 = .ok (.aload_n 0, 1) := by decide +kernel
theorem d_Tray_lay_1 : decode prog_10_method_2_code 1 = .ok (.iconst 1, 1) := by decide +kernel
theorem d_Tray_lay_2 : decode prog_10_method_2_code 2 = .ok (.putfield 15, 3) := by decide +kernel
theorem d_Tray_lay_5 : decode prog_10_method_2_code 5 = .ok (.aload_n 0, 1) := by decide +kernel
theorem d_Tray_lay_6 : decode prog_10_method_2_code 6 = .ok (.iload_n 1, 1) := by decide +kernel
theorem d_Tray_lay_7 : decode prog_10_method_2_code 7 = .ok (.putfield 19, 3) := by decide +kernel
theorem d_Tray_lay_10 : decode prog_10_method_2_code 10 = .ok (.aload_n 0, 1) := by decide +kernel
theorem d_Tray_lay_11 : decode prog_10_method_2_code 11 = .ok (.iload_n 2, 1) := by decide +kernel
theorem d_Tray_lay_12 : decode prog_10_method_2_code 12 = .ok (.putfield 23, 3) := by decide +kernel
theorem d_Tray_lay_15 : decode prog_10_method_2_code 15 = .ok (.aload_n 0, 1) := by decide +kernel
theorem d_Tray_lay_16 : decode prog_10_method_2_code 16 = .ok (.getfield 9, 3) := by decide +kernel
theorem d_Tray_lay_19 : decode prog_10_method_2_code 19 = .ok (.lconst 0, 1) := by decide +kernel
theorem d_Tray_lay_20 : decode prog_10_method_2_code 20 = .ok (.invokestatic 26, 3) := by decide +kernel
theorem d_Tray_lay_23 : decode prog_10_method_2_code 23 = .ok (.return_, 1) := by decide +kernel
theorem d_Tray_hasRun_0 : decode prog_10_method_3_code 0 = .ok (.iload_n 1, 1) := by decide +kernel
theorem d_Tray_hasRun_1 : decode prog_10_method_3_code 1 = .ok (.ifCond .lt 21, 3) := by decide +kernel
theorem d_Tray_hasRun_4 : decode prog_10_method_3_code 4 = .ok (.iload_n 1, 1) := by decide +kernel
theorem d_Tray_hasRun_5 : decode prog_10_method_3_code 5 = .ok (.i2l, 1) := by decide +kernel
theorem d_Tray_hasRun_6 : decode prog_10_method_3_code 6 = .ok (.iload_n 2, 1) := by decide +kernel
theorem d_Tray_hasRun_7 : decode prog_10_method_3_code 7 = .ok (.i2l, 1) := by decide +kernel
theorem d_Tray_hasRun_8 : decode prog_10_method_3_code 8 = .ok (.ladd, 1) := by decide +kernel
theorem d_Tray_hasRun_9 : decode prog_10_method_3_code 9 = .ok (.aload_n 0, 1) := by decide +kernel
theorem d_Tray_hasRun_10 : decode prog_10_method_3_code 10 = .ok (.getfield 23, 3) := by decide +kernel
theorem d_Tray_hasRun_13 : decode prog_10_method_3_code 13 = .ok (.i2l, 1) := by decide +kernel
theorem d_Tray_hasRun_14 : decode prog_10_method_3_code 14 = .ok (.lcmp, 1) := by decide +kernel
theorem d_Tray_hasRun_15 : decode prog_10_method_3_code 15 = .ok (.ifCond .gt 7, 3) := by decide +kernel
theorem d_Tray_hasRun_18 : decode prog_10_method_3_code 18 = .ok (.iconst 1, 1) := by decide +kernel
theorem d_Tray_hasRun_19 : decode prog_10_method_3_code 19 = .ok (.goto 4, 3) := by decide +kernel
theorem d_Tray_hasRun_22 : decode prog_10_method_3_code 22 = .ok (.iconst 0, 1) := by decide +kernel
theorem d_Tray_hasRun_23 : decode prog_10_method_3_code 23 = .ok (.ireturn, 1) := by decide +kernel
theorem d_Tray_put_0 : decode prog_10_method_4_code 0 = .ok (.aload_n 0, 1) := by decide +kernel
theorem d_Tray_put_1 : decode prog_10_method_4_code 1 = .ok (.getfield 19, 3) := by decide +kernel
theorem d_Tray_put_4 : decode prog_10_method_4_code 4 = .ok (.tableswitch 66 0 2 #[28, 41, 54], 28) := by decide +kernel
theorem d_Tray_put_32 : decode prog_10_method_4_code 32 = .ok (.aload_n 0, 1) := by decide +kernel
theorem d_Tray_put_33 : decode prog_10_method_4_code 33 = .ok (.getfield 9, 3) := by decide +kernel
theorem d_Tray_put_36 : decode prog_10_method_4_code 36 = .ok (.iload_n 1, 1) := by decide +kernel
theorem d_Tray_put_37 : decode prog_10_method_4_code 37 = .ok (.lload_n 2, 1) := by decide +kernel
theorem d_Tray_put_38 : decode prog_10_method_4_code 38 = .ok (.l2i, 1) := by decide +kernel
theorem d_Tray_put_39 : decode prog_10_method_4_code 39 = .ok (.i2b, 1) := by decide +kernel
theorem d_Tray_put_40 : decode prog_10_method_4_code 40 = .ok (.i2l, 1) := by decide +kernel
theorem d_Tray_put_41 : decode prog_10_method_4_code 41 = .ok (.lastore, 1) := by decide +kernel
theorem d_Tray_put_42 : decode prog_10_method_4_code 42 = .ok (.goto 35, 3) := by decide +kernel
theorem d_Tray_put_45 : decode prog_10_method_4_code 45 = .ok (.aload_n 0, 1) := by decide +kernel
theorem d_Tray_put_46 : decode prog_10_method_4_code 46 = .ok (.getfield 9, 3) := by decide +kernel
theorem d_Tray_put_49 : decode prog_10_method_4_code 49 = .ok (.iload_n 1, 1) := by decide +kernel
theorem d_Tray_put_50 : decode prog_10_method_4_code 50 = .ok (.lload_n 2, 1) := by decide +kernel
theorem d_Tray_put_51 : decode prog_10_method_4_code 51 = .ok (.l2i, 1) := by decide +kernel
theorem d_Tray_put_52 : decode prog_10_method_4_code 52 = .ok (.i2s, 1) := by decide +kernel
theorem d_Tray_put_53 : decode prog_10_method_4_code 53 = .ok (.i2l, 1) := by decide +kernel
theorem d_Tray_put_54 : decode prog_10_method_4_code 54 = .ok (.lastore, 1) := by decide +kernel
theorem d_Tray_put_55 : decode prog_10_method_4_code 55 = .ok (.goto 22, 3) := by decide +kernel
theorem d_Tray_put_58 : decode prog_10_method_4_code 58 = .ok (.aload_n 0, 1) := by decide +kernel
theorem d_Tray_put_59 : decode prog_10_method_4_code 59 = .ok (.getfield 9, 3) := by decide +kernel
theorem d_Tray_put_62 : decode prog_10_method_4_code 62 = .ok (.iload_n 1, 1) := by decide +kernel
theorem d_Tray_put_63 : decode prog_10_method_4_code 63 = .ok (.lload_n 2, 1) := by decide +kernel
theorem d_Tray_put_64 : decode prog_10_method_4_code 64 = .ok (.l2i, 1) := by decide +kernel
theorem d_Tray_put_65 : decode prog_10_method_4_code 65 = .ok (.i2l, 1) := by decide +kernel
theorem d_Tray_put_66 : decode prog_10_method_4_code 66 = .ok (.lastore, 1) := by decide +kernel
theorem d_Tray_put_67 : decode prog_10_method_4_code 67 = .ok (.goto 10, 3) := by decide +kernel
theorem d_Tray_put_70 : decode prog_10_method_4_code 70 = .ok (.aload_n 0, 1) := by decide +kernel
theorem d_Tray_put_71 : decode prog_10_method_4_code 71 = .ok (.getfield 9, 3) := by decide +kernel
theorem d_Tray_put_74 : decode prog_10_method_4_code 74 = .ok (.iload_n 1, 1) := by decide +kernel
theorem d_Tray_put_75 : decode prog_10_method_4_code 75 = .ok (.lload_n 2, 1) := by decide +kernel
theorem d_Tray_put_76 : decode prog_10_method_4_code 76 = .ok (.lastore, 1) := by decide +kernel
theorem d_Tray_put_77 : decode prog_10_method_4_code 77 = .ok (.return_, 1) := by decide +kernel
theorem d_Years_clear_0 : decode prog_11_method_2_code 0 = .ok (.aload_n 0, 1) := by decide +kernel
theorem d_Years_clear_1 : decode prog_11_method_2_code 1 = .ok (.iconst 0, 1) := by decide +kernel
theorem d_Years_clear_2 : decode prog_11_method_2_code 2 = .ok (.putfield 22, 3) := by decide +kernel
theorem d_Years_clear_5 : decode prog_11_method_2_code 5 = .ok (.aload_n 0, 1) := by decide +kernel
theorem d_Years_clear_6 : decode prog_11_method_2_code 6 = .ok (.iconst 0, 1) := by decide +kernel
theorem d_Years_clear_7 : decode prog_11_method_2_code 7 = .ok (.putfield 26, 3) := by decide +kernel
theorem d_Years_clear_10 : decode prog_11_method_2_code 10 = .ok (.aload_n 0, 1) := by decide +kernel
theorem d_Years_clear_11 : decode prog_11_method_2_code 11 = .ok (.iconst 0, 1) := by decide +kernel
theorem d_Years_clear_12 : decode prog_11_method_2_code 12 = .ok (.putfield 30, 3) := by decide +kernel
theorem d_Years_clear_15 : decode prog_11_method_2_code 15 = .ok (.return_, 1) := by decide +kernel
theorem d_Tok_faulty_0 : decode prog_9_method_8_code 0 = .ok (.aload_n 0, 1) := by decide +kernel
theorem d_Tok_faulty_1 : decode prog_9_method_8_code 1 = .ok (.iload_n 1, 1) := by decide +kernel
theorem d_Tok_faulty_2 : decode prog_9_method_8_code 2 = .ok (.putfield 19, 3) := by decide +kernel
theorem d_Tok_faulty_5 : decode prog_9_method_8_code 5 = .ok (.aload_n 0, 1) := by decide +kernel
theorem d_Tok_faulty_6 : decode prog_9_method_8_code 6 = .ok (.aload_n 0, 1) := by decide +kernel
theorem d_Tok_faulty_7 : decode prog_9_method_8_code 7 = .ok (.getfield 60, 3) := by decide +kernel
theorem d_Tok_faulty_10 : decode prog_9_method_8_code 10 = .ok (.putfield 23, 3) := by decide +kernel
theorem d_Tok_faulty_13 : decode prog_9_method_8_code 13 = .ok (.iconst 0, 1) := by decide +kernel
theorem d_Tok_faulty_14 : decode prog_9_method_8_code 14 = .ok (.ireturn, 1) := by decide +kernel
theorem d_Tok_takeNumber_0 : decode prog_9_method_12_code 0 = .ok (.aload_n 0, 1) := by decide +kernel
theorem d_Tok_takeNumber_1 : decode prog_9_method_12_code 1 = .ok (.getfield 72, 3) := by decide +kernel
theorem d_Tok_takeNumber_4 : decode prog_9_method_12_code 4 = .ok (.iconst 2, 1) := by decide +kernel
theorem d_Tok_takeNumber_5 : decode prog_9_method_12_code 5 = .ok (.if_icmp .eq 10, 3) := by decide +kernel
theorem d_Tok_takeNumber_8 : decode prog_9_method_12_code 8 = .ok (.aload_n 0, 1) := by decide +kernel
theorem d_Tok_takeNumber_9 : decode prog_9_method_12_code 9 = .ok (.invokevirtual 86, 3) := by decide +kernel
theorem d_Tok_takeNumber_12 : decode prog_9_method_12_code 12 = .ok (.pop, 1) := by decide +kernel
theorem d_Tok_takeNumber_13 : decode prog_9_method_12_code 13 = .ok (.iconst (-1), 1) := by decide +kernel
theorem d_Tok_takeNumber_14 : decode prog_9_method_12_code 14 = .ok (.ireturn, 1) := by decide +kernel
theorem d_Tok_takeNumber_15 : decode prog_9_method_12_code 15 = .ok (.aload_n 0, 1) := by decide +kernel
theorem d_Tok_takeNumber_16 : decode prog_9_method_12_code 16 = .ok (.getfield 66, 3) := by decide +kernel
theorem d_Tok_takeNumber_19 : decode prog_9_method_12_code 19 = .ok (.iload_n 1, 1) := by decide +kernel
theorem d_Tok_takeNumber_20 : decode prog_9_method_12_code 20 = .ok (.if_icmp .lt 11, 3) := by decide +kernel
theorem d_Tok_takeNumber_23 : decode prog_9_method_12_code 23 = .ok (.aload_n 0, 1) := by decide +kernel
theorem d_Tok_takeNumber_24 : decode prog_9_method_12_code 24 = .ok (.getfield 66, 3) := by decide +kernel
theorem d_Tok_takeNumber_27 : decode prog_9_method_12_code 27 = .ok (.iload_n 2, 1) := by decide +kernel
theorem d_Tok_takeNumber_28 : decode prog_9_method_12_code 28 = .ok (.if_icmp .le 11, 3) := by decide +kernel
theorem d_Tok_takeNumber_31 : decode prog_9_method_12_code 31 = .ok (.aload_n 0, 1) := by decide +kernel
theorem d_Tok_takeNumber_32 : decode prog_9_method_12_code 32 = .ok (.iconst 4, 1) := by decide +kernel
theorem d_Tok_takeNumber_33 : decode prog_9_method_12_code 33 = .ok (.invokevirtual 90, 3) := by decide +kernel
theorem d_Tok_takeNumber_36 : decode prog_9_method_12_code 36 = .ok (.pop, 1) := by decide +kernel
theorem d_Tok_takeNumber_37 : decode prog_9_method_12_code 37 = .ok (.iconst (-1), 1) := by decide +kernel
theorem d_Tok_takeNumber_38 : decode prog_9_method_12_code 38 = .ok (.ireturn, 1) := by decide +kernel
theorem d_Tok_takeNumber_39 : decode prog_9_method_12_code 39 = .ok (.aload_n 0, 1) := by decide +kernel
theorem d_Tok_takeNumber_40 : decode prog_9_method_12_code 40 = .ok (.getfield 66, 3) := by decide +kernel
theorem d_Tok_takeNumber_43 : decode prog_9_method_12_code 43 = .ok (.istore_n 3, 1) := by decide +kernel
theorem d_Tok_takeNumber_44 : decode prog_9_method_12_code 44 = .ok (.aload_n 0, 1) := by decide +kernel
theorem d_Tok_takeNumber_45 : decode prog_9_method_12_code 45 = .ok (.invokevirtual 46, 3) := by decide +kernel
theorem d_Tok_takeNumber_48 : decode prog_9_method_12_code 48 = .ok (.iload_n 3, 1) := by decide +kernel
theorem d_Tok_takeNumber_49 : decode prog_9_method_12_code 49 = .ok (.ireturn, 1) := by decide +kernel
theorem d_Tok_misplaced_0 : decode prog_9_method_9_code 0 = .ok (.aload_n 0, 1) := by decide +kernel
theorem d_Tok_misplaced_1 : decode prog_9_method_9_code 1 = .ok (.aload_n 0, 1) := by decide +kernel
theorem d_Tok_misplaced_2 : decode prog_9_method_9_code 2 = .ok (.getfield 72, 3) := by decide +kernel
theorem d_Tok_misplaced_5 : decode prog_9_method_9_code 5 = .ok (.iconst 4, 1) := by decide +kernel
theorem d_Tok_misplaced_6 : decode prog_9_method_9_code 6 = .ok (.if_icmp .ne 7, 3) := by decide +kernel
theorem d_Tok_misplaced_9 : decode prog_9_method_9_code 9 = .ok (.iconst 1, 1) := by decide +kernel
theorem d_Tok_misplaced_10 : decode prog_9_method_9_code 10 = .ok (.goto 4, 3) := by decide +kernel
theorem d_Tok_misplaced_13 : decode prog_9_method_9_code 13 = .ok (.iconst 2, 1) := by decide +kernel
theorem d_Tok_misplaced_14 : decode prog_9_method_9_code 14 = .ok (.putfield 19, 3) := by decide +kernel
theorem d_Tok_misplaced_17 : decode prog_9_method_9_code 17 = .ok (.aload_n 0, 1) := by decide +kernel
theorem d_Tok_misplaced_18 : decode prog_9_method_9_code 18 = .ok (.aload_n 0, 1) := by decide +kernel
theorem d_Tok_misplaced_19 : decode prog_9_method_9_code 19 = .ok (.getfield 60, 3) := by decide +kernel
theorem d_Tok_misplaced_22 : decode prog_9_method_9_code 22 = .ok (.putfield 23, 3) := by decide +kernel
theorem d_Tok_misplaced_25 : decode prog_9_method_9_code 25 = .ok (.iconst 0, 1) := by decide +kernel
theorem d_Tok_misplaced_26 : decode prog_9_method_9_code 26 = .ok (.ireturn, 1) := by decide +kernel
theorem d_Tok_takeSemicolon_0 : decode prog_9_method_11_code 0 = .ok (.aload_n 0, 1) := by decide +kernel
theorem d_Tok_takeSemicolon_1 : decode prog_9_method_11_code 1 = .ok (.getfield 69, 3) := by decide +kernel
theorem d_Tok_takeSemicolon_4 : decode prog_9_method_11_code 4 = .ok (.bipush 59, 2) := by decide +kernel
theorem d_Tok_takeSemicolon_6 : decode prog_9_method_11_code 6 = .ok (.if_icmp .eq 8, 3) := by decide +kernel
theorem d_Tok_takeSemicolon_9 : decode prog_9_method_11_code 9 = .ok (.aload_n 0, 1) := by decide +kernel
theorem d_Tok_takeSemicolon_10 : decode prog_9_method_11_code 10 = .ok (.invokevirtual 86, 3) := by decide +kernel
theorem d_Tok_takeSemicolon_13 : decode prog_9_method_11_code 13 = .ok (.ireturn, 1) := by decide +kernel
theorem d_Tok_takeSemicolon_14 : decode prog_9_method_11_code 14 = .ok (.aload_n 0, 1) := by decide +kernel
theorem d_Tok_takeSemicolon_15 : decode prog_9_method_11_code 15 = .ok (.invokevirtual 46, 3) := by decide +kernel
theorem d_Tok_takeSemicolon_18 : decode prog_9_method_11_code 18 = .ok (.iconst 1, 1) := by decide +kernel
theorem d_Tok_takeSemicolon_19 : decode prog_9_method_11_code 19 = .ok (.ireturn, 1) := by decide +kernel
theorem d_Tok_isName_0 : decode prog_9_method_7_code 0 = .ok (.aload_n 0, 1) := by decide +kernel
theorem d_Tok_isName_1 : decode prog_9_method_7_code 1 = .ok (.getfield 72, 3) := by decide +kernel
theorem d_Tok_isName_4 : decode prog_9_method_7_code 4 = .ok (.iconst 1, 1) := by decide +kernel
theorem d_Tok_isName_5 : decode prog_9_method_7_code 5 = .ok (.if_icmp .ne 24, 3) := by decide +kernel
theorem d_Tok_isName_8 : decode prog_9_method_7_code 8 = .ok (.aload_n 0, 1) := by decide +kernel
theorem d_Tok_isName_9 : decode prog_9_method_7_code 9 = .ok (.getfield 42, 3) := by decide +kernel
theorem d_Tok_isName_12 : decode prog_9_method_7_code 12 = .ok (.lconst 0, 1) := by decide +kernel
theorem d_Tok_isName_13 : decode prog_9_method_7_code 13 = .ok (.lcmp, 1) := by decide +kernel
theorem d_Tok_isName_14 : decode prog_9_method_7_code 14 = .ok (.ifCond .eq 15, 3) := by decide +kernel
theorem d_Tok_isName_17 : decode prog_9_method_7_code 17 = .ok (.aload_n 0, 1) := by decide +kernel
theorem d_Tok_isName_18 : decode prog_9_method_7_code 18 = .ok (.getfield 63, 3) := by decide +kernel
theorem d_Tok_isName_21 : decode prog_9_method_7_code 21 = .ok (.iconst (-1), 1) := by decide +kernel
theorem d_Tok_isName_22 : decode prog_9_method_7_code 22 = .ok (.if_icmp .ne 7, 3) := by decide +kernel
theorem d_Tok_isName_25 : decode prog_9_method_7_code 25 = .ok (.iconst 1, 1) := by decide +kernel
theorem d_Tok_isName_26 : decode prog_9_method_7_code 26 = .ok (.goto 4, 3) := by decide +kernel
theorem d_Tok_isName_29 : decode prog_9_method_7_code 29 = .ok (.iconst 0, 1) := by decide +kernel
theorem d_Tok_isName_30 : decode prog_9_method_7_code 30 = .ok (.ireturn, 1) := by decide +kernel
theorem d_Tok_indexOf_0 : decode prog_9_method_15_code 0 = .ok (.iconst 0, 1) := by decide +kernel
theorem d_Tok_indexOf_1 : decode prog_9_method_15_code 1 = .ok (.istore 4, 2) := by decide +kernel
theorem d_Tok_indexOf_3 : decode prog_9_method_15_code 3 = .ok (.iload 4, 2) := by decide +kernel
theorem d_Tok_indexOf_5 : decode prog_9_method_15_code 5 = .ok (.iload_n 3, 1) := by decide +kernel
theorem d_Tok_indexOf_6 : decode prog_9_method_15_code 6 = .ok (.if_icmp .ge 28, 3) := by decide +kernel
theorem d_Tok_indexOf_9 : decode prog_9_method_15_code 9 = .ok (.iload 4, 2) := by decide +kernel
theorem d_Tok_indexOf_11 : decode prog_9_method_15_code 11 = .ok (.aload_n 2, 1) := by decide +kernel
theorem d_Tok_indexOf_12 : decode prog_9_method_15_code 12 = .ok (.arraylength, 1) := by decide +kernel
theorem d_Tok_indexOf_13 : decode prog_9_method_15_code 13 = .ok (.if_icmp .ge 21, 3) := by decide +kernel
theorem d_Tok_indexOf_16 : decode prog_9_method_15_code 16 = .ok (.aload_n 2, 1) := by decide +kernel
theorem d_Tok_indexOf_17 : decode prog_9_method_15_code 17 = .ok (.iload 4, 2) := by decide +kernel
theorem d_Tok_indexOf_19 : decode prog_9_method_15_code 19 = .ok (.laload, 1) := by decide +kernel
theorem d_Tok_indexOf_20 : decode prog_9_method_15_code 20 = .ok (.lload_n 0, 1) := by decide +kernel
theorem d_Tok_indexOf_21 : decode prog_9_method_15_code 21 = .ok (.lcmp, 1) := by decide +kernel
theorem d_Tok_indexOf_22 : decode prog_9_method_15_code 22 = .ok (.ifCond .ne 6, 3) := by decide +kernel
theorem d_Tok_indexOf_25 : decode prog_9_method_15_code 25 = .ok (.iload 4, 2) := by decide +kernel
theorem d_Tok_indexOf_27 : decode prog_9_method_15_code 27 = .ok (.ireturn, 1) := by decide +kernel
theorem d_Tok_indexOf_28 : decode prog_9_method_15_code 28 = .ok (.iinc 4 1, 3) := by decide +kernel
theorem d_Tok_indexOf_31 : decode prog_9_method_15_code 31 = .ok (.goto (-28), 3) := by decide +kernel
theorem d_Tok_indexOf_34 : decode prog_9_method_15_code 34 = .ok (.iconst (-1), 1) := by decide +kernel
theorem d_Tok_indexOf_35 : decode prog_9_method_15_code 35 = .ok (.ireturn, 1) := by decide +kernel
theorem d_Tok_takeWord_0 : decode prog_9_method_10_code 0 = .ok (.aload_n 0, 1) := by decide +kernel
theorem d_Tok_takeWord_1 : decode prog_9_method_10_code 1 = .ok (.getfield 63, 3) := by decide +kernel
theorem d_Tok_takeWord_4 : decode prog_9_method_10_code 4 = .ok (.iload_n 1, 1) := by decide +kernel
theorem d_Tok_takeWord_5 : decode prog_9_method_10_code 5 = .ok (.if_icmp .eq 8, 3) := by decide +kernel
theorem d_Tok_takeWord_8 : decode prog_9_method_10_code 8 = .ok (.aload_n 0, 1) := by decide +kernel
theorem d_Tok_takeWord_9 : decode prog_9_method_10_code 9 = .ok (.invokevirtual 86, 3) := by decide +kernel
theorem d_Tok_takeWord_12 : decode prog_9_method_10_code 12 = .ok (.ireturn, 1) := by decide +kernel
theorem d_Tok_takeWord_13 : decode prog_9_method_10_code 13 = .ok (.aload_n 0, 1) := by decide +kernel
theorem d_Tok_takeWord_14 : decode prog_9_method_10_code 14 = .ok (.invokevirtual 46, 3) := by decide +kernel
theorem d_Tok_takeWord_17 : decode prog_9_method_10_code 17 = .ok (.iconst 1, 1) := by decide +kernel
theorem d_Tok_takeWord_18 : decode prog_9_method_10_code 18 = .ok (.ireturn, 1) := by decide +kernel
theorem d_Tok_known_0 : decode prog_9_method_13_code 0 = .ok (.aload_n 0, 1) := by decide +kernel
theorem d_Tok_known_1 : decode prog_9_method_13_code 1 = .ok (.invokevirtual 94, 3) := by decide +kernel
theorem d_Tok_known_4 : decode prog_9_method_13_code 4 = .ok (.ifCond .ne 10, 3) := by decide +kernel
theorem d_Tok_known_7 : decode prog_9_method_13_code 7 = .ok (.aload_n 0, 1) := by decide +kernel
theorem d_Tok_known_8 : decode prog_9_method_13_code 8 = .ok (.invokevirtual 86, 3) := by decide +kernel
theorem d_Tok_known_11 : decode prog_9_method_13_code 11 = .ok (.pop, 1) := by decide +kernel
theorem d_Tok_known_12 : decode prog_9_method_13_code 12 = .ok (.iconst (-1), 1) := by decide +kernel
theorem d_Tok_known_13 : decode prog_9_method_13_code 13 = .ok (.ireturn, 1) := by decide +kernel
theorem d_Tok_known_14 : decode prog_9_method_13_code 14 = .ok (.aload_n 0, 1) := by decide +kernel
theorem d_Tok_known_15 : decode prog_9_method_13_code 15 = .ok (.getfield 42, 3) := by decide +kernel
theorem d_Tok_known_18 : decode prog_9_method_13_code 18 = .ok (.aload_n 1, 1) := by decide +kernel
theorem d_Tok_known_19 : decode prog_9_method_13_code 19 = .ok (.iload_n 2, 1) := by decide +kernel
theorem d_Tok_known_20 : decode prog_9_method_13_code 20 = .ok (.invokestatic 97, 3) := by decide +kernel
theorem d_Tok_known_23 : decode prog_9_method_13_code 23 = .ok (.istore_n 3, 1) := by decide +kernel
theorem d_Tok_known_24 : decode prog_9_method_13_code 24 = .ok (.iload_n 3, 1) := by decide +kernel
theorem d_Tok_known_25 : decode prog_9_method_13_code 25 = .ok (.ifCond .ge 9, 3) := by decide +kernel
theorem d_Tok_known_28 : decode prog_9_method_13_code 28 = .ok (.aload_n 0, 1) := by decide +kernel
theorem d_Tok_known_29 : decode prog_9_method_13_code 29 = .ok (.iconst 3, 1) := by decide +kernel
theorem d_Tok_known_30 : decode prog_9_method_13_code 30 = .ok (.invokevirtual 90, 3) := by decide +kernel
theorem d_Tok_known_33 : decode prog_9_method_13_code 33 = .ok (.pop, 1) := by decide +kernel
theorem d_Tok_known_34 : decode prog_9_method_13_code 34 = .ok (.iload_n 3, 1) := by decide +kernel
theorem d_Tok_known_35 : decode prog_9_method_13_code 35 = .ok (.ireturn, 1) := by decide +kernel
theorem d_Tok_takeKnown_0 : decode prog_9_method_14_code 0 = .ok (.aload_n 0, 1) := by decide +kernel
theorem d_Tok_takeKnown_1 : decode prog_9_method_14_code 1 = .ok (.aload_n 1, 1) := by decide +kernel
theorem d_Tok_takeKnown_2 : decode prog_9_method_14_code 2 = .ok (.iload_n 2, 1) := by decide +kernel
theorem d_Tok_takeKnown_3 : decode prog_9_method_14_code 3 = .ok (.invokevirtual 101, 3) := by decide +kernel
theorem d_Tok_takeKnown_6 : decode prog_9_method_14_code 6 = .ok (.istore_n 3, 1) := by decide +kernel
theorem d_Tok_takeKnown_7 : decode prog_9_method_14_code 7 = .ok (.iload_n 3, 1) := by decide +kernel
theorem d_Tok_takeKnown_8 : decode prog_9_method_14_code 8 = .ok (.ifCond .lt 7, 3) := by decide +kernel
theorem d_Tok_takeKnown_11 : decode prog_9_method_14_code 11 = .ok (.aload_n 0, 1) := by decide +kernel
theorem d_Tok_takeKnown_12 : decode prog_9_method_14_code 12 = .ok (.invokevirtual 46, 3) := by decide +kernel
theorem d_Tok_takeKnown_15 : decode prog_9_method_14_code 15 = .ok (.iload_n 3, 1) := by decide +kernel
theorem d_Tok_takeKnown_16 : decode prog_9_method_14_code 16 = .ok (.ireturn, 1) := by decide +kernel
theorem d_YearsR_readInto_0 : decode prog_12_method_2_code 0 = .ok (.aload_n 1, 1) := by decide +kernel
theorem d_YearsR_readInto_1 : decode prog_12_method_2_code 1 = .ok (.invokevirtual 19, 3) := by decide +kernel
theorem d_YearsR_readInto_4 : decode prog_12_method_2_code 4 = .ok (.aload_n 1, 1) := by decide +kernel
theorem d_YearsR_readInto_5 : decode prog_12_method_2_code 5 = .ok (.iconst 1, 1) := by decide +kernel
theorem d_YearsR_readInto_6 : decode prog_12_method_2_code 6 = .ok (.putfield 24, 3) := by decide +kernel
theorem d_YearsR_readInto_9 : decode prog_12_method_2_code 9 = .ok (.aload_n 0, 1) := by decide +kernel
theorem d_YearsR_readInto_10 : decode prog_12_method_2_code 10 = .ok (.iconst 0, 1) := by decide +kernel
theorem d_YearsR_readInto_11 : decode prog_12_method_2_code 11 = .ok (.putfield 28, 3) := by decide +kernel
theorem d_YearsR_readInto_14 : decode prog_12_method_2_code 14 = .ok (.aload_n 0, 1) := by decide +kernel
theorem d_YearsR_readInto_15 : decode prog_12_method_2_code 15 = .ok (.getfield 15, 3) := by decide +kernel
theorem d_YearsR_readInto_18 : decode prog_12_method_2_code 18 = .ok (.aload_n 3, 1) := by decide +kernel
theorem d_YearsR_readInto_19 : decode prog_12_method_2_code 19 = .ok (.iload 4, 2) := by decide +kernel
theorem d_YearsR_readInto_21 : decode prog_12_method_2_code 21 = .ok (.invokevirtual 32, 3) := by decide +kernel
theorem d_YearsR_readInto_24 : decode prog_12_method_2_code 24 = .ok (.iconst 0, 1) := by decide +kernel
theorem d_YearsR_readInto_25 : decode prog_12_method_2_code 25 = .ok (.istore 5, 2) := by decide +kernel
theorem d_YearsR_readInto_27 : decode prog_12_method_2_code 27 = .ok (.iload 5, 2) := by decide +kernel
theorem d_YearsR_readInto_29 : decode prog_12_method_2_code 29 = .ok (.sipush 300, 3) := by decide +kernel
theorem d_YearsR_readInto_32 : decode prog_12_method_2_code 32 = .ok (.if_icmp .ge 73, 3) := by decide +kernel
theorem d_YearsR_readInto_35 : decode prog_12_method_2_code 35 = .ok (.aload_n 0, 1) := by decide +kernel
theorem d_YearsR_readInto_36 : decode prog_12_method_2_code 36 = .ok (.getfield 15, 3) := by decide +kernel
theorem d_YearsR_readInto_39 : decode prog_12_method_2_code 39 = .ok (.getfield 38, 3) := by decide +kernel
theorem d_YearsR_readInto_42 : decode prog_12_method_2_code 42 = .ok (.ifCond .eq 63, 3) := by decide +kernel
theorem d_YearsR_readInto_45 : decode prog_12_method_2_code 45 = .ok (.aload_n 0, 1) := by decide +kernel
theorem d_YearsR_readInto_46 : decode prog_12_method_2_code 46 = .ok (.getfield 15, 3) := by decide +kernel
theorem d_YearsR_readInto_49 : decode prog_12_method_2_code 49 = .ok (.getfield 41, 3) := by decide +kernel
theorem d_YearsR_readInto_52 : decode prog_12_method_2_code 52 = .ok (.bipush 19, 2) := by decide +kernel
theorem d_YearsR_readInto_54 : decode prog_12_method_2_code 54 = .ok (.if_icmp .ne 7, 3) := by decide +kernel
theorem d_YearsR_readInto_57 : decode prog_12_method_2_code 57 = .ok (.iconst 1, 1) := by decide +kernel
theorem d_YearsR_readInto_58 : decode prog_12_method_2_code 58 = .ok (.goto 4, 3) := by decide +kernel
theorem d_YearsR_readInto_61 : decode prog_12_method_2_code 61 = .ok (.iconst 0, 1) := by decide +kernel
theorem d_YearsR_readInto_62 : decode prog_12_method_2_code 62 = .ok (.istore 6, 2) := by decide +kernel
theorem d_YearsR_readInto_64 : decode prog_12_method_2_code 64 = .ok (.iload 6, 2) := by decide +kernel
theorem d_YearsR_readInto_66 : decode prog_12_method_2_code 66 = .ok (.ifCond .eq 14, 3) := by decide +kernel
theorem d_YearsR_readInto_69 : decode prog_12_method_2_code 69 = .ok (.aload_n 0, 1) := by decide +kernel
theorem d_YearsR_readInto_70 : decode prog_12_method_2_code 70 = .ok (.aload_n 1, 1) := by decide +kernel
theorem d_YearsR_readInto_71 : decode prog_12_method_2_code 71 = .ok (.invokevirtual 44, 3) := by decide +kernel
theorem d_YearsR_readInto_74 : decode prog_12_method_2_code 74 = .ok (.ifCond .ne 25, 3) := by decide +kernel
theorem d_YearsR_readInto_77 : decode prog_12_method_2_code 77 = .ok (.goto 20, 3) := by decide +kernel
theorem d_YearsR_readInto_80 : decode prog_12_method_2_code 80 = .ok (.aload_n 0, 1) := by decide +kernel
theorem d_YearsR_readInto_81 : decode prog_12_method_2_code 81 = .ok (.aload_n 1, 1) := by decide +kernel
theorem d_YearsR_readInto_82 : decode prog_12_method_2_code 82 = .ok (.invokevirtual 48, 3) := by decide +kernel
theorem d_YearsR_readInto_85 : decode prog_12_method_2_code 85 = .ok (.ifCond .eq 12, 3) := by decide +kernel
theorem d_YearsR_readInto_88 : decode prog_12_method_2_code 88 = .ok (.aload_n 0, 1) := by decide +kernel
theorem d_YearsR_readInto_89 : decode prog_12_method_2_code 89 = .ok (.aload_n 1, 1) := by decide +kernel
theorem d_YearsR_readInto_90 : decode prog_12_method_2_code 90 = .ok (.aload_n 2, 1) := by decide +kernel
theorem d_YearsR_readInto_91 : decode prog_12_method_2_code 91 = .ok (.invokevirtual 51, 3) := by decide +kernel
theorem d_YearsR_readInto_94 : decode prog_12_method_2_code 94 = .ok (.ifCond .ne 5, 3) := by decide +kernel
theorem d_YearsR_readInto_97 : decode prog_12_method_2_code 97 = .ok (.iconst 0, 1) := by decide +kernel
theorem d_YearsR_readInto_98 : decode prog_12_method_2_code 98 = .ok (.ireturn, 1) := by decide +kernel
theorem d_YearsR_readInto_99 : decode prog_12_method_2_code 99 = .ok (.iinc 5 1, 3) := by decide +kernel
theorem d_YearsR_readInto_102 : decode prog_12_method_2_code 102 = .ok (.goto (-75), 3) := by decide +kernel
theorem d_YearsR_readInto_105 : decode prog_12_method_2_code 105 = .ok (.aload_n 0, 1) := by decide +kernel
theorem d_YearsR_readInto_106 : decode prog_12_method_2_code 106 = .ok (.getfield 28, 3) := by decide +kernel
theorem d_YearsR_readInto_109 : decode prog_12_method_2_code 109 = .ok (.ifCond .eq 13, 3) := by decide +kernel
theorem d_YearsR_readInto_112 : decode prog_12_method_2_code 112 = .ok (.aload_n 0, 1) := by decide +kernel
theorem d_YearsR_readInto_113 : decode prog_12_method_2_code 113 = .ok (.getfield 15, 3) := by decide +kernel
theorem d_YearsR_readInto_116 : decode prog_12_method_2_code 116 = .ok (.invokevirtual 55, 3) := by decide +kernel
theorem d_YearsR_readInto_119 : decode prog_12_method_2_code 119 = .ok (.ifCond .eq 7, 3) := by decide +kernel
theorem d_YearsR_readInto_122 : decode prog_12_method_2_code 122 = .ok (.iconst 1, 1) := by decide +kernel
theorem d_YearsR_readInto_123 : decode prog_12_method_2_code 123 = .ok (.goto 4, 3) := by decide +kernel
theorem d_YearsR_readInto_126 : decode prog_12_method_2_code 126 = .ok (.iconst 0, 1) := by decide +kernel
theorem d_YearsR_readInto_127 : decode prog_12_method_2_code 127 = .ok (.ireturn, 1) := by decide +kernel
theorem d_YearsR_readEnd_0 : decode prog_12_method_3_code 0 = .ok (.aload_n 0, 1) := by decide +kernel
theorem d_YearsR_readEnd_1 : decode prog_12_method_3_code 1 = .ok (.getfield 28, 3) := by decide +kernel
theorem d_YearsR_readEnd_4 : decode prog_12_method_3_code 4 = .ok (.iconst 1, 1) := by decide +kernel
theorem d_YearsR_readEnd_5 : decode prog_12_method_3_code 5 = .ok (.if_icmp .ge 11, 3) := by decide +kernel
theorem d_YearsR_readEnd_8 : decode prog_12_method_3_code 8 = .ok (.aload_n 0, 1) := by decide +kernel
theorem d_YearsR_readEnd_9 : decode prog_12_method_3_code 9 = .ok (.getfield 15, 3) := by decide +kernel
theorem d_YearsR_readEnd_12 : decode prog_12_method_3_code 12 = .ok (.invokevirtual 55, 3) := by decide +kernel
theorem d_YearsR_readEnd_15 : decode prog_12_method_3_code 15 = .ok (.ireturn, 1) := by decide +kernel
theorem d_YearsR_readEnd_16 : decode prog_12_method_3_code 16 = .ok (.aload_n 0, 1) := by decide +kernel
theorem d_YearsR_readEnd_17 : decode prog_12_method_3_code 17 = .ok (.getfield 15, 3) := by decide +kernel
theorem d_YearsR_readEnd_20 : decode prog_12_method_3_code 20 = .ok (.invokevirtual 59, 3) := by decide +kernel
theorem d_YearsR_readEnd_23 : decode prog_12_method_3_code 23 = .ok (.aload_n 0, 1) := by decide +kernel
theorem d_YearsR_readEnd_24 : decode prog_12_method_3_code 24 = .ok (.getfield 15, 3) := by decide +kernel
theorem d_YearsR_readEnd_27 : decode prog_12_method_3_code 27 = .ok (.invokevirtual 62, 3) := by decide +kernel
theorem d_YearsR_readEnd_30 : decode prog_12_method_3_code 30 = .ok (.ifCond .ne 5, 3) := by decide +kernel
theorem d_YearsR_readEnd_33 : decode prog_12_method_3_code 33 = .ok (.iconst 0, 1) := by decide +kernel
theorem d_YearsR_readEnd_34 : decode prog_12_method_3_code 34 = .ok (.ireturn, 1) := by decide +kernel
theorem d_YearsR_readEnd_35 : decode prog_12_method_3_code 35 = .ok (.aload_n 0, 1) := by decide +kernel
theorem d_YearsR_readEnd_36 : decode prog_12_method_3_code 36 = .ok (.dup, 1) := by decide +kernel
theorem d_YearsR_readEnd_37 : decode prog_12_method_3_code 37 = .ok (.getfield 28, 3) := by decide +kernel
theorem d_YearsR_readEnd_40 : decode prog_12_method_3_code 40 = .ok (.iconst 1, 1) := by decide +kernel
theorem d_YearsR_readEnd_41 : decode prog_12_method_3_code 41 = .ok (.isub, 1) := by decide +kernel
theorem d_YearsR_readEnd_42 : decode prog_12_method_3_code 42 = .ok (.putfield 28, 3) := by decide +kernel
theorem d_YearsR_readEnd_45 : decode prog_12_method_3_code 45 = .ok (.aload_n 1, 1) := by decide +kernel
theorem d_YearsR_readEnd_46 : decode prog_12_method_3_code 46 = .ok (.aload_n 0, 1) := by decide +kernel
theorem d_YearsR_readEnd_47 : decode prog_12_method_3_code 47 = .ok (.getfield 11, 3) := by decide +kernel
theorem d_YearsR_readEnd_50 : decode prog_12_method_3_code 50 = .ok (.aload_n 0, 1) := by decide +kernel
theorem d_YearsR_readEnd_51 : decode prog_12_method_3_code 51 = .ok (.getfield 28, 3) := by decide +kernel
theorem d_YearsR_readEnd_54 : decode prog_12_method_3_code 54 = .ok (.iaload, 1) := by decide +kernel
theorem d_YearsR_readEnd_55 : decode prog_12_method_3_code 55 = .ok (.invokevirtual 65, 3) := by decide +kernel
theorem d_YearsR_readEnd_58 : decode prog_12_method_3_code 58 = .ok (.iconst 1, 1) := by decide +kernel
theorem d_YearsR_readEnd_59 : decode prog_12_method_3_code 59 = .ok (.ireturn, 1) := by decide +kernel
theorem d_Years_addEnd_0 : decode prog_11_method_5_code 0 = .ok (.aload_n 0, 1) := by decide +kernel
theorem d_Years_addEnd_1 : decode prog_11_method_5_code 1 = .ok (.getfield 19, 3) := by decide +kernel
theorem d_Years_addEnd_4 : decode prog_11_method_5_code 4 = .ok (.iload_n 1, 1) := by decide +kernel
theorem d_Years_addEnd_5 : decode prog_11_method_5_code 5 = .ok (.aload_n 0, 1) := by decide +kernel
theorem d_Years_addEnd_6 : decode prog_11_method_5_code 6 = .ok (.getfield 30, 3) := by decide +kernel
theorem d_Years_addEnd_9 : decode prog_11_method_5_code 9 = .ok (.iastore, 1) := by decide +kernel
theorem d_Years_addEnd_10 : decode prog_11_method_5_code 10 = .ok (.aload_n 0, 1) := by decide +kernel
theorem d_Years_addEnd_11 : decode prog_11_method_5_code 11 = .ok (.getfield 19, 3) := by decide +kernel
theorem d_Years_addEnd_14 : decode prog_11_method_5_code 14 = .ok (.aload_n 0, 1) := by decide +kernel
theorem d_Years_addEnd_15 : decode prog_11_method_5_code 15 = .ok (.getfield 30, 3) := by decide +kernel
theorem d_Years_addEnd_18 : decode prog_11_method_5_code 18 = .ok (.iload_n 1, 1) := by decide +kernel
theorem d_Years_addEnd_19 : decode prog_11_method_5_code 19 = .ok (.iastore, 1) := by decide +kernel
theorem d_Years_addEnd_20 : decode prog_11_method_5_code 20 = .ok (.aload_n 0, 1) := by decide +kernel
theorem d_Years_addEnd_21 : decode prog_11_method_5_code 21 = .ok (.bipush 19, 2) := by decide +kernel
theorem d_Years_addEnd_23 : decode prog_11_method_5_code 23 = .ok (.iconst 0, 1) := by decide +kernel
theorem d_Years_addEnd_24 : decode prog_11_method_5_code 24 = .ok (.iconst 0, 1) := by decide +kernel
theorem d_Years_addEnd_25 : decode prog_11_method_5_code 25 = .ok (.invokevirtual 39, 3) := by decide +kernel
theorem d_Years_addEnd_28 : decode prog_11_method_5_code 28 = .ok (.return_, 1) := by decide +kernel
theorem d_Years_addOp_0 : decode prog_11_method_6_code 0 = .ok (.aload_n 0, 1) := by decide +kernel
theorem d_Years_addOp_1 : decode prog_11_method_6_code 1 = .ok (.getfield 9, 3) := by decide +kernel
theorem d_Years_addOp_4 : decode prog_11_method_6_code 4 = .ok (.aload_n 0, 1) := by decide +kernel
theorem d_Years_addOp_5 : decode prog_11_method_6_code 5 = .ok (.getfield 30, 3) := by decide +kernel
theorem d_Years_addOp_8 : decode prog_11_method_6_code 8 = .ok (.iload_n 1, 1) := by decide +kernel
theorem d_Years_addOp_9 : decode prog_11_method_6_code 9 = .ok (.iastore, 1) := by decide +kernel
theorem d_Years_addOp_10 : decode prog_11_method_6_code 10 = .ok (.aload_n 0, 1) := by decide +kernel
theorem d_Years_addOp_11 : decode prog_11_method_6_code 11 = .ok (.getfield 13, 3) := by decide +kernel
theorem d_Years_addOp_14 : decode prog_11_method_6_code 14 = .ok (.aload_n 0, 1) := by decide +kernel
theorem d_Years_addOp_15 : decode prog_11_method_6_code 15 = .ok (.getfield 30, 3) := by decide +kernel
theorem d_Years_addOp_18 : decode prog_11_method_6_code 18 = .ok (.iload_n 2, 1) := by decide +kernel
theorem d_Years_addOp_19 : decode prog_11_method_6_code 19 = .ok (.iastore, 1) := by decide +kernel
theorem d_Years_addOp_20 : decode prog_11_method_6_code 20 = .ok (.aload_n 0, 1) := by decide +kernel
theorem d_Years_addOp_21 : decode prog_11_method_6_code 21 = .ok (.getfield 16, 3) := by decide +kernel
theorem d_Years_addOp_24 : decode prog_11_method_6_code 24 = .ok (.aload_n 0, 1) := by decide +kernel
theorem d_Years_addOp_25 : decode prog_11_method_6_code 25 = .ok (.getfield 30, 3) := by decide +kernel
theorem d_Years_addOp_28 : decode prog_11_method_6_code 28 = .ok (.iload_n 3, 1) := by decide +kernel
theorem d_Years_addOp_29 : decode prog_11_method_6_code 29 = .ok (.iastore, 1) := by decide +kernel
theorem d_Years_addOp_30 : decode prog_11_method_6_code 30 = .ok (.aload_n 0, 1) := by decide +kernel
theorem d_Years_addOp_31 : decode prog_11_method_6_code 31 = .ok (.dup, 1) := by decide +kernel
theorem d_Years_addOp_32 : decode prog_11_method_6_code 32 = .ok (.getfield 30, 3) := by decide +kernel
theorem d_Years_addOp_35 : decode prog_11_method_6_code 35 = .ok (.iconst 1, 1) := by decide +kernel
theorem d_Years_addOp_36 : decode prog_11_method_6_code 36 = .ok (.iadd, 1) := by decide +kernel
theorem d_Years_addOp_37 : decode prog_11_method_6_code 37 = .ok (.putfield 30, 3) := by decide +kernel
theorem d_Years_addOp_40 : decode prog_11_method_6_code 40 = .ok (.return_, 1) := by decide +kernel
theorem d_YearsR_mayBegin_0 : decode prog_12_method_4_code 0 = .ok (.aload_n 0, 1) := by decide +kernel
theorem d_YearsR_mayBegin_1 : decode prog_12_method_4_code 1 = .ok (.getfield 15, 3) := by decide +kernel
theorem d_YearsR_mayBegin_4 : decode prog_12_method_4_code 4 = .ok (.getfield 41, 3) := by decide +kernel
theorem d_YearsR_mayBegin_7 : decode prog_12_method_4_code 7 = .ok (.istore_n 2, 1) := by decide +kernel
theorem d_YearsR_mayBegin_8 : decode prog_12_method_4_code 8 = .ok (.iload_n 2, 1) := by decide +kernel
theorem d_YearsR_mayBegin_9 : decode prog_12_method_4_code 9 = .ok (.bipush 15, 2) := by decide +kernel
theorem d_YearsR_mayBegin_11 : decode prog_12_method_4_code 11 = .ok (.if_icmp .eq 9, 3) := by decide +kernel
theorem d_YearsR_mayBegin_14 : decode prog_12_method_4_code 14 = .ok (.iload_n 2, 1) := by decide +kernel
theorem d_YearsR_mayBegin_15 : decode prog_12_method_4_code 15 = .ok (.bipush 18, 2) := by decide +kernel
theorem d_YearsR_mayBegin_17 : decode prog_12_method_4_code 17 = .ok (.if_icmp .ne 7, 3) := by decide +kernel
theorem d_YearsR_mayBegin_20 : decode prog_12_method_4_code 20 = .ok (.iconst 1, 1) := by decide +kernel
theorem d_YearsR_mayBegin_21 : decode prog_12_method_4_code 21 = .ok (.goto 4, 3) := by decide +kernel
theorem d_YearsR_mayBegin_24 : decode prog_12_method_4_code 24 = .ok (.iconst 0, 1) := by decide +kernel
theorem d_YearsR_mayBegin_25 : decode prog_12_method_4_code 25 = .ok (.istore_n 3, 1) := by decide +kernel
theorem d_YearsR_mayBegin_26 : decode prog_12_method_4_code 26 = .ok (.iload_n 3, 1) := by decide +kernel
theorem d_YearsR_mayBegin_27 : decode prog_12_method_4_code 27 = .ok (.ifCond .ne 29, 3) := by decide +kernel
theorem d_YearsR_mayBegin_30 : decode prog_12_method_4_code 30 = .ok (.iload_n 2, 1) := by decide +kernel
theorem d_YearsR_mayBegin_31 : decode prog_12_method_4_code 31 = .ok (.bipush 20, 2) := by decide +kernel
theorem d_YearsR_mayBegin_33 : decode prog_12_method_4_code 33 = .ok (.if_icmp .eq 23, 3) := by decide +kernel
theorem d_YearsR_mayBegin_36 : decode prog_12_method_4_code 36 = .ok (.iload_n 2, 1) := by decide +kernel
theorem d_YearsR_mayBegin_37 : decode prog_12_method_4_code 37 = .ok (.bipush 10, 2) := by decide +kernel
theorem d_YearsR_mayBegin_39 : decode prog_12_method_4_code 39 = .ok (.if_icmp .lt 9, 3) := by decide +kernel
theorem d_YearsR_mayBegin_42 : decode prog_12_method_4_code 42 = .ok (.iload_n 2, 1) := by decide +kernel
theorem d_YearsR_mayBegin_43 : decode prog_12_method_4_code 43 = .ok (.bipush 14, 2) := by decide +kernel
theorem d_YearsR_mayBegin_45 : decode prog_12_method_4_code 45 = .ok (.if_icmp .le 11, 3) := by decide +kernel
theorem d_YearsR_mayBegin_48 : decode prog_12_method_4_code 48 = .ok (.aload_n 0, 1) := by decide +kernel
theorem d_YearsR_mayBegin_49 : decode prog_12_method_4_code 49 = .ok (.getfield 15, 3) := by decide +kernel
theorem d_YearsR_mayBegin_52 : decode prog_12_method_4_code 52 = .ok (.invokevirtual 55, 3) := by decide +kernel
theorem d_YearsR_mayBegin_55 : decode prog_12_method_4_code 55 = .ok (.ireturn, 1) := by decide +kernel
theorem d_YearsR_mayBegin_56 : decode prog_12_method_4_code 56 = .ok (.aload_n 1, 1) := by decide +kernel
theorem d_YearsR_mayBegin_57 : decode prog_12_method_4_code 57 = .ok (.getfield 69, 3) := by decide +kernel
theorem d_YearsR_mayBegin_60 : decode prog_12_method_4_code 60 = .ok (.bipush 30, 2) := by decide +kernel
theorem d_YearsR_mayBegin_62 : decode prog_12_method_4_code 62 = .ok (.if_icmp .lt 13, 3) := by decide +kernel
theorem d_YearsR_mayBegin_65 : decode prog_12_method_4_code 65 = .ok (.aload_n 0, 1) := by decide +kernel
theorem d_YearsR_mayBegin_66 : decode prog_12_method_4_code 66 = .ok (.getfield 15, 3) := by decide +kernel
theorem d_YearsR_mayBegin_69 : decode prog_12_method_4_code 69 = .ok (.bipush 6, 2) := by decide +kernel
theorem d_YearsR_mayBegin_71 : decode prog_12_method_4_code 71 = .ok (.invokevirtual 72, 3) := by decide +kernel
theorem d_YearsR_mayBegin_74 : decode prog_12_method_4_code 74 = .ok (.ireturn, 1) := by decide +kernel
theorem d_YearsR_mayBegin_75 : decode prog_12_method_4_code 75 = .ok (.iload_n 3, 1) := by decide +kernel
theorem d_YearsR_mayBegin_76 : decode prog_12_method_4_code 76 = .ok (.ifCond .eq 23, 3) := by decide +kernel
theorem d_YearsR_mayBegin_79 : decode prog_12_method_4_code 79 = .ok (.aload_n 0, 1) := by decide +kernel
theorem d_YearsR_mayBegin_80 : decode prog_12_method_4_code 80 = .ok (.getfield 28, 3) := by decide +kernel
theorem d_YearsR_mayBegin_83 : decode prog_12_method_4_code 83 = .ok (.iconst 3, 1) := by decide +kernel
theorem d_YearsR_mayBegin_84 : decode prog_12_method_4_code 84 = .ok (.if_icmp .lt 15, 3) := by decide +kernel
theorem d_YearsR_mayBegin_87 : decode prog_12_method_4_code 87 = .ok (.aload_n 0, 1) := by decide +kernel
theorem d_YearsR_mayBegin_88 : decode prog_12_method_4_code 88 = .ok (.getfield 15, 3) := by decide +kernel
theorem d_YearsR_mayBegin_91 : decode prog_12_method_4_code 91 = .ok (.bipush 7, 2) := by decide +kernel
theorem d_YearsR_mayBegin_93 : decode prog_12_method_4_code 93 = .ok (.invokevirtual 72, 3) := by decide +kernel
theorem d_YearsR_mayBegin_96 : decode prog_12_method_4_code 96 = .ok (.ifCond .eq 7, 3) := by decide +kernel
theorem d_YearsR_mayBegin_99 : decode prog_12_method_4_code 99 = .ok (.iconst 1, 1) := by decide +kernel
theorem d_YearsR_mayBegin_100 : decode prog_12_method_4_code 100 = .ok (.goto 4, 3) := by decide +kernel
theorem d_YearsR_mayBegin_103 : decode prog_12_method_4_code 103 = .ok (.iconst 0, 1) := by decide +kernel
theorem d_YearsR_mayBegin_104 : decode prog_12_method_4_code 104 = .ok (.ireturn, 1) := by decide +kernel
theorem d_YearsR_readStep_0 : decode prog_12_method_5_code 0 = .ok (.aload_n 0, 1) := by decide +kernel
theorem d_YearsR_readStep_1 : decode prog_12_method_5_code 1 = .ok (.getfield 15, 3) := by decide +kernel
theorem d_YearsR_readStep_4 : decode prog_12_method_5_code 4 = .ok (.getfield 41, 3) := by decide +kernel
theorem d_YearsR_readStep_7 : decode prog_12_method_5_code 7 = .ok (.istore_n 3, 1) := by decide +kernel
theorem d_YearsR_readStep_8 : decode prog_12_method_5_code 8 = .ok (.iload_n 3, 1) := by decide +kernel
theorem d_YearsR_readStep_9 : decode prog_12_method_5_code 9 = .ok (.bipush 15, 2) := by decide +kernel
theorem d_YearsR_readStep_11 : decode prog_12_method_5_code 11 = .ok (.if_icmp .eq 9, 3) := by decide +kernel
theorem d_YearsR_readStep_14 : decode prog_12_method_5_code 14 = .ok (.iload_n 3, 1) := by decide +kernel
theorem d_YearsR_readStep_15 : decode prog_12_method_5_code 15 = .ok (.bipush 18, 2) := by decide +kernel
theorem d_YearsR_readStep_17 : decode prog_12_method_5_code 17 = .ok (.if_icmp .ne 26, 3) := by decide +kernel
theorem d_YearsR_readStep_20 : decode prog_12_method_5_code 20 = .ok (.aload_n 0, 1) := by decide +kernel
theorem d_YearsR_readStep_21 : decode prog_12_method_5_code 21 = .ok (.getfield 11, 3) := by decide +kernel
theorem d_YearsR_readStep_24 : decode prog_12_method_5_code 24 = .ok (.aload_n 0, 1) := by decide +kernel
theorem d_YearsR_readStep_25 : decode prog_12_method_5_code 25 = .ok (.getfield 28, 3) := by decide +kernel
theorem d_YearsR_readStep_28 : decode prog_12_method_5_code 28 = .ok (.aload_n 1, 1) := by decide +kernel
theorem d_YearsR_readStep_29 : decode prog_12_method_5_code 29 = .ok (.getfield 76, 3) := by decide +kernel
theorem d_YearsR_readStep_32 : decode prog_12_method_5_code 32 = .ok (.iastore, 1) := by decide +kernel
theorem d_YearsR_readStep_33 : decode prog_12_method_5_code 33 = .ok (.aload_n 0, 1) := by decide +kernel
theorem d_YearsR_readStep_34 : decode prog_12_method_5_code 34 = .ok (.dup, 1) := by decide +kernel
theorem d_YearsR_readStep_35 : decode prog_12_method_5_code 35 = .ok (.getfield 28, 3) := by decide +kernel
theorem d_YearsR_readStep_38 : decode prog_12_method_5_code 38 = .ok (.iconst 1, 1) := by decide +kernel
theorem d_YearsR_readStep_39 : decode prog_12_method_5_code 39 = .ok (.iadd, 1) := by decide +kernel
theorem d_YearsR_readStep_40 : decode prog_12_method_5_code 40 = .ok (.putfield 28, 3) := by decide +kernel
theorem d_YearsR_readStep_43 : decode prog_12_method_5_code 43 = .ok (.aload_n 0, 1) := by decide +kernel
theorem d_YearsR_readStep_44 : decode prog_12_method_5_code 44 = .ok (.getfield 15, 3) := by decide +kernel
theorem d_YearsR_readStep_47 : decode prog_12_method_5_code 47 = .ok (.invokevirtual 59, 3) := by decide +kernel
theorem d_YearsR_readStep_50 : decode prog_12_method_5_code 50 = .ok (.iload_n 3, 1) := by decide +kernel
theorem d_YearsR_readStep_51 : decode prog_12_method_5_code 51 = .ok (.bipush 15, 2) := by decide +kernel
theorem d_YearsR_readStep_53 : decode prog_12_method_5_code 53 = .ok (.if_icmp .ne 44, 3) := by decide +kernel
theorem d_YearsR_readStep_56 : decode prog_12_method_5_code 56 = .ok (.aload_n 0, 1) := by decide +kernel
theorem d_YearsR_readStep_57 : decode prog_12_method_5_code 57 = .ok (.getfield 15, 3) := by decide +kernel
theorem d_YearsR_readStep_60 : decode prog_12_method_5_code 60 = .ok (.getfield 41, 3) := by decide +kernel
theorem d_YearsR_readStep_63 : decode prog_12_method_5_code 63 = .ok (.istore_n 3, 1) := by decide +kernel
theorem d_YearsR_readStep_64 : decode prog_12_method_5_code 64 = .ok (.iload_n 3, 1) := by decide +kernel
theorem d_YearsR_readStep_65 : decode prog_12_method_5_code 65 = .ok (.bipush 8, 2) := by decide +kernel
theorem d_YearsR_readStep_67 : decode prog_12_method_5_code 67 = .ok (.if_icmp .eq 23, 3) := by decide +kernel
theorem d_YearsR_readStep_70 : decode prog_12_method_5_code 70 = .ok (.iload_n 3, 1) := by decide +kernel
theorem d_YearsR_readStep_71 : decode prog_12_method_5_code 71 = .ok (.bipush 16, 2) := by decide +kernel
theorem d_YearsR_readStep_73 : decode prog_12_method_5_code 73 = .ok (.if_icmp .eq 17, 3) := by decide +kernel
theorem d_YearsR_readStep_76 : decode prog_12_method_5_code 76 = .ok (.iload_n 3, 1) := by decide +kernel
theorem d_YearsR_readStep_77 : decode prog_12_method_5_code 77 = .ok (.bipush 17, 2) := by decide +kernel
theorem d_YearsR_readStep_79 : decode prog_12_method_5_code 79 = .ok (.if_icmp .eq 11, 3) := by decide +kernel
theorem d_YearsR_readStep_82 : decode prog_12_method_5_code 82 = .ok (.aload_n 0, 1) := by decide +kernel
theorem d_YearsR_readStep_83 : decode prog_12_method_5_code 83 = .ok (.getfield 15, 3) := by decide +kernel
theorem d_YearsR_readStep_86 : decode prog_12_method_5_code 86 = .ok (.invokevirtual 55, 3) := by decide +kernel
theorem d_YearsR_readStep_89 : decode prog_12_method_5_code 89 = .ok (.ireturn, 1) := by decide +kernel
theorem d_YearsR_readStep_90 : decode prog_12_method_5_code 90 = .ok (.aload_n 0, 1) := by decide +kernel
theorem d_YearsR_readStep_91 : decode prog_12_method_5_code 91 = .ok (.getfield 15, 3) := by decide +kernel
theorem d_YearsR_readStep_94 : decode prog_12_method_5_code 94 = .ok (.invokevirtual 59, 3) := by decide +kernel
theorem d_YearsR_readStep_97 : decode prog_12_method_5_code 97 = .ok (.aload_n 0, 1) := by decide +kernel
theorem d_YearsR_readStep_98 : decode prog_12_method_5_code 98 = .ok (.aload_n 2, 1) := by decide +kernel
theorem d_YearsR_readStep_99 : decode prog_12_method_5_code 99 = .ok (.iload_n 3, 1) := by decide +kernel
theorem d_YearsR_readStep_100 : decode prog_12_method_5_code 100 = .ok (.invokevirtual 79, 3) := by decide +kernel
theorem d_YearsR_readStep_103 : decode prog_12_method_5_code 103 = .ok (.istore 4, 2) := by decide +kernel
theorem d_YearsR_readStep_105 : decode prog_12_method_5_code 105 = .ok (.iload 4, 2) := by decide +kernel
theorem d_YearsR_readStep_107 : decode prog_12_method_5_code 107 = .ok (.ifCond .ge 5, 3) := by decide +kernel
theorem d_YearsR_readStep_110 : decode prog_12_method_5_code 110 = .ok (.iconst 0, 1) := by decide +kernel
theorem d_YearsR_readStep_111 : decode prog_12_method_5_code 111 = .ok (.ireturn, 1) := by decide +kernel
theorem d_YearsR_readStep_112 : decode prog_12_method_5_code 112 = .ok (.iload_n 3, 1) := by decide +kernel
theorem d_YearsR_readStep_113 : decode prog_12_method_5_code 113 = .ok (.bipush 16, 2) := by decide +kernel
theorem d_YearsR_readStep_115 : decode prog_12_method_5_code 115 = .ok (.if_icmp .ne 44, 3) := by decide +kernel
theorem d_YearsR_readStep_118 : decode prog_12_method_5_code 118 = .ok (.aload_n 0, 1) := by decide +kernel
theorem d_YearsR_readStep_119 : decode prog_12_method_5_code 119 = .ok (.getfield 15, 3) := by decide +kernel
theorem d_YearsR_readStep_122 : decode prog_12_method_5_code 122 = .ok (.getfield 83, 3) := by decide +kernel
theorem d_YearsR_readStep_125 : decode prog_12_method_5_code 125 = .ok (.istore_n 3, 1) := by decide +kernel
theorem d_YearsR_readStep_126 : decode prog_12_method_5_code 126 = .ok (.iload_n 3, 1) := by decide +kernel
theorem d_YearsR_readStep_127 : decode prog_12_method_5_code 127 = .ok (.bipush 60, 2) := by decide +kernel
theorem d_YearsR_readStep_129 : decode prog_12_method_5_code 129 = .ok (.if_icmp .eq 23, 3) := by decide +kernel
theorem d_YearsR_readStep_132 : decode prog_12_method_5_code 132 = .ok (.iload_n 3, 1) := by decide +kernel
theorem d_YearsR_readStep_133 : decode prog_12_method_5_code 133 = .ok (.bipush 62, 2) := by decide +kernel
theorem d_YearsR_readStep_135 : decode prog_12_method_5_code 135 = .ok (.if_icmp .eq 17, 3) := by decide +kernel
theorem d_YearsR_readStep_138 : decode prog_12_method_5_code 138 = .ok (.iload_n 3, 1) := by decide +kernel
theorem d_YearsR_readStep_139 : decode prog_12_method_5_code 139 = .ok (.bipush 61, 2) := by decide +kernel
theorem d_YearsR_readStep_141 : decode prog_12_method_5_code 141 = .ok (.if_icmp .eq 11, 3) := by decide +kernel
theorem d_YearsR_readStep_144 : decode prog_12_method_5_code 144 = .ok (.aload_n 0, 1) := by decide +kernel
theorem d_YearsR_readStep_145 : decode prog_12_method_5_code 145 = .ok (.getfield 15, 3) := by decide +kernel
theorem d_YearsR_readStep_148 : decode prog_12_method_5_code 148 = .ok (.invokevirtual 55, 3) := by decide +kernel
theorem d_YearsR_readStep_151 : decode prog_12_method_5_code 151 = .ok (.ireturn, 1) := by decide +kernel
theorem d_YearsR_readStep_152 : decode prog_12_method_5_code 152 = .ok (.aload_n 0, 1) := by decide +kernel
theorem d_YearsR_readStep_153 : decode prog_12_method_5_code 153 = .ok (.getfield 15, 3) := by decide +kernel
theorem d_YearsR_readStep_156 : decode prog_12_method_5_code 156 = .ok (.invokevirtual 59, 3) := by decide +kernel
theorem d_YearsR_readStep_159 : decode prog_12_method_5_code 159 = .ok (.aload_n 0, 1) := by decide +kernel
theorem d_YearsR_readStep_160 : decode prog_12_method_5_code 160 = .ok (.aload_n 2, 1) := by decide +kernel
theorem d_YearsR_readStep_161 : decode prog_12_method_5_code 161 = .ok (.iload_n 3, 1) := by decide +kernel
theorem d_YearsR_readStep_162 : decode prog_12_method_5_code 162 = .ok (.invokevirtual 86, 3) := by decide +kernel
theorem d_YearsR_readStep_165 : decode prog_12_method_5_code 165 = .ok (.istore 5, 2) := by decide +kernel
theorem d_YearsR_readStep_167 : decode prog_12_method_5_code 167 = .ok (.iload 5, 2) := by decide +kernel
theorem d_YearsR_readStep_169 : decode prog_12_method_5_code 169 = .ok (.ifCond .ge 5, 3) := by decide +kernel
theorem d_YearsR_readStep_172 : decode prog_12_method_5_code 172 = .ok (.iconst 0, 1) := by decide +kernel
theorem d_YearsR_readStep_173 : decode prog_12_method_5_code 173 = .ok (.ireturn, 1) := by decide +kernel
theorem d_YearsR_readStep_174 : decode prog_12_method_5_code 174 = .ok (.aload_n 1, 1) := by decide +kernel
theorem d_YearsR_readStep_175 : decode prog_12_method_5_code 175 = .ok (.iload_n 3, 1) := by decide +kernel
theorem d_YearsR_readStep_176 : decode prog_12_method_5_code 176 = .ok (.iload 4, 2) := by decide +kernel
theorem d_YearsR_readStep_178 : decode prog_12_method_5_code 178 = .ok (.iload 5, 2) := by decide +kernel
theorem d_YearsR_readStep_180 : decode prog_12_method_5_code 180 = .ok (.invokevirtual 89, 3) := by decide +kernel
theorem d_YearsR_readStep_183 : decode prog_12_method_5_code 183 = .ok (.aload_n 0, 1) := by decide +kernel
theorem d_YearsR_readStep_184 : decode prog_12_method_5_code 184 = .ok (.getfield 15, 3) := by decide +kernel
theorem d_YearsR_readStep_187 : decode prog_12_method_5_code 187 = .ok (.invokevirtual 62, 3) := by decide +kernel
theorem d_YearsR_readStep_190 : decode prog_12_method_5_code 190 = .ok (.ireturn, 1) := by decide +kernel
theorem d_YearsR_takeFirst_0 : decode prog_12_method_6_code 0 = .ok (.iload_n 2, 1) := by decide +kernel
theorem d_YearsR_takeFirst_1 : decode prog_12_method_6_code 1 = .ok (.tableswitch 102 8 18 #[59, 102, 59, 59, 75, 75, 102, 102, 75, 59, 91], 59) := by decide +kernel
theorem d_YearsR_takeFirst_60 : decode prog_12_method_6_code 60 = .ok (.aload_n 0, 1) := by decide +kernel
theorem d_YearsR_takeFirst_61 : decode prog_12_method_6_code 61 = .ok (.getfield 15, 3) := by decide +kernel
theorem d_YearsR_takeFirst_64 : decode prog_12_method_6_code 64 = .ok (.aload_n 1, 1) := by decide +kernel
theorem d_YearsR_takeFirst_65 : decode prog_12_method_6_code 65 = .ok (.getfield 93, 3) := by decide +kernel
theorem d_YearsR_takeFirst_68 : decode prog_12_method_6_code 68 = .ok (.aload_n 1, 1) := by decide +kernel
theorem d_YearsR_takeFirst_69 : decode prog_12_method_6_code 69 = .ok (.getfield 99, 3) := by decide +kernel
theorem d_YearsR_takeFirst_72 : decode prog_12_method_6_code 72 = .ok (.invokevirtual 102, 3) := by decide +kernel
theorem d_YearsR_takeFirst_75 : decode prog_12_method_6_code 75 = .ok (.ireturn, 1) := by decide +kernel
theorem d_YearsR_takeFirst_76 : decode prog_12_method_6_code 76 = .ok (.aload_n 0, 1) := by decide +kernel
theorem d_YearsR_takeFirst_77 : decode prog_12_method_6_code 77 = .ok (.getfield 15, 3) := by decide +kernel
theorem d_YearsR_takeFirst_80 : decode prog_12_method_6_code 80 = .ok (.aload_n 1, 1) := by decide +kernel
theorem d_YearsR_takeFirst_81 : decode prog_12_method_6_code 81 = .ok (.getfield 106, 3) := by decide +kernel
theorem d_YearsR_takeFirst_84 : decode prog_12_method_6_code 84 = .ok (.aload_n 1, 1) := by decide +kernel
theorem d_YearsR_takeFirst_85 : decode prog_12_method_6_code 85 = .ok (.getfield 109, 3) := by decide +kernel
theorem d_YearsR_takeFirst_88 : decode prog_12_method_6_code 88 = .ok (.invokevirtual 102, 3) := by decide +kernel
theorem d_YearsR_takeFirst_91 : decode prog_12_method_6_code 91 = .ok (.ireturn, 1) := by decide +kernel
theorem d_YearsR_takeFirst_92 : decode prog_12_method_6_code 92 = .ok (.aload_n 0, 1) := by decide +kernel
theorem d_YearsR_takeFirst_93 : decode prog_12_method_6_code 93 = .ok (.getfield 15, 3) := by decide +kernel
theorem d_YearsR_takeFirst_96 : decode prog_12_method_6_code 96 = .ok (.iconst 1, 1) := by decide +kernel
theorem d_YearsR_takeFirst_97 : decode prog_12_method_6_code 97 = .ok (.bipush 99, 2) := by decide +kernel
theorem d_YearsR_takeFirst_99 : decode prog_12_method_6_code 99 = .ok (.invokevirtual 112, 3) := by decide +kernel
theorem d_YearsR_takeFirst_102 : decode prog_12_method_6_code 102 = .ok (.ireturn, 1) := by decide +kernel
theorem d_YearsR_takeFirst_103 : decode prog_12_method_6_code 103 = .ok (.iconst 0, 1) := by decide +kernel
theorem d_YearsR_takeFirst_104 : decode prog_12_method_6_code 104 = .ok (.ireturn, 1) := by decide +kernel
theorem d_YearsR_takeSecond_0 : decode prog_12_method_7_code 0 = .ok (.iload_n 2, 1) := by decide +kernel
theorem d_YearsR_takeSecond_1 : decode prog_12_method_7_code 1 = .ok (.lookupswitch 111 #[(8, 67), (10, 67), (12, 83), (13, 83), (60, 99), (61, 99), (62, 99)], 67) := by decide +kernel
theorem d_YearsR_takeSecond_68 : decode prog_12_method_7_code 68 = .ok (.aload_n 0, 1) := by decide +kernel
theorem d_YearsR_takeSecond_69 : decode prog_12_method_7_code 69 = .ok (.getfield 15, 3) := by decide +kernel
theorem d_YearsR_takeSecond_72 : decode prog_12_method_7_code 72 = .ok (.aload_n 1, 1) := by decide +kernel
theorem d_YearsR_takeSecond_73 : decode prog_12_method_7_code 73 = .ok (.getfield 106, 3) := by decide +kernel
theorem d_YearsR_takeSecond_76 : decode prog_12_method_7_code 76 = .ok (.aload_n 1, 1) := by decide +kernel
theorem d_YearsR_takeSecond_77 : decode prog_12_method_7_code 77 = .ok (.getfield 109, 3) := by decide +kernel
theorem d_YearsR_takeSecond_80 : decode prog_12_method_7_code 80 = .ok (.invokevirtual 102, 3) := by decide +kernel
theorem d_YearsR_takeSecond_83 : decode prog_12_method_7_code 83 = .ok (.ireturn, 1) := by decide +kernel
theorem d_YearsR_takeSecond_84 : decode prog_12_method_7_code 84 = .ok (.aload_n 0, 1) := by decide +kernel
theorem d_YearsR_takeSecond_85 : decode prog_12_method_7_code 85 = .ok (.getfield 15, 3) := by decide +kernel
theorem d_YearsR_takeSecond_88 : decode prog_12_method_7_code 88 = .ok (.aload_n 1, 1) := by decide +kernel
theorem d_YearsR_takeSecond_89 : decode prog_12_method_7_code 89 = .ok (.getfield 116, 3) := by decide +kernel
theorem d_YearsR_takeSecond_92 : decode prog_12_method_7_code 92 = .ok (.aload_n 1, 1) := by decide +kernel
theorem d_YearsR_takeSecond_93 : decode prog_12_method_7_code 93 = .ok (.getfield 119, 3) := by decide +kernel
theorem d_YearsR_takeSecond_96 : decode prog_12_method_7_code 96 = .ok (.invokevirtual 102, 3) := by decide +kernel
theorem d_YearsR_takeSecond_99 : decode prog_12_method_7_code 99 = .ok (.ireturn, 1) := by decide +kernel
theorem d_YearsR_takeSecond_100 : decode prog_12_method_7_code 100 = .ok (.aload_n 0, 1) := by decide +kernel
theorem d_YearsR_takeSecond_101 : decode prog_12_method_7_code 101 = .ok (.getfield 15, 3) := by decide +kernel
theorem d_YearsR_takeSecond_104 : decode prog_12_method_7_code 104 = .ok (.iconst 0, 1) := by decide +kernel
theorem d_YearsR_takeSecond_105 : decode prog_12_method_7_code 105 = .ok (.sipush 9999, 3) := by decide +kernel
theorem d_YearsR_takeSecond_108 : decode prog_12_method_7_code 108 = .ok (.invokevirtual 112, 3) := by decide +kernel
theorem d_YearsR_takeSecond_111 : decode prog_12_method_7_code 111 = .ok (.ireturn, 1) := by decide +kernel
theorem d_YearsR_takeSecond_112 : decode prog_12_method_7_code 112 = .ok (.iconst 0, 1) := by decide +kernel
theorem d_YearsR_takeSecond_113 : decode prog_12_method_7_code 113 = .ok (.ireturn, 1) := by decide +kernel
theorem d_Years_addStep_0 : decode prog_11_method_4_code 0 = .ok (.aload_n 0, 1) := by decide +kernel
theorem d_Years_addStep_1 : decode prog_11_method_4_code 1 = .ok (.iload_n 1, 1) := by decide +kernel
theorem d_Years_addStep_2 : decode prog_11_method_4_code 2 = .ok (.iload_n 2, 1) := by decide +kernel
theorem d_Years_addStep_3 : decode prog_11_method_4_code 3 = .ok (.iload_n 3, 1) := by decide +kernel
theorem d_Years_addStep_4 : decode prog_11_method_4_code 4 = .ok (.invokevirtual 39, 3) := by decide +kernel
theorem d_Years_addStep_7 : decode prog_11_method_4_code 7 = .ok (.aload_n 0, 1) := by decide +kernel
theorem d_Years_addStep_8 : decode prog_11_method_4_code 8 = .ok (.dup, 1) := by decide +kernel
theorem d_Years_addStep_9 : decode prog_11_method_4_code 9 = .ok (.getfield 26, 3) := by decide +kernel
theorem d_Years_addStep_12 : decode prog_11_method_4_code 12 = .ok (.iconst 1, 1) := by decide +kernel
theorem d_Years_addStep_13 : decode prog_11_method_4_code 13 = .ok (.iadd, 1) := by decide +kernel
theorem d_Years_addStep_14 : decode prog_11_method_4_code 14 = .ok (.putfield 26, 3) := by decide +kernel
theorem d_Years_addStep_17 : decode prog_11_method_4_code 17 = .ok (.return_, 1) := by decide +kernel
theorem d_Years_copyFrom_0 : decode prog_11_method_3_code 0 = .ok (.aload_n 0, 1) := by decide +kernel
theorem d_Years_copyFrom_1 : decode prog_11_method_3_code 1 = .ok (.aload_n 1, 1) := by decide +kernel
theorem d_Years_copyFrom_2 : decode prog_11_method_3_code 2 = .ok (.getfield 22, 3) := by decide +kernel
theorem d_Years_copyFrom_5 : decode prog_11_method_3_code 5 = .ok (.putfield 22, 3) := by decide +kernel
theorem d_Years_copyFrom_8 : decode prog_11_method_3_code 8 = .ok (.aload_n 0, 1) := by decide +kernel
theorem d_Years_copyFrom_9 : decode prog_11_method_3_code 9 = .ok (.aload_n 1, 1) := by decide +kernel
theorem d_Years_copyFrom_10 : decode prog_11_method_3_code 10 = .ok (.getfield 26, 3) := by decide +kernel
theorem d_Years_copyFrom_13 : decode prog_11_method_3_code 13 = .ok (.putfield 26, 3) := by decide +kernel
theorem d_Years_copyFrom_16 : decode prog_11_method_3_code 16 = .ok (.aload_n 0, 1) := by decide +kernel
theorem d_Years_copyFrom_17 : decode prog_11_method_3_code 17 = .ok (.aload_n 1, 1) := by decide +kernel
theorem d_Years_copyFrom_18 : decode prog_11_method_3_code 18 = .ok (.getfield 30, 3) := by decide +kernel
theorem d_Years_copyFrom_21 : decode prog_11_method_3_code 21 = .ok (.putfield 30, 3) := by decide +kernel
theorem d_Years_copyFrom_24 : decode prog_11_method_3_code 24 = .ok (.aload_n 1, 1) := by decide +kernel
theorem d_Years_copyFrom_25 : decode prog_11_method_3_code 25 = .ok (.getfield 9, 3) := by decide +kernel
theorem d_Years_copyFrom_28 : decode prog_11_method_3_code 28 = .ok (.iconst 0, 1) := by decide +kernel
theorem d_Years_copyFrom_29 : decode prog_11_method_3_code 29 = .ok (.aload_n 0, 1) := by decide +kernel
theorem d_Years_copyFrom_30 : decode prog_11_method_3_code 30 = .ok (.getfield 9, 3) := by decide +kernel
theorem d_Years_copyFrom_33 : decode prog_11_method_3_code 33 = .ok (.iconst 0, 1) := by decide +kernel
theorem d_Years_copyFrom_34 : decode prog_11_method_3_code 34 = .ok (.aload_n 0, 1) := by decide +kernel
theorem d_Years_copyFrom_35 : decode prog_11_method_3_code 35 = .ok (.getfield 30, 3) := by decide +kernel
theorem d_Years_copyFrom_38 : decode prog_11_method_3_code 38 = .ok (.invokestatic 33, 3) := by decide +kernel
theorem d_Years_copyFrom_41 : decode prog_11_method_3_code 41 = .ok (.aload_n 1, 1) := by decide +kernel
theorem d_Years_copyFrom_42 : decode prog_11_method_3_code 42 = .ok (.getfield 13, 3) := by decide +kernel
theorem d_Years_copyFrom_45 : decode prog_11_method_3_code 45 = .ok (.iconst 0, 1) := by decide +kernel
theorem d_Years_copyFrom_46 : decode prog_11_method_3_code 46 = .ok (.aload_n 0, 1) := by decide +kernel
theorem d_Years_copyFrom_47 : decode prog_11_method_3_code 47 = .ok (.getfield 13, 3) := by decide +kernel
theorem d_Years_copyFrom_50 : decode prog_11_method_3_code 50 = .ok (.iconst 0, 1) := by decide +kernel
theorem d_Years_copyFrom_51 : decode prog_11_method_3_code 51 = .ok (.aload_n 0, 1) := by decide +kernel
theorem d_Years_copyFrom_52 : decode prog_11_method_3_code 52 = .ok (.getfield 30, 3) := by decide +kernel
theorem d_Years_copyFrom_55 : decode prog_11_method_3_code 55 = .ok (.invokestatic 33, 3) := by decide +kernel
theorem d_Years_copyFrom_58 : decode prog_11_method_3_code 58 = .ok (.aload_n 1, 1) := by decide +kernel
theorem d_Years_copyFrom_59 : decode prog_11_method_3_code 59 = .ok (.getfield 16, 3) := by decide +kernel
theorem d_Years_copyFrom_62 : decode prog_11_method_3_code 62 = .ok (.iconst 0, 1) := by decide +kernel
theorem d_Years_copyFrom_63 : decode prog_11_method_3_code 63 = .ok (.aload_n 0, 1) := by decide +kernel
theorem d_Years_copyFrom_64 : decode prog_11_method_3_code 64 = .ok (.getfield 16, 3) := by decide +kernel
theorem d_Years_copyFrom_67 : decode prog_11_method_3_code 67 = .ok (.iconst 0, 1) := by decide +kernel
theorem d_Years_copyFrom_68 : decode prog_11_method_3_code 68 = .ok (.aload_n 0, 1) := by decide +kernel
theorem d_Years_copyFrom_69 : decode prog_11_method_3_code 69 = .ok (.getfield 30, 3) := by decide +kernel
theorem d_Years_copyFrom_72 : decode prog_11_method_3_code 72 = .ok (.invokestatic 33, 3) := by decide +kernel
theorem d_Years_copyFrom_75 : decode prog_11_method_3_code 75 = .ok (.aload_n 1, 1) := by decide +kernel
theorem d_Years_copyFrom_76 : decode prog_11_method_3_code 76 = .ok (.getfield 19, 3) := by decide +kernel
theorem d_Years_copyFrom_79 : decode prog_11_method_3_code 79 = .ok (.iconst 0, 1) := by decide +kernel
theorem d_Years_copyFrom_80 : decode prog_11_method_3_code 80 = .ok (.aload_n 0, 1) := by decide +kernel
theorem d_Years_copyFrom_81 : decode prog_11_method_3_code 81 = .ok (.getfield 19, 3) := by decide +kernel
theorem d_Years_copyFrom_84 : decode prog_11_method_3_code 84 = .ok (.iconst 0, 1) := by decide +kernel
theorem d_Years_copyFrom_85 : decode prog_11_method_3_code 85 = .ok (.aload_n 0, 1) := by decide +kernel
theorem d_Years_copyFrom_86 : decode prog_11_method_3_code 86 = .ok (.getfield 30, 3) := by decide +kernel
theorem d_Years_copyFrom_89 : decode prog_11_method_3_code 89 = .ok (.invokestatic 33, 3) := by decide +kernel
theorem d_Years_copyFrom_92 : decode prog_11_method_3_code 92 = .ok (.return_, 1) := by decide +kernel
theorem d_Rows_distance_0 : decode prog_7_method_2_code 0 = .ok (.iconst 1, 1) := by decide +kernel
theorem d_Rows_distance_1 : decode prog_7_method_2_code 1 = .ok (.iload_n 1, 1) := by decide +kernel
theorem d_Rows_distance_2 : decode prog_7_method_2_code 2 = .ok (.ishl, 1) := by decide +kernel
theorem d_Rows_distance_3 : decode prog_7_method_2_code 3 = .ok (.istore 4, 2) := by decide +kernel
theorem d_Rows_distance_5 : decode prog_7_method_2_code 5 = .ok (.iconst 0, 1) := by decide +kernel
theorem d_Rows_distance_6 : decode prog_7_method_2_code 6 = .ok (.istore 5, 2) := by decide +kernel
theorem d_Rows_distance_8 : decode prog_7_method_2_code 8 = .ok (.iload 5, 2) := by decide +kernel
theorem d_Rows_distance_10 : decode prog_7_method_2_code 10 = .ok (.bipush 7, 2) := by decide +kernel
theorem d_Rows_distance_12 : decode prog_7_method_2_code 12 = .ok (.if_icmp .ge 34, 3) := by decide +kernel
theorem d_Rows_distance_15 : decode prog_7_method_2_code 15 = .ok (.iload 4, 2) := by decide +kernel
theorem d_Rows_distance_17 : decode prog_7_method_2_code 17 = .ok (.iload_n 2, 1) := by decide +kernel
theorem d_Rows_distance_18 : decode prog_7_method_2_code 18 = .ok (.ishr, 1) := by decide +kernel
theorem d_Rows_distance_19 : decode prog_7_method_2_code 19 = .ok (.iconst 1, 1) := by decide +kernel
theorem d_Rows_distance_20 : decode prog_7_method_2_code 20 = .ok (.iand, 1) := by decide +kernel
theorem d_Rows_distance_21 : decode prog_7_method_2_code 21 = .ok (.ifCond .eq 6, 3) := by decide +kernel
theorem d_Rows_distance_24 : decode prog_7_method_2_code 24 = .ok (.iload 5, 2) := by decide +kernel
theorem d_Rows_distance_26 : decode prog_7_method_2_code 26 = .ok (.ireturn, 1) := by decide +kernel
theorem d_Rows_distance_27 : decode prog_7_method_2_code 27 = .ok (.iload 4, 2) := by decide +kernel
theorem d_Rows_distance_29 : decode prog_7_method_2_code 29 = .ok (.aload_n 0, 1) := by decide +kernel
theorem d_Rows_distance_30 : decode prog_7_method_2_code 30 = .ok (.iload 4, 2) := by decide +kernel
theorem d_Rows_distance_32 : decode prog_7_method_2_code 32 = .ok (.invokestatic 15, 3) := by decide +kernel
theorem d_Rows_distance_35 : decode prog_7_method_2_code 35 = .ok (.iload_n 3, 1) := by decide +kernel
theorem d_Rows_distance_36 : decode prog_7_method_2_code 36 = .ok (.iand, 1) := by decide +kernel
theorem d_Rows_distance_37 : decode prog_7_method_2_code 37 = .ok (.ior, 1) := by decide +kernel
theorem d_Rows_distance_38 : decode prog_7_method_2_code 38 = .ok (.istore 4, 2) := by decide +kernel
theorem d_Rows_distance_40 : decode prog_7_method_2_code 40 = .ok (.iinc 5 1, 3) := by decide +kernel
theorem d_Rows_distance_43 : decode prog_7_method_2_code 43 = .ok (.goto (-35), 3) := by decide +kernel
theorem d_Rows_distance_46 : decode prog_7_method_2_code 46 = .ok (.iconst (-1), 1) := by decide +kernel
theorem d_Rows_distance_47 : decode prog_7_method_2_code 47 = .ok (.ireturn, 1) := by decide +kernel
theorem d_Rows_neighbours_0 : decode prog_7_method_4_code 0 = .ok (.iconst 0, 1) := by decide +kernel
theorem d_Rows_neighbours_1 : decode prog_7_method_4_code 1 = .ok (.istore_n 2, 1) := by decide +kernel
theorem d_Rows_neighbours_2 : decode prog_7_method_4_code 2 = .ok (.iconst 0, 1) := by decide +kernel
theorem d_Rows_neighbours_3 : decode prog_7_method_4_code 3 = .ok (.istore_n 3, 1) := by decide +kernel
theorem d_Rows_neighbours_4 : decode prog_7_method_4_code 4 = .ok (.iload_n 3, 1) := by decide +kernel
theorem d_Rows_neighbours_5 : decode prog_7_method_4_code 5 = .ok (.aload_n 0, 1) := by decide +kernel
theorem d_Rows_neighbours_6 : decode prog_7_method_4_code 6 = .ok (.getfield 28, 3) := by decide +kernel
theorem d_Rows_neighbours_9 : decode prog_7_method_4_code 9 = .ok (.if_icmp .ge 26, 3) := by decide +kernel
theorem d_Rows_neighbours_12 : decode prog_7_method_4_code 12 = .ok (.iload_n 1, 1) := by decide +kernel
theorem d_Rows_neighbours_13 : decode prog_7_method_4_code 13 = .ok (.iload_n 3, 1) := by decide +kernel
theorem d_Rows_neighbours_14 : decode prog_7_method_4_code 14 = .ok (.ishr, 1) := by decide +kernel
theorem d_Rows_neighbours_15 : decode prog_7_method_4_code 15 = .ok (.iconst 1, 1) := by decide +kernel
theorem d_Rows_neighbours_16 : decode prog_7_method_4_code 16 = .ok (.iand, 1) := by decide +kernel
theorem d_Rows_neighbours_17 : decode prog_7_method_4_code 17 = .ok (.ifCond .eq 12, 3) := by decide +kernel
theorem d_Rows_neighbours_20 : decode prog_7_method_4_code 20 = .ok (.iload_n 2, 1) := by decide +kernel
theorem d_Rows_neighbours_21 : decode prog_7_method_4_code 21 = .ok (.aload_n 0, 1) := by decide +kernel
theorem d_Rows_neighbours_22 : decode prog_7_method_4_code 22 = .ok (.getfield 32, 3) := by decide +kernel
theorem d_Rows_neighbours_25 : decode prog_7_method_4_code 25 = .ok (.iload_n 3, 1) := by decide +kernel
theorem d_Rows_neighbours_26 : decode prog_7_method_4_code 26 = .ok (.iaload, 1) := by decide +kernel
theorem d_Rows_neighbours_27 : decode prog_7_method_4_code 27 = .ok (.ior, 1) := by decide +kernel
theorem d_Rows_neighbours_28 : decode prog_7_method_4_code 28 = .ok (.istore_n 2, 1) := by decide +kernel
theorem d_Rows_neighbours_29 : decode prog_7_method_4_code 29 = .ok (.iinc 3 1, 3) := by decide +kernel
theorem d_Rows_neighbours_32 : decode prog_7_method_4_code 32 = .ok (.goto (-28), 3) := by decide +kernel
theorem d_Rows_neighbours_35 : decode prog_7_method_4_code 35 = .ok (.iload_n 2, 1) := by decide +kernel
theorem d_Rows_neighbours_36 : decode prog_7_method_4_code 36 = .ok (.ireturn, 1) := by decide +kernel
theorem d_Rows_onWay_0 : decode prog_7_method_5_code 0 = .ok (.aload_n 0, 1) := by decide +kernel
theorem d_Rows_onWay_1 : decode prog_7_method_5_code 1 = .ok (.iload_n 1, 1) := by decide +kernel
theorem d_Rows_onWay_2 : decode prog_7_method_5_code 2 = .ok (.invokevirtual 19, 3) := by decide +kernel
theorem d_Rows_onWay_5 : decode prog_7_method_5_code 5 = .ok (.istore 4, 2) := by decide +kernel
theorem d_Rows_onWay_7 : decode prog_7_method_5_code 7 = .ok (.aload_n 0, 1) := by decide +kernel
theorem d_Rows_onWay_8 : decode prog_7_method_5_code 8 = .ok (.getfield 25, 3) := by decide +kernel
theorem d_Rows_onWay_11 : decode prog_7_method_5_code 11 = .ok (.iload_n 1, 1) := by decide +kernel
theorem d_Rows_onWay_12 : decode prog_7_method_5_code 12 = .ok (.iaload, 1) := by decide +kernel
theorem d_Rows_onWay_13 : decode prog_7_method_5_code 13 = .ok (.istore 5, 2) := by decide +kernel
theorem d_Rows_onWay_15 : decode prog_7_method_5_code 15 = .ok (.aload_n 0, 1) := by decide +kernel
theorem d_Rows_onWay_16 : decode prog_7_method_5_code 16 = .ok (.iload 5, 2) := by decide +kernel
theorem d_Rows_onWay_18 : decode prog_7_method_5_code 18 = .ok (.iload_n 2, 1) := by decide +kernel
theorem d_Rows_onWay_19 : decode prog_7_method_5_code 19 = .ok (.iload 4, 2) := by decide +kernel
theorem d_Rows_onWay_21 : decode prog_7_method_5_code 21 = .ok (.invokestatic 35, 3) := by decide +kernel
theorem d_Rows_onWay_24 : decode prog_7_method_5_code 24 = .ok (.istore 6, 2) := by decide +kernel
theorem d_Rows_onWay_26 : decode prog_7_method_5_code 26 = .ok (.iload_n 3, 1) := by decide +kernel
theorem d_Rows_onWay_27 : decode prog_7_method_5_code 27 = .ok (.ifCond .lt 9, 3) := by decide +kernel
theorem d_Rows_onWay_30 : decode prog_7_method_5_code 30 = .ok (.iload_n 3, 1) := by decide +kernel
theorem d_Rows_onWay_31 : decode prog_7_method_5_code 31 = .ok (.iload 6, 2) := by decide +kernel
theorem d_Rows_onWay_33 : decode prog_7_method_5_code 33 = .ok (.if_icmp .le 5, 3) := by decide +kernel
theorem d_Rows_onWay_36 : decode prog_7_method_5_code 36 = .ok (.iconst (-1), 1) := by decide +kernel
theorem d_Rows_onWay_37 : decode prog_7_method_5_code 37 = .ok (.ireturn, 1) := by decide +kernel
theorem d_Rows_onWay_38 : decode prog_7_method_5_code 38 = .ok (.iconst 1, 1) := by decide +kernel
theorem d_Rows_onWay_39 : decode prog_7_method_5_code 39 = .ok (.istore 7, 2) := by decide +kernel
theorem d_Rows_onWay_41 : decode prog_7_method_5_code 41 = .ok (.iload 7, 2) := by decide +kernel
theorem d_Rows_onWay_43 : decode prog_7_method_5_code 43 = .ok (.iload_n 3, 1) := by decide +kernel
theorem d_Rows_onWay_44 : decode prog_7_method_5_code 44 = .ok (.if_icmp .gt 30, 3) := by decide +kernel
theorem d_Rows_onWay_47 : decode prog_7_method_5_code 47 = .ok (.iload 5, 2) := by decide +kernel
theorem d_Rows_onWay_49 : decode prog_7_method_5_code 49 = .ok (.ifCond .lt 25, 3) := by decide +kernel
theorem d_Rows_onWay_52 : decode prog_7_method_5_code 52 = .ok (.aload_n 0, 1) := by decide +kernel
theorem d_Rows_onWay_53 : decode prog_7_method_5_code 53 = .ok (.iload 5, 2) := by decide +kernel
theorem d_Rows_onWay_55 : decode prog_7_method_5_code 55 = .ok (.iload_n 2, 1) := by decide +kernel
theorem d_Rows_onWay_56 : decode prog_7_method_5_code 56 = .ok (.iload 4, 2) := by decide +kernel
theorem d_Rows_onWay_58 : decode prog_7_method_5_code 58 = .ok (.iload 6, 2) := by decide +kernel
theorem d_Rows_onWay_60 : decode prog_7_method_5_code 60 = .ok (.iload 7, 2) := by decide +kernel
theorem d_Rows_onWay_62 : decode prog_7_method_5_code 62 = .ok (.isub, 1) := by decide +kernel
theorem d_Rows_onWay_63 : decode prog_7_method_5_code 63 = .ok (.invokestatic 39, 3) := by decide +kernel
theorem d_Rows_onWay_66 : decode prog_7_method_5_code 66 = .ok (.istore 5, 2) := by decide +kernel
theorem d_Rows_onWay_68 : decode prog_7_method_5_code 68 = .ok (.iinc 7 1, 3) := by decide +kernel
theorem d_Rows_onWay_71 : decode prog_7_method_5_code 71 = .ok (.goto (-30), 3) := by decide +kernel
theorem d_Rows_onWay_74 : decode prog_7_method_5_code 74 = .ok (.iload 5, 2) := by decide +kernel
theorem d_Rows_onWay_76 : decode prog_7_method_5_code 76 = .ok (.ireturn, 1) := by decide +kernel
theorem d_Rows_firstAtDistance_0 : decode prog_7_method_6_code 0 = .ok (.iconst 0, 1) := by decide +kernel
theorem d_Rows_firstAtDistance_1 : decode prog_7_method_6_code 1 = .ok (.istore 5, 2) := by decide +kernel
theorem d_Rows_firstAtDistance_3 : decode prog_7_method_6_code 3 = .ok (.iload 5, 2) := by decide +kernel
theorem d_Rows_firstAtDistance_5 : decode prog_7_method_6_code 5 = .ok (.aload_n 0, 1) := by decide +kernel
theorem d_Rows_firstAtDistance_6 : decode prog_7_method_6_code 6 = .ok (.getfield 28, 3) := by decide +kernel
theorem d_Rows_firstAtDistance_9 : decode prog_7_method_6_code 9 = .ok (.if_icmp .ge 53, 3) := by decide +kernel
theorem d_Rows_firstAtDistance_12 : decode prog_7_method_6_code 12 = .ok (.aload_n 0, 1) := by decide +kernel
theorem d_Rows_firstAtDistance_13 : decode prog_7_method_6_code 13 = .ok (.getfield 32, 3) := by decide +kernel
theorem d_Rows_firstAtDistance_16 : decode prog_7_method_6_code 16 = .ok (.iload_n 1, 1) := by decide +kernel
theorem d_Rows_firstAtDistance_17 : decode prog_7_method_6_code 17 = .ok (.iaload, 1) := by decide +kernel
theorem d_Rows_firstAtDistance_18 : decode prog_7_method_6_code 18 = .ok (.iload_n 3, 1) := by decide +kernel
theorem d_Rows_firstAtDistance_19 : decode prog_7_method_6_code 19 = .ok (.iand, 1) := by decide +kernel
theorem d_Rows_firstAtDistance_20 : decode prog_7_method_6_code 20 = .ok (.iload 5, 2) := by decide +kernel
theorem d_Rows_firstAtDistance_22 : decode prog_7_method_6_code 22 = .ok (.ishr, 1) := by decide +kernel
theorem d_Rows_firstAtDistance_23 : decode prog_7_method_6_code 23 = .ok (.iconst 1, 1) := by decide +kernel
theorem d_Rows_firstAtDistance_24 : decode prog_7_method_6_code 24 = .ok (.iand, 1) := by decide +kernel
theorem d_Rows_firstAtDistance_25 : decode prog_7_method_6_code 25 = .ok (.ifCond .eq 7, 3) := by decide +kernel
theorem d_Rows_firstAtDistance_28 : decode prog_7_method_6_code 28 = .ok (.iconst 1, 1) := by decide +kernel
theorem d_Rows_firstAtDistance_29 : decode prog_7_method_6_code 29 = .ok (.goto 4, 3) := by decide +kernel
theorem d_Rows_firstAtDistance_32 : decode prog_7_method_6_code 32 = .ok (.iconst 0, 1) := by decide +kernel
theorem d_Rows_firstAtDistance_33 : decode prog_7_method_6_code 33 = .ok (.istore 6, 2) := by decide +kernel
theorem d_Rows_firstAtDistance_35 : decode prog_7_method_6_code 35 = .ok (.iload 6, 2) := by decide +kernel
theorem d_Rows_firstAtDistance_37 : decode prog_7_method_6_code 37 = .ok (.ifCond .eq 19, 3) := by decide +kernel
theorem d_Rows_firstAtDistance_40 : decode prog_7_method_6_code 40 = .ok (.aload_n 0, 1) := by decide +kernel
theorem d_Rows_firstAtDistance_41 : decode prog_7_method_6_code 41 = .ok (.iload 5, 2) := by decide +kernel
theorem d_Rows_firstAtDistance_43 : decode prog_7_method_6_code 43 = .ok (.iload_n 2, 1) := by decide +kernel
theorem d_Rows_firstAtDistance_44 : decode prog_7_method_6_code 44 = .ok (.iload_n 3, 1) := by decide +kernel
theorem d_Rows_firstAtDistance_45 : decode prog_7_method_6_code 45 = .ok (.invokestatic 35, 3) := by decide +kernel
theorem d_Rows_firstAtDistance_48 : decode prog_7_method_6_code 48 = .ok (.iload 4, 2) := by decide +kernel
theorem d_Rows_firstAtDistance_50 : decode prog_7_method_6_code 50 = .ok (.if_icmp .ne 6, 3) := by decide +kernel
theorem d_Rows_firstAtDistance_53 : decode prog_7_method_6_code 53 = .ok (.iload 5, 2) := by decide +kernel
theorem d_Rows_firstAtDistance_55 : decode prog_7_method_6_code 55 = .ok (.ireturn, 1) := by decide +kernel
theorem d_Rows_firstAtDistance_56 : decode prog_7_method_6_code 56 = .ok (.iinc 5 1, 3) := by decide +kernel
theorem d_Rows_firstAtDistance_59 : decode prog_7_method_6_code 59 = .ok (.goto (-56), 3) := by decide +kernel
theorem d_Rows_firstAtDistance_62 : decode prog_7_method_6_code 62 = .ok (.iconst (-1), 1) := by decide +kernel
theorem d_Rows_firstAtDistance_63 : decode prog_7_method_6_code 63 = .ok (.ireturn, 1) := by decide +kernel
theorem d_Rows_reached_0 : decode prog_7_method_3_code 0 = .ok (.aload_n 0, 1) := by decide +kernel
theorem d_Rows_reached_1 : decode prog_7_method_3_code 1 = .ok (.iload_n 1, 1) := by decide +kernel
theorem d_Rows_reached_2 : decode prog_7_method_3_code 2 = .ok (.invokevirtual 19, 3) := by decide +kernel
theorem d_Rows_reached_5 : decode prog_7_method_3_code 5 = .ok (.istore_n 2, 1) := by decide +kernel
theorem d_Rows_reached_6 : decode prog_7_method_3_code 6 = .ok (.iconst 1, 1) := by decide +kernel
theorem d_Rows_reached_7 : decode prog_7_method_3_code 7 = .ok (.aload_n 0, 1) := by decide +kernel
theorem d_Rows_reached_8 : decode prog_7_method_3_code 8 = .ok (.getfield 25, 3) := by decide +kernel
theorem d_Rows_reached_11 : decode prog_7_method_3_code 11 = .ok (.iload_n 1, 1) := by decide +kernel
theorem d_Rows_reached_12 : decode prog_7_method_3_code 12 = .ok (.iaload, 1) := by decide +kernel
theorem d_Rows_reached_13 : decode prog_7_method_3_code 13 = .ok (.ishl, 1) := by decide +kernel
theorem d_Rows_reached_14 : decode prog_7_method_3_code 14 = .ok (.istore_n 3, 1) := by decide +kernel
theorem d_Rows_reached_15 : decode prog_7_method_3_code 15 = .ok (.iconst 0, 1) := by decide +kernel
theorem d_Rows_reached_16 : decode prog_7_method_3_code 16 = .ok (.istore 4, 2) := by decide +kernel
theorem d_Rows_reached_18 : decode prog_7_method_3_code 18 = .ok (.iload 4, 2) := by decide +kernel
theorem d_Rows_reached_20 : decode prog_7_method_3_code 20 = .ok (.bipush 7, 2) := by decide +kernel
theorem d_Rows_reached_22 : decode prog_7_method_3_code 22 = .ok (.if_icmp .ge 19, 3) := by decide +kernel
theorem d_Rows_reached_25 : decode prog_7_method_3_code 25 = .ok (.iload_n 3, 1) := by decide +kernel
theorem d_Rows_reached_26 : decode prog_7_method_3_code 26 = .ok (.aload_n 0, 1) := by decide +kernel
theorem d_Rows_reached_27 : decode prog_7_method_3_code 27 = .ok (.iload_n 3, 1) := by decide +kernel
theorem d_Rows_reached_28 : decode prog_7_method_3_code 28 = .ok (.invokestatic 15, 3) := by decide +kernel
theorem d_Rows_reached_31 : decode prog_7_method_3_code 31 = .ok (.iload_n 2, 1) := by decide +kernel
theorem d_Rows_reached_32 : decode prog_7_method_3_code 32 = .ok (.iand, 1) := by decide +kernel
theorem d_Rows_reached_33 : decode prog_7_method_3_code 33 = .ok (.ior, 1) := by decide +kernel
theorem d_Rows_reached_34 : decode prog_7_method_3_code 34 = .ok (.istore_n 3, 1) := by decide +kernel
theorem d_Rows_reached_35 : decode prog_7_method_3_code 35 = .ok (.iinc 4 1, 3) := by decide +kernel
theorem d_Rows_reached_38 : decode prog_7_method_3_code 38 = .ok (.goto (-20), 3) := by decide +kernel
theorem d_Rows_reached_41 : decode prog_7_method_3_code 41 = .ok (.iload_n 3, 1) := by decide +kernel
theorem d_Rows_reached_42 : decode prog_7_method_3_code 42 = .ok (.ireturn, 1) := by decide +kernel
theorem d_Rows_mostOnRound_0 : decode prog_7_method_7_code 0 = .ok (.aload_n 0, 1) := by decide +kernel
theorem d_Rows_mostOnRound_1 : decode prog_7_method_7_code 1 = .ok (.getfield 25, 3) := by decide +kernel
theorem d_Rows_mostOnRound_4 : decode prog_7_method_7_code 4 = .ok (.iload_n 1, 1) := by decide +kernel
theorem d_Rows_mostOnRound_5 : decode prog_7_method_7_code 5 = .ok (.iaload, 1) := by decide +kernel
theorem d_Rows_mostOnRound_6 : decode prog_7_method_7_code 6 = .ok (.istore_n 2, 1) := by decide +kernel
theorem d_Rows_mostOnRound_7 : decode prog_7_method_7_code 7 = .ok (.aload_n 0, 1) := by decide +kernel
theorem d_Rows_mostOnRound_8 : decode prog_7_method_7_code 8 = .ok (.iload_n 2, 1) := by decide +kernel
theorem d_Rows_mostOnRound_9 : decode prog_7_method_7_code 9 = .ok (.iconst 1, 1) := by decide +kernel
theorem d_Rows_mostOnRound_10 : decode prog_7_method_7_code 10 = .ok (.iload_n 2, 1) := by decide +kernel
theorem d_Rows_mostOnRound_11 : decode prog_7_method_7_code 11 = .ok (.ishl, 1) := by decide +kernel
theorem d_Rows_mostOnRound_12 : decode prog_7_method_7_code 12 = .ok (.aload_n 0, 1) := by decide +kernel
theorem d_Rows_mostOnRound_13 : decode prog_7_method_7_code 13 = .ok (.iload_n 1, 1) := by decide +kernel
theorem d_Rows_mostOnRound_14 : decode prog_7_method_7_code 14 = .ok (.invokevirtual 19, 3) := by decide +kernel
theorem d_Rows_mostOnRound_17 : decode prog_7_method_7_code 17 = .ok (.invokestatic 43, 3) := by decide +kernel
theorem d_Rows_mostOnRound_20 : decode prog_7_method_7_code 20 = .ok (.ireturn, 1) := by decide +kernel
theorem d_Rows_longest_0 : decode prog_7_method_8_code 0 = .ok (.iload_n 2, 1) := by decide +kernel
theorem d_Rows_longest_1 : decode prog_7_method_8_code 1 = .ok (.invokestatic 46, 3) := by decide +kernel
theorem d_Rows_longest_4 : decode prog_7_method_8_code 4 = .ok (.aload_n 0, 1) := by decide +kernel
theorem d_Rows_longest_5 : decode prog_7_method_8_code 5 = .ok (.getfield 28, 3) := by decide +kernel
theorem d_Rows_longest_8 : decode prog_7_method_8_code 8 = .ok (.if_icmp .lt 5, 3) := by decide +kernel
theorem d_Rows_longest_11 : decode prog_7_method_8_code 11 = .ok (.iconst 1, 1) := by decide +kernel
theorem d_Rows_longest_12 : decode prog_7_method_8_code 12 = .ok (.ireturn, 1) := by decide +kernel
theorem d_Rows_longest_13 : decode prog_7_method_8_code 13 = .ok (.iconst 0, 1) := by decide +kernel
theorem d_Rows_longest_14 : decode prog_7_method_8_code 14 = .ok (.istore 4, 2) := by decide +kernel
theorem d_Rows_longest_16 : decode prog_7_method_8_code 16 = .ok (.aload_n 0, 1) := by decide +kernel
theorem d_Rows_longest_17 : decode prog_7_method_8_code 17 = .ok (.getfield 32, 3) := by decide +kernel
theorem d_Rows_longest_20 : decode prog_7_method_8_code 20 = .ok (.iload_n 1, 1) := by decide +kernel
theorem d_Rows_longest_21 : decode prog_7_method_8_code 21 = .ok (.iaload, 1) := by decide +kernel
theorem d_Rows_longest_22 : decode prog_7_method_8_code 22 = .ok (.iload_n 3, 1) := by decide +kernel
theorem d_Rows_longest_23 : decode prog_7_method_8_code 23 = .ok (.iand, 1) := by decide +kernel
theorem d_Rows_longest_24 : decode prog_7_method_8_code 24 = .ok (.iload_n 2, 1) := by decide +kernel
theorem d_Rows_longest_25 : decode prog_7_method_8_code 25 = .ok (.iconst (-1), 1) := by decide +kernel
theorem d_Rows_longest_26 : decode prog_7_method_8_code 26 = .ok (.ixor, 1) := by decide +kernel
theorem d_Rows_longest_27 : decode prog_7_method_8_code 27 = .ok (.iand, 1) := by decide +kernel
theorem d_Rows_longest_28 : decode prog_7_method_8_code 28 = .ok (.istore 5, 2) := by decide +kernel
theorem d_Rows_longest_30 : decode prog_7_method_8_code 30 = .ok (.iconst 0, 1) := by decide +kernel
theorem d_Rows_longest_31 : decode prog_7_method_8_code 31 = .ok (.istore 6, 2) := by decide +kernel
theorem d_Rows_longest_33 : decode prog_7_method_8_code 33 = .ok (.iload 6, 2) := by decide +kernel
theorem d_Rows_longest_35 : decode prog_7_method_8_code 35 = .ok (.aload_n 0, 1) := by decide +kernel
theorem d_Rows_longest_36 : decode prog_7_method_8_code 36 = .ok (.getfield 28, 3) := by decide +kernel
theorem d_Rows_longest_39 : decode prog_7_method_8_code 39 = .ok (.if_icmp .ge 39, 3) := by decide +kernel
theorem d_Rows_longest_42 : decode prog_7_method_8_code 42 = .ok (.iload 5, 2) := by decide +kernel
theorem d_Rows_longest_44 : decode prog_7_method_8_code 44 = .ok (.iload 6, 2) := by decide +kernel
theorem d_Rows_longest_46 : decode prog_7_method_8_code 46 = .ok (.ishr, 1) := by decide +kernel
theorem d_Rows_longest_47 : decode prog_7_method_8_code 47 = .ok (.iconst 1, 1) := by decide +kernel
theorem d_Rows_longest_48 : decode prog_7_method_8_code 48 = .ok (.iand, 1) := by decide +kernel
theorem d_Rows_longest_49 : decode prog_7_method_8_code 49 = .ok (.ifCond .eq 23, 3) := by decide +kernel
theorem d_Rows_longest_52 : decode prog_7_method_8_code 52 = .ok (.iload 4, 2) := by decide +kernel
theorem d_Rows_longest_54 : decode prog_7_method_8_code 54 = .ok (.aload_n 0, 1) := by decide +kernel
theorem d_Rows_longest_55 : decode prog_7_method_8_code 55 = .ok (.iload 6, 2) := by decide +kernel
theorem d_Rows_longest_57 : decode prog_7_method_8_code 57 = .ok (.iload_n 2, 1) := by decide +kernel
theorem d_Rows_longest_58 : decode prog_7_method_8_code 58 = .ok (.iconst 1, 1) := by decide +kernel
theorem d_Rows_longest_59 : decode prog_7_method_8_code 59 = .ok (.iload 6, 2) := by decide +kernel
theorem d_Rows_longest_61 : decode prog_7_method_8_code 61 = .ok (.ishl, 1) := by decide +kernel
theorem d_Rows_longest_62 : decode prog_7_method_8_code 62 = .ok (.ior, 1) := by decide +kernel
theorem d_Rows_longest_63 : decode prog_7_method_8_code 63 = .ok (.iload_n 3, 1) := by decide +kernel
theorem d_Rows_longest_64 : decode prog_7_method_8_code 64 = .ok (.invokestatic 43, 3) := by decide +kernel
theorem d_Rows_longest_67 : decode prog_7_method_8_code 67 = .ok (.invokestatic 51, 3) := by decide +kernel
theorem d_Rows_longest_70 : decode prog_7_method_8_code 70 = .ok (.istore 4, 2) := by decide +kernel
theorem d_Rows_longest_72 : decode prog_7_method_8_code 72 = .ok (.iinc 6 1, 3) := by decide +kernel
theorem d_Rows_longest_75 : decode prog_7_method_8_code 75 = .ok (.goto (-42), 3) := by decide +kernel
theorem d_Rows_longest_78 : decode prog_7_method_8_code 78 = .ok (.iload 4, 2) := by decide +kernel
theorem d_Rows_longest_80 : decode prog_7_method_8_code 80 = .ok (.iconst 1, 1) := by decide +kernel
theorem d_Rows_longest_81 : decode prog_7_method_8_code 81 = .ok (.iadd, 1) := by decide +kernel
theorem d_Rows_longest_82 : decode prog_7_method_8_code 82 = .ok (.ireturn, 1) := by decide +kernel
theorem d_Rows_onRound_0 : decode prog_7_method_9_code 0 = .ok (.aload_n 0, 1) := by decide +kernel
theorem d_Rows_onRound_1 : decode prog_7_method_9_code 1 = .ok (.iload_n 1, 1) := by decide +kernel
theorem d_Rows_onRound_2 : decode prog_7_method_9_code 2 = .ok (.invokevirtual 19, 3) := by decide +kernel
theorem d_Rows_onRound_5 : decode prog_7_method_9_code 5 = .ok (.istore_n 3, 1) := by decide +kernel
theorem d_Rows_onRound_6 : decode prog_7_method_9_code 6 = .ok (.aload_n 0, 1) := by decide +kernel
theorem d_Rows_onRound_7 : decode prog_7_method_9_code 7 = .ok (.getfield 25, 3) := by decide +kernel
theorem d_Rows_onRound_10 : decode prog_7_method_9_code 10 = .ok (.iload_n 1, 1) := by decide +kernel
theorem d_Rows_onRound_11 : decode prog_7_method_9_code 11 = .ok (.iaload, 1) := by decide +kernel
theorem d_Rows_onRound_12 : decode prog_7_method_9_code 12 = .ok (.istore 4, 2) := by decide +kernel
theorem d_Rows_onRound_14 : decode prog_7_method_9_code 14 = .ok (.iconst 1, 1) := by decide +kernel
theorem d_Rows_onRound_15 : decode prog_7_method_9_code 15 = .ok (.iload 4, 2) := by decide +kernel
theorem d_Rows_onRound_17 : decode prog_7_method_9_code 17 = .ok (.ishl, 1) := by decide +kernel
theorem d_Rows_onRound_18 : decode prog_7_method_9_code 18 = .ok (.istore 5, 2) := by decide +kernel
theorem d_Rows_onRound_20 : decode prog_7_method_9_code 20 = .ok (.aload_n 0, 1) := by decide +kernel
theorem d_Rows_onRound_21 : decode prog_7_method_9_code 21 = .ok (.iload 4, 2) := by decide +kernel
theorem d_Rows_onRound_23 : decode prog_7_method_9_code 23 = .ok (.iload 5, 2) := by decide +kernel
theorem d_Rows_onRound_25 : decode prog_7_method_9_code 25 = .ok (.iload_n 3, 1) := by decide +kernel
theorem d_Rows_onRound_26 : decode prog_7_method_9_code 26 = .ok (.invokestatic 43, 3) := by decide +kernel
theorem d_Rows_onRound_29 : decode prog_7_method_9_code 29 = .ok (.istore 6, 2) := by decide +kernel
theorem d_Rows_onRound_31 : decode prog_7_method_9_code 31 = .ok (.iload_n 2, 1) := by decide +kernel
theorem d_Rows_onRound_32 : decode prog_7_method_9_code 32 = .ok (.ifCond .lt 9, 3) := by decide +kernel
theorem d_Rows_onRound_35 : decode prog_7_method_9_code 35 = .ok (.iload_n 2, 1) := by decide +kernel
theorem d_Rows_onRound_36 : decode prog_7_method_9_code 36 = .ok (.iload 6, 2) := by decide +kernel
theorem d_Rows_onRound_38 : decode prog_7_method_9_code 38 = .ok (.if_icmp .lt 5, 3) := by decide +kernel
theorem d_Rows_onRound_41 : decode prog_7_method_9_code 41 = .ok (.iconst (-1), 1) := by decide +kernel
theorem d_Rows_onRound_42 : decode prog_7_method_9_code 42 = .ok (.ireturn, 1) := by decide +kernel
theorem d_Rows_onRound_43 : decode prog_7_method_9_code 43 = .ok (.iconst 1, 1) := by decide +kernel
theorem d_Rows_onRound_44 : decode prog_7_method_9_code 44 = .ok (.istore 7, 2) := by decide +kernel
theorem d_Rows_onRound_46 : decode prog_7_method_9_code 46 = .ok (.iload 7, 2) := by decide +kernel
theorem d_Rows_onRound_48 : decode prog_7_method_9_code 48 = .ok (.iload_n 2, 1) := by decide +kernel
theorem d_Rows_onRound_49 : decode prog_7_method_9_code 49 = .ok (.if_icmp .gt 48, 3) := by decide +kernel
theorem d_Rows_onRound_52 : decode prog_7_method_9_code 52 = .ok (.iload 4, 2) := by decide +kernel
theorem d_Rows_onRound_54 : decode prog_7_method_9_code 54 = .ok (.ifCond .lt 43, 3) := by decide +kernel
theorem d_Rows_onRound_57 : decode prog_7_method_9_code 57 = .ok (.aload_n 0, 1) := by decide +kernel
theorem d_Rows_onRound_58 : decode prog_7_method_9_code 58 = .ok (.iload 4, 2) := by decide +kernel
theorem d_Rows_onRound_60 : decode prog_7_method_9_code 60 = .ok (.iload 5, 2) := by decide +kernel
theorem d_Rows_onRound_62 : decode prog_7_method_9_code 62 = .ok (.iload_n 3, 1) := by decide +kernel
theorem d_Rows_onRound_63 : decode prog_7_method_9_code 63 = .ok (.iload 6, 2) := by decide +kernel
theorem d_Rows_onRound_65 : decode prog_7_method_9_code 65 = .ok (.iload 7, 2) := by decide +kernel
theorem d_Rows_onRound_67 : decode prog_7_method_9_code 67 = .ok (.isub, 1) := by decide +kernel
theorem d_Rows_onRound_68 : decode prog_7_method_9_code 68 = .ok (.invokestatic 57, 3) := by decide +kernel
theorem d_Rows_onRound_71 : decode prog_7_method_9_code 71 = .ok (.istore 4, 2) := by decide +kernel
theorem d_Rows_onRound_73 : decode prog_7_method_9_code 73 = .ok (.iload 5, 2) := by decide +kernel
theorem d_Rows_onRound_75 : decode prog_7_method_9_code 75 = .ok (.iload 4, 2) := by decide +kernel
theorem d_Rows_onRound_77 : decode prog_7_method_9_code 77 = .ok (.ifCond .ge 7, 3) := by decide +kernel
theorem d_Rows_onRound_80 : decode prog_7_method_9_code 80 = .ok (.iconst 0, 1) := by decide +kernel
theorem d_Rows_onRound_81 : decode prog_7_method_9_code 81 = .ok (.goto 7, 3) := by decide +kernel
theorem d_Rows_onRound_84 : decode prog_7_method_9_code 84 = .ok (.iconst 1, 1) := by decide +kernel
theorem d_Rows_onRound_85 : decode prog_7_method_9_code 85 = .ok (.iload 4, 2) := by decide +kernel
theorem d_Rows_onRound_87 : decode prog_7_method_9_code 87 = .ok (.ishl, 1) := by decide +kernel
theorem d_Rows_onRound_88 : decode prog_7_method_9_code 88 = .ok (.ior, 1) := by decide +kernel
theorem d_Rows_onRound_89 : decode prog_7_method_9_code 89 = .ok (.istore 5, 2) := by decide +kernel
theorem d_Rows_onRound_91 : decode prog_7_method_9_code 91 = .ok (.iinc 7 1, 3) := by decide +kernel
theorem d_Rows_onRound_94 : decode prog_7_method_9_code 94 = .ok (.goto (-48), 3) := by decide +kernel
theorem d_Rows_onRound_97 : decode prog_7_method_9_code 97 = .ok (.iload 4, 2) := by decide +kernel
theorem d_Rows_onRound_99 : decode prog_7_method_9_code 99 = .ok (.ireturn, 1) := by decide +kernel
theorem d_Rows_firstWithRow_0 : decode prog_7_method_10_code 0 = .ok (.aload_n 0, 1) := by decide +kernel
theorem d_Rows_firstWithRow_1 : decode prog_7_method_10_code 1 = .ok (.getfield 32, 3) := by decide +kernel
theorem d_Rows_firstWithRow_4 : decode prog_7_method_10_code 4 = .ok (.iload_n 1, 1) := by decide +kernel
theorem d_Rows_firstWithRow_5 : decode prog_7_method_10_code 5 = .ok (.iaload, 1) := by decide +kernel
theorem d_Rows_firstWithRow_6 : decode prog_7_method_10_code 6 = .ok (.iload_n 3, 1) := by decide +kernel
theorem d_Rows_firstWithRow_7 : decode prog_7_method_10_code 7 = .ok (.iand, 1) := by decide +kernel
theorem d_Rows_firstWithRow_8 : decode prog_7_method_10_code 8 = .ok (.iload_n 2, 1) := by decide +kernel
theorem d_Rows_firstWithRow_9 : decode prog_7_method_10_code 9 = .ok (.iconst (-1), 1) := by decide +kernel
theorem d_Rows_firstWithRow_10 : decode prog_7_method_10_code 10 = .ok (.ixor, 1) := by decide +kernel
theorem d_Rows_firstWithRow_11 : decode prog_7_method_10_code 11 = .ok (.iand, 1) := by decide +kernel
theorem d_Rows_firstWithRow_12 : decode prog_7_method_10_code 12 = .ok (.istore 5, 2) := by decide +kernel
theorem d_Rows_firstWithRow_14 : decode prog_7_method_10_code 14 = .ok (.iconst 0, 1) := by decide +kernel
theorem d_Rows_firstWithRow_15 : decode prog_7_method_10_code 15 = .ok (.istore 6, 2) := by decide +kernel
theorem d_Rows_firstWithRow_17 : decode prog_7_method_10_code 17 = .ok (.iload 6, 2) := by decide +kernel
theorem d_Rows_firstWithRow_19 : decode prog_7_method_10_code 19 = .ok (.aload_n 0, 1) := by decide +kernel
theorem d_Rows_firstWithRow_20 : decode prog_7_method_10_code 20 = .ok (.getfield 28, 3) := by decide +kernel
theorem d_Rows_firstWithRow_23 : decode prog_7_method_10_code 23 = .ok (.if_icmp .ge 40, 3) := by decide +kernel
theorem d_Rows_firstWithRow_26 : decode prog_7_method_10_code 26 = .ok (.iload 5, 2) := by decide +kernel
theorem d_Rows_firstWithRow_28 : decode prog_7_method_10_code 28 = .ok (.iload 6, 2) := by decide +kernel
theorem d_Rows_firstWithRow_30 : decode prog_7_method_10_code 30 = .ok (.ishr, 1) := by decide +kernel
theorem d_Rows_firstWithRow_31 : decode prog_7_method_10_code 31 = .ok (.iconst 1, 1) := by decide +kernel
theorem d_Rows_firstWithRow_32 : decode prog_7_method_10_code 32 = .ok (.iand, 1) := by decide +kernel
theorem d_Rows_firstWithRow_33 : decode prog_7_method_10_code 33 = .ok (.ifCond .eq 24, 3) := by decide +kernel
theorem d_Rows_firstWithRow_36 : decode prog_7_method_10_code 36 = .ok (.aload_n 0, 1) := by decide +kernel
theorem d_Rows_firstWithRow_37 : decode prog_7_method_10_code 37 = .ok (.iload 6, 2) := by decide +kernel
theorem d_Rows_firstWithRow_39 : decode prog_7_method_10_code 39 = .ok (.iload_n 2, 1) := by decide +kernel
theorem d_Rows_firstWithRow_40 : decode prog_7_method_10_code 40 = .ok (.iconst 1, 1) := by decide +kernel
theorem d_Rows_firstWithRow_41 : decode prog_7_method_10_code 41 = .ok (.iload 6, 2) := by decide +kernel
theorem d_Rows_firstWithRow_43 : decode prog_7_method_10_code 43 = .ok (.ishl, 1) := by decide +kernel
theorem d_Rows_firstWithRow_44 : decode prog_7_method_10_code 44 = .ok (.ior, 1) := by decide +kernel
theorem d_Rows_firstWithRow_45 : decode prog_7_method_10_code 45 = .ok (.iload_n 3, 1) := by decide +kernel
theorem d_Rows_firstWithRow_46 : decode prog_7_method_10_code 46 = .ok (.invokestatic 43, 3) := by decide +kernel
theorem d_Rows_firstWithRow_49 : decode prog_7_method_10_code 49 = .ok (.iload 4, 2) := by decide +kernel
theorem d_Rows_firstWithRow_51 : decode prog_7_method_10_code 51 = .ok (.if_icmp .ne 6, 3) := by decide +kernel
theorem d_Rows_firstWithRow_54 : decode prog_7_method_10_code 54 = .ok (.iload 6, 2) := by decide +kernel
theorem d_Rows_firstWithRow_56 : decode prog_7_method_10_code 56 = .ok (.ireturn, 1) := by decide +kernel
theorem d_Rows_firstWithRow_57 : decode prog_7_method_10_code 57 = .ok (.iinc 6 1, 3) := by decide +kernel
theorem d_Rows_firstWithRow_60 : decode prog_7_method_10_code 60 = .ok (.goto (-43), 3) := by decide +kernel
theorem d_Rows_firstWithRow_63 : decode prog_7_method_10_code 63 = .ok (.iconst (-1), 1) := by decide +kernel
theorem d_Rows_firstWithRow_64 : decode prog_7_method_10_code 64 = .ok (.ireturn, 1) := by decide +kernel
theorem d_Rows_countWheels_0 : decode prog_7_method_11_code 0 = .ok (.aload_n 0, 1) := by decide +kernel
theorem d_Rows_countWheels_1 : decode prog_7_method_11_code 1 = .ok (.getfield 9, 3) := by decide +kernel
theorem d_Rows_countWheels_4 : decode prog_7_method_11_code 4 = .ok (.iconst 0, 1) := by decide +kernel
theorem d_Rows_countWheels_5 : decode prog_7_method_11_code 5 = .ok (.invokestatic 60, 3) := by decide +kernel
theorem d_Rows_countWheels_8 : decode prog_7_method_11_code 8 = .ok (.iconst 0, 1) := by decide +kernel
theorem d_Rows_countWheels_9 : decode prog_7_method_11_code 9 = .ok (.istore_n 3, 1) := by decide +kernel
theorem d_Rows_countWheels_10 : decode prog_7_method_11_code 10 = .ok (.iload_n 3, 1) := by decide +kernel
theorem d_Rows_countWheels_11 : decode prog_7_method_11_code 11 = .ok (.aload_n 1, 1) := by decide +kernel
theorem d_Rows_countWheels_12 : decode prog_7_method_11_code 12 = .ok (.getfield 66, 3) := by decide +kernel
theorem d_Rows_countWheels_15 : decode prog_7_method_11_code 15 = .ok (.if_icmp .ge 36, 3) := by decide +kernel
theorem d_Rows_countWheels_18 : decode prog_7_method_11_code 18 = .ok (.aload_n 1, 1) := by decide +kernel
theorem d_Rows_countWheels_19 : decode prog_7_method_11_code 19 = .ok (.iload_n 3, 1) := by decide +kernel
theorem d_Rows_countWheels_20 : decode prog_7_method_11_code 20 = .ok (.invokevirtual 69, 3) := by decide +kernel
theorem d_Rows_countWheels_23 : decode prog_7_method_11_code 23 = .ok (.ifCond .ne 22, 3) := by decide +kernel
theorem d_Rows_countWheels_26 : decode prog_7_method_11_code 26 = .ok (.aload_n 0, 1) := by decide +kernel
theorem d_Rows_countWheels_27 : decode prog_7_method_11_code 27 = .ok (.getfield 9, 3) := by decide +kernel
theorem d_Rows_countWheels_30 : decode prog_7_method_11_code 30 = .ok (.aload_n 1, 1) := by decide +kernel
theorem d_Rows_countWheels_31 : decode prog_7_method_11_code 31 = .ok (.getfield 25, 3) := by decide +kernel
theorem d_Rows_countWheels_34 : decode prog_7_method_11_code 34 = .ok (.iload_n 3, 1) := by decide +kernel
theorem d_Rows_countWheels_35 : decode prog_7_method_11_code 35 = .ok (.iaload, 1) := by decide +kernel
theorem d_Rows_countWheels_36 : decode prog_7_method_11_code 36 = .ok (.dup2, 1) := by decide +kernel
theorem d_Rows_countWheels_37 : decode prog_7_method_11_code 37 = .ok (.iaload, 1) := by decide +kernel
theorem d_Rows_countWheels_38 : decode prog_7_method_11_code 38 = .ok (.aload_n 1, 1) := by decide +kernel
theorem d_Rows_countWheels_39 : decode prog_7_method_11_code 39 = .ok (.iload_n 3, 1) := by decide +kernel
theorem d_Rows_countWheels_40 : decode prog_7_method_11_code 40 = .ok (.invokevirtual 73, 3) := by decide +kernel
theorem d_Rows_countWheels_43 : decode prog_7_method_11_code 43 = .ok (.ior, 1) := by decide +kernel
theorem d_Rows_countWheels_44 : decode prog_7_method_11_code 44 = .ok (.iastore, 1) := by decide +kernel
theorem d_Rows_countWheels_45 : decode prog_7_method_11_code 45 = .ok (.iinc 3 1, 3) := by decide +kernel
theorem d_Rows_countWheels_48 : decode prog_7_method_11_code 48 = .ok (.goto (-38), 3) := by decide +kernel
theorem d_Rows_countWheels_51 : decode prog_7_method_11_code 51 = .ok (.iconst 0, 1) := by decide +kernel
theorem d_Rows_countWheels_52 : decode prog_7_method_11_code 52 = .ok (.istore_n 3, 1) := by decide +kernel
theorem d_Rows_countWheels_53 : decode prog_7_method_11_code 53 = .ok (.iconst 0, 1) := by decide +kernel
theorem d_Rows_countWheels_54 : decode prog_7_method_11_code 54 = .ok (.istore 4, 2) := by decide +kernel
theorem d_Rows_countWheels_56 : decode prog_7_method_11_code 56 = .ok (.iload 4, 2) := by decide +kernel
theorem d_Rows_countWheels_58 : decode prog_7_method_11_code 58 = .ok (.aload_n 1, 1) := by decide +kernel
theorem d_Rows_countWheels_59 : decode prog_7_method_11_code 59 = .ok (.getfield 28, 3) := by decide +kernel
theorem d_Rows_countWheels_62 : decode prog_7_method_11_code 62 = .ok (.if_icmp .ge 32, 3) := by decide +kernel
theorem d_Rows_countWheels_65 : decode prog_7_method_11_code 65 = .ok (.iload_n 3, 1) := by decide +kernel
theorem d_Rows_countWheels_66 : decode prog_7_method_11_code 66 = .ok (.aload_n 0, 1) := by decide +kernel
theorem d_Rows_countWheels_67 : decode prog_7_method_11_code 67 = .ok (.getfield 9, 3) := by decide +kernel
theorem d_Rows_countWheels_70 : decode prog_7_method_11_code 70 = .ok (.iload 4, 2) := by decide +kernel
theorem d_Rows_countWheels_72 : decode prog_7_method_11_code 72 = .ok (.iload 4, 2) := by decide +kernel
theorem d_Rows_countWheels_74 : decode prog_7_method_11_code 74 = .ok (.iconst 2, 1) := by decide +kernel
theorem d_Rows_countWheels_75 : decode prog_7_method_11_code 75 = .ok (.iload 4, 2) := by decide +kernel
theorem d_Rows_countWheels_77 : decode prog_7_method_11_code 77 = .ok (.ishl, 1) := by decide +kernel
theorem d_Rows_countWheels_78 : decode prog_7_method_11_code 78 = .ok (.iconst 1, 1) := by decide +kernel
theorem d_Rows_countWheels_79 : decode prog_7_method_11_code 79 = .ok (.isub, 1) := by decide +kernel
theorem d_Rows_countWheels_80 : decode prog_7_method_11_code 80 = .ok (.iload_n 2, 1) := by decide +kernel
theorem d_Rows_countWheels_81 : decode prog_7_method_11_code 81 = .ok (.iconst 1, 1) := by decide +kernel
theorem d_Rows_countWheels_82 : decode prog_7_method_11_code 82 = .ok (.isub, 1) := by decide +kernel
theorem d_Rows_countWheels_83 : decode prog_7_method_11_code 83 = .ok (.invokestatic 76, 3) := by decide +kernel
theorem d_Rows_countWheels_86 : decode prog_7_method_11_code 86 = .ok (.iadd, 1) := by decide +kernel
theorem d_Rows_countWheels_87 : decode prog_7_method_11_code 87 = .ok (.istore_n 3, 1) := by decide +kernel
theorem d_Rows_countWheels_88 : decode prog_7_method_11_code 88 = .ok (.iinc 4 1, 3) := by decide +kernel
theorem d_Rows_countWheels_91 : decode prog_7_method_11_code 91 = .ok (.goto (-35), 3) := by decide +kernel
theorem d_Rows_countWheels_94 : decode prog_7_method_11_code 94 = .ok (.iload_n 3, 1) := by decide +kernel
theorem d_Rows_countWheels_95 : decode prog_7_method_11_code 95 = .ok (.ireturn, 1) := by decide +kernel
theorem d_Rows_wheelsOn_0 : decode prog_7_method_12_code 0 = .ok (.iload 4, 2) := by decide +kernel
theorem d_Rows_wheelsOn_2 : decode prog_7_method_12_code 2 = .ok (.ifCond .gt 11, 3) := by decide +kernel
theorem d_Rows_wheelsOn_5 : decode prog_7_method_12_code 5 = .ok (.aload_n 0, 1) := by decide +kernel
theorem d_Rows_wheelsOn_6 : decode prog_7_method_12_code 6 = .ok (.iload_n 2, 1) := by decide +kernel
theorem d_Rows_wheelsOn_7 : decode prog_7_method_12_code 7 = .ok (.iaload, 1) := by decide +kernel
theorem d_Rows_wheelsOn_8 : decode prog_7_method_12_code 8 = .ok (.iload_n 1, 1) := by decide +kernel
theorem d_Rows_wheelsOn_9 : decode prog_7_method_12_code 9 = .ok (.ishr, 1) := by decide +kernel
theorem d_Rows_wheelsOn_10 : decode prog_7_method_12_code 10 = .ok (.iconst 1, 1) := by decide +kernel
theorem d_Rows_wheelsOn_11 : decode prog_7_method_12_code 11 = .ok (.iand, 1) := by decide +kernel
theorem d_Rows_wheelsOn_12 : decode prog_7_method_12_code 12 = .ok (.ireturn, 1) := by decide +kernel
theorem d_Rows_wheelsOn_13 : decode prog_7_method_12_code 13 = .ok (.iconst 0, 1) := by decide +kernel
theorem d_Rows_wheelsOn_14 : decode prog_7_method_12_code 14 = .ok (.istore 5, 2) := by decide +kernel
theorem d_Rows_wheelsOn_16 : decode prog_7_method_12_code 16 = .ok (.aload_n 0, 1) := by decide +kernel
theorem d_Rows_wheelsOn_17 : decode prog_7_method_12_code 17 = .ok (.iload_n 2, 1) := by decide +kernel
theorem d_Rows_wheelsOn_18 : decode prog_7_method_12_code 18 = .ok (.iaload, 1) := by decide +kernel
theorem d_Rows_wheelsOn_19 : decode prog_7_method_12_code 19 = .ok (.iload_n 3, 1) := by decide +kernel
theorem d_Rows_wheelsOn_20 : decode prog_7_method_12_code 20 = .ok (.iconst (-1), 1) := by decide +kernel
theorem d_Rows_wheelsOn_21 : decode prog_7_method_12_code 21 = .ok (.ixor, 1) := by decide +kernel
theorem d_Rows_wheelsOn_22 : decode prog_7_method_12_code 22 = .ok (.iand, 1) := by decide +kernel
theorem d_Rows_wheelsOn_23 : decode prog_7_method_12_code 23 = .ok (.istore 6, 2) := by decide +kernel
theorem d_Rows_wheelsOn_25 : decode prog_7_method_12_code 25 = .ok (.iconst 0, 1) := by decide +kernel
theorem d_Rows_wheelsOn_26 : decode prog_7_method_12_code 26 = .ok (.istore 7, 2) := by decide +kernel
theorem d_Rows_wheelsOn_28 : decode prog_7_method_12_code 28 = .ok (.iload 7, 2) := by decide +kernel
theorem d_Rows_wheelsOn_30 : decode prog_7_method_12_code 30 = .ok (.bipush 7, 2) := by decide +kernel
theorem d_Rows_wheelsOn_32 : decode prog_7_method_12_code 32 = .ok (.if_icmp .ge 41, 3) := by decide +kernel
theorem d_Rows_wheelsOn_35 : decode prog_7_method_12_code 35 = .ok (.iload 6, 2) := by decide +kernel
theorem d_Rows_wheelsOn_37 : decode prog_7_method_12_code 37 = .ok (.iload 7, 2) := by decide +kernel
theorem d_Rows_wheelsOn_39 : decode prog_7_method_12_code 39 = .ok (.ishr, 1) := by decide +kernel
theorem d_Rows_wheelsOn_40 : decode prog_7_method_12_code 40 = .ok (.iconst 1, 1) := by decide +kernel
theorem d_Rows_wheelsOn_41 : decode prog_7_method_12_code 41 = .ok (.iand, 1) := by decide +kernel
theorem d_Rows_wheelsOn_42 : decode prog_7_method_12_code 42 = .ok (.ifCond .eq 25, 3) := by decide +kernel
theorem d_Rows_wheelsOn_45 : decode prog_7_method_12_code 45 = .ok (.iload 5, 2) := by decide +kernel
theorem d_Rows_wheelsOn_47 : decode prog_7_method_12_code 47 = .ok (.aload_n 0, 1) := by decide +kernel
theorem d_Rows_wheelsOn_48 : decode prog_7_method_12_code 48 = .ok (.iload_n 1, 1) := by decide +kernel
theorem d_Rows_wheelsOn_49 : decode prog_7_method_12_code 49 = .ok (.iload 7, 2) := by decide +kernel
theorem d_Rows_wheelsOn_51 : decode prog_7_method_12_code 51 = .ok (.iload_n 3, 1) := by decide +kernel
theorem d_Rows_wheelsOn_52 : decode prog_7_method_12_code 52 = .ok (.iconst 1, 1) := by decide +kernel
theorem d_Rows_wheelsOn_53 : decode prog_7_method_12_code 53 = .ok (.iload 7, 2) := by decide +kernel
theorem d_Rows_wheelsOn_55 : decode prog_7_method_12_code 55 = .ok (.ishl, 1) := by decide +kernel
theorem d_Rows_wheelsOn_56 : decode prog_7_method_12_code 56 = .ok (.ior, 1) := by decide +kernel
theorem d_Rows_wheelsOn_57 : decode prog_7_method_12_code 57 = .ok (.iload 4, 2) := by decide +kernel
theorem d_Rows_wheelsOn_59 : decode prog_7_method_12_code 59 = .ok (.iconst 1, 1) := by decide +kernel
theorem d_Rows_wheelsOn_60 : decode prog_7_method_12_code 60 = .ok (.isub, 1) := by decide +kernel
theorem d_Rows_wheelsOn_61 : decode prog_7_method_12_code 61 = .ok (.invokestatic 76, 3) := by decide +kernel
theorem d_Rows_wheelsOn_64 : decode prog_7_method_12_code 64 = .ok (.iadd, 1) := by decide +kernel
theorem d_Rows_wheelsOn_65 : decode prog_7_method_12_code 65 = .ok (.istore 5, 2) := by decide +kernel
theorem d_Rows_wheelsOn_67 : decode prog_7_method_12_code 67 = .ok (.iinc 7 1, 3) := by decide +kernel
theorem d_Rows_wheelsOn_70 : decode prog_7_method_12_code 70 = .ok (.goto (-42), 3) := by decide +kernel
theorem d_Rows_wheelsOn_73 : decode prog_7_method_12_code 73 = .ok (.iload 5, 2) := by decide +kernel
theorem d_Rows_wheelsOn_75 : decode prog_7_method_12_code 75 = .ok (.ireturn, 1) := by decide +kernel
theorem d_Seen_look_0 : decode prog_8_method_2_code 0 = .ok (.iload_n 3, 1) := by decide +kernel
theorem d_Seen_look_1 : decode prog_8_method_2_code 1 = .ok (.ifCond .lt 19, 3) := by decide +kernel
theorem d_Seen_look_4 : decode prog_8_method_2_code 4 = .ok (.iload_n 3, 1) := by decide +kernel
theorem d_Seen_look_5 : decode prog_8_method_2_code 5 = .ok (.bipush 7, 2) := by decide +kernel
theorem d_Seen_look_7 : decode prog_8_method_2_code 7 = .ok (.if_icmp .gt 13, 3) := by decide +kernel
theorem d_Seen_look_10 : decode prog_8_method_2_code 10 = .ok (.aload_n 0, 1) := by decide +kernel
theorem d_Seen_look_11 : decode prog_8_method_2_code 11 = .ok (.aload_n 1, 1) := by decide +kernel
theorem d_Seen_look_12 : decode prog_8_method_2_code 12 = .ok (.aload_n 2, 1) := by decide +kernel
theorem d_Seen_look_13 : decode prog_8_method_2_code 13 = .ok (.iload_n 3, 1) := by decide +kernel
theorem d_Seen_look_14 : decode prog_8_method_2_code 14 = .ok (.invokevirtual 15, 3) := by decide +kernel
theorem d_Seen_look_17 : decode prog_8_method_2_code 17 = .ok (.ifCond .ne 5, 3) := by decide +kernel
theorem d_Seen_look_20 : decode prog_8_method_2_code 20 = .ok (.iconst 0, 1) := by decide +kernel
theorem d_Seen_look_21 : decode prog_8_method_2_code 21 = .ok (.ireturn, 1) := by decide +kernel
theorem d_Seen_look_22 : decode prog_8_method_2_code 22 = .ok (.aload_n 0, 1) := by decide +kernel
theorem d_Seen_look_23 : decode prog_8_method_2_code 23 = .ok (.iconst 1, 1) := by decide +kernel
theorem d_Seen_look_24 : decode prog_8_method_2_code 24 = .ok (.aload_n 1, 1) := by decide +kernel
theorem d_Seen_look_25 : decode prog_8_method_2_code 25 = .ok (.getfield 19, 3) := by decide +kernel
theorem d_Seen_look_28 : decode prog_8_method_2_code 28 = .ok (.ishl, 1) := by decide +kernel
theorem d_Seen_look_29 : decode prog_8_method_2_code 29 = .ok (.putfield 25, 3) := by decide +kernel
theorem d_Seen_look_32 : decode prog_8_method_2_code 32 = .ok (.aload_n 0, 1) := by decide +kernel
theorem d_Seen_look_33 : decode prog_8_method_2_code 33 = .ok (.lconst 0, 1) := by decide +kernel
theorem d_Seen_look_34 : decode prog_8_method_2_code 34 = .ok (.putfield 28, 3) := by decide +kernel
theorem d_Seen_look_37 : decode prog_8_method_2_code 37 = .ok (.iconst 0, 1) := by decide +kernel
theorem d_Seen_look_38 : decode prog_8_method_2_code 38 = .ok (.istore 4, 2) := by decide +kernel
theorem d_Seen_look_40 : decode prog_8_method_2_code 40 = .ok (.iload 4, 2) := by decide +kernel
theorem d_Seen_look_42 : decode prog_8_method_2_code 42 = .ok (.aload_n 0, 1) := by decide +kernel
theorem d_Seen_look_43 : decode prog_8_method_2_code 43 = .ok (.getfield 25, 3) := by decide +kernel
theorem d_Seen_look_46 : decode prog_8_method_2_code 46 = .ok (.if_icmp .ge 33, 3) := by decide +kernel
theorem d_Seen_look_49 : decode prog_8_method_2_code 49 = .ok (.aload_n 1, 1) := by decide +kernel
theorem d_Seen_look_50 : decode prog_8_method_2_code 50 = .ok (.aload_n 2, 1) := by decide +kernel
theorem d_Seen_look_51 : decode prog_8_method_2_code 51 = .ok (.iload_n 3, 1) := by decide +kernel
theorem d_Seen_look_52 : decode prog_8_method_2_code 52 = .ok (.iload 4, 2) := by decide +kernel
theorem d_Seen_look_54 : decode prog_8_method_2_code 54 = .ok (.invokestatic 32, 3) := by decide +kernel
theorem d_Seen_look_57 : decode prog_8_method_2_code 57 = .ok (.ifCond .eq 16, 3) := by decide +kernel
theorem d_Seen_look_60 : decode prog_8_method_2_code 60 = .ok (.aload_n 0, 1) := by decide +kernel
theorem d_Seen_look_61 : decode prog_8_method_2_code 61 = .ok (.dup, 1) := by decide +kernel
theorem d_Seen_look_62 : decode prog_8_method_2_code 62 = .ok (.getfield 28, 3) := by decide +kernel
theorem d_Seen_look_65 : decode prog_8_method_2_code 65 = .ok (.lconst 1, 1) := by decide +kernel
theorem d_Seen_look_66 : decode prog_8_method_2_code 66 = .ok (.iload 4, 2) := by decide +kernel
theorem d_Seen_look_68 : decode prog_8_method_2_code 68 = .ok (.lshl, 1) := by decide +kernel
theorem d_Seen_look_69 : decode prog_8_method_2_code 69 = .ok (.lor, 1) := by decide +kernel
theorem d_Seen_look_70 : decode prog_8_method_2_code 70 = .ok (.putfield 28, 3) := by decide +kernel
theorem d_Seen_look_73 : decode prog_8_method_2_code 73 = .ok (.iinc 4 1, 3) := by decide +kernel
theorem d_Seen_look_76 : decode prog_8_method_2_code 76 = .ok (.goto (-36), 3) := by decide +kernel
theorem d_Seen_look_79 : decode prog_8_method_2_code 79 = .ok (.iconst 1, 1) := by decide +kernel
theorem d_Seen_look_80 : decode prog_8_method_2_code 80 = .ok (.ireturn, 1) := by decide +kernel
theorem d_Seen_twosCanBe_0 : decode prog_8_method_3_code 0 = .ok (.aload_n 0, 1) := by decide +kernel
theorem d_Seen_twosCanBe_1 : decode prog_8_method_3_code 1 = .ok (.iconst 0, 1) := by decide +kernel
theorem d_Seen_twosCanBe_2 : decode prog_8_method_3_code 2 = .ok (.putfield 36, 3) := by decide +kernel
theorem d_Seen_twosCanBe_5 : decode prog_8_method_3_code 5 = .ok (.iconst 0, 1) := by decide +kernel
theorem d_Seen_twosCanBe_6 : decode prog_8_method_3_code 6 = .ok (.istore 4, 2) := by decide +kernel
theorem d_Seen_twosCanBe_8 : decode prog_8_method_3_code 8 = .ok (.iload 4, 2) := by decide +kernel
theorem d_Seen_twosCanBe_10 : decode prog_8_method_3_code 10 = .ok (.iload_n 3, 1) := by decide +kernel
theorem d_Seen_twosCanBe_11 : decode prog_8_method_3_code 11 = .ok (.if_icmp .ge 98, 3) := by decide +kernel
theorem d_Seen_twosCanBe_14 : decode prog_8_method_3_code 14 = .ok (.aload_n 2, 1) := by decide +kernel
theorem d_Seen_twosCanBe_15 : decode prog_8_method_3_code 15 = .ok (.getfield 39, 3) := by decide +kernel
theorem d_Seen_twosCanBe_18 : decode prog_8_method_3_code 18 = .ok (.iconst 2, 1) := by decide +kernel
theorem d_Seen_twosCanBe_19 : decode prog_8_method_3_code 19 = .ok (.iload 4, 2) := by decide +kernel
theorem d_Seen_twosCanBe_21 : decode prog_8_method_3_code 21 = .ok (.imul, 1) := by decide +kernel
theorem d_Seen_twosCanBe_22 : decode prog_8_method_3_code 22 = .ok (.laload, 1) := by decide +kernel
theorem d_Seen_twosCanBe_23 : decode prog_8_method_3_code 23 = .ok (.lstore 5, 2) := by decide +kernel
theorem d_Seen_twosCanBe_25 : decode prog_8_method_3_code 25 = .ok (.aload_n 2, 1) := by decide +kernel
theorem d_Seen_twosCanBe_26 : decode prog_8_method_3_code 26 = .ok (.getfield 39, 3) := by decide +kernel
theorem d_Seen_twosCanBe_29 : decode prog_8_method_3_code 29 = .ok (.iconst 2, 1) := by decide +kernel
theorem d_Seen_twosCanBe_30 : decode prog_8_method_3_code 30 = .ok (.iload 4, 2) := by decide +kernel
theorem d_Seen_twosCanBe_32 : decode prog_8_method_3_code 32 = .ok (.imul, 1) := by decide +kernel
theorem d_Seen_twosCanBe_33 : decode prog_8_method_3_code 33 = .ok (.iconst 1, 1) := by decide +kernel
theorem d_Seen_twosCanBe_34 : decode prog_8_method_3_code 34 = .ok (.iadd, 1) := by decide +kernel
theorem d_Seen_twosCanBe_35 : decode prog_8_method_3_code 35 = .ok (.laload, 1) := by decide +kernel
theorem d_Seen_twosCanBe_36 : decode prog_8_method_3_code 36 = .ok (.lstore 7, 2) := by decide +kernel
theorem d_Seen_twosCanBe_38 : decode prog_8_method_3_code 38 = .ok (.lload 5, 2) := by decide +kernel
theorem d_Seen_twosCanBe_40 : decode prog_8_method_3_code 40 = .ok (.lconst 0, 1) := by decide +kernel
theorem d_Seen_twosCanBe_41 : decode prog_8_method_3_code 41 = .ok (.lcmp, 1) := by decide +kernel
theorem d_Seen_twosCanBe_42 : decode prog_8_method_3_code 42 = .ok (.ifCond .lt 30, 3) := by decide +kernel
theorem d_Seen_twosCanBe_45 : decode prog_8_method_3_code 45 = .ok (.lload 5, 2) := by decide +kernel
theorem d_Seen_twosCanBe_47 : decode prog_8_method_3_code 47 = .ok (.aload_n 1, 1) := by decide +kernel
theorem d_Seen_twosCanBe_48 : decode prog_8_method_3_code 48 = .ok (.getfield 45, 3) := by decide +kernel
theorem d_Seen_twosCanBe_51 : decode prog_8_method_3_code 51 = .ok (.i2l, 1) := by decide +kernel
theorem d_Seen_twosCanBe_52 : decode prog_8_method_3_code 52 = .ok (.lcmp, 1) := by decide +kernel
theorem d_Seen_twosCanBe_53 : decode prog_8_method_3_code 53 = .ok (.ifCond .ge 19, 3) := by decide +kernel
theorem d_Seen_twosCanBe_56 : decode prog_8_method_3_code 56 = .ok (.lload 7, 2) := by decide +kernel
theorem d_Seen_twosCanBe_58 : decode prog_8_method_3_code 58 = .ok (.lconst 0, 1) := by decide +kernel
theorem d_Seen_twosCanBe_59 : decode prog_8_method_3_code 59 = .ok (.lcmp, 1) := by decide +kernel
theorem d_Seen_twosCanBe_60 : decode prog_8_method_3_code 60 = .ok (.ifCond .lt 12, 3) := by decide +kernel
theorem d_Seen_twosCanBe_63 : decode prog_8_method_3_code 63 = .ok (.lload 7, 2) := by decide +kernel
theorem d_Seen_twosCanBe_65 : decode prog_8_method_3_code 65 = .ok (.ldc2_w 48, 3) := by decide +kernel
theorem d_Seen_twosCanBe_68 : decode prog_8_method_3_code 68 = .ok (.lcmp, 1) := by decide +kernel
theorem d_Seen_twosCanBe_69 : decode prog_8_method_3_code 69 = .ok (.ifCond .le 5, 3) := by decide +kernel
theorem d_Seen_twosCanBe_72 : decode prog_8_method_3_code 72 = .ok (.iconst 0, 1) := by decide +kernel
theorem d_Seen_twosCanBe_73 : decode prog_8_method_3_code 73 = .ok (.ireturn, 1) := by decide +kernel
theorem d_Seen_twosCanBe_74 : decode prog_8_method_3_code 74 = .ok (.aload_n 0, 1) := by decide +kernel
theorem d_Seen_twosCanBe_75 : decode prog_8_method_3_code 75 = .ok (.getfield 36, 3) := by decide +kernel
theorem d_Seen_twosCanBe_78 : decode prog_8_method_3_code 78 = .ok (.lload 5, 2) := by decide +kernel
theorem d_Seen_twosCanBe_80 : decode prog_8_method_3_code 80 = .ok (.l2i, 1) := by decide +kernel
theorem d_Seen_twosCanBe_81 : decode prog_8_method_3_code 81 = .ok (.ishr, 1) := by decide +kernel
theorem d_Seen_twosCanBe_82 : decode prog_8_method_3_code 82 = .ok (.iconst 1, 1) := by decide +kernel
theorem d_Seen_twosCanBe_83 : decode prog_8_method_3_code 83 = .ok (.iand, 1) := by decide +kernel
theorem d_Seen_twosCanBe_84 : decode prog_8_method_3_code 84 = .ok (.ifCond .eq 5, 3) := by decide +kernel
theorem d_Seen_twosCanBe_87 : decode prog_8_method_3_code 87 = .ok (.iconst 0, 1) := by decide +kernel
theorem d_Seen_twosCanBe_88 : decode prog_8_method_3_code 88 = .ok (.ireturn, 1) := by decide +kernel
theorem d_Seen_twosCanBe_89 : decode prog_8_method_3_code 89 = .ok (.aload_n 0, 1) := by decide +kernel
theorem d_Seen_twosCanBe_90 : decode prog_8_method_3_code 90 = .ok (.dup, 1) := by decide +kernel
theorem d_Seen_twosCanBe_91 : decode prog_8_method_3_code 91 = .ok (.getfield 36, 3) := by decide +kernel
theorem d_Seen_twosCanBe_94 : decode prog_8_method_3_code 94 = .ok (.iconst 1, 1) := by decide +kernel
theorem d_Seen_twosCanBe_95 : decode prog_8_method_3_code 95 = .ok (.lload 5, 2) := by decide +kernel
theorem d_Seen_twosCanBe_97 : decode prog_8_method_3_code 97 = .ok (.l2i, 1) := by decide +kernel
theorem d_Seen_twosCanBe_98 : decode prog_8_method_3_code 98 = .ok (.ishl, 1) := by decide +kernel
theorem d_Seen_twosCanBe_99 : decode prog_8_method_3_code 99 = .ok (.ior, 1) := by decide +kernel
theorem d_Seen_twosCanBe_100 : decode prog_8_method_3_code 100 = .ok (.putfield 36, 3) := by decide +kernel
theorem d_Seen_twosCanBe_103 : decode prog_8_method_3_code 103 = .ok (.iinc 4 1, 3) := by decide +kernel
theorem d_Seen_twosCanBe_106 : decode prog_8_method_3_code 106 = .ok (.goto (-98), 3) := by decide +kernel
theorem d_Seen_twosCanBe_109 : decode prog_8_method_3_code 109 = .ok (.iconst 1, 1) := by decide +kernel
theorem d_Seen_twosCanBe_110 : decode prog_8_method_3_code 110 = .ok (.ireturn, 1) := by decide +kernel
theorem d_Seen_isSo_0 : decode prog_8_method_4_code 0 = .ok (.iconst 0, 1) := by decide +kernel
theorem d_Seen_isSo_1 : decode prog_8_method_4_code 1 = .ok (.istore 4, 2) := by decide +kernel
theorem d_Seen_isSo_3 : decode prog_8_method_4_code 3 = .ok (.iload 4, 2) := by decide +kernel
theorem d_Seen_isSo_5 : decode prog_8_method_4_code 5 = .ok (.iload_n 2, 1) := by decide +kernel
theorem d_Seen_isSo_6 : decode prog_8_method_4_code 6 = .ok (.if_icmp .ge 51, 3) := by decide +kernel
theorem d_Seen_isSo_9 : decode prog_8_method_4_code 9 = .ok (.aload_n 1, 1) := by decide +kernel
theorem d_Seen_isSo_10 : decode prog_8_method_4_code 10 = .ok (.getfield 39, 3) := by decide +kernel
theorem d_Seen_isSo_13 : decode prog_8_method_4_code 13 = .ok (.iconst 2, 1) := by decide +kernel
theorem d_Seen_isSo_14 : decode prog_8_method_4_code 14 = .ok (.iload 4, 2) := by decide +kernel
theorem d_Seen_isSo_16 : decode prog_8_method_4_code 16 = .ok (.imul, 1) := by decide +kernel
theorem d_Seen_isSo_17 : decode prog_8_method_4_code 17 = .ok (.laload, 1) := by decide +kernel
theorem d_Seen_isSo_18 : decode prog_8_method_4_code 18 = .ok (.l2i, 1) := by decide +kernel
theorem d_Seen_isSo_19 : decode prog_8_method_4_code 19 = .ok (.istore 5, 2) := by decide +kernel
theorem d_Seen_isSo_21 : decode prog_8_method_4_code 21 = .ok (.aload_n 0, 1) := by decide +kernel
theorem d_Seen_isSo_22 : decode prog_8_method_4_code 22 = .ok (.getfield 50, 3) := by decide +kernel
theorem d_Seen_isSo_25 : decode prog_8_method_4_code 25 = .ok (.iload 5, 2) := by decide +kernel
theorem d_Seen_isSo_27 : decode prog_8_method_4_code 27 = .ok (.iaload, 1) := by decide +kernel
theorem d_Seen_isSo_28 : decode prog_8_method_4_code 28 = .ok (.iload_n 3, 1) := by decide +kernel
theorem d_Seen_isSo_29 : decode prog_8_method_4_code 29 = .ok (.iand, 1) := by decide +kernel
theorem d_Seen_isSo_30 : decode prog_8_method_4_code 30 = .ok (.invokestatic 53, 3) := by decide +kernel
theorem d_Seen_isSo_33 : decode prog_8_method_4_code 33 = .ok (.i2l, 1) := by decide +kernel
theorem d_Seen_isSo_34 : decode prog_8_method_4_code 34 = .ok (.aload_n 1, 1) := by decide +kernel
theorem d_Seen_isSo_35 : decode prog_8_method_4_code 35 = .ok (.getfield 39, 3) := by decide +kernel
theorem d_Seen_isSo_38 : decode prog_8_method_4_code 38 = .ok (.iconst 2, 1) := by decide +kernel
theorem d_Seen_isSo_39 : decode prog_8_method_4_code 39 = .ok (.iload 4, 2) := by decide +kernel
theorem d_Seen_isSo_41 : decode prog_8_method_4_code 41 = .ok (.imul, 1) := by decide +kernel
theorem d_Seen_isSo_42 : decode prog_8_method_4_code 42 = .ok (.iconst 1, 1) := by decide +kernel
theorem d_Seen_isSo_43 : decode prog_8_method_4_code 43 = .ok (.iadd, 1) := by decide +kernel
theorem d_Seen_isSo_44 : decode prog_8_method_4_code 44 = .ok (.laload, 1) := by decide +kernel
theorem d_Seen_isSo_45 : decode prog_8_method_4_code 45 = .ok (.lcmp, 1) := by decide +kernel
theorem d_Seen_isSo_46 : decode prog_8_method_4_code 46 = .ok (.ifCond .eq 5, 3) := by decide +kernel
theorem d_Seen_isSo_49 : decode prog_8_method_4_code 49 = .ok (.iconst 0, 1) := by decide +kernel
theorem d_Seen_isSo_50 : decode prog_8_method_4_code 50 = .ok (.ireturn, 1) := by decide +kernel
theorem d_Seen_isSo_51 : decode prog_8_method_4_code 51 = .ok (.iinc 4 1, 3) := by decide +kernel
theorem d_Seen_isSo_54 : decode prog_8_method_4_code 54 = .ok (.goto (-51), 3) := by decide +kernel
theorem d_Seen_isSo_57 : decode prog_8_method_4_code 57 = .ok (.iconst 1, 1) := by decide +kernel
theorem d_Seen_isSo_58 : decode prog_8_method_4_code 58 = .ok (.ireturn, 1) := by decide +kernel
theorem d_Seen_howMany_0 : decode prog_8_method_5_code 0 = .ok (.aload_n 0, 1) := by decide +kernel
theorem d_Seen_howMany_1 : decode prog_8_method_5_code 1 = .ok (.getfield 28, 3) := by decide +kernel
theorem d_Seen_howMany_4 : decode prog_8_method_5_code 4 = .ok (.invokestatic 59, 3) := by decide +kernel
theorem d_Seen_howMany_7 : decode prog_8_method_5_code 7 = .ok (.ireturn, 1) := by decide +kernel
theorem d_Seen_inAll_0 : decode prog_8_method_6_code 0 = .ok (.aload_n 0, 1) := by decide +kernel
theorem d_Seen_inAll_1 : decode prog_8_method_6_code 1 = .ok (.getfield 25, 3) := by decide +kernel
theorem d_Seen_inAll_4 : decode prog_8_method_6_code 4 = .ok (.iconst 1, 1) := by decide +kernel
theorem d_Seen_inAll_5 : decode prog_8_method_6_code 5 = .ok (.isub, 1) := by decide +kernel
theorem d_Seen_inAll_6 : decode prog_8_method_6_code 6 = .ok (.istore_n 1, 1) := by decide +kernel
theorem d_Seen_inAll_7 : decode prog_8_method_6_code 7 = .ok (.iconst 0, 1) := by decide +kernel
theorem d_Seen_inAll_8 : decode prog_8_method_6_code 8 = .ok (.istore_n 2, 1) := by decide +kernel
theorem d_Seen_inAll_9 : decode prog_8_method_6_code 9 = .ok (.iload_n 2, 1) := by decide +kernel
theorem d_Seen_inAll_10 : decode prog_8_method_6_code 10 = .ok (.aload_n 0, 1) := by decide +kernel
theorem d_Seen_inAll_11 : decode prog_8_method_6_code 11 = .ok (.getfield 25, 3) := by decide +kernel
theorem d_Seen_inAll_14 : decode prog_8_method_6_code 14 = .ok (.if_icmp .ge 26, 3) := by decide +kernel
theorem d_Seen_inAll_17 : decode prog_8_method_6_code 17 = .ok (.aload_n 0, 1) := by decide +kernel
theorem d_Seen_inAll_18 : decode prog_8_method_6_code 18 = .ok (.getfield 28, 3) := by decide +kernel
theorem d_Seen_inAll_21 : decode prog_8_method_6_code 21 = .ok (.iload_n 2, 1) := by decide +kernel
theorem d_Seen_inAll_22 : decode prog_8_method_6_code 22 = .ok (.lshr, 1) := by decide +kernel
theorem d_Seen_inAll_23 : decode prog_8_method_6_code 23 = .ok (.lconst 1, 1) := by decide +kernel
theorem d_Seen_inAll_24 : decode prog_8_method_6_code 24 = .ok (.land, 1) := by decide +kernel
theorem d_Seen_inAll_25 : decode prog_8_method_6_code 25 = .ok (.lconst 0, 1) := by decide +kernel
theorem d_Seen_inAll_26 : decode prog_8_method_6_code 26 = .ok (.lcmp, 1) := by decide +kernel
theorem d_Seen_inAll_27 : decode prog_8_method_6_code 27 = .ok (.ifCond .eq 7, 3) := by decide +kernel
theorem d_Seen_inAll_30 : decode prog_8_method_6_code 30 = .ok (.iload_n 1, 1) := by decide +kernel
theorem d_Seen_inAll_31 : decode prog_8_method_6_code 31 = .ok (.iload_n 2, 1) := by decide +kernel
theorem d_Seen_inAll_32 : decode prog_8_method_6_code 32 = .ok (.iand, 1) := by decide +kernel
theorem d_Seen_inAll_33 : decode prog_8_method_6_code 33 = .ok (.istore_n 1, 1) := by decide +kernel
theorem d_Seen_inAll_34 : decode prog_8_method_6_code 34 = .ok (.iinc 2 1, 3) := by decide +kernel
theorem d_Seen_inAll_37 : decode prog_8_method_6_code 37 = .ok (.goto (-28), 3) := by decide +kernel
theorem d_Seen_inAll_40 : decode prog_8_method_6_code 40 = .ok (.iload_n 1, 1) := by decide +kernel
theorem d_Seen_inAll_41 : decode prog_8_method_6_code 41 = .ok (.ireturn, 1) := by decide +kernel
theorem d_Seen_bestToAsk_0 : decode prog_8_method_7_code 0 = .ok (.iconst (-1), 1) := by decide +kernel
theorem d_Seen_bestToAsk_1 : decode prog_8_method_7_code 1 = .ok (.istore_n 2, 1) := by decide +kernel
theorem d_Seen_bestToAsk_2 : decode prog_8_method_7_code 2 = .ok (.iconst 0, 1) := by decide +kernel
theorem d_Seen_bestToAsk_3 : decode prog_8_method_7_code 3 = .ok (.istore_n 3, 1) := by decide +kernel
theorem d_Seen_bestToAsk_4 : decode prog_8_method_7_code 4 = .ok (.iconst 0, 1) := by decide +kernel
theorem d_Seen_bestToAsk_5 : decode prog_8_method_7_code 5 = .ok (.istore 4, 2) := by decide +kernel
theorem d_Seen_bestToAsk_7 : decode prog_8_method_7_code 7 = .ok (.iload 4, 2) := by decide +kernel
theorem d_Seen_bestToAsk_9 : decode prog_8_method_7_code 9 = .ok (.aload_n 1, 1) := by decide +kernel
theorem d_Seen_bestToAsk_10 : decode prog_8_method_7_code 10 = .ok (.getfield 45, 3) := by decide +kernel
theorem d_Seen_bestToAsk_13 : decode prog_8_method_7_code 13 = .ok (.if_icmp .ge 50, 3) := by decide +kernel
theorem d_Seen_bestToAsk_16 : decode prog_8_method_7_code 16 = .ok (.aload_n 0, 1) := by decide +kernel
theorem d_Seen_bestToAsk_17 : decode prog_8_method_7_code 17 = .ok (.getfield 36, 3) := by decide +kernel
theorem d_Seen_bestToAsk_20 : decode prog_8_method_7_code 20 = .ok (.iload 4, 2) := by decide +kernel
theorem d_Seen_bestToAsk_22 : decode prog_8_method_7_code 22 = .ok (.ishr, 1) := by decide +kernel
theorem d_Seen_bestToAsk_23 : decode prog_8_method_7_code 23 = .ok (.iconst 1, 1) := by decide +kernel
theorem d_Seen_bestToAsk_24 : decode prog_8_method_7_code 24 = .ok (.iand, 1) := by decide +kernel
theorem d_Seen_bestToAsk_25 : decode prog_8_method_7_code 25 = .ok (.ifCond .ne 32, 3) := by decide +kernel
theorem d_Seen_bestToAsk_28 : decode prog_8_method_7_code 28 = .ok (.aload_n 0, 1) := by decide +kernel
theorem d_Seen_bestToAsk_29 : decode prog_8_method_7_code 29 = .ok (.aload_n 1, 1) := by decide +kernel
theorem d_Seen_bestToAsk_30 : decode prog_8_method_7_code 30 = .ok (.getfield 50, 3) := by decide +kernel
theorem d_Seen_bestToAsk_33 : decode prog_8_method_7_code 33 = .ok (.iload 4, 2) := by decide +kernel
theorem d_Seen_bestToAsk_35 : decode prog_8_method_7_code 35 = .ok (.iaload, 1) := by decide +kernel
theorem d_Seen_bestToAsk_36 : decode prog_8_method_7_code 36 = .ok (.invokevirtual 64, 3) := by decide +kernel
theorem d_Seen_bestToAsk_39 : decode prog_8_method_7_code 39 = .ok (.istore 5, 2) := by decide +kernel
theorem d_Seen_bestToAsk_41 : decode prog_8_method_7_code 41 = .ok (.iload_n 2, 1) := by decide +kernel
theorem d_Seen_bestToAsk_42 : decode prog_8_method_7_code 42 = .ok (.ifCond .lt 9, 3) := by decide +kernel
theorem d_Seen_bestToAsk_45 : decode prog_8_method_7_code 45 = .ok (.iload 5, 2) := by decide +kernel
theorem d_Seen_bestToAsk_47 : decode prog_8_method_7_code 47 = .ok (.iload_n 3, 1) := by decide +kernel
theorem d_Seen_bestToAsk_48 : decode prog_8_method_7_code 48 = .ok (.if_icmp .ge 9, 3) := by decide +kernel
theorem d_Seen_bestToAsk_51 : decode prog_8_method_7_code 51 = .ok (.iload 4, 2) := by decide +kernel
theorem d_Seen_bestToAsk_53 : decode prog_8_method_7_code 53 = .ok (.istore_n 2, 1) := by decide +kernel
theorem d_Seen_bestToAsk_54 : decode prog_8_method_7_code 54 = .ok (.iload 5, 2) := by decide +kernel
theorem d_Seen_bestToAsk_56 : decode prog_8_method_7_code 56 = .ok (.istore_n 3, 1) := by decide +kernel
theorem d_Seen_bestToAsk_57 : decode prog_8_method_7_code 57 = .ok (.iinc 4 1, 3) := by decide +kernel
theorem d_Seen_bestToAsk_60 : decode prog_8_method_7_code 60 = .ok (.goto (-53), 3) := by decide +kernel
theorem d_Seen_bestToAsk_63 : decode prog_8_method_7_code 63 = .ok (.iload_n 2, 1) := by decide +kernel
theorem d_Seen_bestToAsk_64 : decode prog_8_method_7_code 64 = .ok (.ireturn, 1) := by decide +kernel
theorem d_Seen_mostWithOneNumber_0 : decode prog_8_method_8_code 0 = .ok (.aload_n 0, 1) := by decide +kernel
theorem d_Seen_mostWithOneNumber_1 : decode prog_8_method_8_code 1 = .ok (.getfield 9, 3) := by decide +kernel
theorem d_Seen_mostWithOneNumber_4 : decode prog_8_method_8_code 4 = .ok (.iconst 0, 1) := by decide +kernel
theorem d_Seen_mostWithOneNumber_5 : decode prog_8_method_8_code 5 = .ok (.invokestatic 67, 3) := by decide +kernel
theorem d_Seen_mostWithOneNumber_8 : decode prog_8_method_8_code 8 = .ok (.iconst 0, 1) := by decide +kernel
theorem d_Seen_mostWithOneNumber_9 : decode prog_8_method_8_code 9 = .ok (.istore_n 2, 1) := by decide +kernel
theorem d_Seen_mostWithOneNumber_10 : decode prog_8_method_8_code 10 = .ok (.iconst 0, 1) := by decide +kernel
theorem d_Seen_mostWithOneNumber_11 : decode prog_8_method_8_code 11 = .ok (.istore_n 3, 1) := by decide +kernel
theorem d_Seen_mostWithOneNumber_12 : decode prog_8_method_8_code 12 = .ok (.iload_n 3, 1) := by decide +kernel
theorem d_Seen_mostWithOneNumber_13 : decode prog_8_method_8_code 13 = .ok (.aload_n 0, 1) := by decide +kernel
theorem d_Seen_mostWithOneNumber_14 : decode prog_8_method_8_code 14 = .ok (.getfield 25, 3) := by decide +kernel
theorem d_Seen_mostWithOneNumber_17 : decode prog_8_method_8_code 17 = .ok (.if_icmp .ge 53, 3) := by decide +kernel
theorem d_Seen_mostWithOneNumber_20 : decode prog_8_method_8_code 20 = .ok (.aload_n 0, 1) := by decide +kernel
theorem d_Seen_mostWithOneNumber_21 : decode prog_8_method_8_code 21 = .ok (.getfield 28, 3) := by decide +kernel
theorem d_Seen_mostWithOneNumber_24 : decode prog_8_method_8_code 24 = .ok (.iload_n 3, 1) := by decide +kernel
theorem d_Seen_mostWithOneNumber_25 : decode prog_8_method_8_code 25 = .ok (.lshr, 1) := by decide +kernel
theorem d_Seen_mostWithOneNumber_26 : decode prog_8_method_8_code 26 = .ok (.lconst 1, 1) := by decide +kernel
theorem d_Seen_mostWithOneNumber_27 : decode prog_8_method_8_code 27 = .ok (.land, 1) := by decide +kernel
theorem d_Seen_mostWithOneNumber_28 : decode prog_8_method_8_code 28 = .ok (.lconst 0, 1) := by decide +kernel
theorem d_Seen_mostWithOneNumber_29 : decode prog_8_method_8_code 29 = .ok (.lcmp, 1) := by decide +kernel
theorem d_Seen_mostWithOneNumber_30 : decode prog_8_method_8_code 30 = .ok (.ifCond .eq 34, 3) := by decide +kernel
theorem d_Seen_mostWithOneNumber_33 : decode prog_8_method_8_code 33 = .ok (.iload_n 1, 1) := by decide +kernel
theorem d_Seen_mostWithOneNumber_34 : decode prog_8_method_8_code 34 = .ok (.iload_n 3, 1) := by decide +kernel
theorem d_Seen_mostWithOneNumber_35 : decode prog_8_method_8_code 35 = .ok (.iand, 1) := by decide +kernel
theorem d_Seen_mostWithOneNumber_36 : decode prog_8_method_8_code 36 = .ok (.invokestatic 53, 3) := by decide +kernel
theorem d_Seen_mostWithOneNumber_39 : decode prog_8_method_8_code 39 = .ok (.istore 4, 2) := by decide +kernel
theorem d_Seen_mostWithOneNumber_41 : decode prog_8_method_8_code 41 = .ok (.aload_n 0, 1) := by decide +kernel
theorem d_Seen_mostWithOneNumber_42 : decode prog_8_method_8_code 42 = .ok (.getfield 9, 3) := by decide +kernel
theorem d_Seen_mostWithOneNumber_45 : decode prog_8_method_8_code 45 = .ok (.iload 4, 2) := by decide +kernel
theorem d_Seen_mostWithOneNumber_47 : decode prog_8_method_8_code 47 = .ok (.dup2, 1) := by decide +kernel
theorem d_Seen_mostWithOneNumber_48 : decode prog_8_method_8_code 48 = .ok (.iaload, 1) := by decide +kernel
theorem d_Seen_mostWithOneNumber_49 : decode prog_8_method_8_code 49 = .ok (.iconst 1, 1) := by decide +kernel
theorem d_Seen_mostWithOneNumber_50 : decode prog_8_method_8_code 50 = .ok (.iadd, 1) := by decide +kernel
theorem d_Seen_mostWithOneNumber_51 : decode prog_8_method_8_code 51 = .ok (.iastore, 1) := by decide +kernel
theorem d_Seen_mostWithOneNumber_52 : decode prog_8_method_8_code 52 = .ok (.iload_n 2, 1) := by decide +kernel
theorem d_Seen_mostWithOneNumber_53 : decode prog_8_method_8_code 53 = .ok (.aload_n 0, 1) := by decide +kernel
theorem d_Seen_mostWithOneNumber_54 : decode prog_8_method_8_code 54 = .ok (.getfield 9, 3) := by decide +kernel
theorem d_Seen_mostWithOneNumber_57 : decode prog_8_method_8_code 57 = .ok (.iload 4, 2) := by decide +kernel
theorem d_Seen_mostWithOneNumber_59 : decode prog_8_method_8_code 59 = .ok (.iaload, 1) := by decide +kernel
theorem d_Seen_mostWithOneNumber_60 : decode prog_8_method_8_code 60 = .ok (.invokestatic 73, 3) := by decide +kernel
theorem d_Seen_mostWithOneNumber_63 : decode prog_8_method_8_code 63 = .ok (.istore_n 2, 1) := by decide +kernel
theorem d_Seen_mostWithOneNumber_64 : decode prog_8_method_8_code 64 = .ok (.iinc 3 1, 3) := by decide +kernel
theorem d_Seen_mostWithOneNumber_67 : decode prog_8_method_8_code 67 = .ok (.goto (-55), 3) := by decide +kernel
theorem d_Seen_mostWithOneNumber_70 : decode prog_8_method_8_code 70 = .ok (.iload_n 2, 1) := by decide +kernel
theorem d_Seen_mostWithOneNumber_71 : decode prog_8_method_8_code 71 = .ok (.ireturn, 1) := by decide +kernel
theorem d_Life_run_0 : decode prog_6_method_2_code 0 = .ok (.aload_n 0, 1) := by decide +kernel
theorem d_Life_run_1 : decode prog_6_method_2_code 1 = .ok (.iconst 1, 1) := by decide +kernel
theorem d_Life_run_2 : decode prog_6_method_2_code 2 = .ok (.putfield 17, 3) := by decide +kernel
theorem d_Life_run_5 : decode prog_6_method_2_code 5 = .ok (.aload_n 0, 1) := by decide +kernel
theorem d_Life_run_6 : decode prog_6_method_2_code 6 = .ok (.iconst 0, 1) := by decide +kernel
theorem d_Life_run_7 : decode prog_6_method_2_code 7 = .ok (.putfield 21, 3) := by decide +kernel
theorem d_Life_run_10 : decode prog_6_method_2_code 10 = .ok (.aload_n 0, 1) := by decide +kernel
theorem d_Life_run_11 : decode prog_6_method_2_code 11 = .ok (.iconst 0, 1) := by decide +kernel
theorem d_Life_run_12 : decode prog_6_method_2_code 12 = .ok (.putfield 25, 3) := by decide +kernel
theorem d_Life_run_15 : decode prog_6_method_2_code 15 = .ok (.aload_n 0, 1) := by decide +kernel
theorem d_Life_run_16 : decode prog_6_method_2_code 16 = .ok (.iconst 0, 1) := by decide +kernel
theorem d_Life_run_17 : decode prog_6_method_2_code 17 = .ok (.putfield 28, 3) := by decide +kernel
theorem d_Life_run_20 : decode prog_6_method_2_code 20 = .ok (.aload_n 0, 1) := by decide +kernel
theorem d_Life_run_21 : decode prog_6_method_2_code 21 = .ok (.iload_n 2, 1) := by decide +kernel
theorem d_Life_run_22 : decode prog_6_method_2_code 22 = .ok (.putfield 31, 3) := by decide +kernel
theorem d_Life_run_25 : decode prog_6_method_2_code 25 = .ok (.aload_n 0, 1) := by decide +kernel
theorem d_Life_run_26 : decode prog_6_method_2_code 26 = .ok (.iconst 0, 1) := by decide +kernel
theorem d_Life_run_27 : decode prog_6_method_2_code 27 = .ok (.putfield 34, 3) := by decide +kernel
theorem d_Life_run_30 : decode prog_6_method_2_code 30 = .ok (.aload_n 1, 1) := by decide +kernel
theorem d_Life_run_31 : decode prog_6_method_2_code 31 = .ok (.getfield 37, 3) := by decide +kernel
theorem d_Life_run_34 : decode prog_6_method_2_code 34 = .ok (.istore_n 3, 1) := by decide +kernel
theorem d_Life_run_35 : decode prog_6_method_2_code 35 = .ok (.aload_n 1, 1) := by decide +kernel
theorem d_Life_run_36 : decode prog_6_method_2_code 36 = .ok (.getfield 42, 3) := by decide +kernel
theorem d_Life_run_39 : decode prog_6_method_2_code 39 = .ok (.istore 4, 2) := by decide +kernel
theorem d_Life_run_41 : decode prog_6_method_2_code 41 = .ok (.aload_n 1, 1) := by decide +kernel
theorem d_Life_run_42 : decode prog_6_method_2_code 42 = .ok (.invokevirtual 45, 3) := by decide +kernel
theorem d_Life_run_45 : decode prog_6_method_2_code 45 = .ok (.istore 5, 2) := by decide +kernel
theorem d_Life_run_47 : decode prog_6_method_2_code 47 = .ok (.iconst 0, 1) := by decide +kernel
theorem d_Life_run_48 : decode prog_6_method_2_code 48 = .ok (.istore 6, 2) := by decide +kernel
theorem d_Life_run_50 : decode prog_6_method_2_code 50 = .ok (.iload 6, 2) := by decide +kernel
theorem d_Life_run_52 : decode prog_6_method_2_code 52 = .ok (.ldc 49, 2) := by decide +kernel
theorem d_Life_run_54 : decode prog_6_method_2_code 54 = .ok (.if_icmp .ge 102, 3) := by decide +kernel
theorem d_Life_run_57 : decode prog_6_method_2_code 57 = .ok (.aload_n 0, 1) := by decide +kernel
theorem d_Life_run_58 : decode prog_6_method_2_code 58 = .ok (.getfield 34, 3) := by decide +kernel
theorem d_Life_run_61 : decode prog_6_method_2_code 61 = .ok (.ifCond .lt 95, 3) := by decide +kernel
theorem d_Life_run_64 : decode prog_6_method_2_code 64 = .ok (.aload_n 0, 1) := by decide +kernel
theorem d_Life_run_65 : decode prog_6_method_2_code 65 = .ok (.getfield 34, 3) := by decide +kernel
theorem d_Life_run_68 : decode prog_6_method_2_code 68 = .ok (.aload_n 1, 1) := by decide +kernel
theorem d_Life_run_69 : decode prog_6_method_2_code 69 = .ok (.getfield 50, 3) := by decide +kernel
theorem d_Life_run_72 : decode prog_6_method_2_code 72 = .ok (.getfield 54, 3) := by decide +kernel
theorem d_Life_run_75 : decode prog_6_method_2_code 75 = .ok (.if_icmp .ge 81, 3) := by decide +kernel
theorem d_Life_run_78 : decode prog_6_method_2_code 78 = .ok (.aload_n 1, 1) := by decide +kernel
theorem d_Life_run_79 : decode prog_6_method_2_code 79 = .ok (.getfield 50, 3) := by decide +kernel
theorem d_Life_run_82 : decode prog_6_method_2_code 82 = .ok (.getfield 57, 3) := by decide +kernel
theorem d_Life_run_85 : decode prog_6_method_2_code 85 = .ok (.aload_n 0, 1) := by decide +kernel
theorem d_Life_run_86 : decode prog_6_method_2_code 86 = .ok (.getfield 34, 3) := by decide +kernel
theorem d_Life_run_89 : decode prog_6_method_2_code 89 = .ok (.iaload, 1) := by decide +kernel
theorem d_Life_run_90 : decode prog_6_method_2_code 90 = .ok (.bipush 19, 2) := by decide +kernel
theorem d_Life_run_92 : decode prog_6_method_2_code 92 = .ok (.if_icmp .ne 14, 3) := by decide +kernel
theorem d_Life_run_95 : decode prog_6_method_2_code 95 = .ok (.aload_n 0, 1) := by decide +kernel
theorem d_Life_run_96 : decode prog_6_method_2_code 96 = .ok (.aload_n 1, 1) := by decide +kernel
theorem d_Life_run_97 : decode prog_6_method_2_code 97 = .ok (.getfield 50, 3) := by decide +kernel
theorem d_Life_run_100 : decode prog_6_method_2_code 100 = .ok (.invokevirtual 62, 3) := by decide +kernel
theorem d_Life_run_103 : decode prog_6_method_2_code 103 = .ok (.goto 47, 3) := by decide +kernel
theorem d_Life_run_106 : decode prog_6_method_2_code 106 = .ok (.aload_n 0, 1) := by decide +kernel
theorem d_Life_run_107 : decode prog_6_method_2_code 107 = .ok (.getfield 21, 3) := by decide +kernel
theorem d_Life_run_110 : decode prog_6_method_2_code 110 = .ok (.sipush 300, 3) := by decide +kernel
theorem d_Life_run_113 : decode prog_6_method_2_code 113 = .ok (.if_icmp .lt 22, 3) := by decide +kernel
theorem d_Life_run_116 : decode prog_6_method_2_code 116 = .ok (.aload_n 0, 1) := by decide +kernel
theorem d_Life_run_117 : decode prog_6_method_2_code 117 = .ok (.iconst 1, 1) := by decide +kernel
theorem d_Life_run_118 : decode prog_6_method_2_code 118 = .ok (.putfield 28, 3) := by decide +kernel
theorem d_Life_run_121 : decode prog_6_method_2_code 121 = .ok (.aload_n 0, 1) := by decide +kernel
theorem d_Life_run_122 : decode prog_6_method_2_code 122 = .ok (.aload_n 1, 1) := by decide +kernel
theorem d_Life_run_123 : decode prog_6_method_2_code 123 = .ok (.getfield 50, 3) := by decide +kernel
theorem d_Life_run_126 : decode prog_6_method_2_code 126 = .ok (.getfield 54, 3) := by decide +kernel
theorem d_Life_run_129 : decode prog_6_method_2_code 129 = .ok (.putfield 34, 3) := by decide +kernel
theorem d_Life_run_132 : decode prog_6_method_2_code 132 = .ok (.goto 18, 3) := by decide +kernel
theorem d_Life_run_135 : decode prog_6_method_2_code 135 = .ok (.aload_n 0, 1) := by decide +kernel
theorem d_Life_run_136 : decode prog_6_method_2_code 136 = .ok (.dup, 1) := by decide +kernel
theorem d_Life_run_137 : decode prog_6_method_2_code 137 = .ok (.getfield 21, 3) := by decide +kernel
theorem d_Life_run_140 : decode prog_6_method_2_code 140 = .ok (.iconst 1, 1) := by decide +kernel
theorem d_Life_run_141 : decode prog_6_method_2_code 141 = .ok (.iadd, 1) := by decide +kernel
theorem d_Life_run_142 : decode prog_6_method_2_code 142 = .ok (.putfield 21, 3) := by decide +kernel
theorem d_Life_run_145 : decode prog_6_method_2_code 145 = .ok (.aload_n 0, 1) := by decide +kernel
theorem d_Life_run_146 : decode prog_6_method_2_code 146 = .ok (.aload_n 1, 1) := by decide +kernel
theorem d_Life_run_147 : decode prog_6_method_2_code 147 = .ok (.invokevirtual 66, 3) := by decide +kernel
theorem d_Life_run_150 : decode prog_6_method_2_code 150 = .ok (.iinc 6 1, 3) := by decide +kernel
theorem d_Life_run_153 : decode prog_6_method_2_code 153 = .ok (.goto (-103), 3) := by decide +kernel
theorem d_Life_run_156 : decode prog_6_method_2_code 156 = .ok (.aload_n 0, 1) := by decide +kernel
theorem d_Life_run_157 : decode prog_6_method_2_code 157 = .ok (.aload_n 1, 1) := by decide +kernel
theorem d_Life_run_158 : decode prog_6_method_2_code 158 = .ok (.getfield 37, 3) := by decide +kernel
theorem d_Life_run_161 : decode prog_6_method_2_code 161 = .ok (.iload_n 3, 1) := by decide +kernel
theorem d_Life_run_162 : decode prog_6_method_2_code 162 = .ok (.isub, 1) := by decide +kernel
theorem d_Life_run_163 : decode prog_6_method_2_code 163 = .ok (.putfield 70, 3) := by decide +kernel
theorem d_Life_run_166 : decode prog_6_method_2_code 166 = .ok (.aload_n 0, 1) := by decide +kernel
theorem d_Life_run_167 : decode prog_6_method_2_code 167 = .ok (.aload_n 1, 1) := by decide +kernel
theorem d_Life_run_168 : decode prog_6_method_2_code 168 = .ok (.getfield 42, 3) := by decide +kernel
theorem d_Life_run_171 : decode prog_6_method_2_code 171 = .ok (.iload 4, 2) := by decide +kernel
theorem d_Life_run_173 : decode prog_6_method_2_code 173 = .ok (.iconst (-1), 1) := by decide +kernel
theorem d_Life_run_174 : decode prog_6_method_2_code 174 = .ok (.ixor, 1) := by decide +kernel
theorem d_Life_run_175 : decode prog_6_method_2_code 175 = .ok (.iand, 1) := by decide +kernel
theorem d_Life_run_176 : decode prog_6_method_2_code 176 = .ok (.invokestatic 71, 3) := by decide +kernel
theorem d_Life_run_179 : decode prog_6_method_2_code 179 = .ok (.putfield 77, 3) := by decide +kernel
theorem d_Life_run_182 : decode prog_6_method_2_code 182 = .ok (.aload_n 0, 1) := by decide +kernel
theorem d_Life_run_183 : decode prog_6_method_2_code 183 = .ok (.aload_n 1, 1) := by decide +kernel
theorem d_Life_run_184 : decode prog_6_method_2_code 184 = .ok (.invokevirtual 45, 3) := by decide +kernel
theorem d_Life_run_187 : decode prog_6_method_2_code 187 = .ok (.iload 5, 2) := by decide +kernel
theorem d_Life_run_189 : decode prog_6_method_2_code 189 = .ok (.isub, 1) := by decide +kernel
theorem d_Life_run_190 : decode prog_6_method_2_code 190 = .ok (.putfield 78, 3) := by decide +kernel
theorem d_Life_run_193 : decode prog_6_method_2_code 193 = .ok (.return_, 1) := by decide +kernel
theorem d_Life_doEnd_0 : decode prog_6_method_3_code 0 = .ok (.aload_n 1, 1) := by decide +kernel
theorem d_Life_doEnd_1 : decode prog_6_method_3_code 1 = .ok (.getfield 81, 3) := by decide +kernel
theorem d_Life_doEnd_4 : decode prog_6_method_3_code 4 = .ok (.aload_n 0, 1) := by decide +kernel
theorem d_Life_doEnd_5 : decode prog_6_method_3_code 5 = .ok (.getfield 34, 3) := by decide +kernel
theorem d_Life_doEnd_8 : decode prog_6_method_3_code 8 = .ok (.iaload, 1) := by decide +kernel
theorem d_Life_doEnd_9 : decode prog_6_method_3_code 9 = .ok (.istore_n 2, 1) := by decide +kernel
theorem d_Life_doEnd_10 : decode prog_6_method_3_code 10 = .ok (.aload_n 1, 1) := by decide +kernel
theorem d_Life_doEnd_11 : decode prog_6_method_3_code 11 = .ok (.getfield 57, 3) := by decide +kernel
theorem d_Life_doEnd_14 : decode prog_6_method_3_code 14 = .ok (.iload_n 2, 1) := by decide +kernel
theorem d_Life_doEnd_15 : decode prog_6_method_3_code 15 = .ok (.iaload, 1) := by decide +kernel
theorem d_Life_doEnd_16 : decode prog_6_method_3_code 16 = .ok (.bipush 18, 2) := by decide +kernel
theorem d_Life_doEnd_18 : decode prog_6_method_3_code 18 = .ok (.if_icmp .ne 27, 3) := by decide +kernel
theorem d_Life_doEnd_21 : decode prog_6_method_3_code 21 = .ok (.aload_n 0, 1) := by decide +kernel
theorem d_Life_doEnd_22 : decode prog_6_method_3_code 22 = .ok (.getfield 11, 3) := by decide +kernel
theorem d_Life_doEnd_25 : decode prog_6_method_3_code 25 = .ok (.iload_n 2, 1) := by decide +kernel
theorem d_Life_doEnd_26 : decode prog_6_method_3_code 26 = .ok (.dup2, 1) := by decide +kernel
theorem d_Life_doEnd_27 : decode prog_6_method_3_code 27 = .ok (.iaload, 1) := by decide +kernel
theorem d_Life_doEnd_28 : decode prog_6_method_3_code 28 = .ok (.iconst 1, 1) := by decide +kernel
theorem d_Life_doEnd_29 : decode prog_6_method_3_code 29 = .ok (.isub, 1) := by decide +kernel
theorem d_Life_doEnd_30 : decode prog_6_method_3_code 30 = .ok (.iastore, 1) := by decide +kernel
theorem d_Life_doEnd_31 : decode prog_6_method_3_code 31 = .ok (.aload_n 0, 1) := by decide +kernel
theorem d_Life_doEnd_32 : decode prog_6_method_3_code 32 = .ok (.getfield 11, 3) := by decide +kernel
theorem d_Life_doEnd_35 : decode prog_6_method_3_code 35 = .ok (.iload_n 2, 1) := by decide +kernel
theorem d_Life_doEnd_36 : decode prog_6_method_3_code 36 = .ok (.iaload, 1) := by decide +kernel
theorem d_Life_doEnd_37 : decode prog_6_method_3_code 37 = .ok (.ifCond .le 8, 3) := by decide +kernel
theorem d_Life_doEnd_40 : decode prog_6_method_3_code 40 = .ok (.aload_n 0, 1) := by decide +kernel
theorem d_Life_doEnd_41 : decode prog_6_method_3_code 41 = .ok (.iload_n 2, 1) := by decide +kernel
theorem d_Life_doEnd_42 : decode prog_6_method_3_code 42 = .ok (.putfield 34, 3) := by decide +kernel
theorem d_Life_doEnd_45 : decode prog_6_method_3_code 45 = .ok (.aload_n 0, 1) := by decide +kernel
theorem d_Life_doEnd_46 : decode prog_6_method_3_code 46 = .ok (.dup, 1) := by decide +kernel
theorem d_Life_doEnd_47 : decode prog_6_method_3_code 47 = .ok (.getfield 34, 3) := by decide +kernel
theorem d_Life_doEnd_50 : decode prog_6_method_3_code 50 = .ok (.iconst 1, 1) := by decide +kernel
theorem d_Life_doEnd_51 : decode prog_6_method_3_code 51 = .ok (.iadd, 1) := by decide +kernel
theorem d_Life_doEnd_52 : decode prog_6_method_3_code 52 = .ok (.putfield 34, 3) := by decide +kernel
theorem d_Life_doEnd_55 : decode prog_6_method_3_code 55 = .ok (.return_, 1) := by decide +kernel
theorem d_Life_doStep_0 : decode prog_6_method_4_code 0 = .ok (.aload_n 1, 1) := by decide +kernel
theorem d_Life_doStep_1 : decode prog_6_method_4_code 1 = .ok (.getfield 50, 3) := by decide +kernel
theorem d_Life_doStep_4 : decode prog_6_method_4_code 4 = .ok (.astore_n 2, 1) := by decide +kernel
theorem d_Life_doStep_5 : decode prog_6_method_4_code 5 = .ok (.aload_n 2, 1) := by decide +kernel
theorem d_Life_doStep_6 : decode prog_6_method_4_code 6 = .ok (.getfield 84, 3) := by decide +kernel
theorem d_Life_doStep_9 : decode prog_6_method_4_code 9 = .ok (.aload_n 0, 1) := by decide +kernel
theorem d_Life_doStep_10 : decode prog_6_method_4_code 10 = .ok (.getfield 34, 3) := by decide +kernel
theorem d_Life_doStep_13 : decode prog_6_method_4_code 13 = .ok (.iaload, 1) := by decide +kernel
theorem d_Life_doStep_14 : decode prog_6_method_4_code 14 = .ok (.istore_n 3, 1) := by decide +kernel
theorem d_Life_doStep_15 : decode prog_6_method_4_code 15 = .ok (.aload_n 2, 1) := by decide +kernel
theorem d_Life_doStep_16 : decode prog_6_method_4_code 16 = .ok (.getfield 87, 3) := by decide +kernel
theorem d_Life_doStep_19 : decode prog_6_method_4_code 19 = .ok (.aload_n 0, 1) := by decide +kernel
theorem d_Life_doStep_20 : decode prog_6_method_4_code 20 = .ok (.getfield 34, 3) := by decide +kernel
theorem d_Life_doStep_23 : decode prog_6_method_4_code 23 = .ok (.iaload, 1) := by decide +kernel
theorem d_Life_doStep_24 : decode prog_6_method_4_code 24 = .ok (.istore 4, 2) := by decide +kernel
theorem d_Life_doStep_26 : decode prog_6_method_4_code 26 = .ok (.aload_n 2, 1) := by decide +kernel
theorem d_Life_doStep_27 : decode prog_6_method_4_code 27 = .ok (.getfield 57, 3) := by decide +kernel
theorem d_Life_doStep_30 : decode prog_6_method_4_code 30 = .ok (.aload_n 0, 1) := by decide +kernel
theorem d_Life_doStep_31 : decode prog_6_method_4_code 31 = .ok (.getfield 34, 3) := by decide +kernel
theorem d_Life_doStep_34 : decode prog_6_method_4_code 34 = .ok (.iaload, 1) := by decide +kernel
theorem d_Life_doStep_35 : decode prog_6_method_4_code 35 = .ok (.tableswitch 133 10 20 #[57, 68, 77, 89, 101, 133, 133, 133, 120, 133, 109], 57) := by decide +kernel
theorem d_Life_doStep_92 : decode prog_6_method_4_code 92 = .ok (.aload_n 0, 1) := by decide +kernel
theorem d_Life_doStep_93 : decode prog_6_method_4_code 93 = .ok (.aload_n 1, 1) := by decide +kernel
theorem d_Life_doStep_94 : decode prog_6_method_4_code 94 = .ok (.iload_n 3, 1) := by decide +kernel
theorem d_Life_doStep_95 : decode prog_6_method_4_code 95 = .ok (.iload 4, 2) := by decide +kernel
theorem d_Life_doStep_97 : decode prog_6_method_4_code 97 = .ok (.invokevirtual 90, 3) := by decide +kernel
theorem d_Life_doStep_100 : decode prog_6_method_4_code 100 = .ok (.goto 100, 3) := by decide +kernel
theorem d_Life_doStep_103 : decode prog_6_method_4_code 103 = .ok (.aload_n 0, 1) := by decide +kernel
theorem d_Life_doStep_104 : decode prog_6_method_4_code 104 = .ok (.aload_n 1, 1) := by decide +kernel
theorem d_Life_doStep_105 : decode prog_6_method_4_code 105 = .ok (.iload_n 3, 1) := by decide +kernel
theorem d_Life_doStep_106 : decode prog_6_method_4_code 106 = .ok (.invokevirtual 94, 3) := by decide +kernel
theorem d_Life_doStep_109 : decode prog_6_method_4_code 109 = .ok (.goto 91, 3) := by decide +kernel
theorem d_Life_doStep_112 : decode prog_6_method_4_code 112 = .ok (.aload_n 0, 1) := by decide +kernel
theorem d_Life_doStep_113 : decode prog_6_method_4_code 113 = .ok (.aload_n 1, 1) := by decide +kernel
theorem d_Life_doStep_114 : decode prog_6_method_4_code 114 = .ok (.iload_n 3, 1) := by decide +kernel
theorem d_Life_doStep_115 : decode prog_6_method_4_code 115 = .ok (.iload 4, 2) := by decide +kernel
theorem d_Life_doStep_117 : decode prog_6_method_4_code 117 = .ok (.iconst 1, 1) := by decide +kernel
theorem d_Life_doStep_118 : decode prog_6_method_4_code 118 = .ok (.invokevirtual 98, 3) := by decide +kernel
theorem d_Life_doStep_121 : decode prog_6_method_4_code 121 = .ok (.goto 79, 3) := by decide +kernel
theorem d_Life_doStep_124 : decode prog_6_method_4_code 124 = .ok (.aload_n 0, 1) := by decide +kernel
theorem d_Life_doStep_125 : decode prog_6_method_4_code 125 = .ok (.aload_n 1, 1) := by decide +kernel
theorem d_Life_doStep_126 : decode prog_6_method_4_code 126 = .ok (.iload_n 3, 1) := by decide +kernel
theorem d_Life_doStep_127 : decode prog_6_method_4_code 127 = .ok (.iload 4, 2) := by decide +kernel
theorem d_Life_doStep_129 : decode prog_6_method_4_code 129 = .ok (.iconst 0, 1) := by decide +kernel
theorem d_Life_doStep_130 : decode prog_6_method_4_code 130 = .ok (.invokevirtual 98, 3) := by decide +kernel
theorem d_Life_doStep_133 : decode prog_6_method_4_code 133 = .ok (.goto 67, 3) := by decide +kernel
theorem d_Life_doStep_136 : decode prog_6_method_4_code 136 = .ok (.aload_n 0, 1) := by decide +kernel
theorem d_Life_doStep_137 : decode prog_6_method_4_code 137 = .ok (.aload_n 1, 1) := by decide +kernel
theorem d_Life_doStep_138 : decode prog_6_method_4_code 138 = .ok (.invokevirtual 102, 3) := by decide +kernel
theorem d_Life_doStep_141 : decode prog_6_method_4_code 141 = .ok (.goto 59, 3) := by decide +kernel
theorem d_Life_doStep_144 : decode prog_6_method_4_code 144 = .ok (.aload_n 0, 1) := by decide +kernel
theorem d_Life_doStep_145 : decode prog_6_method_4_code 145 = .ok (.aload_n 2, 1) := by decide +kernel
theorem d_Life_doStep_146 : decode prog_6_method_4_code 146 = .ok (.getfield 54, 3) := by decide +kernel
theorem d_Life_doStep_149 : decode prog_6_method_4_code 149 = .ok (.putfield 34, 3) := by decide +kernel
theorem d_Life_doStep_152 : decode prog_6_method_4_code 152 = .ok (.goto 48, 3) := by decide +kernel
theorem d_Life_doStep_155 : decode prog_6_method_4_code 155 = .ok (.aload_n 0, 1) := by decide +kernel
theorem d_Life_doStep_156 : decode prog_6_method_4_code 156 = .ok (.getfield 11, 3) := by decide +kernel
theorem d_Life_doStep_159 : decode prog_6_method_4_code 159 = .ok (.aload_n 0, 1) := by decide +kernel
theorem d_Life_doStep_160 : decode prog_6_method_4_code 160 = .ok (.getfield 34, 3) := by decide +kernel
theorem d_Life_doStep_163 : decode prog_6_method_4_code 163 = .ok (.iload_n 3, 1) := by decide +kernel
theorem d_Life_doStep_164 : decode prog_6_method_4_code 164 = .ok (.iastore, 1) := by decide +kernel
theorem d_Life_doStep_165 : decode prog_6_method_4_code 165 = .ok (.goto 35, 3) := by decide +kernel
theorem d_Life_doStep_168 : decode prog_6_method_4_code 168 = .ok (.aload_n 1, 1) := by decide +kernel
theorem d_Life_doStep_169 : decode prog_6_method_4_code 169 = .ok (.aload_n 2, 1) := by decide +kernel
theorem d_Life_doStep_170 : decode prog_6_method_4_code 170 = .ok (.getfield 57, 3) := by decide +kernel
theorem d_Life_doStep_173 : decode prog_6_method_4_code 173 = .ok (.aload_n 0, 1) := by decide +kernel
theorem d_Life_doStep_174 : decode prog_6_method_4_code 174 = .ok (.getfield 34, 3) := by decide +kernel
theorem d_Life_doStep_177 : decode prog_6_method_4_code 177 = .ok (.iaload, 1) := by decide +kernel
theorem d_Life_doStep_178 : decode prog_6_method_4_code 178 = .ok (.iload_n 3, 1) := by decide +kernel
theorem d_Life_doStep_179 : decode prog_6_method_4_code 179 = .ok (.iload 4, 2) := by decide +kernel
theorem d_Life_doStep_181 : decode prog_6_method_4_code 181 = .ok (.invokestatic 105, 3) := by decide +kernel
theorem d_Life_doStep_184 : decode prog_6_method_4_code 184 = .ok (.ifCond .ne 16, 3) := by decide +kernel
theorem d_Life_doStep_187 : decode prog_6_method_4_code 187 = .ok (.aload_n 0, 1) := by decide +kernel
theorem d_Life_doStep_188 : decode prog_6_method_4_code 188 = .ok (.aload_n 2, 1) := by decide +kernel
theorem d_Life_doStep_189 : decode prog_6_method_4_code 189 = .ok (.getfield 81, 3) := by decide +kernel
theorem d_Life_doStep_192 : decode prog_6_method_4_code 192 = .ok (.aload_n 0, 1) := by decide +kernel
theorem d_Life_doStep_193 : decode prog_6_method_4_code 193 = .ok (.getfield 34, 3) := by decide +kernel
theorem d_Life_doStep_196 : decode prog_6_method_4_code 196 = .ok (.iaload, 1) := by decide +kernel
theorem d_Life_doStep_197 : decode prog_6_method_4_code 197 = .ok (.putfield 34, 3) := by decide +kernel
theorem d_Life_doStep_200 : decode prog_6_method_4_code 200 = .ok (.aload_n 0, 1) := by decide +kernel
theorem d_Life_doStep_201 : decode prog_6_method_4_code 201 = .ok (.dup, 1) := by decide +kernel
theorem d_Life_doStep_202 : decode prog_6_method_4_code 202 = .ok (.getfield 34, 3) := by decide +kernel
theorem d_Life_doStep_205 : decode prog_6_method_4_code 205 = .ok (.iconst 1, 1) := by decide +kernel
theorem d_Life_doStep_206 : decode prog_6_method_4_code 206 = .ok (.iadd, 1) := by decide +kernel
theorem d_Life_doStep_207 : decode prog_6_method_4_code 207 = .ok (.putfield 34, 3) := by decide +kernel
theorem d_Life_doStep_210 : decode prog_6_method_4_code 210 = .ok (.return_, 1) := by decide +kernel
theorem d_Life_doPass_0 : decode prog_6_method_5_code 0 = .ok (.aload_n 1, 1) := by decide +kernel
theorem d_Life_doPass_1 : decode prog_6_method_5_code 1 = .ok (.iload_n 2, 1) := by decide +kernel
theorem d_Life_doPass_2 : decode prog_6_method_5_code 2 = .ok (.iload_n 3, 1) := by decide +kernel
theorem d_Life_doPass_3 : decode prog_6_method_5_code 3 = .ok (.invokevirtual 109, 3) := by decide +kernel
theorem d_Life_doPass_6 : decode prog_6_method_5_code 6 = .ok (.ifCond .eq 12, 3) := by decide +kernel
theorem d_Life_doPass_9 : decode prog_6_method_5_code 9 = .ok (.aload_n 1, 1) := by decide +kernel
theorem d_Life_doPass_10 : decode prog_6_method_5_code 10 = .ok (.iload_n 2, 1) := by decide +kernel
theorem d_Life_doPass_11 : decode prog_6_method_5_code 11 = .ok (.iload_n 3, 1) := by decide +kernel
theorem d_Life_doPass_12 : decode prog_6_method_5_code 12 = .ok (.invokevirtual 113, 3) := by decide +kernel
theorem d_Life_doPass_15 : decode prog_6_method_5_code 15 = .ok (.goto 13, 3) := by decide +kernel
theorem d_Life_doPass_18 : decode prog_6_method_5_code 18 = .ok (.aload_n 0, 1) := by decide +kernel
theorem d_Life_doPass_19 : decode prog_6_method_5_code 19 = .ok (.dup, 1) := by decide +kernel
theorem d_Life_doPass_20 : decode prog_6_method_5_code 20 = .ok (.getfield 25, 3) := by decide +kernel
theorem d_Life_doPass_23 : decode prog_6_method_5_code 23 = .ok (.iconst 1, 1) := by decide +kernel
theorem d_Life_doPass_24 : decode prog_6_method_5_code 24 = .ok (.iadd, 1) := by decide +kernel
theorem d_Life_doPass_25 : decode prog_6_method_5_code 25 = .ok (.putfield 25, 3) := by decide +kernel
theorem d_Life_doPass_28 : decode prog_6_method_5_code 28 = .ok (.return_, 1) := by decide +kernel
theorem d_Life_doBite_0 : decode prog_6_method_6_code 0 = .ok (.aload_n 1, 1) := by decide +kernel
theorem d_Life_doBite_1 : decode prog_6_method_6_code 1 = .ok (.iload_n 2, 1) := by decide +kernel
theorem d_Life_doBite_2 : decode prog_6_method_6_code 2 = .ok (.invokevirtual 117, 3) := by decide +kernel
theorem d_Life_doBite_5 : decode prog_6_method_6_code 5 = .ok (.ifCond .ne 32, 3) := by decide +kernel
theorem d_Life_doBite_8 : decode prog_6_method_6_code 8 = .ok (.aload_n 1, 1) := by decide +kernel
theorem d_Life_doBite_9 : decode prog_6_method_6_code 9 = .ok (.iload_n 2, 1) := by decide +kernel
theorem d_Life_doBite_10 : decode prog_6_method_6_code 10 = .ok (.invokevirtual 121, 3) := by decide +kernel
theorem d_Life_doBite_13 : decode prog_6_method_6_code 13 = .ok (.ifCond .eq 24, 3) := by decide +kernel
theorem d_Life_doBite_16 : decode prog_6_method_6_code 16 = .ok (.aload_n 0, 1) := by decide +kernel
theorem d_Life_doBite_17 : decode prog_6_method_6_code 17 = .ok (.bipush 16, 2) := by decide +kernel
theorem d_Life_doBite_19 : decode prog_6_method_6_code 19 = .ok (.invokevirtual 124, 3) := by decide +kernel
theorem d_Life_doBite_22 : decode prog_6_method_6_code 22 = .ok (.aload_n 1, 1) := by decide +kernel
theorem d_Life_doBite_23 : decode prog_6_method_6_code 23 = .ok (.getfield 127, 3) := by decide +kernel
theorem d_Life_doBite_26 : decode prog_6_method_6_code 26 = .ok (.if_icmp .ge 11, 3) := by decide +kernel
theorem d_Life_doBite_29 : decode prog_6_method_6_code 29 = .ok (.aload_n 1, 1) := by decide +kernel
theorem d_Life_doBite_30 : decode prog_6_method_6_code 30 = .ok (.iload_n 2, 1) := by decide +kernel
theorem d_Life_doBite_31 : decode prog_6_method_6_code 31 = .ok (.invokevirtual 130, 3) := by decide +kernel
theorem d_Life_doBite_34 : decode prog_6_method_6_code 34 = .ok (.goto 13, 3) := by decide +kernel
theorem d_Life_doBite_37 : decode prog_6_method_6_code 37 = .ok (.aload_n 0, 1) := by decide +kernel
theorem d_Life_doBite_38 : decode prog_6_method_6_code 38 = .ok (.dup, 1) := by decide +kernel
theorem d_Life_doBite_39 : decode prog_6_method_6_code 39 = .ok (.getfield 25, 3) := by decide +kernel
theorem d_Life_doBite_42 : decode prog_6_method_6_code 42 = .ok (.iconst 1, 1) := by decide +kernel
theorem d_Life_doBite_43 : decode prog_6_method_6_code 43 = .ok (.iadd, 1) := by decide +kernel
theorem d_Life_doBite_44 : decode prog_6_method_6_code 44 = .ok (.putfield 25, 3) := by decide +kernel
theorem d_Life_doBite_47 : decode prog_6_method_6_code 47 = .ok (.return_, 1) := by decide +kernel
theorem d_Life_draw_0 : decode prog_6_method_10_code 0 = .ok (.aload_n 0, 1) := by decide +kernel
theorem d_Life_draw_1 : decode prog_6_method_10_code 1 = .ok (.aload_n 0, 1) := by decide +kernel
theorem d_Life_draw_2 : decode prog_6_method_10_code 2 = .ok (.getfield 31, 3) := by decide +kernel
theorem d_Life_draw_5 : decode prog_6_method_10_code 5 = .ok (.sipush 2971, 3) := by decide +kernel
theorem d_Life_draw_8 : decode prog_6_method_10_code 8 = .ok (.imul, 1) := by decide +kernel
theorem d_Life_draw_9 : decode prog_6_method_10_code 9 = .ok (.sipush 10891, 3) := by decide +kernel
theorem d_Life_draw_12 : decode prog_6_method_10_code 12 = .ok (.iadd, 1) := by decide +kernel
theorem d_Life_draw_13 : decode prog_6_method_10_code 13 = .ok (.ldc 152, 2) := by decide +kernel
theorem d_Life_draw_15 : decode prog_6_method_10_code 15 = .ok (.irem, 1) := by decide +kernel
theorem d_Life_draw_16 : decode prog_6_method_10_code 16 = .ok (.putfield 31, 3) := by decide +kernel
theorem d_Life_draw_19 : decode prog_6_method_10_code 19 = .ok (.aload_n 0, 1) := by decide +kernel
theorem d_Life_draw_20 : decode prog_6_method_10_code 20 = .ok (.getfield 31, 3) := by decide +kernel
theorem d_Life_draw_23 : decode prog_6_method_10_code 23 = .ok (.bipush 8, 2) := by decide +kernel
theorem d_Life_draw_25 : decode prog_6_method_10_code 25 = .ok (.idiv, 1) := by decide +kernel
theorem d_Life_draw_26 : decode prog_6_method_10_code 26 = .ok (.iload_n 1, 1) := by decide +kernel
theorem d_Life_draw_27 : decode prog_6_method_10_code 27 = .ok (.iconst 1, 1) := by decide +kernel
theorem d_Life_draw_28 : decode prog_6_method_10_code 28 = .ok (.invokestatic 153, 3) := by decide +kernel
theorem d_Life_draw_31 : decode prog_6_method_10_code 31 = .ok (.irem, 1) := by decide +kernel
theorem d_Life_draw_32 : decode prog_6_method_10_code 32 = .ok (.ireturn, 1) := by decide +kernel
theorem d_Life_doTurn_0 : decode prog_6_method_7_code 0 = .ok (.aload_n 1, 1) := by decide +kernel
theorem d_Life_doTurn_1 : decode prog_6_method_7_code 1 = .ok (.iload_n 2, 1) := by decide +kernel
theorem d_Life_doTurn_2 : decode prog_6_method_7_code 2 = .ok (.iload_n 3, 1) := by decide +kernel
theorem d_Life_doTurn_3 : decode prog_6_method_7_code 3 = .ok (.invokevirtual 134, 3) := by decide +kernel
theorem d_Life_doTurn_6 : decode prog_6_method_7_code 6 = .ok (.iload 4, 2) := by decide +kernel
theorem d_Life_doTurn_8 : decode prog_6_method_7_code 8 = .ok (.if_icmp .ne 16, 3) := by decide +kernel
theorem d_Life_doTurn_11 : decode prog_6_method_7_code 11 = .ok (.aload_n 0, 1) := by decide +kernel
theorem d_Life_doTurn_12 : decode prog_6_method_7_code 12 = .ok (.dup, 1) := by decide +kernel
theorem d_Life_doTurn_13 : decode prog_6_method_7_code 13 = .ok (.getfield 25, 3) := by decide +kernel
theorem d_Life_doTurn_16 : decode prog_6_method_7_code 16 = .ok (.iconst 1, 1) := by decide +kernel
theorem d_Life_doTurn_17 : decode prog_6_method_7_code 17 = .ok (.iadd, 1) := by decide +kernel
theorem d_Life_doTurn_18 : decode prog_6_method_7_code 18 = .ok (.putfield 25, 3) := by decide +kernel
theorem d_Life_doTurn_21 : decode prog_6_method_7_code 21 = .ok (.goto 9, 3) := by decide +kernel
theorem d_Life_doTurn_24 : decode prog_6_method_7_code 24 = .ok (.aload_n 1, 1) := by decide +kernel
theorem d_Life_doTurn_25 : decode prog_6_method_7_code 25 = .ok (.iload_n 2, 1) := by decide +kernel
theorem d_Life_doTurn_26 : decode prog_6_method_7_code 26 = .ok (.iload_n 3, 1) := by decide +kernel
theorem d_Life_doTurn_27 : decode prog_6_method_7_code 27 = .ok (.invokevirtual 137, 3) := by decide +kernel
theorem d_Life_doTurn_30 : decode prog_6_method_7_code 30 = .ok (.return_, 1) := by decide +kernel
theorem d_Life_doAny_0 : decode prog_6_method_8_code 0 = .ok (.aload_n 1, 1) := by decide +kernel
theorem d_Life_doAny_1 : decode prog_6_method_8_code 1 = .ok (.getfield 140, 3) := by decide +kernel
theorem d_Life_doAny_4 : decode prog_6_method_8_code 4 = .ok (.iconst 1, 1) := by decide +kernel
theorem d_Life_doAny_5 : decode prog_6_method_8_code 5 = .ok (.if_icmp .lt 11, 3) := by decide +kernel
theorem d_Life_doAny_8 : decode prog_6_method_8_code 8 = .ok (.aload_n 1, 1) := by decide +kernel
theorem d_Life_doAny_9 : decode prog_6_method_8_code 9 = .ok (.getfield 143, 3) := by decide +kernel
theorem d_Life_doAny_12 : decode prog_6_method_8_code 12 = .ok (.iconst 1, 1) := by decide +kernel
theorem d_Life_doAny_13 : decode prog_6_method_8_code 13 = .ok (.if_icmp .ge 14, 3) := by decide +kernel
theorem d_Life_doAny_16 : decode prog_6_method_8_code 16 = .ok (.aload_n 0, 1) := by decide +kernel
theorem d_Life_doAny_17 : decode prog_6_method_8_code 17 = .ok (.dup, 1) := by decide +kernel
theorem d_Life_doAny_18 : decode prog_6_method_8_code 18 = .ok (.getfield 25, 3) := by decide +kernel
theorem d_Life_doAny_21 : decode prog_6_method_8_code 21 = .ok (.iconst 1, 1) := by decide +kernel
theorem d_Life_doAny_22 : decode prog_6_method_8_code 22 = .ok (.iadd, 1) := by decide +kernel
theorem d_Life_doAny_23 : decode prog_6_method_8_code 23 = .ok (.putfield 25, 3) := by decide +kernel
theorem d_Life_doAny_26 : decode prog_6_method_8_code 26 = .ok (.return_, 1) := by decide +kernel
theorem d_Life_doAny_27 : decode prog_6_method_8_code 27 = .ok (.aload_n 0, 1) := by decide +kernel
theorem d_Life_doAny_28 : decode prog_6_method_8_code 28 = .ok (.aload_n 1, 1) := by decide +kernel
theorem d_Life_doAny_29 : decode prog_6_method_8_code 29 = .ok (.getfield 140, 3) := by decide +kernel
theorem d_Life_doAny_32 : decode prog_6_method_8_code 32 = .ok (.invokevirtual 124, 3) := by decide +kernel
theorem d_Life_doAny_35 : decode prog_6_method_8_code 35 = .ok (.istore_n 2, 1) := by decide +kernel
theorem d_Life_doAny_36 : decode prog_6_method_8_code 36 = .ok (.aload_n 0, 1) := by decide +kernel
theorem d_Life_doAny_37 : decode prog_6_method_8_code 37 = .ok (.aload_n 1, 1) := by decide +kernel
theorem d_Life_doAny_38 : decode prog_6_method_8_code 38 = .ok (.getfield 143, 3) := by decide +kernel
theorem d_Life_doAny_41 : decode prog_6_method_8_code 41 = .ok (.invokevirtual 124, 3) := by decide +kernel
theorem d_Life_doAny_44 : decode prog_6_method_8_code 44 = .ok (.istore_n 3, 1) := by decide +kernel
theorem d_Life_doAny_45 : decode prog_6_method_8_code 45 = .ok (.aload_n 0, 1) := by decide +kernel
theorem d_Life_doAny_46 : decode prog_6_method_8_code 46 = .ok (.aload_n 1, 1) := by decide +kernel
theorem d_Life_doAny_47 : decode prog_6_method_8_code 47 = .ok (.iload_n 2, 1) := by decide +kernel
theorem d_Life_doAny_48 : decode prog_6_method_8_code 48 = .ok (.iload_n 3, 1) := by decide +kernel
theorem d_Life_doAny_49 : decode prog_6_method_8_code 49 = .ok (.invokevirtual 90, 3) := by decide +kernel
theorem d_Life_doAny_52 : decode prog_6_method_8_code 52 = .ok (.return_, 1) := by decide +kernel
theorem d_Life_holds_0 : decode prog_6_method_9_code 0 = .ok (.iload_n 1, 1) := by decide +kernel
theorem d_Life_holds_1 : decode prog_6_method_9_code 1 = .ok (.lookupswitch 97 #[(8, 43), (17, 59), (60, 65), (62, 81)], 43) := by decide +kernel
theorem d_Life_holds_44 : decode prog_6_method_9_code 44 = .ok (.aload_n 0, 1) := by decide +kernel
theorem d_Life_holds_45 : decode prog_6_method_9_code 45 = .ok (.getfield 146, 3) := by decide +kernel
theorem d_Life_holds_48 : decode prog_6_method_9_code 48 = .ok (.iload_n 2, 1) := by decide +kernel
theorem d_Life_holds_49 : decode prog_6_method_9_code 49 = .ok (.iaload, 1) := by decide +kernel
theorem d_Life_holds_50 : decode prog_6_method_9_code 50 = .ok (.iload_n 3, 1) := by decide +kernel
theorem d_Life_holds_51 : decode prog_6_method_9_code 51 = .ok (.if_icmp .ne 7, 3) := by decide +kernel
theorem d_Life_holds_54 : decode prog_6_method_9_code 54 = .ok (.iconst 1, 1) := by decide +kernel
theorem d_Life_holds_55 : decode prog_6_method_9_code 55 = .ok (.goto 4, 3) := by decide +kernel
theorem d_Life_holds_58 : decode prog_6_method_9_code 58 = .ok (.iconst 0, 1) := by decide +kernel
theorem d_Life_holds_59 : decode prog_6_method_9_code 59 = .ok (.ireturn, 1) := by decide +kernel
theorem d_Life_holds_60 : decode prog_6_method_9_code 60 = .ok (.aload_n 0, 1) := by decide +kernel
theorem d_Life_holds_61 : decode prog_6_method_9_code 61 = .ok (.iload_n 2, 1) := by decide +kernel
theorem d_Life_holds_62 : decode prog_6_method_9_code 62 = .ok (.invokevirtual 117, 3) := by decide +kernel
theorem d_Life_holds_65 : decode prog_6_method_9_code 65 = .ok (.ireturn, 1) := by decide +kernel
theorem d_Life_holds_66 : decode prog_6_method_9_code 66 = .ok (.aload_n 0, 1) := by decide +kernel
theorem d_Life_holds_67 : decode prog_6_method_9_code 67 = .ok (.getfield 149, 3) := by decide +kernel
theorem d_Life_holds_70 : decode prog_6_method_9_code 70 = .ok (.iload_n 2, 1) := by decide +kernel
theorem d_Life_holds_71 : decode prog_6_method_9_code 71 = .ok (.iaload, 1) := by decide +kernel
theorem d_Life_holds_72 : decode prog_6_method_9_code 72 = .ok (.iload_n 3, 1) := by decide +kernel
theorem d_Life_holds_73 : decode prog_6_method_9_code 73 = .ok (.if_icmp .ge 7, 3) := by decide +kernel
theorem d_Life_holds_76 : decode prog_6_method_9_code 76 = .ok (.iconst 1, 1) := by decide +kernel
theorem d_Life_holds_77 : decode prog_6_method_9_code 77 = .ok (.goto 4, 3) := by decide +kernel
theorem d_Life_holds_80 : decode prog_6_method_9_code 80 = .ok (.iconst 0, 1) := by decide +kernel
theorem d_Life_holds_81 : decode prog_6_method_9_code 81 = .ok (.ireturn, 1) := by decide +kernel
theorem d_Life_holds_82 : decode prog_6_method_9_code 82 = .ok (.aload_n 0, 1) := by decide +kernel
theorem d_Life_holds_83 : decode prog_6_method_9_code 83 = .ok (.getfield 149, 3) := by decide +kernel
theorem d_Life_holds_86 : decode prog_6_method_9_code 86 = .ok (.iload_n 2, 1) := by decide +kernel
theorem d_Life_holds_87 : decode prog_6_method_9_code 87 = .ok (.iaload, 1) := by decide +kernel
theorem d_Life_holds_88 : decode prog_6_method_9_code 88 = .ok (.iload_n 3, 1) := by decide +kernel
theorem d_Life_holds_89 : decode prog_6_method_9_code 89 = .ok (.if_icmp .le 7, 3) := by decide +kernel
theorem d_Life_holds_92 : decode prog_6_method_9_code 92 = .ok (.iconst 1, 1) := by decide +kernel
theorem d_Life_holds_93 : decode prog_6_method_9_code 93 = .ok (.goto 4, 3) := by decide +kernel
theorem d_Life_holds_96 : decode prog_6_method_9_code 96 = .ok (.iconst 0, 1) := by decide +kernel
theorem d_Life_holds_97 : decode prog_6_method_9_code 97 = .ok (.ireturn, 1) := by decide +kernel
theorem d_Life_holds_98 : decode prog_6_method_9_code 98 = .ok (.aload_n 0, 1) := by decide +kernel
theorem d_Life_holds_99 : decode prog_6_method_9_code 99 = .ok (.getfield 149, 3) := by decide +kernel
theorem d_Life_holds_102 : decode prog_6_method_9_code 102 = .ok (.iload_n 2, 1) := by decide +kernel
theorem d_Life_holds_103 : decode prog_6_method_9_code 103 = .ok (.iaload, 1) := by decide +kernel
theorem d_Life_holds_104 : decode prog_6_method_9_code 104 = .ok (.iload_n 3, 1) := by decide +kernel
theorem d_Life_holds_105 : decode prog_6_method_9_code 105 = .ok (.if_icmp .ne 7, 3) := by decide +kernel
theorem d_Life_holds_108 : decode prog_6_method_9_code 108 = .ok (.iconst 1, 1) := by decide +kernel
theorem d_Life_holds_109 : decode prog_6_method_9_code 109 = .ok (.goto 4, 3) := by decide +kernel
theorem d_Life_holds_112 : decode prog_6_method_9_code 112 = .ok (.iconst 0, 1) := by decide +kernel
theorem d_Life_holds_113 : decode prog_6_method_9_code 113 = .ok (.ireturn, 1) := by decide +kernel
