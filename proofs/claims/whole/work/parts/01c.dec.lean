/-! decode rows (printed by wip/tools/p09.py) -/
theorem d_Tf_new_0 : decode prog_1_method_1_code 0 = .ok (.aload_n 0, 1) := by decide +kernel
theorem d_Tf_new_1 : decode prog_1_method_1_code 1 = .ok (.invokespecial 1, 3) := by decide +kernel
theorem d_Tf_new_4 : decode prog_1_method_1_code 4 = .ok (.aload_n 0, 1) := by decide +kernel
theorem d_Tf_new_5 : decode prog_1_method_1_code 5 = .ok (.iconst 0, 1) := by decide +kernel
theorem d_Tf_new_6 : decode prog_1_method_1_code 6 = .ok (.putfield 7, 3) := by decide +kernel
theorem d_Tf_new_9 : decode prog_1_method_1_code 9 = .ok (.aload_n 0, 1) := by decide +kernel
theorem d_Tf_new_10 : decode prog_1_method_1_code 10 = .ok (.lconst 0, 1) := by decide +kernel
theorem d_Tf_new_11 : decode prog_1_method_1_code 11 = .ok (.putfield 13, 3) := by decide +kernel
theorem d_Tf_new_14 : decode prog_1_method_1_code 14 = .ok (.aload_n 0, 1) := by decide +kernel
theorem d_Tf_new_15 : decode prog_1_method_1_code 15 = .ok (.lconst 1, 1) := by decide +kernel
theorem d_Tf_new_16 : decode prog_1_method_1_code 16 = .ok (.putfield 17, 3) := by decide +kernel
theorem d_Tf_new_19 : decode prog_1_method_1_code 19 = .ok (.aload_n 0, 1) := by decide +kernel
theorem d_Tf_new_20 : decode prog_1_method_1_code 20 = .ok (.sipush 900, 3) := by decide +kernel
theorem d_Tf_new_23 : decode prog_1_method_1_code 23 = .ok (.newarray .byte, 2) := by decide +kernel
theorem d_Tf_new_25 : decode prog_1_method_1_code 25 = .ok (.putfield 20, 3) := by decide +kernel
theorem d_Tf_new_28 : decode prog_1_method_1_code 28 = .ok (.aload_n 0, 1) := by decide +kernel
theorem d_Tf_new_29 : decode prog_1_method_1_code 29 = .ok (.iconst 0, 1) := by decide +kernel
theorem d_Tf_new_30 : decode prog_1_method_1_code 30 = .ok (.putfield 24, 3) := by decide +kernel
theorem d_Tf_new_33 : decode prog_1_method_1_code 33 = .ok (.aload_n 0, 1) := by decide +kernel
theorem d_Tf_new_34 : decode prog_1_method_1_code 34 = .ok (.iconst 4, 1) := by decide +kernel
theorem d_Tf_new_35 : decode prog_1_method_1_code 35 = .ok (.anewarray 27, 3) := by decide +kernel
theorem d_Tf_new_38 : decode prog_1_method_1_code 38 = .ok (.putfield 29, 3) := by decide +kernel
theorem d_Tf_new_41 : decode prog_1_method_1_code 41 = .ok (.iconst 0, 1) := by decide +kernel
theorem d_Tf_new_42 : decode prog_1_method_1_code 42 = .ok (.istore_n 1, 1) := by decide +kernel
theorem d_Tf_new_43 : decode prog_1_method_1_code 43 = .ok (.iload_n 1, 1) := by decide +kernel
theorem d_Tf_new_44 : decode prog_1_method_1_code 44 = .ok (.iconst 4, 1) := by decide +kernel
theorem d_Tf_new_45 : decode prog_1_method_1_code 45 = .ok (.if_icmp .ge 22, 3) := by decide +kernel
theorem d_Tf_new_48 : decode prog_1_method_1_code 48 = .ok (.aload_n 0, 1) := by decide +kernel
theorem d_Tf_new_49 : decode prog_1_method_1_code 49 = .ok (.getfield 29, 3) := by decide +kernel
theorem d_Tf_new_52 : decode prog_1_method_1_code 52 = .ok (.iload_n 1, 1) := by decide +kernel
theorem d_Tf_new_53 : decode prog_1_method_1_code 53 = .ok (.new 27, 3) := by decide +kernel
theorem d_Tf_new_56 : decode prog_1_method_1_code 56 = .ok (.dup, 1) := by decide +kernel
theorem d_Tf_new_57 : decode prog_1_method_1_code 57 = .ok (.invokespecial 33, 3) := by decide +kernel
theorem d_Tf_new_60 : decode prog_1_method_1_code 60 = .ok (.aastore, 1) := by decide +kernel
theorem d_Tf_new_61 : decode prog_1_method_1_code 61 = .ok (.iinc 1 1, 3) := by decide +kernel
theorem d_Tf_new_64 : decode prog_1_method_1_code 64 = .ok (.goto (-21), 3) := by decide +kernel
theorem d_Tf_new_67 : decode prog_1_method_1_code 67 = .ok (.aload_n 0, 1) := by decide +kernel
theorem d_Tf_new_68 : decode prog_1_method_1_code 68 = .ok (.new 34, 3) := by decide +kernel
theorem d_Tf_new_71 : decode prog_1_method_1_code 71 = .ok (.dup, 1) := by decide +kernel
theorem d_Tf_new_72 : decode prog_1_method_1_code 72 = .ok (.invokespecial 36, 3) := by decide +kernel
theorem d_Tf_new_75 : decode prog_1_method_1_code 75 = .ok (.putfield 37, 3) := by decide +kernel
theorem d_Tf_new_78 : decode prog_1_method_1_code 78 = .ok (.aload_n 0, 1) := by decide +kernel
theorem d_Tf_new_79 : decode prog_1_method_1_code 79 = .ok (.new 41, 3) := by decide +kernel
theorem d_Tf_new_82 : decode prog_1_method_1_code 82 = .ok (.dup, 1) := by decide +kernel
theorem d_Tf_new_83 : decode prog_1_method_1_code 83 = .ok (.aload_n 0, 1) := by decide +kernel
theorem d_Tf_new_84 : decode prog_1_method_1_code 84 = .ok (.getfield 37, 3) := by decide +kernel
theorem d_Tf_new_87 : decode prog_1_method_1_code 87 = .ok (.invokespecial 43, 3) := by decide +kernel
theorem d_Tf_new_90 : decode prog_1_method_1_code 90 = .ok (.putfield 46, 3) := by decide +kernel
theorem d_Tf_new_93 : decode prog_1_method_1_code 93 = .ok (.aload_n 0, 1) := by decide +kernel
theorem d_Tf_new_94 : decode prog_1_method_1_code 94 = .ok (.new 50, 3) := by decide +kernel
theorem d_Tf_new_97 : decode prog_1_method_1_code 97 = .ok (.dup, 1) := by decide +kernel
theorem d_Tf_new_98 : decode prog_1_method_1_code 98 = .ok (.aload_n 0, 1) := by decide +kernel
theorem d_Tf_new_99 : decode prog_1_method_1_code 99 = .ok (.getfield 37, 3) := by decide +kernel
theorem d_Tf_new_102 : decode prog_1_method_1_code 102 = .ok (.invokespecial 52, 3) := by decide +kernel
theorem d_Tf_new_105 : decode prog_1_method_1_code 105 = .ok (.putfield 53, 3) := by decide +kernel
theorem d_Tf_new_108 : decode prog_1_method_1_code 108 = .ok (.aload_n 0, 1) := by decide +kernel
theorem d_Tf_new_109 : decode prog_1_method_1_code 109 = .ok (.new 57, 3) := by decide +kernel
theorem d_Tf_new_112 : decode prog_1_method_1_code 112 = .ok (.dup, 1) := by decide +kernel
theorem d_Tf_new_113 : decode prog_1_method_1_code 113 = .ok (.invokespecial 59, 3) := by decide +kernel
theorem d_Tf_new_116 : decode prog_1_method_1_code 116 = .ok (.putfield 60, 3) := by decide +kernel
theorem d_Tf_new_119 : decode prog_1_method_1_code 119 = .ok (.aload_n 0, 1) := by decide +kernel
theorem d_Tf_new_120 : decode prog_1_method_1_code 120 = .ok (.new 57, 3) := by decide +kernel
theorem d_Tf_new_123 : decode prog_1_method_1_code 123 = .ok (.dup, 1) := by decide +kernel
theorem d_Tf_new_124 : decode prog_1_method_1_code 124 = .ok (.invokespecial 59, 3) := by decide +kernel
theorem d_Tf_new_127 : decode prog_1_method_1_code 127 = .ok (.putfield 64, 3) := by decide +kernel
theorem d_Tf_new_130 : decode prog_1_method_1_code 130 = .ok (.aload_n 0, 1) := by decide +kernel
theorem d_Tf_new_131 : decode prog_1_method_1_code 131 = .ok (.new 57, 3) := by decide +kernel
theorem d_Tf_new_134 : decode prog_1_method_1_code 134 = .ok (.dup, 1) := by decide +kernel
theorem d_Tf_new_135 : decode prog_1_method_1_code 135 = .ok (.invokespecial 59, 3) := by decide +kernel
theorem d_Tf_new_138 : decode prog_1_method_1_code 138 = .ok (.putfield 67, 3) := by decide +kernel
theorem d_Tf_new_141 : decode prog_1_method_1_code 141 = .ok (.aload_n 0, 1) := by decide +kernel
theorem d_Tf_new_142 : decode prog_1_method_1_code 142 = .ok (.iconst 3, 1) := by decide +kernel
theorem d_Tf_new_143 : decode prog_1_method_1_code 143 = .ok (.anewarray 57, 3) := by decide +kernel
theorem d_Tf_new_146 : decode prog_1_method_1_code 146 = .ok (.putfield 70, 3) := by decide +kernel
theorem d_Tf_new_149 : decode prog_1_method_1_code 149 = .ok (.iconst 0, 1) := by decide +kernel
theorem d_Tf_new_150 : decode prog_1_method_1_code 150 = .ok (.istore_n 1, 1) := by decide +kernel
theorem d_Tf_new_151 : decode prog_1_method_1_code 151 = .ok (.iload_n 1, 1) := by decide +kernel
theorem d_Tf_new_152 : decode prog_1_method_1_code 152 = .ok (.iconst 3, 1) := by decide +kernel
theorem d_Tf_new_153 : decode prog_1_method_1_code 153 = .ok (.if_icmp .ge 22, 3) := by decide +kernel
theorem d_Tf_new_156 : decode prog_1_method_1_code 156 = .ok (.aload_n 0, 1) := by decide +kernel
theorem d_Tf_new_157 : decode prog_1_method_1_code 157 = .ok (.getfield 70, 3) := by decide +kernel
theorem d_Tf_new_160 : decode prog_1_method_1_code 160 = .ok (.iload_n 1, 1) := by decide +kernel
theorem d_Tf_new_161 : decode prog_1_method_1_code 161 = .ok (.new 57, 3) := by decide +kernel
theorem d_Tf_new_164 : decode prog_1_method_1_code 164 = .ok (.dup, 1) := by decide +kernel
theorem d_Tf_new_165 : decode prog_1_method_1_code 165 = .ok (.invokespecial 59, 3) := by decide +kernel
theorem d_Tf_new_168 : decode prog_1_method_1_code 168 = .ok (.aastore, 1) := by decide +kernel
theorem d_Tf_new_169 : decode prog_1_method_1_code 169 = .ok (.iinc 1 1, 3) := by decide +kernel
theorem d_Tf_new_172 : decode prog_1_method_1_code 172 = .ok (.goto (-21), 3) := by decide +kernel
theorem d_Tf_new_175 : decode prog_1_method_1_code 175 = .ok (.aload_n 0, 1) := by decide +kernel
theorem d_Tf_new_176 : decode prog_1_method_1_code 176 = .ok (.iconst 0, 1) := by decide +kernel
theorem d_Tf_new_177 : decode prog_1_method_1_code 177 = .ok (.putfield 74, 3) := by decide +kernel
theorem d_Tf_new_180 : decode prog_1_method_1_code 180 = .ok (.aload_n 0, 1) := by decide +kernel
theorem d_Tf_new_181 : decode prog_1_method_1_code 181 = .ok (.new 77, 3) := by decide +kernel
theorem d_Tf_new_184 : decode prog_1_method_1_code 184 = .ok (.dup, 1) := by decide +kernel
theorem d_Tf_new_185 : decode prog_1_method_1_code 185 = .ok (.invokespecial 79, 3) := by decide +kernel
theorem d_Tf_new_188 : decode prog_1_method_1_code 188 = .ok (.putfield 80, 3) := by decide +kernel
theorem d_Tf_new_191 : decode prog_1_method_1_code 191 = .ok (.aload_n 0, 1) := by decide +kernel
theorem d_Tf_new_192 : decode prog_1_method_1_code 192 = .ok (.new 77, 3) := by decide +kernel
theorem d_Tf_new_195 : decode prog_1_method_1_code 195 = .ok (.dup, 1) := by decide +kernel
theorem d_Tf_new_196 : decode prog_1_method_1_code 196 = .ok (.invokespecial 79, 3) := by decide +kernel
theorem d_Tf_new_199 : decode prog_1_method_1_code 199 = .ok (.putfield 84, 3) := by decide +kernel
theorem d_Tf_new_202 : decode prog_1_method_1_code 202 = .ok (.aload_n 0, 1) := by decide +kernel
theorem d_Tf_new_203 : decode prog_1_method_1_code 203 = .ok (.new 87, 3) := by decide +kernel
theorem d_Tf_new_206 : decode prog_1_method_1_code 206 = .ok (.dup, 1) := by decide +kernel
theorem d_Tf_new_207 : decode prog_1_method_1_code 207 = .ok (.invokespecial 89, 3) := by decide +kernel
theorem d_Tf_new_210 : decode prog_1_method_1_code 210 = .ok (.putfield 90, 3) := by decide +kernel
theorem d_Tf_new_213 : decode prog_1_method_1_code 213 = .ok (.aload_n 0, 1) := by decide +kernel
theorem d_Tf_new_214 : decode prog_1_method_1_code 214 = .ok (.new 94, 3) := by decide +kernel
theorem d_Tf_new_217 : decode prog_1_method_1_code 217 = .ok (.dup, 1) := by decide +kernel
theorem d_Tf_new_218 : decode prog_1_method_1_code 218 = .ok (.invokespecial 96, 3) := by decide +kernel
theorem d_Tf_new_221 : decode prog_1_method_1_code 221 = .ok (.putfield 97, 3) := by decide +kernel
theorem d_Tf_new_224 : decode prog_1_method_1_code 224 = .ok (.aload_n 0, 1) := by decide +kernel
theorem d_Tf_new_225 : decode prog_1_method_1_code 225 = .ok (.new 101, 3) := by decide +kernel
theorem d_Tf_new_228 : decode prog_1_method_1_code 228 = .ok (.dup, 1) := by decide +kernel
theorem d_Tf_new_229 : decode prog_1_method_1_code 229 = .ok (.invokespecial 103, 3) := by decide +kernel
theorem d_Tf_new_232 : decode prog_1_method_1_code 232 = .ok (.putfield 104, 3) := by decide +kernel
theorem d_Tf_new_235 : decode prog_1_method_1_code 235 = .ok (.aload_n 0, 1) := by decide +kernel
theorem d_Tf_new_236 : decode prog_1_method_1_code 236 = .ok (.new 108, 3) := by decide +kernel
theorem d_Tf_new_239 : decode prog_1_method_1_code 239 = .ok (.dup, 1) := by decide +kernel
theorem d_Tf_new_240 : decode prog_1_method_1_code 240 = .ok (.invokespecial 110, 3) := by decide +kernel
theorem d_Tf_new_243 : decode prog_1_method_1_code 243 = .ok (.putfield 111, 3) := by decide +kernel
theorem d_Tf_new_246 : decode prog_1_method_1_code 246 = .ok (.return_, 1) := by decide +kernel
theorem d_Tf_status_0 : decode prog_1_method_2_code 0 = .ok (.aload_n 0, 1) := by decide +kernel
theorem d_Tf_status_1 : decode prog_1_method_2_code 1 = .ok (.getfield 7, 3) := by decide +kernel
theorem d_Tf_status_4 : decode prog_1_method_2_code 4 = .ok (.ireturn, 1) := by decide +kernel
theorem d_Tf_top_0 : decode prog_1_method_3_code 0 = .ok (.aload_n 0, 1) := by decide +kernel
theorem d_Tf_top_1 : decode prog_1_method_3_code 1 = .ok (.getfield 13, 3) := by decide +kernel
theorem d_Tf_top_4 : decode prog_1_method_3_code 4 = .ok (.lreturn, 1) := by decide +kernel
theorem d_Tf_bottom_0 : decode prog_1_method_4_code 0 = .ok (.aload_n 0, 1) := by decide +kernel
theorem d_Tf_bottom_1 : decode prog_1_method_4_code 1 = .ok (.getfield 17, 3) := by decide +kernel
theorem d_Tf_bottom_4 : decode prog_1_method_4_code 4 = .ok (.lreturn, 1) := by decide +kernel
theorem d_Tf_tray_0 : decode prog_1_method_5_code 0 = .ok (.iload_n 1, 1) := by decide +kernel
theorem d_Tf_tray_1 : decode prog_1_method_5_code 1 = .ok (.invokestatic 115, 3) := by decide +kernel
theorem d_Tf_tray_4 : decode prog_1_method_5_code 4 = .ok (.ifCond .ne 12, 3) := by decide +kernel
theorem d_Tf_tray_7 : decode prog_1_method_5_code 7 = .ok (.iload_n 2, 1) := by decide +kernel
theorem d_Tf_tray_8 : decode prog_1_method_5_code 8 = .ok (.ifCond .lt 8, 3) := by decide +kernel
theorem d_Tf_tray_11 : decode prog_1_method_5_code 11 = .ok (.iload_n 2, 1) := by decide +kernel
theorem d_Tf_tray_12 : decode prog_1_method_5_code 12 = .ok (.iconst 3, 1) := by decide +kernel
theorem d_Tf_tray_13 : decode prog_1_method_5_code 13 = .ok (.if_icmp .le 9, 3) := by decide +kernel
theorem d_Tf_tray_16 : decode prog_1_method_5_code 16 = .ok (.aload_n 0, 1) := by decide +kernel
theorem d_Tf_tray_17 : decode prog_1_method_5_code 17 = .ok (.iconst 1, 1) := by decide +kernel
theorem d_Tf_tray_18 : decode prog_1_method_5_code 18 = .ok (.invokevirtual 119, 3) := by decide +kernel
theorem d_Tf_tray_21 : decode prog_1_method_5_code 21 = .ok (.ireturn, 1) := by decide +kernel
theorem d_Tf_tray_22 : decode prog_1_method_5_code 22 = .ok (.iload_n 3, 1) := by decide +kernel
theorem d_Tf_tray_23 : decode prog_1_method_5_code 23 = .ok (.bipush 60, 2) := by decide +kernel
theorem d_Tf_tray_25 : decode prog_1_method_5_code 25 = .ok (.if_icmp .le 9, 3) := by decide +kernel
theorem d_Tf_tray_28 : decode prog_1_method_5_code 28 = .ok (.aload_n 0, 1) := by decide +kernel
theorem d_Tf_tray_29 : decode prog_1_method_5_code 29 = .ok (.iconst 5, 1) := by decide +kernel
theorem d_Tf_tray_30 : decode prog_1_method_5_code 30 = .ok (.invokevirtual 119, 3) := by decide +kernel
theorem d_Tf_tray_33 : decode prog_1_method_5_code 33 = .ok (.ireturn, 1) := by decide +kernel
theorem d_Tf_tray_34 : decode prog_1_method_5_code 34 = .ok (.iload_n 3, 1) := by decide +kernel
theorem d_Tf_tray_35 : decode prog_1_method_5_code 35 = .ok (.ifCond .ge 10, 3) := by decide +kernel
theorem d_Tf_tray_38 : decode prog_1_method_5_code 38 = .ok (.aload_n 0, 1) := by decide +kernel
theorem d_Tf_tray_39 : decode prog_1_method_5_code 39 = .ok (.bipush 6, 2) := by decide +kernel
theorem d_Tf_tray_41 : decode prog_1_method_5_code 41 = .ok (.invokevirtual 119, 3) := by decide +kernel
theorem d_Tf_tray_44 : decode prog_1_method_5_code 44 = .ok (.ireturn, 1) := by decide +kernel
theorem d_Tf_tray_45 : decode prog_1_method_5_code 45 = .ok (.aload_n 0, 1) := by decide +kernel
theorem d_Tf_tray_46 : decode prog_1_method_5_code 46 = .ok (.getfield 29, 3) := by decide +kernel
theorem d_Tf_tray_49 : decode prog_1_method_5_code 49 = .ok (.iload_n 1, 1) := by decide +kernel
theorem d_Tf_tray_50 : decode prog_1_method_5_code 50 = .ok (.aaload, 1) := by decide +kernel
theorem d_Tf_tray_51 : decode prog_1_method_5_code 51 = .ok (.iload_n 2, 1) := by decide +kernel
theorem d_Tf_tray_52 : decode prog_1_method_5_code 52 = .ok (.iload_n 3, 1) := by decide +kernel
theorem d_Tf_tray_53 : decode prog_1_method_5_code 53 = .ok (.invokevirtual 122, 3) := by decide +kernel
theorem d_Tf_tray_56 : decode prog_1_method_5_code 56 = .ok (.aload_n 0, 1) := by decide +kernel
theorem d_Tf_tray_57 : decode prog_1_method_5_code 57 = .ok (.invokevirtual 126, 3) := by decide +kernel
theorem d_Tf_tray_60 : decode prog_1_method_5_code 60 = .ok (.ireturn, 1) := by decide +kernel
theorem d_Tf_noTray_0 : decode prog_1_method_57_code 0 = .ok (.iload_n 0, 1) := by decide +kernel
theorem d_Tf_noTray_1 : decode prog_1_method_57_code 1 = .ok (.ifCond .lt 8, 3) := by decide +kernel
theorem d_Tf_noTray_4 : decode prog_1_method_57_code 4 = .ok (.iload_n 0, 1) := by decide +kernel
theorem d_Tf_noTray_5 : decode prog_1_method_57_code 5 = .ok (.iconst 4, 1) := by decide +kernel
theorem d_Tf_noTray_6 : decode prog_1_method_57_code 6 = .ok (.if_icmp .lt 7, 3) := by decide +kernel
theorem d_Tf_noTray_9 : decode prog_1_method_57_code 9 = .ok (.iconst 1, 1) := by decide +kernel
theorem d_Tf_noTray_10 : decode prog_1_method_57_code 10 = .ok (.goto 4, 3) := by decide +kernel
theorem d_Tf_noTray_13 : decode prog_1_method_57_code 13 = .ok (.iconst 0, 1) := by decide +kernel
theorem d_Tf_noTray_14 : decode prog_1_method_57_code 14 = .ok (.ireturn, 1) := by decide +kernel
theorem d_Tf_refuse_0 : decode prog_1_method_55_code 0 = .ok (.aload_n 0, 1) := by decide +kernel
theorem d_Tf_refuse_1 : decode prog_1_method_55_code 1 = .ok (.iload_n 1, 1) := by decide +kernel
theorem d_Tf_refuse_2 : decode prog_1_method_55_code 2 = .ok (.putfield 7, 3) := by decide +kernel
theorem d_Tf_refuse_5 : decode prog_1_method_55_code 5 = .ok (.iconst 0, 1) := by decide +kernel
theorem d_Tf_refuse_6 : decode prog_1_method_55_code 6 = .ok (.ireturn, 1) := by decide +kernel
theorem d_Tf_agree_0 : decode prog_1_method_56_code 0 = .ok (.aload_n 0, 1) := by decide +kernel
theorem d_Tf_agree_1 : decode prog_1_method_56_code 1 = .ok (.iconst 0, 1) := by decide +kernel
theorem d_Tf_agree_2 : decode prog_1_method_56_code 2 = .ok (.putfield 7, 3) := by decide +kernel
theorem d_Tf_agree_5 : decode prog_1_method_56_code 5 = .ok (.iconst 1, 1) := by decide +kernel
theorem d_Tf_agree_6 : decode prog_1_method_56_code 6 = .ok (.ireturn, 1) := by decide +kernel
theorem d_Tf_write_0 : decode prog_1_method_6_code 0 = .ok (.aload_n 0, 1) := by decide +kernel
theorem d_Tf_write_1 : decode prog_1_method_6_code 1 = .ok (.iload_n 1, 1) := by decide +kernel
theorem d_Tf_write_2 : decode prog_1_method_6_code 2 = .ok (.iload_n 2, 1) := by decide +kernel
theorem d_Tf_write_3 : decode prog_1_method_6_code 3 = .ok (.invokevirtual 130, 3) := by decide +kernel
theorem d_Tf_write_6 : decode prog_1_method_6_code 6 = .ok (.istore 5, 2) := by decide +kernel
theorem d_Tf_write_8 : decode prog_1_method_6_code 8 = .ok (.iload 5, 2) := by decide +kernel
theorem d_Tf_write_10 : decode prog_1_method_6_code 10 = .ok (.ifCond .eq 10, 3) := by decide +kernel
theorem d_Tf_write_13 : decode prog_1_method_6_code 13 = .ok (.aload_n 0, 1) := by decide +kernel
theorem d_Tf_write_14 : decode prog_1_method_6_code 14 = .ok (.iload 5, 2) := by decide +kernel
theorem d_Tf_write_16 : decode prog_1_method_6_code 16 = .ok (.invokevirtual 119, 3) := by decide +kernel
theorem d_Tf_write_19 : decode prog_1_method_6_code 19 = .ok (.ireturn, 1) := by decide +kernel
theorem d_Tf_write_20 : decode prog_1_method_6_code 20 = .ok (.aload_n 0, 1) := by decide +kernel
theorem d_Tf_write_21 : decode prog_1_method_6_code 21 = .ok (.getfield 29, 3) := by decide +kernel
theorem d_Tf_write_24 : decode prog_1_method_6_code 24 = .ok (.iload_n 1, 1) := by decide +kernel
theorem d_Tf_write_25 : decode prog_1_method_6_code 25 = .ok (.aaload, 1) := by decide +kernel
theorem d_Tf_write_26 : decode prog_1_method_6_code 26 = .ok (.iload_n 2, 1) := by decide +kernel
theorem d_Tf_write_27 : decode prog_1_method_6_code 27 = .ok (.lload_n 3, 1) := by decide +kernel
theorem d_Tf_write_28 : decode prog_1_method_6_code 28 = .ok (.invokevirtual 134, 3) := by decide +kernel
theorem d_Tf_write_31 : decode prog_1_method_6_code 31 = .ok (.aload_n 0, 1) := by decide +kernel
theorem d_Tf_write_32 : decode prog_1_method_6_code 32 = .ok (.invokevirtual 126, 3) := by decide +kernel
theorem d_Tf_write_35 : decode prog_1_method_6_code 35 = .ok (.ireturn, 1) := by decide +kernel
theorem d_Tf_placeStatus_0 : decode prog_1_method_62_code 0 = .ok (.aload_n 0, 1) := by decide +kernel
theorem d_Tf_placeStatus_1 : decode prog_1_method_62_code 1 = .ok (.iload_n 1, 1) := by decide +kernel
theorem d_Tf_placeStatus_2 : decode prog_1_method_62_code 2 = .ok (.invokevirtual 267, 3) := by decide +kernel
theorem d_Tf_placeStatus_5 : decode prog_1_method_62_code 5 = .ok (.istore_n 3, 1) := by decide +kernel
theorem d_Tf_placeStatus_6 : decode prog_1_method_62_code 6 = .ok (.iload_n 3, 1) := by decide +kernel
theorem d_Tf_placeStatus_7 : decode prog_1_method_62_code 7 = .ok (.ifCond .eq 5, 3) := by decide +kernel
theorem d_Tf_placeStatus_10 : decode prog_1_method_62_code 10 = .ok (.iload_n 3, 1) := by decide +kernel
theorem d_Tf_placeStatus_11 : decode prog_1_method_62_code 11 = .ok (.ireturn, 1) := by decide +kernel
theorem d_Tf_placeStatus_12 : decode prog_1_method_62_code 12 = .ok (.aload_n 0, 1) := by decide +kernel
theorem d_Tf_placeStatus_13 : decode prog_1_method_62_code 13 = .ok (.getfield 29, 3) := by decide +kernel
theorem d_Tf_placeStatus_16 : decode prog_1_method_62_code 16 = .ok (.iload_n 1, 1) := by decide +kernel
theorem d_Tf_placeStatus_17 : decode prog_1_method_62_code 17 = .ok (.aaload, 1) := by decide +kernel
theorem d_Tf_placeStatus_18 : decode prog_1_method_62_code 18 = .ok (.iload_n 2, 1) := by decide +kernel
theorem d_Tf_placeStatus_19 : decode prog_1_method_62_code 19 = .ok (.iconst 1, 1) := by decide +kernel
theorem d_Tf_placeStatus_20 : decode prog_1_method_62_code 20 = .ok (.invokevirtual 153, 3) := by decide +kernel
theorem d_Tf_placeStatus_23 : decode prog_1_method_62_code 23 = .ok (.ifCond .eq 7, 3) := by decide +kernel
theorem d_Tf_placeStatus_26 : decode prog_1_method_62_code 26 = .ok (.iconst 0, 1) := by decide +kernel
theorem d_Tf_placeStatus_27 : decode prog_1_method_62_code 27 = .ok (.goto 4, 3) := by decide +kernel
theorem d_Tf_placeStatus_30 : decode prog_1_method_62_code 30 = .ok (.iconst 4, 1) := by decide +kernel
theorem d_Tf_placeStatus_31 : decode prog_1_method_62_code 31 = .ok (.ireturn, 1) := by decide +kernel
theorem d_Tf_trayStatus_0 : decode prog_1_method_61_code 0 = .ok (.iload_n 1, 1) := by decide +kernel
theorem d_Tf_trayStatus_1 : decode prog_1_method_61_code 1 = .ok (.invokestatic 115, 3) := by decide +kernel
theorem d_Tf_trayStatus_4 : decode prog_1_method_61_code 4 = .ok (.ifCond .eq 5, 3) := by decide +kernel
theorem d_Tf_trayStatus_7 : decode prog_1_method_61_code 7 = .ok (.iconst 1, 1) := by decide +kernel
theorem d_Tf_trayStatus_8 : decode prog_1_method_61_code 8 = .ok (.ireturn, 1) := by decide +kernel
theorem d_Tf_trayStatus_9 : decode prog_1_method_61_code 9 = .ok (.aload_n 0, 1) := by decide +kernel
theorem d_Tf_trayStatus_10 : decode prog_1_method_61_code 10 = .ok (.getfield 29, 3) := by decide +kernel
theorem d_Tf_trayStatus_13 : decode prog_1_method_61_code 13 = .ok (.iload_n 1, 1) := by decide +kernel
theorem d_Tf_trayStatus_14 : decode prog_1_method_61_code 14 = .ok (.aaload, 1) := by decide +kernel
theorem d_Tf_trayStatus_15 : decode prog_1_method_61_code 15 = .ok (.getfield 146, 3) := by decide +kernel
theorem d_Tf_trayStatus_18 : decode prog_1_method_61_code 18 = .ok (.ifCond .eq 7, 3) := by decide +kernel
theorem d_Tf_trayStatus_21 : decode prog_1_method_61_code 21 = .ok (.iconst 0, 1) := by decide +kernel
theorem d_Tf_trayStatus_22 : decode prog_1_method_61_code 22 = .ok (.goto 4, 3) := by decide +kernel
theorem d_Tf_trayStatus_25 : decode prog_1_method_61_code 25 = .ok (.iconst 3, 1) := by decide +kernel
theorem d_Tf_trayStatus_26 : decode prog_1_method_61_code 26 = .ok (.ireturn, 1) := by decide +kernel
theorem d_Tf_read_0 : decode prog_1_method_7_code 0 = .ok (.aload_n 0, 1) := by decide +kernel
theorem d_Tf_read_1 : decode prog_1_method_7_code 1 = .ok (.iload_n 1, 1) := by decide +kernel
theorem d_Tf_read_2 : decode prog_1_method_7_code 2 = .ok (.iload_n 2, 1) := by decide +kernel
theorem d_Tf_read_3 : decode prog_1_method_7_code 3 = .ok (.invokevirtual 130, 3) := by decide +kernel
theorem d_Tf_read_6 : decode prog_1_method_7_code 6 = .ok (.istore_n 3, 1) := by decide +kernel
theorem d_Tf_read_7 : decode prog_1_method_7_code 7 = .ok (.iload_n 3, 1) := by decide +kernel
theorem d_Tf_read_8 : decode prog_1_method_7_code 8 = .ok (.ifCond .eq 10, 3) := by decide +kernel
theorem d_Tf_read_11 : decode prog_1_method_7_code 11 = .ok (.aload_n 0, 1) := by decide +kernel
theorem d_Tf_read_12 : decode prog_1_method_7_code 12 = .ok (.iload_n 3, 1) := by decide +kernel
theorem d_Tf_read_13 : decode prog_1_method_7_code 13 = .ok (.invokevirtual 138, 3) := by decide +kernel
theorem d_Tf_read_16 : decode prog_1_method_7_code 16 = .ok (.i2l, 1) := by decide +kernel
theorem d_Tf_read_17 : decode prog_1_method_7_code 17 = .ok (.lreturn, 1) := by decide +kernel
theorem d_Tf_read_18 : decode prog_1_method_7_code 18 = .ok (.aload_n 0, 1) := by decide +kernel
theorem d_Tf_read_19 : decode prog_1_method_7_code 19 = .ok (.iconst 0, 1) := by decide +kernel
theorem d_Tf_read_20 : decode prog_1_method_7_code 20 = .ok (.putfield 7, 3) := by decide +kernel
theorem d_Tf_read_23 : decode prog_1_method_7_code 23 = .ok (.aload_n 0, 1) := by decide +kernel
theorem d_Tf_read_24 : decode prog_1_method_7_code 24 = .ok (.getfield 29, 3) := by decide +kernel
theorem d_Tf_read_27 : decode prog_1_method_7_code 27 = .ok (.iload_n 1, 1) := by decide +kernel
theorem d_Tf_read_28 : decode prog_1_method_7_code 28 = .ok (.aaload, 1) := by decide +kernel
theorem d_Tf_read_29 : decode prog_1_method_7_code 29 = .ok (.getfield 142, 3) := by decide +kernel
theorem d_Tf_read_32 : decode prog_1_method_7_code 32 = .ok (.iload_n 2, 1) := by decide +kernel
theorem d_Tf_read_33 : decode prog_1_method_7_code 33 = .ok (.laload, 1) := by decide +kernel
theorem d_Tf_read_34 : decode prog_1_method_7_code 34 = .ok (.lreturn, 1) := by decide +kernel
theorem d_Tf_fail_0 : decode prog_1_method_53_code 0 = .ok (.aload_n 0, 1) := by decide +kernel
theorem d_Tf_fail_1 : decode prog_1_method_53_code 1 = .ok (.iload_n 1, 1) := by decide +kernel
theorem d_Tf_fail_2 : decode prog_1_method_53_code 2 = .ok (.putfield 7, 3) := by decide +kernel
theorem d_Tf_fail_5 : decode prog_1_method_53_code 5 = .ok (.iconst (-1), 1) := by decide +kernel
theorem d_Tf_fail_6 : decode prog_1_method_53_code 6 = .ok (.ireturn, 1) := by decide +kernel
theorem d_Tf_pour_0 : decode prog_1_method_8_code 0 = .ok (.iload_n 1, 1) := by decide +kernel
theorem d_Tf_pour_1 : decode prog_1_method_8_code 1 = .ok (.invokestatic 115, 3) := by decide +kernel
theorem d_Tf_pour_4 : decode prog_1_method_8_code 4 = .ok (.ifCond .ne 10, 3) := by decide +kernel
theorem d_Tf_pour_7 : decode prog_1_method_8_code 7 = .ok (.iload_n 3, 1) := by decide +kernel
theorem d_Tf_pour_8 : decode prog_1_method_8_code 8 = .ok (.invokestatic 115, 3) := by decide +kernel
theorem d_Tf_pour_11 : decode prog_1_method_8_code 11 = .ok (.ifCond .eq 9, 3) := by decide +kernel
theorem d_Tf_pour_14 : decode prog_1_method_8_code 14 = .ok (.aload_n 0, 1) := by decide +kernel
theorem d_Tf_pour_15 : decode prog_1_method_8_code 15 = .ok (.iconst 1, 1) := by decide +kernel
theorem d_Tf_pour_16 : decode prog_1_method_8_code 16 = .ok (.invokevirtual 119, 3) := by decide +kernel
theorem d_Tf_pour_19 : decode prog_1_method_8_code 19 = .ok (.ireturn, 1) := by decide +kernel
theorem d_Tf_pour_20 : decode prog_1_method_8_code 20 = .ok (.aload_n 0, 1) := by decide +kernel
theorem d_Tf_pour_21 : decode prog_1_method_8_code 21 = .ok (.getfield 29, 3) := by decide +kernel
theorem d_Tf_pour_24 : decode prog_1_method_8_code 24 = .ok (.iload_n 1, 1) := by decide +kernel
theorem d_Tf_pour_25 : decode prog_1_method_8_code 25 = .ok (.aaload, 1) := by decide +kernel
theorem d_Tf_pour_26 : decode prog_1_method_8_code 26 = .ok (.astore 6, 2) := by decide +kernel
theorem d_Tf_pour_28 : decode prog_1_method_8_code 28 = .ok (.aload_n 0, 1) := by decide +kernel
theorem d_Tf_pour_29 : decode prog_1_method_8_code 29 = .ok (.getfield 29, 3) := by decide +kernel
theorem d_Tf_pour_32 : decode prog_1_method_8_code 32 = .ok (.iload_n 3, 1) := by decide +kernel
theorem d_Tf_pour_33 : decode prog_1_method_8_code 33 = .ok (.aaload, 1) := by decide +kernel
theorem d_Tf_pour_34 : decode prog_1_method_8_code 34 = .ok (.astore 7, 2) := by decide +kernel
theorem d_Tf_pour_36 : decode prog_1_method_8_code 36 = .ok (.aload 6, 2) := by decide +kernel
theorem d_Tf_pour_38 : decode prog_1_method_8_code 38 = .ok (.getfield 146, 3) := by decide +kernel
theorem d_Tf_pour_41 : decode prog_1_method_8_code 41 = .ok (.ifCond .eq 11, 3) := by decide +kernel
theorem d_Tf_pour_44 : decode prog_1_method_8_code 44 = .ok (.aload 7, 2) := by decide +kernel
theorem d_Tf_pour_46 : decode prog_1_method_8_code 46 = .ok (.getfield 146, 3) := by decide +kernel
theorem d_Tf_pour_49 : decode prog_1_method_8_code 49 = .ok (.ifCond .ne 9, 3) := by decide +kernel
theorem d_Tf_pour_52 : decode prog_1_method_8_code 52 = .ok (.aload_n 0, 1) := by decide +kernel
theorem d_Tf_pour_53 : decode prog_1_method_8_code 53 = .ok (.iconst 3, 1) := by decide +kernel
theorem d_Tf_pour_54 : decode prog_1_method_8_code 54 = .ok (.invokevirtual 119, 3) := by decide +kernel
theorem d_Tf_pour_57 : decode prog_1_method_8_code 57 = .ok (.ireturn, 1) := by decide +kernel
theorem d_Tf_pour_58 : decode prog_1_method_8_code 58 = .ok (.aload 6, 2) := by decide +kernel
theorem d_Tf_pour_60 : decode prog_1_method_8_code 60 = .ok (.getfield 150, 3) := by decide +kernel
theorem d_Tf_pour_63 : decode prog_1_method_8_code 63 = .ok (.aload 7, 2) := by decide +kernel
theorem d_Tf_pour_65 : decode prog_1_method_8_code 65 = .ok (.getfield 150, 3) := by decide +kernel
theorem d_Tf_pour_68 : decode prog_1_method_8_code 68 = .ok (.if_icmp .eq 10, 3) := by decide +kernel
theorem d_Tf_pour_71 : decode prog_1_method_8_code 71 = .ok (.aload_n 0, 1) := by decide +kernel
theorem d_Tf_pour_72 : decode prog_1_method_8_code 72 = .ok (.bipush 11, 2) := by decide +kernel
theorem d_Tf_pour_74 : decode prog_1_method_8_code 74 = .ok (.invokevirtual 119, 3) := by decide +kernel
theorem d_Tf_pour_77 : decode prog_1_method_8_code 77 = .ok (.ireturn, 1) := by decide +kernel
theorem d_Tf_pour_78 : decode prog_1_method_8_code 78 = .ok (.iload 5, 2) := by decide +kernel
theorem d_Tf_pour_80 : decode prog_1_method_8_code 80 = .ok (.ifCond .ge 10, 3) := by decide +kernel
theorem d_Tf_pour_83 : decode prog_1_method_8_code 83 = .ok (.aload_n 0, 1) := by decide +kernel
theorem d_Tf_pour_84 : decode prog_1_method_8_code 84 = .ok (.bipush 6, 2) := by decide +kernel
theorem d_Tf_pour_86 : decode prog_1_method_8_code 86 = .ok (.invokevirtual 119, 3) := by decide +kernel
theorem d_Tf_pour_89 : decode prog_1_method_8_code 89 = .ok (.ireturn, 1) := by decide +kernel
theorem d_Tf_pour_90 : decode prog_1_method_8_code 90 = .ok (.aload 6, 2) := by decide +kernel
theorem d_Tf_pour_92 : decode prog_1_method_8_code 92 = .ok (.iload_n 2, 1) := by decide +kernel
theorem d_Tf_pour_93 : decode prog_1_method_8_code 93 = .ok (.iload 5, 2) := by decide +kernel
theorem d_Tf_pour_95 : decode prog_1_method_8_code 95 = .ok (.invokevirtual 153, 3) := by decide +kernel
theorem d_Tf_pour_98 : decode prog_1_method_8_code 98 = .ok (.ifCond .eq 15, 3) := by decide +kernel
theorem d_Tf_pour_101 : decode prog_1_method_8_code 101 = .ok (.aload 7, 2) := by decide +kernel
theorem d_Tf_pour_103 : decode prog_1_method_8_code 103 = .ok (.iload 4, 2) := by decide +kernel
theorem d_Tf_pour_105 : decode prog_1_method_8_code 105 = .ok (.iload 5, 2) := by decide +kernel
theorem d_Tf_pour_107 : decode prog_1_method_8_code 107 = .ok (.invokevirtual 153, 3) := by decide +kernel
theorem d_Tf_pour_110 : decode prog_1_method_8_code 110 = .ok (.ifCond .ne 9, 3) := by decide +kernel
theorem d_Tf_pour_113 : decode prog_1_method_8_code 113 = .ok (.aload_n 0, 1) := by decide +kernel
theorem d_Tf_pour_114 : decode prog_1_method_8_code 114 = .ok (.iconst 4, 1) := by decide +kernel
theorem d_Tf_pour_115 : decode prog_1_method_8_code 115 = .ok (.invokevirtual 119, 3) := by decide +kernel
theorem d_Tf_pour_118 : decode prog_1_method_8_code 118 = .ok (.ireturn, 1) := by decide +kernel
theorem d_Tf_pour_119 : decode prog_1_method_8_code 119 = .ok (.aload 6, 2) := by decide +kernel
theorem d_Tf_pour_121 : decode prog_1_method_8_code 121 = .ok (.getfield 142, 3) := by decide +kernel
theorem d_Tf_pour_124 : decode prog_1_method_8_code 124 = .ok (.iload_n 2, 1) := by decide +kernel
theorem d_Tf_pour_125 : decode prog_1_method_8_code 125 = .ok (.aload 7, 2) := by decide +kernel
theorem d_Tf_pour_127 : decode prog_1_method_8_code 127 = .ok (.getfield 142, 3) := by decide +kernel
theorem d_Tf_pour_130 : decode prog_1_method_8_code 130 = .ok (.iload 4, 2) := by decide +kernel
theorem d_Tf_pour_132 : decode prog_1_method_8_code 132 = .ok (.iload 5, 2) := by decide +kernel
theorem d_Tf_pour_134 : decode prog_1_method_8_code 134 = .ok (.invokestatic 157, 3) := by decide +kernel
theorem d_Tf_pour_137 : decode prog_1_method_8_code 137 = .ok (.aload_n 0, 1) := by decide +kernel
theorem d_Tf_pour_138 : decode prog_1_method_8_code 138 = .ok (.invokevirtual 126, 3) := by decide +kernel
theorem d_Tf_pour_141 : decode prog_1_method_8_code 141 = .ok (.ireturn, 1) := by decide +kernel
theorem d_Tf_feed_0 : decode prog_1_method_9_code 0 = .ok (.aload_n 0, 1) := by decide +kernel
theorem d_Tf_feed_1 : decode prog_1_method_9_code 1 = .ok (.getfield 24, 3) := by decide +kernel
theorem d_Tf_feed_4 : decode prog_1_method_9_code 4 = .ok (.bipush 20, 2) := by decide +kernel
theorem d_Tf_feed_6 : decode prog_1_method_9_code 6 = .ok (.iadd, 1) := by decide +kernel
theorem d_Tf_feed_7 : decode prog_1_method_9_code 7 = .ok (.sipush 900, 3) := by decide +kernel
theorem d_Tf_feed_10 : decode prog_1_method_9_code 10 = .ok (.if_icmp .le 5, 3) := by decide +kernel
theorem d_Tf_feed_13 : decode prog_1_method_9_code 13 = .ok (.iconst (-1), 1) := by decide +kernel
theorem d_Tf_feed_14 : decode prog_1_method_9_code 14 = .ok (.ireturn, 1) := by decide +kernel
theorem d_Tf_feed_15 : decode prog_1_method_9_code 15 = .ok (.aload_n 0, 1) := by decide +kernel
theorem d_Tf_feed_16 : decode prog_1_method_9_code 16 = .ok (.iload_n 1, 1) := by decide +kernel
theorem d_Tf_feed_17 : decode prog_1_method_9_code 17 = .ok (.invokevirtual 163, 3) := by decide +kernel
theorem d_Tf_feed_20 : decode prog_1_method_9_code 20 = .ok (.aload_n 0, 1) := by decide +kernel
theorem d_Tf_feed_21 : decode prog_1_method_9_code 21 = .ok (.iload_n 2, 1) := by decide +kernel
theorem d_Tf_feed_22 : decode prog_1_method_9_code 22 = .ok (.invokevirtual 163, 3) := by decide +kernel
theorem d_Tf_feed_25 : decode prog_1_method_9_code 25 = .ok (.aload_n 0, 1) := by decide +kernel
theorem d_Tf_feed_26 : decode prog_1_method_9_code 26 = .ok (.iload_n 3, 1) := by decide +kernel
theorem d_Tf_feed_27 : decode prog_1_method_9_code 27 = .ok (.invokevirtual 163, 3) := by decide +kernel
theorem d_Tf_feed_30 : decode prog_1_method_9_code 30 = .ok (.aload_n 0, 1) := by decide +kernel
theorem d_Tf_feed_31 : decode prog_1_method_9_code 31 = .ok (.iload 4, 2) := by decide +kernel
theorem d_Tf_feed_33 : decode prog_1_method_9_code 33 = .ok (.invokevirtual 163, 3) := by decide +kernel
theorem d_Tf_feed_36 : decode prog_1_method_9_code 36 = .ok (.aload_n 0, 1) := by decide +kernel
theorem d_Tf_feed_37 : decode prog_1_method_9_code 37 = .ok (.iload 5, 2) := by decide +kernel
theorem d_Tf_feed_39 : decode prog_1_method_9_code 39 = .ok (.invokevirtual 163, 3) := by decide +kernel
theorem d_Tf_feed_42 : decode prog_1_method_9_code 42 = .ok (.aload_n 0, 1) := by decide +kernel
theorem d_Tf_feed_43 : decode prog_1_method_9_code 43 = .ok (.getfield 24, 3) := by decide +kernel
theorem d_Tf_feed_46 : decode prog_1_method_9_code 46 = .ok (.ireturn, 1) := by decide +kernel
theorem d_Tf_putBytes_0 : decode prog_1_method_68_code 0 = .ok (.bipush 24, 2) := by decide +kernel
theorem d_Tf_putBytes_2 : decode prog_1_method_68_code 2 = .ok (.istore_n 2, 1) := by decide +kernel
theorem d_Tf_putBytes_3 : decode prog_1_method_68_code 3 = .ok (.iload_n 2, 1) := by decide +kernel
theorem d_Tf_putBytes_4 : decode prog_1_method_68_code 4 = .ok (.ifCond .lt 32, 3) := by decide +kernel
theorem d_Tf_putBytes_7 : decode prog_1_method_68_code 7 = .ok (.aload_n 0, 1) := by decide +kernel
theorem d_Tf_putBytes_8 : decode prog_1_method_68_code 8 = .ok (.getfield 20, 3) := by decide +kernel
theorem d_Tf_putBytes_11 : decode prog_1_method_68_code 11 = .ok (.aload_n 0, 1) := by decide +kernel
theorem d_Tf_putBytes_12 : decode prog_1_method_68_code 12 = .ok (.getfield 24, 3) := by decide +kernel
theorem d_Tf_putBytes_15 : decode prog_1_method_68_code 15 = .ok (.iload_n 1, 1) := by decide +kernel
theorem d_Tf_putBytes_16 : decode prog_1_method_68_code 16 = .ok (.iload_n 2, 1) := by decide +kernel
theorem d_Tf_putBytes_17 : decode prog_1_method_68_code 17 = .ok (.ishr, 1) := by decide +kernel
theorem d_Tf_putBytes_18 : decode prog_1_method_68_code 18 = .ok (.i2b, 1) := by decide +kernel
theorem d_Tf_putBytes_19 : decode prog_1_method_68_code 19 = .ok (.bastore, 1) := by decide +kernel
theorem d_Tf_putBytes_20 : decode prog_1_method_68_code 20 = .ok (.aload_n 0, 1) := by decide +kernel
theorem d_Tf_putBytes_21 : decode prog_1_method_68_code 21 = .ok (.dup, 1) := by decide +kernel
theorem d_Tf_putBytes_22 : decode prog_1_method_68_code 22 = .ok (.getfield 24, 3) := by decide +kernel
theorem d_Tf_putBytes_25 : decode prog_1_method_68_code 25 = .ok (.iconst 1, 1) := by decide +kernel
theorem d_Tf_putBytes_26 : decode prog_1_method_68_code 26 = .ok (.iadd, 1) := by decide +kernel
theorem d_Tf_putBytes_27 : decode prog_1_method_68_code 27 = .ok (.putfield 24, 3) := by decide +kernel
theorem d_Tf_putBytes_30 : decode prog_1_method_68_code 30 = .ok (.iinc 2 (-8), 3) := by decide +kernel
theorem d_Tf_putBytes_33 : decode prog_1_method_68_code 33 = .ok (.goto (-30), 3) := by decide +kernel
theorem d_Tf_putBytes_36 : decode prog_1_method_68_code 36 = .ok (.return_, 1) := by decide +kernel
theorem d_Tf_fen_0 : decode prog_1_method_10_code 0 = .ok (.iload_n 1, 1) := by decide +kernel
theorem d_Tf_fen_1 : decode prog_1_method_10_code 1 = .ok (.ifCond .lt 11, 3) := by decide +kernel
theorem d_Tf_fen_4 : decode prog_1_method_10_code 4 = .ok (.iload_n 1, 1) := by decide +kernel
theorem d_Tf_fen_5 : decode prog_1_method_10_code 5 = .ok (.aload_n 0, 1) := by decide +kernel
theorem d_Tf_fen_6 : decode prog_1_method_10_code 6 = .ok (.getfield 24, 3) := by decide +kernel
theorem d_Tf_fen_9 : decode prog_1_method_10_code 9 = .ok (.if_icmp .le 9, 3) := by decide +kernel
theorem d_Tf_fen_12 : decode prog_1_method_10_code 12 = .ok (.aload_n 0, 1) := by decide +kernel
theorem d_Tf_fen_13 : decode prog_1_method_10_code 13 = .ok (.iconst 5, 1) := by decide +kernel
theorem d_Tf_fen_14 : decode prog_1_method_10_code 14 = .ok (.invokevirtual 138, 3) := by decide +kernel
theorem d_Tf_fen_17 : decode prog_1_method_10_code 17 = .ok (.ireturn, 1) := by decide +kernel
theorem d_Tf_fen_18 : decode prog_1_method_10_code 18 = .ok (.aload_n 0, 1) := by decide +kernel
theorem d_Tf_fen_19 : decode prog_1_method_10_code 19 = .ok (.getfield 46, 3) := by decide +kernel
theorem d_Tf_fen_22 : decode prog_1_method_10_code 22 = .ok (.aload_n 0, 1) := by decide +kernel
theorem d_Tf_fen_23 : decode prog_1_method_10_code 23 = .ok (.getfield 64, 3) := by decide +kernel
theorem d_Tf_fen_26 : decode prog_1_method_10_code 26 = .ok (.aload_n 0, 1) := by decide +kernel
theorem d_Tf_fen_27 : decode prog_1_method_10_code 27 = .ok (.getfield 20, 3) := by decide +kernel
theorem d_Tf_fen_30 : decode prog_1_method_10_code 30 = .ok (.iload_n 1, 1) := by decide +kernel
theorem d_Tf_fen_31 : decode prog_1_method_10_code 31 = .ok (.invokevirtual 167, 3) := by decide +kernel
theorem d_Tf_fen_34 : decode prog_1_method_10_code 34 = .ok (.istore_n 2, 1) := by decide +kernel
theorem d_Tf_fen_35 : decode prog_1_method_10_code 35 = .ok (.aload_n 0, 1) := by decide +kernel
theorem d_Tf_fen_36 : decode prog_1_method_10_code 36 = .ok (.iconst 0, 1) := by decide +kernel
theorem d_Tf_fen_37 : decode prog_1_method_10_code 37 = .ok (.putfield 24, 3) := by decide +kernel
theorem d_Tf_fen_40 : decode prog_1_method_10_code 40 = .ok (.iload_n 2, 1) := by decide +kernel
theorem d_Tf_fen_41 : decode prog_1_method_10_code 41 = .ok (.ifCond .ne 10, 3) := by decide +kernel
theorem d_Tf_fen_44 : decode prog_1_method_10_code 44 = .ok (.aload_n 0, 1) := by decide +kernel
theorem d_Tf_fen_45 : decode prog_1_method_10_code 45 = .ok (.bipush 10, 2) := by decide +kernel
theorem d_Tf_fen_47 : decode prog_1_method_10_code 47 = .ok (.invokevirtual 138, 3) := by decide +kernel
theorem d_Tf_fen_50 : decode prog_1_method_10_code 50 = .ok (.ireturn, 1) := by decide +kernel
theorem d_Tf_fen_51 : decode prog_1_method_10_code 51 = .ok (.aload_n 0, 1) := by decide +kernel
theorem d_Tf_fen_52 : decode prog_1_method_10_code 52 = .ok (.getfield 60, 3) := by decide +kernel
theorem d_Tf_fen_55 : decode prog_1_method_10_code 55 = .ok (.astore_n 3, 1) := by decide +kernel
theorem d_Tf_fen_56 : decode prog_1_method_10_code 56 = .ok (.aload_n 0, 1) := by decide +kernel
theorem d_Tf_fen_57 : decode prog_1_method_10_code 57 = .ok (.aload_n 0, 1) := by decide +kernel
theorem d_Tf_fen_58 : decode prog_1_method_10_code 58 = .ok (.getfield 64, 3) := by decide +kernel
theorem d_Tf_fen_61 : decode prog_1_method_10_code 61 = .ok (.putfield 60, 3) := by decide +kernel
theorem d_Tf_fen_64 : decode prog_1_method_10_code 64 = .ok (.aload_n 0, 1) := by decide +kernel
theorem d_Tf_fen_65 : decode prog_1_method_10_code 65 = .ok (.aload_n 3, 1) := by decide +kernel
theorem d_Tf_fen_66 : decode prog_1_method_10_code 66 = .ok (.putfield 64, 3) := by decide +kernel
theorem d_Tf_fen_69 : decode prog_1_method_10_code 69 = .ok (.aload_n 0, 1) := by decide +kernel
theorem d_Tf_fen_70 : decode prog_1_method_10_code 70 = .ok (.aload_n 0, 1) := by decide +kernel
theorem d_Tf_fen_71 : decode prog_1_method_10_code 71 = .ok (.getfield 60, 3) := by decide +kernel
theorem d_Tf_fen_74 : decode prog_1_method_10_code 74 = .ok (.getfield 171, 3) := by decide +kernel
theorem d_Tf_fen_77 : decode prog_1_method_10_code 77 = .ok (.invokevirtual 174, 3) := by decide +kernel
theorem d_Tf_fen_80 : decode prog_1_method_10_code 80 = .ok (.ireturn, 1) := by decide +kernel
theorem d_Tf_give_0 : decode prog_1_method_54_code 0 = .ok (.aload_n 0, 1) := by decide +kernel
theorem d_Tf_give_1 : decode prog_1_method_54_code 1 = .ok (.iconst 0, 1) := by decide +kernel
theorem d_Tf_give_2 : decode prog_1_method_54_code 2 = .ok (.putfield 7, 3) := by decide +kernel
theorem d_Tf_give_5 : decode prog_1_method_54_code 5 = .ok (.iload_n 1, 1) := by decide +kernel
theorem d_Tf_give_6 : decode prog_1_method_54_code 6 = .ok (.ireturn, 1) := by decide +kernel
theorem d_Tf_years_0 : decode prog_1_method_11_code 0 = .ok (.iload_n 1, 1) := by decide +kernel
theorem d_Tf_years_1 : decode prog_1_method_11_code 1 = .ok (.ifCond .lt 18, 3) := by decide +kernel
theorem d_Tf_years_4 : decode prog_1_method_11_code 4 = .ok (.iload_n 1, 1) := by decide +kernel
theorem d_Tf_years_5 : decode prog_1_method_11_code 5 = .ok (.aload_n 0, 1) := by decide +kernel
theorem d_Tf_years_6 : decode prog_1_method_11_code 6 = .ok (.getfield 24, 3) := by decide +kernel
theorem d_Tf_years_9 : decode prog_1_method_11_code 9 = .ok (.if_icmp .gt 10, 3) := by decide +kernel
theorem d_Tf_years_12 : decode prog_1_method_11_code 12 = .ok (.iload_n 1, 1) := by decide +kernel
theorem d_Tf_years_13 : decode prog_1_method_11_code 13 = .ok (.sipush 300, 3) := by decide +kernel
theorem d_Tf_years_16 : decode prog_1_method_11_code 16 = .ok (.if_icmp .le 9, 3) := by decide +kernel
theorem d_Tf_years_19 : decode prog_1_method_11_code 19 = .ok (.aload_n 0, 1) := by decide +kernel
theorem d_Tf_years_20 : decode prog_1_method_11_code 20 = .ok (.iconst 5, 1) := by decide +kernel
theorem d_Tf_years_21 : decode prog_1_method_11_code 21 = .ok (.invokevirtual 138, 3) := by decide +kernel
theorem d_Tf_years_24 : decode prog_1_method_11_code 24 = .ok (.ireturn, 1) := by decide +kernel
theorem d_Tf_years_25 : decode prog_1_method_11_code 25 = .ok (.aload_n 0, 1) := by decide +kernel
theorem d_Tf_years_26 : decode prog_1_method_11_code 26 = .ok (.getfield 53, 3) := by decide +kernel
theorem d_Tf_years_29 : decode prog_1_method_11_code 29 = .ok (.aload_n 0, 1) := by decide +kernel
theorem d_Tf_years_30 : decode prog_1_method_11_code 30 = .ok (.getfield 64, 3) := by decide +kernel
theorem d_Tf_years_33 : decode prog_1_method_11_code 33 = .ok (.getfield 177, 3) := by decide +kernel
theorem d_Tf_years_36 : decode prog_1_method_11_code 36 = .ok (.aload_n 0, 1) := by decide +kernel
theorem d_Tf_years_37 : decode prog_1_method_11_code 37 = .ok (.getfield 60, 3) := by decide +kernel
theorem d_Tf_years_40 : decode prog_1_method_11_code 40 = .ok (.aload_n 0, 1) := by decide +kernel
theorem d_Tf_years_41 : decode prog_1_method_11_code 41 = .ok (.getfield 20, 3) := by decide +kernel
theorem d_Tf_years_44 : decode prog_1_method_11_code 44 = .ok (.iload_n 1, 1) := by decide +kernel
theorem d_Tf_years_45 : decode prog_1_method_11_code 45 = .ok (.invokevirtual 181, 3) := by decide +kernel
theorem d_Tf_years_48 : decode prog_1_method_11_code 48 = .ok (.istore_n 2, 1) := by decide +kernel
theorem d_Tf_years_49 : decode prog_1_method_11_code 49 = .ok (.aload_n 0, 1) := by decide +kernel
theorem d_Tf_years_50 : decode prog_1_method_11_code 50 = .ok (.iconst 0, 1) := by decide +kernel
theorem d_Tf_years_51 : decode prog_1_method_11_code 51 = .ok (.putfield 24, 3) := by decide +kernel
theorem d_Tf_years_54 : decode prog_1_method_11_code 54 = .ok (.iload_n 2, 1) := by decide +kernel
theorem d_Tf_years_55 : decode prog_1_method_11_code 55 = .ok (.ifCond .ne 10, 3) := by decide +kernel
theorem d_Tf_years_58 : decode prog_1_method_11_code 58 = .ok (.aload_n 0, 1) := by decide +kernel
theorem d_Tf_years_59 : decode prog_1_method_11_code 59 = .ok (.bipush 10, 2) := by decide +kernel
theorem d_Tf_years_61 : decode prog_1_method_11_code 61 = .ok (.invokevirtual 138, 3) := by decide +kernel
theorem d_Tf_years_64 : decode prog_1_method_11_code 64 = .ok (.ireturn, 1) := by decide +kernel
theorem d_Tf_years_65 : decode prog_1_method_11_code 65 = .ok (.aload_n 0, 1) := by decide +kernel
theorem d_Tf_years_66 : decode prog_1_method_11_code 66 = .ok (.getfield 60, 3) := by decide +kernel
theorem d_Tf_years_69 : decode prog_1_method_11_code 69 = .ok (.getfield 177, 3) := by decide +kernel
theorem d_Tf_years_72 : decode prog_1_method_11_code 72 = .ok (.aload_n 0, 1) := by decide +kernel
theorem d_Tf_years_73 : decode prog_1_method_11_code 73 = .ok (.getfield 64, 3) := by decide +kernel
theorem d_Tf_years_76 : decode prog_1_method_11_code 76 = .ok (.getfield 177, 3) := by decide +kernel
theorem d_Tf_years_79 : decode prog_1_method_11_code 79 = .ok (.invokevirtual 184, 3) := by decide +kernel
theorem d_Tf_years_82 : decode prog_1_method_11_code 82 = .ok (.aload_n 0, 1) := by decide +kernel
theorem d_Tf_years_83 : decode prog_1_method_11_code 83 = .ok (.aload_n 0, 1) := by decide +kernel
theorem d_Tf_years_84 : decode prog_1_method_11_code 84 = .ok (.getfield 60, 3) := by decide +kernel
theorem d_Tf_years_87 : decode prog_1_method_11_code 87 = .ok (.getfield 177, 3) := by decide +kernel
theorem d_Tf_years_90 : decode prog_1_method_11_code 90 = .ok (.getfield 190, 3) := by decide +kernel
theorem d_Tf_years_93 : decode prog_1_method_11_code 93 = .ok (.invokevirtual 174, 3) := by decide +kernel
theorem d_Tf_years_96 : decode prog_1_method_11_code 96 = .ok (.ireturn, 1) := by decide +kernel
theorem d_Tf_fault_0 : decode prog_1_method_12_code 0 = .ok (.iload_n 1, 1) := by decide +kernel
theorem d_Tf_fault_1 : decode prog_1_method_12_code 1 = .ok (.ifCond .ne 11, 3) := by decide +kernel
theorem d_Tf_fault_4 : decode prog_1_method_12_code 4 = .ok (.aload_n 0, 1) := by decide +kernel
theorem d_Tf_fault_5 : decode prog_1_method_12_code 5 = .ok (.getfield 37, 3) := by decide +kernel
theorem d_Tf_fault_8 : decode prog_1_method_12_code 8 = .ok (.getfield 193, 3) := by decide +kernel
theorem d_Tf_fault_11 : decode prog_1_method_12_code 11 = .ok (.ireturn, 1) := by decide +kernel
theorem d_Tf_fault_12 : decode prog_1_method_12_code 12 = .ok (.iload_n 1, 1) := by decide +kernel
theorem d_Tf_fault_13 : decode prog_1_method_12_code 13 = .ok (.iconst 1, 1) := by decide +kernel
theorem d_Tf_fault_14 : decode prog_1_method_12_code 14 = .ok (.if_icmp .ne 13, 3) := by decide +kernel
theorem d_Tf_fault_17 : decode prog_1_method_12_code 17 = .ok (.aload_n 0, 1) := by decide +kernel
theorem d_Tf_fault_18 : decode prog_1_method_12_code 18 = .ok (.getfield 37, 3) := by decide +kernel
theorem d_Tf_fault_21 : decode prog_1_method_12_code 21 = .ok (.getfield 196, 3) := by decide +kernel
theorem d_Tf_fault_24 : decode prog_1_method_12_code 24 = .ok (.goto 4, 3) := by decide +kernel
theorem d_Tf_fault_27 : decode prog_1_method_12_code 27 = .ok (.iconst (-1), 1) := by decide +kernel
theorem d_Tf_fault_28 : decode prog_1_method_12_code 28 = .ok (.ireturn, 1) := by decide +kernel
theorem d_Tf_many_0 : decode prog_1_method_13_code 0 = .ok (.iload_n 1, 1) := by decide +kernel
theorem d_Tf_many_1 : decode prog_1_method_13_code 1 = .ok (.tableswitch 176 0 9 #[55, 67, 79, 91, 103, 115, 127, 140, 152, 164], 55) := by decide +kernel
theorem d_Tf_many_56 : decode prog_1_method_13_code 56 = .ok (.aload_n 0, 1) := by decide +kernel
theorem d_Tf_many_57 : decode prog_1_method_13_code 57 = .ok (.aload_n 0, 1) := by decide +kernel
theorem d_Tf_many_58 : decode prog_1_method_13_code 58 = .ok (.getfield 60, 3) := by decide +kernel
theorem d_Tf_many_61 : decode prog_1_method_13_code 61 = .ok (.getfield 199, 3) := by decide +kernel
theorem d_Tf_many_64 : decode prog_1_method_13_code 64 = .ok (.invokevirtual 174, 3) := by decide +kernel
theorem d_Tf_many_67 : decode prog_1_method_13_code 67 = .ok (.ireturn, 1) := by decide +kernel
theorem d_Tf_many_68 : decode prog_1_method_13_code 68 = .ok (.aload_n 0, 1) := by decide +kernel
theorem d_Tf_many_69 : decode prog_1_method_13_code 69 = .ok (.aload_n 0, 1) := by decide +kernel
theorem d_Tf_many_70 : decode prog_1_method_13_code 70 = .ok (.getfield 60, 3) := by decide +kernel
theorem d_Tf_many_73 : decode prog_1_method_13_code 73 = .ok (.getfield 202, 3) := by decide +kernel
theorem d_Tf_many_76 : decode prog_1_method_13_code 76 = .ok (.invokevirtual 174, 3) := by decide +kernel
theorem d_Tf_many_79 : decode prog_1_method_13_code 79 = .ok (.ireturn, 1) := by decide +kernel
theorem d_Tf_many_80 : decode prog_1_method_13_code 80 = .ok (.aload_n 0, 1) := by decide +kernel
theorem d_Tf_many_81 : decode prog_1_method_13_code 81 = .ok (.aload_n 0, 1) := by decide +kernel
theorem d_Tf_many_82 : decode prog_1_method_13_code 82 = .ok (.getfield 60, 3) := by decide +kernel
theorem d_Tf_many_85 : decode prog_1_method_13_code 85 = .ok (.getfield 205, 3) := by decide +kernel
theorem d_Tf_many_88 : decode prog_1_method_13_code 88 = .ok (.invokevirtual 174, 3) := by decide +kernel
theorem d_Tf_many_91 : decode prog_1_method_13_code 91 = .ok (.ireturn, 1) := by decide +kernel
theorem d_Tf_many_92 : decode prog_1_method_13_code 92 = .ok (.aload_n 0, 1) := by decide +kernel
theorem d_Tf_many_93 : decode prog_1_method_13_code 93 = .ok (.aload_n 0, 1) := by decide +kernel
theorem d_Tf_many_94 : decode prog_1_method_13_code 94 = .ok (.getfield 60, 3) := by decide +kernel
theorem d_Tf_many_97 : decode prog_1_method_13_code 97 = .ok (.getfield 171, 3) := by decide +kernel
theorem d_Tf_many_100 : decode prog_1_method_13_code 100 = .ok (.invokevirtual 174, 3) := by decide +kernel
theorem d_Tf_many_103 : decode prog_1_method_13_code 103 = .ok (.ireturn, 1) := by decide +kernel
theorem d_Tf_many_104 : decode prog_1_method_13_code 104 = .ok (.aload_n 0, 1) := by decide +kernel
theorem d_Tf_many_105 : decode prog_1_method_13_code 105 = .ok (.aload_n 0, 1) := by decide +kernel
theorem d_Tf_many_106 : decode prog_1_method_13_code 106 = .ok (.getfield 60, 3) := by decide +kernel
theorem d_Tf_many_109 : decode prog_1_method_13_code 109 = .ok (.getfield 208, 3) := by decide +kernel
theorem d_Tf_many_112 : decode prog_1_method_13_code 112 = .ok (.invokevirtual 174, 3) := by decide +kernel
theorem d_Tf_many_115 : decode prog_1_method_13_code 115 = .ok (.ireturn, 1) := by decide +kernel
theorem d_Tf_many_116 : decode prog_1_method_13_code 116 = .ok (.aload_n 0, 1) := by decide +kernel
theorem d_Tf_many_117 : decode prog_1_method_13_code 117 = .ok (.aload_n 0, 1) := by decide +kernel
theorem d_Tf_many_118 : decode prog_1_method_13_code 118 = .ok (.getfield 60, 3) := by decide +kernel
theorem d_Tf_many_121 : decode prog_1_method_13_code 121 = .ok (.getfield 211, 3) := by decide +kernel
theorem d_Tf_many_124 : decode prog_1_method_13_code 124 = .ok (.invokevirtual 174, 3) := by decide +kernel
theorem d_Tf_many_127 : decode prog_1_method_13_code 127 = .ok (.ireturn, 1) := by decide +kernel
theorem d_Tf_many_128 : decode prog_1_method_13_code 128 = .ok (.aload_n 0, 1) := by decide +kernel
theorem d_Tf_many_129 : decode prog_1_method_13_code 129 = .ok (.aload_n 0, 1) := by decide +kernel
theorem d_Tf_many_130 : decode prog_1_method_13_code 130 = .ok (.getfield 60, 3) := by decide +kernel
theorem d_Tf_many_133 : decode prog_1_method_13_code 133 = .ok (.iconst (-1), 1) := by decide +kernel
theorem d_Tf_many_134 : decode prog_1_method_13_code 134 = .ok (.invokevirtual 214, 3) := by decide +kernel
theorem d_Tf_many_137 : decode prog_1_method_13_code 137 = .ok (.invokevirtual 174, 3) := by decide +kernel
theorem d_Tf_many_140 : decode prog_1_method_13_code 140 = .ok (.ireturn, 1) := by decide +kernel
theorem d_Tf_many_141 : decode prog_1_method_13_code 141 = .ok (.aload_n 0, 1) := by decide +kernel
theorem d_Tf_many_142 : decode prog_1_method_13_code 142 = .ok (.aload_n 0, 1) := by decide +kernel
theorem d_Tf_many_143 : decode prog_1_method_13_code 143 = .ok (.getfield 60, 3) := by decide +kernel
theorem d_Tf_many_146 : decode prog_1_method_13_code 146 = .ok (.getfield 217, 3) := by decide +kernel
theorem d_Tf_many_149 : decode prog_1_method_13_code 149 = .ok (.invokevirtual 174, 3) := by decide +kernel
theorem d_Tf_many_152 : decode prog_1_method_13_code 152 = .ok (.ireturn, 1) := by decide +kernel
theorem d_Tf_many_153 : decode prog_1_method_13_code 153 = .ok (.aload_n 0, 1) := by decide +kernel
theorem d_Tf_many_154 : decode prog_1_method_13_code 154 = .ok (.aload_n 0, 1) := by decide +kernel
theorem d_Tf_many_155 : decode prog_1_method_13_code 155 = .ok (.getfield 60, 3) := by decide +kernel
theorem d_Tf_many_158 : decode prog_1_method_13_code 158 = .ok (.getfield 220, 3) := by decide +kernel
theorem d_Tf_many_161 : decode prog_1_method_13_code 161 = .ok (.invokevirtual 174, 3) := by decide +kernel
theorem d_Tf_many_164 : decode prog_1_method_13_code 164 = .ok (.ireturn, 1) := by decide +kernel
theorem d_Tf_many_165 : decode prog_1_method_13_code 165 = .ok (.aload_n 0, 1) := by decide +kernel
theorem d_Tf_many_166 : decode prog_1_method_13_code 166 = .ok (.aload_n 0, 1) := by decide +kernel
theorem d_Tf_many_167 : decode prog_1_method_13_code 167 = .ok (.getfield 60, 3) := by decide +kernel
theorem d_Tf_many_170 : decode prog_1_method_13_code 170 = .ok (.invokevirtual 223, 3) := by decide +kernel
theorem d_Tf_many_173 : decode prog_1_method_13_code 173 = .ok (.invokevirtual 174, 3) := by decide +kernel
theorem d_Tf_many_176 : decode prog_1_method_13_code 176 = .ok (.ireturn, 1) := by decide +kernel
theorem d_Tf_many_177 : decode prog_1_method_13_code 177 = .ok (.aload_n 0, 1) := by decide +kernel
theorem d_Tf_many_178 : decode prog_1_method_13_code 178 = .ok (.iconst 5, 1) := by decide +kernel
theorem d_Tf_many_179 : decode prog_1_method_13_code 179 = .ok (.invokevirtual 138, 3) := by decide +kernel
theorem d_Tf_many_182 : decode prog_1_method_13_code 182 = .ok (.ireturn, 1) := by decide +kernel
theorem d_Tf_worth_0 : decode prog_1_method_14_code 0 = .ok (.aload_n 0, 1) := by decide +kernel
theorem d_Tf_worth_1 : decode prog_1_method_14_code 1 = .ok (.iload_n 1, 1) := by decide +kernel
theorem d_Tf_worth_2 : decode prog_1_method_14_code 2 = .ok (.invokevirtual 227, 3) := by decide +kernel
theorem d_Tf_worth_5 : decode prog_1_method_14_code 5 = .ok (.ifCond .eq 9, 3) := by decide +kernel
theorem d_Tf_worth_8 : decode prog_1_method_14_code 8 = .ok (.aload_n 0, 1) := by decide +kernel
theorem d_Tf_worth_9 : decode prog_1_method_14_code 9 = .ok (.iconst 2, 1) := by decide +kernel
theorem d_Tf_worth_10 : decode prog_1_method_14_code 10 = .ok (.invokevirtual 138, 3) := by decide +kernel
theorem d_Tf_worth_13 : decode prog_1_method_14_code 13 = .ok (.ireturn, 1) := by decide +kernel
theorem d_Tf_worth_14 : decode prog_1_method_14_code 14 = .ok (.aload_n 0, 1) := by decide +kernel
theorem d_Tf_worth_15 : decode prog_1_method_14_code 15 = .ok (.aload_n 0, 1) := by decide +kernel
theorem d_Tf_worth_16 : decode prog_1_method_14_code 16 = .ok (.getfield 60, 3) := by decide +kernel
theorem d_Tf_worth_19 : decode prog_1_method_14_code 19 = .ok (.getfield 230, 3) := by decide +kernel
theorem d_Tf_worth_22 : decode prog_1_method_14_code 22 = .ok (.iload_n 1, 1) := by decide +kernel
theorem d_Tf_worth_23 : decode prog_1_method_14_code 23 = .ok (.iaload, 1) := by decide +kernel
theorem d_Tf_worth_24 : decode prog_1_method_14_code 24 = .ok (.invokevirtual 174, 3) := by decide +kernel
theorem d_Tf_worth_27 : decode prog_1_method_14_code 27 = .ok (.ireturn, 1) := by decide +kernel
theorem d_Tf_noTrait_0 : decode prog_1_method_58_code 0 = .ok (.iload_n 1, 1) := by decide +kernel
theorem d_Tf_noTrait_1 : decode prog_1_method_58_code 1 = .ok (.ifCond .lt 14, 3) := by decide +kernel
theorem d_Tf_noTrait_4 : decode prog_1_method_58_code 4 = .ok (.iload_n 1, 1) := by decide +kernel
theorem d_Tf_noTrait_5 : decode prog_1_method_58_code 5 = .ok (.aload_n 0, 1) := by decide +kernel
theorem d_Tf_noTrait_6 : decode prog_1_method_58_code 6 = .ok (.getfield 60, 3) := by decide +kernel
theorem d_Tf_noTrait_9 : decode prog_1_method_58_code 9 = .ok (.getfield 199, 3) := by decide +kernel
theorem d_Tf_noTrait_12 : decode prog_1_method_58_code 12 = .ok (.if_icmp .lt 7, 3) := by decide +kernel
theorem d_Tf_noTrait_15 : decode prog_1_method_58_code 15 = .ok (.iconst 1, 1) := by decide +kernel
theorem d_Tf_noTrait_16 : decode prog_1_method_58_code 16 = .ok (.goto 4, 3) := by decide +kernel
theorem d_Tf_noTrait_19 : decode prog_1_method_58_code 19 = .ok (.iconst 0, 1) := by decide +kernel
theorem d_Tf_noTrait_20 : decode prog_1_method_58_code 20 = .ok (.ireturn, 1) := by decide +kernel
theorem d_Tf_person_0 : decode prog_1_method_15_code 0 = .ok (.aload_n 0, 1) := by decide +kernel
theorem d_Tf_person_1 : decode prog_1_method_15_code 1 = .ok (.iload_n 1, 1) := by decide +kernel
theorem d_Tf_person_2 : decode prog_1_method_15_code 2 = .ok (.invokevirtual 234, 3) := by decide +kernel
theorem d_Tf_person_5 : decode prog_1_method_15_code 5 = .ok (.ifCond .eq 9, 3) := by decide +kernel
theorem d_Tf_person_8 : decode prog_1_method_15_code 8 = .ok (.aload_n 0, 1) := by decide +kernel
theorem d_Tf_person_9 : decode prog_1_method_15_code 9 = .ok (.iconst 2, 1) := by decide +kernel
theorem d_Tf_person_10 : decode prog_1_method_15_code 10 = .ok (.invokevirtual 138, 3) := by decide +kernel
theorem d_Tf_person_13 : decode prog_1_method_15_code 13 = .ok (.ireturn, 1) := by decide +kernel
theorem d_Tf_person_14 : decode prog_1_method_15_code 14 = .ok (.iload_n 2, 1) := by decide +kernel
theorem d_Tf_person_15 : decode prog_1_method_15_code 15 = .ok (.tableswitch 108 0 4 #[33, 47, 61, 74, 88], 33) := by decide +kernel
theorem d_Tf_person_48 : decode prog_1_method_15_code 48 = .ok (.aload_n 0, 1) := by decide +kernel
theorem d_Tf_person_49 : decode prog_1_method_15_code 49 = .ok (.aload_n 0, 1) := by decide +kernel
theorem d_Tf_person_50 : decode prog_1_method_15_code 50 = .ok (.getfield 60, 3) := by decide +kernel
theorem d_Tf_person_53 : decode prog_1_method_15_code 53 = .ok (.getfield 237, 3) := by decide +kernel
theorem d_Tf_person_56 : decode prog_1_method_15_code 56 = .ok (.iload_n 1, 1) := by decide +kernel
theorem d_Tf_person_57 : decode prog_1_method_15_code 57 = .ok (.iaload, 1) := by decide +kernel
theorem d_Tf_person_58 : decode prog_1_method_15_code 58 = .ok (.invokevirtual 174, 3) := by decide +kernel
theorem d_Tf_person_61 : decode prog_1_method_15_code 61 = .ok (.ireturn, 1) := by decide +kernel
theorem d_Tf_person_62 : decode prog_1_method_15_code 62 = .ok (.aload_n 0, 1) := by decide +kernel
theorem d_Tf_person_63 : decode prog_1_method_15_code 63 = .ok (.aload_n 0, 1) := by decide +kernel
theorem d_Tf_person_64 : decode prog_1_method_15_code 64 = .ok (.getfield 60, 3) := by decide +kernel
theorem d_Tf_person_67 : decode prog_1_method_15_code 67 = .ok (.getfield 240, 3) := by decide +kernel
theorem d_Tf_person_70 : decode prog_1_method_15_code 70 = .ok (.iload_n 1, 1) := by decide +kernel
theorem d_Tf_person_71 : decode prog_1_method_15_code 71 = .ok (.iaload, 1) := by decide +kernel
theorem d_Tf_person_72 : decode prog_1_method_15_code 72 = .ok (.invokevirtual 174, 3) := by decide +kernel
theorem d_Tf_person_75 : decode prog_1_method_15_code 75 = .ok (.ireturn, 1) := by decide +kernel
theorem d_Tf_person_76 : decode prog_1_method_15_code 76 = .ok (.aload_n 0, 1) := by decide +kernel
theorem d_Tf_person_77 : decode prog_1_method_15_code 77 = .ok (.aload_n 0, 1) := by decide +kernel
theorem d_Tf_person_78 : decode prog_1_method_15_code 78 = .ok (.getfield 60, 3) := by decide +kernel
theorem d_Tf_person_81 : decode prog_1_method_15_code 81 = .ok (.iload_n 1, 1) := by decide +kernel
theorem d_Tf_person_82 : decode prog_1_method_15_code 82 = .ok (.invokevirtual 214, 3) := by decide +kernel
theorem d_Tf_person_85 : decode prog_1_method_15_code 85 = .ok (.invokevirtual 174, 3) := by decide +kernel
theorem d_Tf_person_88 : decode prog_1_method_15_code 88 = .ok (.ireturn, 1) := by decide +kernel
theorem d_Tf_person_89 : decode prog_1_method_15_code 89 = .ok (.aload_n 0, 1) := by decide +kernel
theorem d_Tf_person_90 : decode prog_1_method_15_code 90 = .ok (.aload_n 0, 1) := by decide +kernel
theorem d_Tf_person_91 : decode prog_1_method_15_code 91 = .ok (.getfield 60, 3) := by decide +kernel
theorem d_Tf_person_94 : decode prog_1_method_15_code 94 = .ok (.getfield 243, 3) := by decide +kernel
theorem d_Tf_person_97 : decode prog_1_method_15_code 97 = .ok (.iload_n 1, 1) := by decide +kernel
theorem d_Tf_person_98 : decode prog_1_method_15_code 98 = .ok (.iaload, 1) := by decide +kernel
theorem d_Tf_person_99 : decode prog_1_method_15_code 99 = .ok (.invokevirtual 174, 3) := by decide +kernel
theorem d_Tf_person_102 : decode prog_1_method_15_code 102 = .ok (.ireturn, 1) := by decide +kernel
theorem d_Tf_person_103 : decode prog_1_method_15_code 103 = .ok (.aload_n 0, 1) := by decide +kernel
theorem d_Tf_person_104 : decode prog_1_method_15_code 104 = .ok (.aload_n 0, 1) := by decide +kernel
theorem d_Tf_person_105 : decode prog_1_method_15_code 105 = .ok (.getfield 60, 3) := by decide +kernel
theorem d_Tf_person_108 : decode prog_1_method_15_code 108 = .ok (.aload_n 0, 1) := by decide +kernel
theorem d_Tf_person_109 : decode prog_1_method_15_code 109 = .ok (.getfield 60, 3) := by decide +kernel
theorem d_Tf_person_112 : decode prog_1_method_15_code 112 = .ok (.iload_n 1, 1) := by decide +kernel
theorem d_Tf_person_113 : decode prog_1_method_15_code 113 = .ok (.invokevirtual 214, 3) := by decide +kernel
theorem d_Tf_person_116 : decode prog_1_method_15_code 116 = .ok (.invokevirtual 246, 3) := by decide +kernel
theorem d_Tf_person_119 : decode prog_1_method_15_code 119 = .ok (.invokevirtual 174, 3) := by decide +kernel
theorem d_Tf_person_122 : decode prog_1_method_15_code 122 = .ok (.ireturn, 1) := by decide +kernel
theorem d_Tf_person_123 : decode prog_1_method_15_code 123 = .ok (.aload_n 0, 1) := by decide +kernel
theorem d_Tf_person_124 : decode prog_1_method_15_code 124 = .ok (.iconst 5, 1) := by decide +kernel
theorem d_Tf_person_125 : decode prog_1_method_15_code 125 = .ok (.invokevirtual 138, 3) := by decide +kernel
theorem d_Tf_person_128 : decode prog_1_method_15_code 128 = .ok (.ireturn, 1) := by decide +kernel
theorem d_Tf_noPerson_0 : decode prog_1_method_59_code 0 = .ok (.iload_n 1, 1) := by decide +kernel
theorem d_Tf_noPerson_1 : decode prog_1_method_59_code 1 = .ok (.ifCond .lt 14, 3) := by decide +kernel
theorem d_Tf_noPerson_4 : decode prog_1_method_59_code 4 = .ok (.iload_n 1, 1) := by decide +kernel
theorem d_Tf_noPerson_5 : decode prog_1_method_59_code 5 = .ok (.aload_n 0, 1) := by decide +kernel
theorem d_Tf_noPerson_6 : decode prog_1_method_59_code 6 = .ok (.getfield 60, 3) := by decide +kernel
theorem d_Tf_noPerson_9 : decode prog_1_method_59_code 9 = .ok (.getfield 202, 3) := by decide +kernel
theorem d_Tf_noPerson_12 : decode prog_1_method_59_code 12 = .ok (.if_icmp .lt 7, 3) := by decide +kernel
theorem d_Tf_noPerson_15 : decode prog_1_method_59_code 15 = .ok (.iconst 1, 1) := by decide +kernel
theorem d_Tf_noPerson_16 : decode prog_1_method_59_code 16 = .ok (.goto 4, 3) := by decide +kernel
theorem d_Tf_noPerson_19 : decode prog_1_method_59_code 19 = .ok (.iconst 0, 1) := by decide +kernel
theorem d_Tf_noPerson_20 : decode prog_1_method_59_code 20 = .ok (.ireturn, 1) := by decide +kernel
theorem d_Tf_tin_0 : decode prog_1_method_16_code 0 = .ok (.aload_n 0, 1) := by decide +kernel
theorem d_Tf_tin_1 : decode prog_1_method_16_code 1 = .ok (.iload_n 1, 1) := by decide +kernel
theorem d_Tf_tin_2 : decode prog_1_method_16_code 2 = .ok (.invokevirtual 249, 3) := by decide +kernel
theorem d_Tf_tin_5 : decode prog_1_method_16_code 5 = .ok (.ifCond .eq 9, 3) := by decide +kernel
theorem d_Tf_tin_8 : decode prog_1_method_16_code 8 = .ok (.aload_n 0, 1) := by decide +kernel
theorem d_Tf_tin_9 : decode prog_1_method_16_code 9 = .ok (.iconst 2, 1) := by decide +kernel
theorem d_Tf_tin_10 : decode prog_1_method_16_code 10 = .ok (.invokevirtual 138, 3) := by decide +kernel
theorem d_Tf_tin_13 : decode prog_1_method_16_code 13 = .ok (.ireturn, 1) := by decide +kernel
theorem d_Tf_tin_14 : decode prog_1_method_16_code 14 = .ok (.iload_n 2, 1) := by decide +kernel
theorem d_Tf_tin_15 : decode prog_1_method_16_code 15 = .ok (.tableswitch 125 0 4 #[33, 47, 81, 97, 111], 33) := by decide +kernel
theorem d_Tf_tin_48 : decode prog_1_method_16_code 48 = .ok (.aload_n 0, 1) := by decide +kernel
theorem d_Tf_tin_49 : decode prog_1_method_16_code 49 = .ok (.aload_n 0, 1) := by decide +kernel
theorem d_Tf_tin_50 : decode prog_1_method_16_code 50 = .ok (.getfield 60, 3) := by decide +kernel
theorem d_Tf_tin_53 : decode prog_1_method_16_code 53 = .ok (.getfield 252, 3) := by decide +kernel
theorem d_Tf_tin_56 : decode prog_1_method_16_code 56 = .ok (.iload_n 1, 1) := by decide +kernel
theorem d_Tf_tin_57 : decode prog_1_method_16_code 57 = .ok (.iaload, 1) := by decide +kernel
theorem d_Tf_tin_58 : decode prog_1_method_16_code 58 = .ok (.invokevirtual 174, 3) := by decide +kernel
theorem d_Tf_tin_61 : decode prog_1_method_16_code 61 = .ok (.ireturn, 1) := by decide +kernel
theorem d_Tf_tin_62 : decode prog_1_method_16_code 62 = .ok (.aload_n 0, 1) := by decide +kernel
theorem d_Tf_tin_63 : decode prog_1_method_16_code 63 = .ok (.getfield 60, 3) := by decide +kernel
theorem d_Tf_tin_66 : decode prog_1_method_16_code 66 = .ok (.iload_n 1, 1) := by decide +kernel
theorem d_Tf_tin_67 : decode prog_1_method_16_code 67 = .ok (.invokevirtual 255, 3) := by decide +kernel
theorem d_Tf_tin_70 : decode prog_1_method_16_code 70 = .ok (.ifCond .eq 12, 3) := by decide +kernel
theorem d_Tf_tin_73 : decode prog_1_method_16_code 73 = .ok (.aload_n 0, 1) := by decide +kernel
theorem d_Tf_tin_74 : decode prog_1_method_16_code 74 = .ok (.bipush 8, 2) := by decide +kernel
theorem d_Tf_tin_76 : decode prog_1_method_16_code 76 = .ok (.invokevirtual 138, 3) := by decide +kernel
theorem d_Tf_tin_79 : decode prog_1_method_16_code 79 = .ok (.goto 16, 3) := by decide +kernel
theorem d_Tf_tin_82 : decode prog_1_method_16_code 82 = .ok (.aload_n 0, 1) := by decide +kernel
theorem d_Tf_tin_83 : decode prog_1_method_16_code 83 = .ok (.aload_n 0, 1) := by decide +kernel
theorem d_Tf_tin_84 : decode prog_1_method_16_code 84 = .ok (.getfield 60, 3) := by decide +kernel
theorem d_Tf_tin_87 : decode prog_1_method_16_code 87 = .ok (.getfield 258, 3) := by decide +kernel
theorem d_Tf_tin_90 : decode prog_1_method_16_code 90 = .ok (.iload_n 1, 1) := by decide +kernel
theorem d_Tf_tin_91 : decode prog_1_method_16_code 91 = .ok (.iaload, 1) := by decide +kernel
theorem d_Tf_tin_92 : decode prog_1_method_16_code 92 = .ok (.invokevirtual 174, 3) := by decide +kernel
theorem d_Tf_tin_95 : decode prog_1_method_16_code 95 = .ok (.ireturn, 1) := by decide +kernel
theorem d_Tf_tin_96 : decode prog_1_method_16_code 96 = .ok (.aload_n 0, 1) := by decide +kernel
theorem d_Tf_tin_97 : decode prog_1_method_16_code 97 = .ok (.aload_n 0, 1) := by decide +kernel
theorem d_Tf_tin_98 : decode prog_1_method_16_code 98 = .ok (.getfield 60, 3) := by decide +kernel
theorem d_Tf_tin_101 : decode prog_1_method_16_code 101 = .ok (.getfield 220, 3) := by decide +kernel
theorem d_Tf_tin_104 : decode prog_1_method_16_code 104 = .ok (.iload_n 1, 1) := by decide +kernel
theorem d_Tf_tin_105 : decode prog_1_method_16_code 105 = .ok (.ishr, 1) := by decide +kernel
theorem d_Tf_tin_106 : decode prog_1_method_16_code 106 = .ok (.iconst 1, 1) := by decide +kernel
theorem d_Tf_tin_107 : decode prog_1_method_16_code 107 = .ok (.iand, 1) := by decide +kernel
theorem d_Tf_tin_108 : decode prog_1_method_16_code 108 = .ok (.invokevirtual 174, 3) := by decide +kernel
theorem d_Tf_tin_111 : decode prog_1_method_16_code 111 = .ok (.ireturn, 1) := by decide +kernel
theorem d_Tf_tin_112 : decode prog_1_method_16_code 112 = .ok (.aload_n 0, 1) := by decide +kernel
theorem d_Tf_tin_113 : decode prog_1_method_16_code 113 = .ok (.aload_n 0, 1) := by decide +kernel
theorem d_Tf_tin_114 : decode prog_1_method_16_code 114 = .ok (.getfield 60, 3) := by decide +kernel
theorem d_Tf_tin_117 : decode prog_1_method_16_code 117 = .ok (.getfield 261, 3) := by decide +kernel
theorem d_Tf_tin_120 : decode prog_1_method_16_code 120 = .ok (.iload_n 1, 1) := by decide +kernel
theorem d_Tf_tin_121 : decode prog_1_method_16_code 121 = .ok (.iaload, 1) := by decide +kernel
theorem d_Tf_tin_122 : decode prog_1_method_16_code 122 = .ok (.invokevirtual 174, 3) := by decide +kernel
theorem d_Tf_tin_125 : decode prog_1_method_16_code 125 = .ok (.ireturn, 1) := by decide +kernel
theorem d_Tf_tin_126 : decode prog_1_method_16_code 126 = .ok (.aload_n 0, 1) := by decide +kernel
theorem d_Tf_tin_127 : decode prog_1_method_16_code 127 = .ok (.aload_n 0, 1) := by decide +kernel
theorem d_Tf_tin_128 : decode prog_1_method_16_code 128 = .ok (.getfield 60, 3) := by decide +kernel
theorem d_Tf_tin_131 : decode prog_1_method_16_code 131 = .ok (.getfield 264, 3) := by decide +kernel
theorem d_Tf_tin_134 : decode prog_1_method_16_code 134 = .ok (.iload_n 1, 1) := by decide +kernel
theorem d_Tf_tin_135 : decode prog_1_method_16_code 135 = .ok (.iaload, 1) := by decide +kernel
theorem d_Tf_tin_136 : decode prog_1_method_16_code 136 = .ok (.invokevirtual 174, 3) := by decide +kernel
theorem d_Tf_tin_139 : decode prog_1_method_16_code 139 = .ok (.ireturn, 1) := by decide +kernel
theorem d_Tf_tin_140 : decode prog_1_method_16_code 140 = .ok (.aload_n 0, 1) := by decide +kernel
theorem d_Tf_tin_141 : decode prog_1_method_16_code 141 = .ok (.iconst 5, 1) := by decide +kernel
theorem d_Tf_tin_142 : decode prog_1_method_16_code 142 = .ok (.invokevirtual 138, 3) := by decide +kernel
theorem d_Tf_tin_145 : decode prog_1_method_16_code 145 = .ok (.ireturn, 1) := by decide +kernel
theorem d_Tf_noTin_0 : decode prog_1_method_60_code 0 = .ok (.iload_n 1, 1) := by decide +kernel
theorem d_Tf_noTin_1 : decode prog_1_method_60_code 1 = .ok (.ifCond .lt 14, 3) := by decide +kernel
theorem d_Tf_noTin_4 : decode prog_1_method_60_code 4 = .ok (.iload_n 1, 1) := by decide +kernel
theorem d_Tf_noTin_5 : decode prog_1_method_60_code 5 = .ok (.aload_n 0, 1) := by decide +kernel
theorem d_Tf_noTin_6 : decode prog_1_method_60_code 6 = .ok (.getfield 60, 3) := by decide +kernel
theorem d_Tf_noTin_9 : decode prog_1_method_60_code 9 = .ok (.getfield 171, 3) := by decide +kernel
theorem d_Tf_noTin_12 : decode prog_1_method_60_code 12 = .ok (.if_icmp .lt 7, 3) := by decide +kernel
theorem d_Tf_noTin_15 : decode prog_1_method_60_code 15 = .ok (.iconst 1, 1) := by decide +kernel
theorem d_Tf_noTin_16 : decode prog_1_method_60_code 16 = .ok (.goto 4, 3) := by decide +kernel
theorem d_Tf_noTin_19 : decode prog_1_method_60_code 19 = .ok (.iconst 0, 1) := by decide +kernel
theorem d_Tf_noTin_20 : decode prog_1_method_60_code 20 = .ok (.ireturn, 1) := by decide +kernel
theorem d_Tf_copyGot_0 : decode prog_1_method_17_code 0 = .ok (.aload_n 0, 1) := by decide +kernel
theorem d_Tf_copyGot_1 : decode prog_1_method_17_code 1 = .ok (.iload_n 1, 1) := by decide +kernel
theorem d_Tf_copyGot_2 : decode prog_1_method_17_code 2 = .ok (.invokevirtual 267, 3) := by decide +kernel
theorem d_Tf_copyGot_5 : decode prog_1_method_17_code 5 = .ok (.istore_n 2, 1) := by decide +kernel
theorem d_Tf_copyGot_6 : decode prog_1_method_17_code 6 = .ok (.iload_n 2, 1) := by decide +kernel
theorem d_Tf_copyGot_7 : decode prog_1_method_17_code 7 = .ok (.ifCond .eq 9, 3) := by decide +kernel
theorem d_Tf_copyGot_10 : decode prog_1_method_17_code 10 = .ok (.aload_n 0, 1) := by decide +kernel
theorem d_Tf_copyGot_11 : decode prog_1_method_17_code 11 = .ok (.iload_n 2, 1) := by decide +kernel
theorem d_Tf_copyGot_12 : decode prog_1_method_17_code 12 = .ok (.invokevirtual 138, 3) := by decide +kernel
theorem d_Tf_copyGot_15 : decode prog_1_method_17_code 15 = .ok (.ireturn, 1) := by decide +kernel
theorem d_Tf_copyGot_16 : decode prog_1_method_17_code 16 = .ok (.aload_n 0, 1) := by decide +kernel
theorem d_Tf_copyGot_17 : decode prog_1_method_17_code 17 = .ok (.getfield 29, 3) := by decide +kernel
theorem d_Tf_copyGot_20 : decode prog_1_method_17_code 20 = .ok (.iload_n 1, 1) := by decide +kernel
theorem d_Tf_copyGot_21 : decode prog_1_method_17_code 21 = .ok (.aaload, 1) := by decide +kernel
theorem d_Tf_copyGot_22 : decode prog_1_method_17_code 22 = .ok (.iconst 0, 1) := by decide +kernel
theorem d_Tf_copyGot_23 : decode prog_1_method_17_code 23 = .ok (.aload_n 0, 1) := by decide +kernel
theorem d_Tf_copyGot_24 : decode prog_1_method_17_code 24 = .ok (.getfield 60, 3) := by decide +kernel
theorem d_Tf_copyGot_27 : decode prog_1_method_17_code 27 = .ok (.getfield 202, 3) := by decide +kernel
theorem d_Tf_copyGot_30 : decode prog_1_method_17_code 30 = .ok (.invokevirtual 153, 3) := by decide +kernel
theorem d_Tf_copyGot_33 : decode prog_1_method_17_code 33 = .ok (.ifCond .ne 9, 3) := by decide +kernel
theorem d_Tf_copyGot_36 : decode prog_1_method_17_code 36 = .ok (.aload_n 0, 1) := by decide +kernel
theorem d_Tf_copyGot_37 : decode prog_1_method_17_code 37 = .ok (.iconst 4, 1) := by decide +kernel
theorem d_Tf_copyGot_38 : decode prog_1_method_17_code 38 = .ok (.invokevirtual 138, 3) := by decide +kernel
theorem d_Tf_copyGot_41 : decode prog_1_method_17_code 41 = .ok (.ireturn, 1) := by decide +kernel
theorem d_Tf_copyGot_42 : decode prog_1_method_17_code 42 = .ok (.iconst 0, 1) := by decide +kernel
theorem d_Tf_copyGot_43 : decode prog_1_method_17_code 43 = .ok (.istore_n 3, 1) := by decide +kernel
theorem d_Tf_copyGot_44 : decode prog_1_method_17_code 44 = .ok (.iload_n 3, 1) := by decide +kernel
theorem d_Tf_copyGot_45 : decode prog_1_method_17_code 45 = .ok (.aload_n 0, 1) := by decide +kernel
theorem d_Tf_copyGot_46 : decode prog_1_method_17_code 46 = .ok (.getfield 60, 3) := by decide +kernel
theorem d_Tf_copyGot_49 : decode prog_1_method_17_code 49 = .ok (.getfield 202, 3) := by decide +kernel
theorem d_Tf_copyGot_52 : decode prog_1_method_17_code 52 = .ok (.if_icmp .ge 29, 3) := by decide +kernel
theorem d_Tf_copyGot_55 : decode prog_1_method_17_code 55 = .ok (.aload_n 0, 1) := by decide +kernel
theorem d_Tf_copyGot_56 : decode prog_1_method_17_code 56 = .ok (.getfield 29, 3) := by decide +kernel
theorem d_Tf_copyGot_59 : decode prog_1_method_17_code 59 = .ok (.iload_n 1, 1) := by decide +kernel
theorem d_Tf_copyGot_60 : decode prog_1_method_17_code 60 = .ok (.aaload, 1) := by decide +kernel
theorem d_Tf_copyGot_61 : decode prog_1_method_17_code 61 = .ok (.iload_n 3, 1) := by decide +kernel
theorem d_Tf_copyGot_62 : decode prog_1_method_17_code 62 = .ok (.aload_n 0, 1) := by decide +kernel
theorem d_Tf_copyGot_63 : decode prog_1_method_17_code 63 = .ok (.getfield 60, 3) := by decide +kernel
theorem d_Tf_copyGot_66 : decode prog_1_method_17_code 66 = .ok (.getfield 243, 3) := by decide +kernel
theorem d_Tf_copyGot_69 : decode prog_1_method_17_code 69 = .ok (.iload_n 3, 1) := by decide +kernel
theorem d_Tf_copyGot_70 : decode prog_1_method_17_code 70 = .ok (.iaload, 1) := by decide +kernel
theorem d_Tf_copyGot_71 : decode prog_1_method_17_code 71 = .ok (.i2l, 1) := by decide +kernel
theorem d_Tf_copyGot_72 : decode prog_1_method_17_code 72 = .ok (.invokevirtual 134, 3) := by decide +kernel
theorem d_Tf_copyGot_75 : decode prog_1_method_17_code 75 = .ok (.iinc 3 1, 3) := by decide +kernel
theorem d_Tf_copyGot_78 : decode prog_1_method_17_code 78 = .ok (.goto (-34), 3) := by decide +kernel
theorem d_Tf_copyGot_81 : decode prog_1_method_17_code 81 = .ok (.aload_n 0, 1) := by decide +kernel
theorem d_Tf_copyGot_82 : decode prog_1_method_17_code 82 = .ok (.aload_n 0, 1) := by decide +kernel
theorem d_Tf_copyGot_83 : decode prog_1_method_17_code 83 = .ok (.getfield 60, 3) := by decide +kernel
theorem d_Tf_copyGot_86 : decode prog_1_method_17_code 86 = .ok (.getfield 202, 3) := by decide +kernel
theorem d_Tf_copyGot_89 : decode prog_1_method_17_code 89 = .ok (.invokevirtual 174, 3) := by decide +kernel
theorem d_Tf_copyGot_92 : decode prog_1_method_17_code 92 = .ok (.ireturn, 1) := by decide +kernel
theorem d_Tf_pass_0 : decode prog_1_method_18_code 0 = .ok (.aload_n 0, 1) := by decide +kernel
theorem d_Tf_pass_1 : decode prog_1_method_18_code 1 = .ok (.iload_n 1, 1) := by decide +kernel
theorem d_Tf_pass_2 : decode prog_1_method_18_code 2 = .ok (.invokevirtual 249, 3) := by decide +kernel
theorem d_Tf_pass_5 : decode prog_1_method_18_code 5 = .ok (.ifCond .ne 11, 3) := by decide +kernel
theorem d_Tf_pass_8 : decode prog_1_method_18_code 8 = .ok (.aload_n 0, 1) := by decide +kernel
theorem d_Tf_pass_9 : decode prog_1_method_18_code 9 = .ok (.iload_n 2, 1) := by decide +kernel
theorem d_Tf_pass_10 : decode prog_1_method_18_code 10 = .ok (.invokevirtual 234, 3) := by decide +kernel
theorem d_Tf_pass_13 : decode prog_1_method_18_code 13 = .ok (.ifCond .eq 9, 3) := by decide +kernel
theorem d_Tf_pass_16 : decode prog_1_method_18_code 16 = .ok (.aload_n 0, 1) := by decide +kernel
theorem d_Tf_pass_17 : decode prog_1_method_18_code 17 = .ok (.iconst 2, 1) := by decide +kernel
theorem d_Tf_pass_18 : decode prog_1_method_18_code 18 = .ok (.invokevirtual 138, 3) := by decide +kernel
theorem d_Tf_pass_21 : decode prog_1_method_18_code 21 = .ok (.ireturn, 1) := by decide +kernel
theorem d_Tf_pass_22 : decode prog_1_method_18_code 22 = .ok (.aload_n 0, 1) := by decide +kernel
theorem d_Tf_pass_23 : decode prog_1_method_18_code 23 = .ok (.getfield 60, 3) := by decide +kernel
theorem d_Tf_pass_26 : decode prog_1_method_18_code 26 = .ok (.iload_n 1, 1) := by decide +kernel
theorem d_Tf_pass_27 : decode prog_1_method_18_code 27 = .ok (.iload_n 2, 1) := by decide +kernel
theorem d_Tf_pass_28 : decode prog_1_method_18_code 28 = .ok (.invokevirtual 270, 3) := by decide +kernel
theorem d_Tf_pass_31 : decode prog_1_method_18_code 31 = .ok (.ifCond .ne 10, 3) := by decide +kernel
theorem d_Tf_pass_34 : decode prog_1_method_18_code 34 = .ok (.aload_n 0, 1) := by decide +kernel
theorem d_Tf_pass_35 : decode prog_1_method_18_code 35 = .ok (.bipush 9, 2) := by decide +kernel
theorem d_Tf_pass_37 : decode prog_1_method_18_code 37 = .ok (.invokevirtual 138, 3) := by decide +kernel
theorem d_Tf_pass_40 : decode prog_1_method_18_code 40 = .ok (.ireturn, 1) := by decide +kernel
theorem d_Tf_pass_41 : decode prog_1_method_18_code 41 = .ok (.aload_n 0, 1) := by decide +kernel
theorem d_Tf_pass_42 : decode prog_1_method_18_code 42 = .ok (.getfield 60, 3) := by decide +kernel
theorem d_Tf_pass_45 : decode prog_1_method_18_code 45 = .ok (.getfield 258, 3) := by decide +kernel
theorem d_Tf_pass_48 : decode prog_1_method_18_code 48 = .ok (.iload_n 1, 1) := by decide +kernel
theorem d_Tf_pass_49 : decode prog_1_method_18_code 49 = .ok (.iaload, 1) := by decide +kernel
theorem d_Tf_pass_50 : decode prog_1_method_18_code 50 = .ok (.istore_n 3, 1) := by decide +kernel
theorem d_Tf_pass_51 : decode prog_1_method_18_code 51 = .ok (.aload_n 0, 1) := by decide +kernel
theorem d_Tf_pass_52 : decode prog_1_method_18_code 52 = .ok (.getfield 60, 3) := by decide +kernel
theorem d_Tf_pass_55 : decode prog_1_method_18_code 55 = .ok (.iload_n 1, 1) := by decide +kernel
theorem d_Tf_pass_56 : decode prog_1_method_18_code 56 = .ok (.iload_n 2, 1) := by decide +kernel
theorem d_Tf_pass_57 : decode prog_1_method_18_code 57 = .ok (.invokevirtual 273, 3) := by decide +kernel
theorem d_Tf_pass_60 : decode prog_1_method_18_code 60 = .ok (.aload_n 0, 1) := by decide +kernel
theorem d_Tf_pass_61 : decode prog_1_method_18_code 61 = .ok (.aload_n 0, 1) := by decide +kernel
theorem d_Tf_pass_62 : decode prog_1_method_18_code 62 = .ok (.getfield 60, 3) := by decide +kernel
theorem d_Tf_pass_65 : decode prog_1_method_18_code 65 = .ok (.getfield 243, 3) := by decide +kernel
theorem d_Tf_pass_68 : decode prog_1_method_18_code 68 = .ok (.iload_n 3, 1) := by decide +kernel
theorem d_Tf_pass_69 : decode prog_1_method_18_code 69 = .ok (.iaload, 1) := by decide +kernel
theorem d_Tf_pass_70 : decode prog_1_method_18_code 70 = .ok (.invokevirtual 174, 3) := by decide +kernel
theorem d_Tf_pass_73 : decode prog_1_method_18_code 73 = .ok (.ireturn, 1) := by decide +kernel
theorem d_Tf_bite_0 : decode prog_1_method_19_code 0 = .ok (.aload_n 0, 1) := by decide +kernel
theorem d_Tf_bite_1 : decode prog_1_method_19_code 1 = .ok (.iload_n 1, 1) := by decide +kernel
theorem d_Tf_bite_2 : decode prog_1_method_19_code 2 = .ok (.invokevirtual 276, 3) := by decide +kernel
theorem d_Tf_bite_5 : decode prog_1_method_19_code 5 = .ok (.istore_n 2, 1) := by decide +kernel
theorem d_Tf_bite_6 : decode prog_1_method_19_code 6 = .ok (.iload_n 2, 1) := by decide +kernel
theorem d_Tf_bite_7 : decode prog_1_method_19_code 7 = .ok (.ifCond .eq 9, 3) := by decide +kernel
theorem d_Tf_bite_10 : decode prog_1_method_19_code 10 = .ok (.aload_n 0, 1) := by decide +kernel
theorem d_Tf_bite_11 : decode prog_1_method_19_code 11 = .ok (.iload_n 2, 1) := by decide +kernel
theorem d_Tf_bite_12 : decode prog_1_method_19_code 12 = .ok (.invokevirtual 138, 3) := by decide +kernel
theorem d_Tf_bite_15 : decode prog_1_method_19_code 15 = .ok (.ireturn, 1) := by decide +kernel
theorem d_Tf_bite_16 : decode prog_1_method_19_code 16 = .ok (.aload_n 0, 1) := by decide +kernel
theorem d_Tf_bite_17 : decode prog_1_method_19_code 17 = .ok (.getfield 60, 3) := by decide +kernel
theorem d_Tf_bite_20 : decode prog_1_method_19_code 20 = .ok (.iload_n 1, 1) := by decide +kernel
theorem d_Tf_bite_21 : decode prog_1_method_19_code 21 = .ok (.invokevirtual 279, 3) := by decide +kernel
theorem d_Tf_bite_24 : decode prog_1_method_19_code 24 = .ok (.ifCond .ne 9, 3) := by decide +kernel
theorem d_Tf_bite_27 : decode prog_1_method_19_code 27 = .ok (.aload_n 0, 1) := by decide +kernel
theorem d_Tf_bite_28 : decode prog_1_method_19_code 28 = .ok (.iconst 0, 1) := by decide +kernel
theorem d_Tf_bite_29 : decode prog_1_method_19_code 29 = .ok (.invokevirtual 174, 3) := by decide +kernel
theorem d_Tf_bite_32 : decode prog_1_method_19_code 32 = .ok (.ireturn, 1) := by decide +kernel
theorem d_Tf_bite_33 : decode prog_1_method_19_code 33 = .ok (.aload_n 0, 1) := by decide +kernel
theorem d_Tf_bite_34 : decode prog_1_method_19_code 34 = .ok (.getfield 60, 3) := by decide +kernel
theorem d_Tf_bite_37 : decode prog_1_method_19_code 37 = .ok (.iload_n 1, 1) := by decide +kernel
theorem d_Tf_bite_38 : decode prog_1_method_19_code 38 = .ok (.invokevirtual 282, 3) := by decide +kernel
theorem d_Tf_bite_41 : decode prog_1_method_19_code 41 = .ok (.aload_n 0, 1) := by decide +kernel
theorem d_Tf_bite_42 : decode prog_1_method_19_code 42 = .ok (.iconst 1, 1) := by decide +kernel
theorem d_Tf_bite_43 : decode prog_1_method_19_code 43 = .ok (.invokevirtual 174, 3) := by decide +kernel
theorem d_Tf_bite_46 : decode prog_1_method_19_code 46 = .ok (.ireturn, 1) := by decide +kernel
theorem d_Tf_tinStatus_0 : decode prog_1_method_63_code 0 = .ok (.aload_n 0, 1) := by decide +kernel
theorem d_Tf_tinStatus_1 : decode prog_1_method_63_code 1 = .ok (.iload_n 1, 1) := by decide +kernel
theorem d_Tf_tinStatus_2 : decode prog_1_method_63_code 2 = .ok (.invokevirtual 249, 3) := by decide +kernel
theorem d_Tf_tinStatus_5 : decode prog_1_method_63_code 5 = .ok (.ifCond .eq 5, 3) := by decide +kernel
theorem d_Tf_tinStatus_8 : decode prog_1_method_63_code 8 = .ok (.iconst 2, 1) := by decide +kernel
theorem d_Tf_tinStatus_9 : decode prog_1_method_63_code 9 = .ok (.ireturn, 1) := by decide +kernel
theorem d_Tf_tinStatus_10 : decode prog_1_method_63_code 10 = .ok (.aload_n 0, 1) := by decide +kernel
theorem d_Tf_tinStatus_11 : decode prog_1_method_63_code 11 = .ok (.getfield 60, 3) := by decide +kernel
theorem d_Tf_tinStatus_14 : decode prog_1_method_63_code 14 = .ok (.iload_n 1, 1) := by decide +kernel
theorem d_Tf_tinStatus_15 : decode prog_1_method_63_code 15 = .ok (.invokevirtual 255, 3) := by decide +kernel
theorem d_Tf_tinStatus_18 : decode prog_1_method_63_code 18 = .ok (.ifCond .eq 8, 3) := by decide +kernel
theorem d_Tf_tinStatus_21 : decode prog_1_method_63_code 21 = .ok (.bipush 9, 2) := by decide +kernel
theorem d_Tf_tinStatus_23 : decode prog_1_method_63_code 23 = .ok (.goto 4, 3) := by decide +kernel
theorem d_Tf_tinStatus_26 : decode prog_1_method_63_code 26 = .ok (.iconst 0, 1) := by decide +kernel
theorem d_Tf_tinStatus_27 : decode prog_1_method_63_code 27 = .ok (.ireturn, 1) := by decide +kernel
theorem d_Tf_recite_0 : decode prog_1_method_20_code 0 = .ok (.aload_n 0, 1) := by decide +kernel
theorem d_Tf_recite_1 : decode prog_1_method_20_code 1 = .ok (.iload_n 1, 1) := by decide +kernel
theorem d_Tf_recite_2 : decode prog_1_method_20_code 2 = .ok (.invokevirtual 249, 3) := by decide +kernel
theorem d_Tf_recite_5 : decode prog_1_method_20_code 5 = .ok (.ifCond .ne 11, 3) := by decide +kernel
theorem d_Tf_recite_8 : decode prog_1_method_20_code 8 = .ok (.aload_n 0, 1) := by decide +kernel
theorem d_Tf_recite_9 : decode prog_1_method_20_code 9 = .ok (.iload_n 2, 1) := by decide +kernel
theorem d_Tf_recite_10 : decode prog_1_method_20_code 10 = .ok (.invokevirtual 234, 3) := by decide +kernel
theorem d_Tf_recite_13 : decode prog_1_method_20_code 13 = .ok (.ifCond .eq 9, 3) := by decide +kernel
theorem d_Tf_recite_16 : decode prog_1_method_20_code 16 = .ok (.aload_n 0, 1) := by decide +kernel
theorem d_Tf_recite_17 : decode prog_1_method_20_code 17 = .ok (.iconst 2, 1) := by decide +kernel
theorem d_Tf_recite_18 : decode prog_1_method_20_code 18 = .ok (.invokevirtual 119, 3) := by decide +kernel
theorem d_Tf_recite_21 : decode prog_1_method_20_code 21 = .ok (.ireturn, 1) := by decide +kernel
theorem d_Tf_recite_22 : decode prog_1_method_20_code 22 = .ok (.aload_n 0, 1) := by decide +kernel
theorem d_Tf_recite_23 : decode prog_1_method_20_code 23 = .ok (.getfield 60, 3) := by decide +kernel
theorem d_Tf_recite_26 : decode prog_1_method_20_code 26 = .ok (.getfield 217, 3) := by decide +kernel
theorem d_Tf_recite_29 : decode prog_1_method_20_code 29 = .ok (.iload_n 1, 1) := by decide +kernel
theorem d_Tf_recite_30 : decode prog_1_method_20_code 30 = .ok (.ishr, 1) := by decide +kernel
theorem d_Tf_recite_31 : decode prog_1_method_20_code 31 = .ok (.iconst 1, 1) := by decide +kernel
theorem d_Tf_recite_32 : decode prog_1_method_20_code 32 = .ok (.iand, 1) := by decide +kernel
theorem d_Tf_recite_33 : decode prog_1_method_20_code 33 = .ok (.ifCond .eq 7, 3) := by decide +kernel
theorem d_Tf_recite_36 : decode prog_1_method_20_code 36 = .ok (.iconst 1, 1) := by decide +kernel
theorem d_Tf_recite_37 : decode prog_1_method_20_code 37 = .ok (.goto 4, 3) := by decide +kernel
theorem d_Tf_recite_40 : decode prog_1_method_20_code 40 = .ok (.iconst 0, 1) := by decide +kernel
theorem d_Tf_recite_41 : decode prog_1_method_20_code 41 = .ok (.istore_n 3, 1) := by decide +kernel
theorem d_Tf_recite_42 : decode prog_1_method_20_code 42 = .ok (.iload_n 3, 1) := by decide +kernel
theorem d_Tf_recite_43 : decode prog_1_method_20_code 43 = .ok (.ifCond .ne 36, 3) := by decide +kernel
theorem d_Tf_recite_46 : decode prog_1_method_20_code 46 = .ok (.aload_n 0, 1) := by decide +kernel
theorem d_Tf_recite_47 : decode prog_1_method_20_code 47 = .ok (.getfield 60, 3) := by decide +kernel
theorem d_Tf_recite_50 : decode prog_1_method_20_code 50 = .ok (.iload_n 2, 1) := by decide +kernel
theorem d_Tf_recite_51 : decode prog_1_method_20_code 51 = .ok (.aload_n 0, 1) := by decide +kernel
theorem d_Tf_recite_52 : decode prog_1_method_20_code 52 = .ok (.getfield 60, 3) := by decide +kernel
theorem d_Tf_recite_55 : decode prog_1_method_20_code 55 = .ok (.getfield 252, 3) := by decide +kernel
theorem d_Tf_recite_58 : decode prog_1_method_20_code 58 = .ok (.iload_n 1, 1) := by decide +kernel
theorem d_Tf_recite_59 : decode prog_1_method_20_code 59 = .ok (.iaload, 1) := by decide +kernel
theorem d_Tf_recite_60 : decode prog_1_method_20_code 60 = .ok (.invokevirtual 285, 3) := by decide +kernel
theorem d_Tf_recite_63 : decode prog_1_method_20_code 63 = .ok (.ifCond .eq 16, 3) := by decide +kernel
theorem d_Tf_recite_66 : decode prog_1_method_20_code 66 = .ok (.aload_n 0, 1) := by decide +kernel
theorem d_Tf_recite_67 : decode prog_1_method_20_code 67 = .ok (.getfield 60, 3) := by decide +kernel
theorem d_Tf_recite_70 : decode prog_1_method_20_code 70 = .ok (.getfield 258, 3) := by decide +kernel
theorem d_Tf_recite_73 : decode prog_1_method_20_code 73 = .ok (.iload_n 1, 1) := by decide +kernel
theorem d_Tf_recite_74 : decode prog_1_method_20_code 74 = .ok (.iaload, 1) := by decide +kernel
theorem d_Tf_recite_75 : decode prog_1_method_20_code 75 = .ok (.iload_n 2, 1) := by decide +kernel
theorem d_Tf_recite_76 : decode prog_1_method_20_code 76 = .ok (.if_icmp .ne 10, 3) := by decide +kernel
theorem d_Tf_recite_79 : decode prog_1_method_20_code 79 = .ok (.aload_n 0, 1) := by decide +kernel
theorem d_Tf_recite_80 : decode prog_1_method_20_code 80 = .ok (.bipush 9, 2) := by decide +kernel
theorem d_Tf_recite_82 : decode prog_1_method_20_code 82 = .ok (.invokevirtual 119, 3) := by decide +kernel
theorem d_Tf_recite_85 : decode prog_1_method_20_code 85 = .ok (.ireturn, 1) := by decide +kernel
theorem d_Tf_recite_86 : decode prog_1_method_20_code 86 = .ok (.aload_n 0, 1) := by decide +kernel
theorem d_Tf_recite_87 : decode prog_1_method_20_code 87 = .ok (.getfield 60, 3) := by decide +kernel
theorem d_Tf_recite_90 : decode prog_1_method_20_code 90 = .ok (.iload_n 1, 1) := by decide +kernel
theorem d_Tf_recite_91 : decode prog_1_method_20_code 91 = .ok (.iload_n 2, 1) := by decide +kernel
theorem d_Tf_recite_92 : decode prog_1_method_20_code 92 = .ok (.invokevirtual 288, 3) := by decide +kernel
theorem d_Tf_recite_95 : decode prog_1_method_20_code 95 = .ok (.aload_n 0, 1) := by decide +kernel
theorem d_Tf_recite_96 : decode prog_1_method_20_code 96 = .ok (.invokevirtual 126, 3) := by decide +kernel
theorem d_Tf_recite_99 : decode prog_1_method_20_code 99 = .ok (.ireturn, 1) := by decide +kernel
theorem d_Tf_drop_0 : decode prog_1_method_21_code 0 = .ok (.aload_n 0, 1) := by decide +kernel
theorem d_Tf_drop_1 : decode prog_1_method_21_code 1 = .ok (.iload_n 1, 1) := by decide +kernel
theorem d_Tf_drop_2 : decode prog_1_method_21_code 2 = .ok (.invokevirtual 276, 3) := by decide +kernel
theorem d_Tf_drop_5 : decode prog_1_method_21_code 5 = .ok (.istore_n 2, 1) := by decide +kernel
theorem d_Tf_drop_6 : decode prog_1_method_21_code 6 = .ok (.iload_n 2, 1) := by decide +kernel
theorem d_Tf_drop_7 : decode prog_1_method_21_code 7 = .ok (.ifCond .eq 9, 3) := by decide +kernel
theorem d_Tf_drop_10 : decode prog_1_method_21_code 10 = .ok (.aload_n 0, 1) := by decide +kernel
theorem d_Tf_drop_11 : decode prog_1_method_21_code 11 = .ok (.iload_n 2, 1) := by decide +kernel
theorem d_Tf_drop_12 : decode prog_1_method_21_code 12 = .ok (.invokevirtual 138, 3) := by decide +kernel
theorem d_Tf_drop_15 : decode prog_1_method_21_code 15 = .ok (.ireturn, 1) := by decide +kernel
theorem d_Tf_drop_16 : decode prog_1_method_21_code 16 = .ok (.aload_n 0, 1) := by decide +kernel
theorem d_Tf_drop_17 : decode prog_1_method_21_code 17 = .ok (.getfield 60, 3) := by decide +kernel
theorem d_Tf_drop_20 : decode prog_1_method_21_code 20 = .ok (.getfield 258, 3) := by decide +kernel
theorem d_Tf_drop_23 : decode prog_1_method_21_code 23 = .ok (.iload_n 1, 1) := by decide +kernel
theorem d_Tf_drop_24 : decode prog_1_method_21_code 24 = .ok (.iaload, 1) := by decide +kernel
theorem d_Tf_drop_25 : decode prog_1_method_21_code 25 = .ok (.istore_n 3, 1) := by decide +kernel
theorem d_Tf_drop_26 : decode prog_1_method_21_code 26 = .ok (.aload_n 0, 1) := by decide +kernel
theorem d_Tf_drop_27 : decode prog_1_method_21_code 27 = .ok (.getfield 60, 3) := by decide +kernel
theorem d_Tf_drop_30 : decode prog_1_method_21_code 30 = .ok (.getfield 258, 3) := by decide +kernel
theorem d_Tf_drop_33 : decode prog_1_method_21_code 33 = .ok (.iload_n 1, 1) := by decide +kernel
theorem d_Tf_drop_34 : decode prog_1_method_21_code 34 = .ok (.iconst (-1), 1) := by decide +kernel
theorem d_Tf_drop_35 : decode prog_1_method_21_code 35 = .ok (.iastore, 1) := by decide +kernel
theorem d_Tf_drop_36 : decode prog_1_method_21_code 36 = .ok (.aload_n 0, 1) := by decide +kernel
theorem d_Tf_drop_37 : decode prog_1_method_21_code 37 = .ok (.iload_n 3, 1) := by decide +kernel
theorem d_Tf_drop_38 : decode prog_1_method_21_code 38 = .ok (.invokevirtual 174, 3) := by decide +kernel
theorem d_Tf_drop_41 : decode prog_1_method_21_code 41 = .ok (.ireturn, 1) := by decide +kernel
theorem d_Tf_strike_0 : decode prog_1_method_22_code 0 = .ok (.aload_n 0, 1) := by decide +kernel
theorem d_Tf_strike_1 : decode prog_1_method_22_code 1 = .ok (.iload_n 1, 1) := by decide +kernel
theorem d_Tf_strike_2 : decode prog_1_method_22_code 2 = .ok (.invokevirtual 227, 3) := by decide +kernel
theorem d_Tf_strike_5 : decode prog_1_method_22_code 5 = .ok (.ifCond .ne 11, 3) := by decide +kernel
theorem d_Tf_strike_8 : decode prog_1_method_22_code 8 = .ok (.aload_n 0, 1) := by decide +kernel
theorem d_Tf_strike_9 : decode prog_1_method_22_code 9 = .ok (.iload_n 2, 1) := by decide +kernel
theorem d_Tf_strike_10 : decode prog_1_method_22_code 10 = .ok (.invokevirtual 234, 3) := by decide +kernel
theorem d_Tf_strike_13 : decode prog_1_method_22_code 13 = .ok (.ifCond .eq 9, 3) := by decide +kernel
theorem d_Tf_strike_16 : decode prog_1_method_22_code 16 = .ok (.aload_n 0, 1) := by decide +kernel
theorem d_Tf_strike_17 : decode prog_1_method_22_code 17 = .ok (.iconst 2, 1) := by decide +kernel
theorem d_Tf_strike_18 : decode prog_1_method_22_code 18 = .ok (.invokevirtual 138, 3) := by decide +kernel
theorem d_Tf_strike_21 : decode prog_1_method_22_code 21 = .ok (.ireturn, 1) := by decide +kernel
theorem d_Tf_strike_22 : decode prog_1_method_22_code 22 = .ok (.aload_n 0, 1) := by decide +kernel
theorem d_Tf_strike_23 : decode prog_1_method_22_code 23 = .ok (.getfield 60, 3) := by decide +kernel
theorem d_Tf_strike_26 : decode prog_1_method_22_code 26 = .ok (.getfield 171, 3) := by decide +kernel
theorem d_Tf_strike_29 : decode prog_1_method_22_code 29 = .ok (.bipush 9, 2) := by decide +kernel
theorem d_Tf_strike_31 : decode prog_1_method_22_code 31 = .ok (.if_icmp .lt 10, 3) := by decide +kernel
theorem d_Tf_strike_34 : decode prog_1_method_22_code 34 = .ok (.aload_n 0, 1) := by decide +kernel
theorem d_Tf_strike_35 : decode prog_1_method_22_code 35 = .ok (.bipush 7, 2) := by decide +kernel
theorem d_Tf_strike_37 : decode prog_1_method_22_code 37 = .ok (.invokevirtual 138, 3) := by decide +kernel
theorem d_Tf_strike_40 : decode prog_1_method_22_code 40 = .ok (.ireturn, 1) := by decide +kernel
theorem d_Tf_strike_41 : decode prog_1_method_22_code 41 = .ok (.aload_n 0, 1) := by decide +kernel
theorem d_Tf_strike_42 : decode prog_1_method_22_code 42 = .ok (.getfield 60, 3) := by decide +kernel
theorem d_Tf_strike_45 : decode prog_1_method_22_code 45 = .ok (.lconst 0, 1) := by decide +kernel
theorem d_Tf_strike_46 : decode prog_1_method_22_code 46 = .ok (.iload_n 1, 1) := by decide +kernel
theorem d_Tf_strike_47 : decode prog_1_method_22_code 47 = .ok (.iload_n 2, 1) := by decide +kernel
theorem d_Tf_strike_48 : decode prog_1_method_22_code 48 = .ok (.iload_n 3, 1) := by decide +kernel
theorem d_Tf_strike_49 : decode prog_1_method_22_code 49 = .ok (.invokevirtual 291, 3) := by decide +kernel
theorem d_Tf_strike_52 : decode prog_1_method_22_code 52 = .ok (.aload_n 0, 1) := by decide +kernel
theorem d_Tf_strike_53 : decode prog_1_method_22_code 53 = .ok (.aload_n 0, 1) := by decide +kernel
theorem d_Tf_strike_54 : decode prog_1_method_22_code 54 = .ok (.getfield 60, 3) := by decide +kernel
theorem d_Tf_strike_57 : decode prog_1_method_22_code 57 = .ok (.getfield 171, 3) := by decide +kernel
theorem d_Tf_strike_60 : decode prog_1_method_22_code 60 = .ok (.iconst 1, 1) := by decide +kernel
theorem d_Tf_strike_61 : decode prog_1_method_22_code 61 = .ok (.isub, 1) := by decide +kernel
theorem d_Tf_strike_62 : decode prog_1_method_22_code 62 = .ok (.invokevirtual 174, 3) := by decide +kernel
theorem d_Tf_strike_65 : decode prog_1_method_22_code 65 = .ok (.ireturn, 1) := by decide +kernel
theorem d_Tf_teach_0 : decode prog_1_method_23_code 0 = .ok (.aload_n 0, 1) := by decide +kernel
theorem d_Tf_teach_1 : decode prog_1_method_23_code 1 = .ok (.iload_n 1, 1) := by decide +kernel
theorem d_Tf_teach_2 : decode prog_1_method_23_code 2 = .ok (.invokevirtual 234, 3) := by decide +kernel
theorem d_Tf_teach_5 : decode prog_1_method_23_code 5 = .ok (.ifCond .ne 11, 3) := by decide +kernel
theorem d_Tf_teach_8 : decode prog_1_method_23_code 8 = .ok (.aload_n 0, 1) := by decide +kernel
theorem d_Tf_teach_9 : decode prog_1_method_23_code 9 = .ok (.iload_n 2, 1) := by decide +kernel
theorem d_Tf_teach_10 : decode prog_1_method_23_code 10 = .ok (.invokevirtual 227, 3) := by decide +kernel
theorem d_Tf_teach_13 : decode prog_1_method_23_code 13 = .ok (.ifCond .eq 9, 3) := by decide +kernel
theorem d_Tf_teach_16 : decode prog_1_method_23_code 16 = .ok (.aload_n 0, 1) := by decide +kernel
theorem d_Tf_teach_17 : decode prog_1_method_23_code 17 = .ok (.iconst 2, 1) := by decide +kernel
theorem d_Tf_teach_18 : decode prog_1_method_23_code 18 = .ok (.invokevirtual 119, 3) := by decide +kernel
theorem d_Tf_teach_21 : decode prog_1_method_23_code 21 = .ok (.ireturn, 1) := by decide +kernel
theorem d_Tf_teach_22 : decode prog_1_method_23_code 22 = .ok (.aload_n 0, 1) := by decide +kernel
theorem d_Tf_teach_23 : decode prog_1_method_23_code 23 = .ok (.getfield 60, 3) := by decide +kernel
theorem d_Tf_teach_26 : decode prog_1_method_23_code 26 = .ok (.iload_n 1, 1) := by decide +kernel
theorem d_Tf_teach_27 : decode prog_1_method_23_code 27 = .ok (.iload_n 2, 1) := by decide +kernel
theorem d_Tf_teach_28 : decode prog_1_method_23_code 28 = .ok (.invokevirtual 285, 3) := by decide +kernel
theorem d_Tf_teach_31 : decode prog_1_method_23_code 31 = .ok (.iload_n 3, 1) := by decide +kernel
theorem d_Tf_teach_32 : decode prog_1_method_23_code 32 = .ok (.if_icmp .ne 10, 3) := by decide +kernel
theorem d_Tf_teach_35 : decode prog_1_method_23_code 35 = .ok (.aload_n 0, 1) := by decide +kernel
theorem d_Tf_teach_36 : decode prog_1_method_23_code 36 = .ok (.bipush 9, 2) := by decide +kernel
theorem d_Tf_teach_38 : decode prog_1_method_23_code 38 = .ok (.invokevirtual 119, 3) := by decide +kernel
theorem d_Tf_teach_41 : decode prog_1_method_23_code 41 = .ok (.ireturn, 1) := by decide +kernel
theorem d_Tf_teach_42 : decode prog_1_method_23_code 42 = .ok (.aload_n 0, 1) := by decide +kernel
theorem d_Tf_teach_43 : decode prog_1_method_23_code 43 = .ok (.getfield 60, 3) := by decide +kernel
theorem d_Tf_teach_46 : decode prog_1_method_23_code 46 = .ok (.iload_n 1, 1) := by decide +kernel
theorem d_Tf_teach_47 : decode prog_1_method_23_code 47 = .ok (.iload_n 2, 1) := by decide +kernel
theorem d_Tf_teach_48 : decode prog_1_method_23_code 48 = .ok (.invokevirtual 295, 3) := by decide +kernel
theorem d_Tf_teach_51 : decode prog_1_method_23_code 51 = .ok (.aload_n 0, 1) := by decide +kernel
theorem d_Tf_teach_52 : decode prog_1_method_23_code 52 = .ok (.invokevirtual 126, 3) := by decide +kernel
theorem d_Tf_teach_55 : decode prog_1_method_23_code 55 = .ok (.ireturn, 1) := by decide +kernel
theorem d_Tf_lane_0 : decode prog_1_method_24_code 0 = .ok (.aload_n 0, 1) := by decide +kernel
theorem d_Tf_lane_1 : decode prog_1_method_24_code 1 = .ok (.iload_n 1, 1) := by decide +kernel
theorem d_Tf_lane_2 : decode prog_1_method_24_code 2 = .ok (.invokevirtual 234, 3) := by decide +kernel
theorem d_Tf_lane_5 : decode prog_1_method_24_code 5 = .ok (.ifCond .ne 11, 3) := by decide +kernel
theorem d_Tf_lane_8 : decode prog_1_method_24_code 8 = .ok (.aload_n 0, 1) := by decide +kernel
theorem d_Tf_lane_9 : decode prog_1_method_24_code 9 = .ok (.iload_n 2, 1) := by decide +kernel
theorem d_Tf_lane_10 : decode prog_1_method_24_code 10 = .ok (.invokevirtual 234, 3) := by decide +kernel
theorem d_Tf_lane_13 : decode prog_1_method_24_code 13 = .ok (.ifCond .eq 9, 3) := by decide +kernel
theorem d_Tf_lane_16 : decode prog_1_method_24_code 16 = .ok (.aload_n 0, 1) := by decide +kernel
theorem d_Tf_lane_17 : decode prog_1_method_24_code 17 = .ok (.iconst 2, 1) := by decide +kernel
theorem d_Tf_lane_18 : decode prog_1_method_24_code 18 = .ok (.invokevirtual 138, 3) := by decide +kernel
theorem d_Tf_lane_21 : decode prog_1_method_24_code 21 = .ok (.ireturn, 1) := by decide +kernel
theorem d_Tf_lane_22 : decode prog_1_method_24_code 22 = .ok (.iload_n 1, 1) := by decide +kernel
theorem d_Tf_lane_23 : decode prog_1_method_24_code 23 = .ok (.iload_n 2, 1) := by decide +kernel
theorem d_Tf_lane_24 : decode prog_1_method_24_code 24 = .ok (.if_icmp .ne 9, 3) := by decide +kernel
theorem d_Tf_lane_27 : decode prog_1_method_24_code 27 = .ok (.aload_n 0, 1) := by decide +kernel
theorem d_Tf_lane_28 : decode prog_1_method_24_code 28 = .ok (.iconst 5, 1) := by decide +kernel
theorem d_Tf_lane_29 : decode prog_1_method_24_code 29 = .ok (.invokevirtual 138, 3) := by decide +kernel
theorem d_Tf_lane_32 : decode prog_1_method_24_code 32 = .ok (.ireturn, 1) := by decide +kernel
theorem d_Tf_lane_33 : decode prog_1_method_24_code 33 = .ok (.aload_n 0, 1) := by decide +kernel
theorem d_Tf_lane_34 : decode prog_1_method_24_code 34 = .ok (.getfield 60, 3) := by decide +kernel
theorem d_Tf_lane_37 : decode prog_1_method_24_code 37 = .ok (.getfield 205, 3) := by decide +kernel
theorem d_Tf_lane_40 : decode prog_1_method_24_code 40 = .ok (.bipush 12, 2) := by decide +kernel
theorem d_Tf_lane_42 : decode prog_1_method_24_code 42 = .ok (.if_icmp .lt 10, 3) := by decide +kernel
theorem d_Tf_lane_45 : decode prog_1_method_24_code 45 = .ok (.aload_n 0, 1) := by decide +kernel
theorem d_Tf_lane_46 : decode prog_1_method_24_code 46 = .ok (.bipush 7, 2) := by decide +kernel
theorem d_Tf_lane_48 : decode prog_1_method_24_code 48 = .ok (.invokevirtual 138, 3) := by decide +kernel
theorem d_Tf_lane_51 : decode prog_1_method_24_code 51 = .ok (.ireturn, 1) := by decide +kernel
theorem d_Tf_lane_52 : decode prog_1_method_24_code 52 = .ok (.aload_n 0, 1) := by decide +kernel
theorem d_Tf_lane_53 : decode prog_1_method_24_code 53 = .ok (.getfield 60, 3) := by decide +kernel
theorem d_Tf_lane_56 : decode prog_1_method_24_code 56 = .ok (.iload_n 1, 1) := by decide +kernel
theorem d_Tf_lane_57 : decode prog_1_method_24_code 57 = .ok (.iload_n 2, 1) := by decide +kernel
theorem d_Tf_lane_58 : decode prog_1_method_24_code 58 = .ok (.invokevirtual 298, 3) := by decide +kernel
theorem d_Tf_lane_61 : decode prog_1_method_24_code 61 = .ok (.aload_n 0, 1) := by decide +kernel
theorem d_Tf_lane_62 : decode prog_1_method_24_code 62 = .ok (.aload_n 0, 1) := by decide +kernel
theorem d_Tf_lane_63 : decode prog_1_method_24_code 63 = .ok (.getfield 60, 3) := by decide +kernel
theorem d_Tf_lane_66 : decode prog_1_method_24_code 66 = .ok (.getfield 205, 3) := by decide +kernel
theorem d_Tf_lane_69 : decode prog_1_method_24_code 69 = .ok (.invokevirtual 174, 3) := by decide +kernel
theorem d_Tf_lane_72 : decode prog_1_method_24_code 72 = .ok (.ireturn, 1) := by decide +kernel
theorem d_Tf_price_0 : decode prog_1_method_25_code 0 = .ok (.aload_n 0, 1) := by decide +kernel
theorem d_Tf_price_1 : decode prog_1_method_25_code 1 = .ok (.iload_n 1, 1) := by decide +kernel
theorem d_Tf_price_2 : decode prog_1_method_25_code 2 = .ok (.invokevirtual 227, 3) := by decide +kernel
theorem d_Tf_price_5 : decode prog_1_method_25_code 5 = .ok (.ifCond .eq 9, 3) := by decide +kernel
theorem d_Tf_price_8 : decode prog_1_method_25_code 8 = .ok (.aload_n 0, 1) := by decide +kernel
theorem d_Tf_price_9 : decode prog_1_method_25_code 9 = .ok (.iconst 2, 1) := by decide +kernel
theorem d_Tf_price_10 : decode prog_1_method_25_code 10 = .ok (.invokevirtual 119, 3) := by decide +kernel
theorem d_Tf_price_13 : decode prog_1_method_25_code 13 = .ok (.ireturn, 1) := by decide +kernel
theorem d_Tf_price_14 : decode prog_1_method_25_code 14 = .ok (.iload_n 2, 1) := by decide +kernel
theorem d_Tf_price_15 : decode prog_1_method_25_code 15 = .ok (.ifCond .lt 9, 3) := by decide +kernel
theorem d_Tf_price_18 : decode prog_1_method_25_code 18 = .ok (.iload_n 2, 1) := by decide +kernel
theorem d_Tf_price_19 : decode prog_1_method_25_code 19 = .ok (.bipush 99, 2) := by decide +kernel
theorem d_Tf_price_21 : decode prog_1_method_25_code 21 = .ok (.if_icmp .le 9, 3) := by decide +kernel
theorem d_Tf_price_24 : decode prog_1_method_25_code 24 = .ok (.aload_n 0, 1) := by decide +kernel
theorem d_Tf_price_25 : decode prog_1_method_25_code 25 = .ok (.iconst 5, 1) := by decide +kernel
theorem d_Tf_price_26 : decode prog_1_method_25_code 26 = .ok (.invokevirtual 119, 3) := by decide +kernel
theorem d_Tf_price_29 : decode prog_1_method_25_code 29 = .ok (.ireturn, 1) := by decide +kernel
theorem d_Tf_price_30 : decode prog_1_method_25_code 30 = .ok (.aload_n 0, 1) := by decide +kernel
theorem d_Tf_price_31 : decode prog_1_method_25_code 31 = .ok (.getfield 60, 3) := by decide +kernel
theorem d_Tf_price_34 : decode prog_1_method_25_code 34 = .ok (.getfield 230, 3) := by decide +kernel
theorem d_Tf_price_37 : decode prog_1_method_25_code 37 = .ok (.iload_n 1, 1) := by decide +kernel
theorem d_Tf_price_38 : decode prog_1_method_25_code 38 = .ok (.iload_n 2, 1) := by decide +kernel
theorem d_Tf_price_39 : decode prog_1_method_25_code 39 = .ok (.iastore, 1) := by decide +kernel
theorem d_Tf_price_40 : decode prog_1_method_25_code 40 = .ok (.aload_n 0, 1) := by decide +kernel
theorem d_Tf_price_41 : decode prog_1_method_25_code 41 = .ok (.invokevirtual 126, 3) := by decide +kernel
theorem d_Tf_price_44 : decode prog_1_method_25_code 44 = .ok (.ireturn, 1) := by decide +kernel
theorem d_Tf_rule_0 : decode prog_1_method_26_code 0 = .ok (.iload_n 1, 1) := by decide +kernel
theorem d_Tf_rule_1 : decode prog_1_method_26_code 1 = .ok (.ifCond .lt 9, 3) := by decide +kernel
theorem d_Tf_rule_4 : decode prog_1_method_26_code 4 = .ok (.iload_n 1, 1) := by decide +kernel
theorem d_Tf_rule_5 : decode prog_1_method_26_code 5 = .ok (.bipush 16, 2) := by decide +kernel
theorem d_Tf_rule_7 : decode prog_1_method_26_code 7 = .ok (.if_icmp .le 9, 3) := by decide +kernel
theorem d_Tf_rule_10 : decode prog_1_method_26_code 10 = .ok (.aload_n 0, 1) := by decide +kernel
theorem d_Tf_rule_11 : decode prog_1_method_26_code 11 = .ok (.iconst 5, 1) := by decide +kernel
theorem d_Tf_rule_12 : decode prog_1_method_26_code 12 = .ok (.invokevirtual 119, 3) := by decide +kernel
theorem d_Tf_rule_15 : decode prog_1_method_26_code 15 = .ok (.ireturn, 1) := by decide +kernel
theorem d_Tf_rule_16 : decode prog_1_method_26_code 16 = .ok (.aload_n 0, 1) := by decide +kernel
theorem d_Tf_rule_17 : decode prog_1_method_26_code 17 = .ok (.getfield 60, 3) := by decide +kernel
theorem d_Tf_rule_20 : decode prog_1_method_26_code 20 = .ok (.iload_n 1, 1) := by decide +kernel
theorem d_Tf_rule_21 : decode prog_1_method_26_code 21 = .ok (.putfield 208, 3) := by decide +kernel
theorem d_Tf_rule_24 : decode prog_1_method_26_code 24 = .ok (.aload_n 0, 1) := by decide +kernel
theorem d_Tf_rule_25 : decode prog_1_method_26_code 25 = .ok (.invokevirtual 126, 3) := by decide +kernel
theorem d_Tf_rule_28 : decode prog_1_method_26_code 28 = .ok (.ireturn, 1) := by decide +kernel
theorem d_Tf_way_0 : decode prog_1_method_27_code 0 = .ok (.aload_n 0, 1) := by decide +kernel
theorem d_Tf_way_1 : decode prog_1_method_27_code 1 = .ok (.iload_n 1, 1) := by decide +kernel
theorem d_Tf_way_2 : decode prog_1_method_27_code 2 = .ok (.iload_n 2, 1) := by decide +kernel
theorem d_Tf_way_3 : decode prog_1_method_27_code 3 = .ok (.invokevirtual 301, 3) := by decide +kernel
theorem d_Tf_way_6 : decode prog_1_method_27_code 6 = .ok (.istore_n 3, 1) := by decide +kernel
theorem d_Tf_way_7 : decode prog_1_method_27_code 7 = .ok (.iload_n 3, 1) := by decide +kernel
theorem d_Tf_way_8 : decode prog_1_method_27_code 8 = .ok (.ifCond .eq 9, 3) := by decide +kernel
theorem d_Tf_way_11 : decode prog_1_method_27_code 11 = .ok (.aload_n 0, 1) := by decide +kernel
theorem d_Tf_way_12 : decode prog_1_method_27_code 12 = .ok (.iload_n 3, 1) := by decide +kernel
theorem d_Tf_way_13 : decode prog_1_method_27_code 13 = .ok (.invokevirtual 138, 3) := by decide +kernel
theorem d_Tf_way_16 : decode prog_1_method_27_code 16 = .ok (.ireturn, 1) := by decide +kernel
theorem d_Tf_way_17 : decode prog_1_method_27_code 17 = .ok (.aload_n 0, 1) := by decide +kernel
theorem d_Tf_way_18 : decode prog_1_method_27_code 18 = .ok (.getfield 60, 3) := by decide +kernel
theorem d_Tf_way_21 : decode prog_1_method_27_code 21 = .ok (.aload_n 0, 1) := by decide +kernel
theorem d_Tf_way_22 : decode prog_1_method_27_code 22 = .ok (.getfield 60, 3) := by decide +kernel
theorem d_Tf_way_25 : decode prog_1_method_27_code 25 = .ok (.getfield 258, 3) := by decide +kernel
theorem d_Tf_way_28 : decode prog_1_method_27_code 28 = .ok (.iload_n 1, 1) := by decide +kernel
theorem d_Tf_way_29 : decode prog_1_method_27_code 29 = .ok (.iaload, 1) := by decide +kernel
theorem d_Tf_way_30 : decode prog_1_method_27_code 30 = .ok (.iload_n 2, 1) := by decide +kernel
theorem d_Tf_way_31 : decode prog_1_method_27_code 31 = .ok (.aload_n 0, 1) := by decide +kernel
theorem d_Tf_way_32 : decode prog_1_method_27_code 32 = .ok (.getfield 60, 3) := by decide +kernel
theorem d_Tf_way_35 : decode prog_1_method_27_code 35 = .ok (.iload_n 1, 1) := by decide +kernel
theorem d_Tf_way_36 : decode prog_1_method_27_code 36 = .ok (.invokevirtual 304, 3) := by decide +kernel
theorem d_Tf_way_39 : decode prog_1_method_27_code 39 = .ok (.invokestatic 307, 3) := by decide +kernel
theorem d_Tf_way_42 : decode prog_1_method_27_code 42 = .ok (.istore 4, 2) := by decide +kernel
theorem d_Tf_way_44 : decode prog_1_method_27_code 44 = .ok (.iload 4, 2) := by decide +kernel
theorem d_Tf_way_46 : decode prog_1_method_27_code 46 = .ok (.ifCond .ge 12, 3) := by decide +kernel
theorem d_Tf_way_49 : decode prog_1_method_27_code 49 = .ok (.aload_n 0, 1) := by decide +kernel
theorem d_Tf_way_50 : decode prog_1_method_27_code 50 = .ok (.bipush 8, 2) := by decide +kernel
theorem d_Tf_way_52 : decode prog_1_method_27_code 52 = .ok (.invokevirtual 138, 3) := by decide +kernel
theorem d_Tf_way_55 : decode prog_1_method_27_code 55 = .ok (.goto 9, 3) := by decide +kernel
theorem d_Tf_way_58 : decode prog_1_method_27_code 58 = .ok (.aload_n 0, 1) := by decide +kernel
theorem d_Tf_way_59 : decode prog_1_method_27_code 59 = .ok (.iload 4, 2) := by decide +kernel
theorem d_Tf_way_61 : decode prog_1_method_27_code 61 = .ok (.invokevirtual 174, 3) := by decide +kernel
theorem d_Tf_way_64 : decode prog_1_method_27_code 64 = .ok (.ireturn, 1) := by decide +kernel
theorem d_Tf_wayStatus_0 : decode prog_1_method_64_code 0 = .ok (.aload_n 0, 1) := by decide +kernel
theorem d_Tf_wayStatus_1 : decode prog_1_method_64_code 1 = .ok (.iload_n 2, 1) := by decide +kernel
theorem d_Tf_wayStatus_2 : decode prog_1_method_64_code 2 = .ok (.invokevirtual 234, 3) := by decide +kernel
theorem d_Tf_wayStatus_5 : decode prog_1_method_64_code 5 = .ok (.ifCond .eq 7, 3) := by decide +kernel
theorem d_Tf_wayStatus_8 : decode prog_1_method_64_code 8 = .ok (.iconst 2, 1) := by decide +kernel
theorem d_Tf_wayStatus_9 : decode prog_1_method_64_code 9 = .ok (.goto 8, 3) := by decide +kernel
theorem d_Tf_wayStatus_12 : decode prog_1_method_64_code 12 = .ok (.aload_n 0, 1) := by decide +kernel
theorem d_Tf_wayStatus_13 : decode prog_1_method_64_code 13 = .ok (.iload_n 1, 1) := by decide +kernel
theorem d_Tf_wayStatus_14 : decode prog_1_method_64_code 14 = .ok (.invokevirtual 276, 3) := by decide +kernel
theorem d_Tf_wayStatus_17 : decode prog_1_method_64_code 17 = .ok (.ireturn, 1) := by decide +kernel
theorem d_Tf_wayAt_0 : decode prog_1_method_28_code 0 = .ok (.aload_n 0, 1) := by decide +kernel
theorem d_Tf_wayAt_1 : decode prog_1_method_28_code 1 = .ok (.iload_n 1, 1) := by decide +kernel
theorem d_Tf_wayAt_2 : decode prog_1_method_28_code 2 = .ok (.iload_n 2, 1) := by decide +kernel
theorem d_Tf_wayAt_3 : decode prog_1_method_28_code 3 = .ok (.invokevirtual 301, 3) := by decide +kernel
theorem d_Tf_wayAt_6 : decode prog_1_method_28_code 6 = .ok (.istore 4, 2) := by decide +kernel
theorem d_Tf_wayAt_8 : decode prog_1_method_28_code 8 = .ok (.iload 4, 2) := by decide +kernel
theorem d_Tf_wayAt_10 : decode prog_1_method_28_code 10 = .ok (.ifCond .eq 10, 3) := by decide +kernel
theorem d_Tf_wayAt_13 : decode prog_1_method_28_code 13 = .ok (.aload_n 0, 1) := by decide +kernel
theorem d_Tf_wayAt_14 : decode prog_1_method_28_code 14 = .ok (.iload 4, 2) := by decide +kernel
theorem d_Tf_wayAt_16 : decode prog_1_method_28_code 16 = .ok (.invokevirtual 138, 3) := by decide +kernel
theorem d_Tf_wayAt_19 : decode prog_1_method_28_code 19 = .ok (.ireturn, 1) := by decide +kernel
theorem d_Tf_wayAt_20 : decode prog_1_method_28_code 20 = .ok (.aload_n 0, 1) := by decide +kernel
theorem d_Tf_wayAt_21 : decode prog_1_method_28_code 21 = .ok (.getfield 60, 3) := by decide +kernel
theorem d_Tf_wayAt_24 : decode prog_1_method_28_code 24 = .ok (.iload_n 1, 1) := by decide +kernel
theorem d_Tf_wayAt_25 : decode prog_1_method_28_code 25 = .ok (.iload_n 2, 1) := by decide +kernel
theorem d_Tf_wayAt_26 : decode prog_1_method_28_code 26 = .ok (.iload_n 3, 1) := by decide +kernel
theorem d_Tf_wayAt_27 : decode prog_1_method_28_code 27 = .ok (.invokestatic 311, 3) := by decide +kernel
theorem d_Tf_wayAt_30 : decode prog_1_method_28_code 30 = .ok (.istore 5, 2) := by decide +kernel
theorem d_Tf_wayAt_32 : decode prog_1_method_28_code 32 = .ok (.iload 5, 2) := by decide +kernel
theorem d_Tf_wayAt_34 : decode prog_1_method_28_code 34 = .ok (.ifCond .ge 12, 3) := by decide +kernel
theorem d_Tf_wayAt_37 : decode prog_1_method_28_code 37 = .ok (.aload_n 0, 1) := by decide +kernel
theorem d_Tf_wayAt_38 : decode prog_1_method_28_code 38 = .ok (.bipush 8, 2) := by decide +kernel
theorem d_Tf_wayAt_40 : decode prog_1_method_28_code 40 = .ok (.invokevirtual 138, 3) := by decide +kernel
theorem d_Tf_wayAt_43 : decode prog_1_method_28_code 43 = .ok (.goto 9, 3) := by decide +kernel
theorem d_Tf_wayAt_46 : decode prog_1_method_28_code 46 = .ok (.aload_n 0, 1) := by decide +kernel
theorem d_Tf_wayAt_47 : decode prog_1_method_28_code 47 = .ok (.iload 5, 2) := by decide +kernel
theorem d_Tf_wayAt_49 : decode prog_1_method_28_code 49 = .ok (.invokevirtual 174, 3) := by decide +kernel
theorem d_Tf_wayAt_52 : decode prog_1_method_28_code 52 = .ok (.ireturn, 1) := by decide +kernel
theorem d_Tf_reach_0 : decode prog_1_method_29_code 0 = .ok (.aload_n 0, 1) := by decide +kernel
theorem d_Tf_reach_1 : decode prog_1_method_29_code 1 = .ok (.iload_n 1, 1) := by decide +kernel
theorem d_Tf_reach_2 : decode prog_1_method_29_code 2 = .ok (.invokevirtual 276, 3) := by decide +kernel
theorem d_Tf_reach_5 : decode prog_1_method_29_code 5 = .ok (.istore_n 2, 1) := by decide +kernel
theorem d_Tf_reach_6 : decode prog_1_method_29_code 6 = .ok (.iload_n 2, 1) := by decide +kernel
theorem d_Tf_reach_7 : decode prog_1_method_29_code 7 = .ok (.ifCond .eq 11, 3) := by decide +kernel
theorem d_Tf_reach_10 : decode prog_1_method_29_code 10 = .ok (.aload_n 0, 1) := by decide +kernel
theorem d_Tf_reach_11 : decode prog_1_method_29_code 11 = .ok (.iload_n 2, 1) := by decide +kernel
theorem d_Tf_reach_12 : decode prog_1_method_29_code 12 = .ok (.invokevirtual 138, 3) := by decide +kernel
theorem d_Tf_reach_15 : decode prog_1_method_29_code 15 = .ok (.goto 15, 3) := by decide +kernel
theorem d_Tf_reach_18 : decode prog_1_method_29_code 18 = .ok (.aload_n 0, 1) := by decide +kernel
theorem d_Tf_reach_19 : decode prog_1_method_29_code 19 = .ok (.aload_n 0, 1) := by decide +kernel
theorem d_Tf_reach_20 : decode prog_1_method_29_code 20 = .ok (.getfield 60, 3) := by decide +kernel
theorem d_Tf_reach_23 : decode prog_1_method_29_code 23 = .ok (.iload_n 1, 1) := by decide +kernel
theorem d_Tf_reach_24 : decode prog_1_method_29_code 24 = .ok (.invokestatic 314, 3) := by decide +kernel
theorem d_Tf_reach_27 : decode prog_1_method_29_code 27 = .ok (.invokevirtual 174, 3) := by decide +kernel
theorem d_Tf_reach_30 : decode prog_1_method_29_code 30 = .ok (.ireturn, 1) := by decide +kernel
theorem d_Tf_next_0 : decode prog_1_method_30_code 0 = .ok (.aload_n 0, 1) := by decide +kernel
theorem d_Tf_next_1 : decode prog_1_method_30_code 1 = .ok (.iload_n 1, 1) := by decide +kernel
theorem d_Tf_next_2 : decode prog_1_method_30_code 2 = .ok (.invokevirtual 276, 3) := by decide +kernel
theorem d_Tf_next_5 : decode prog_1_method_30_code 5 = .ok (.istore_n 2, 1) := by decide +kernel
theorem d_Tf_next_6 : decode prog_1_method_30_code 6 = .ok (.iload_n 2, 1) := by decide +kernel
theorem d_Tf_next_7 : decode prog_1_method_30_code 7 = .ok (.ifCond .eq 11, 3) := by decide +kernel
theorem d_Tf_next_10 : decode prog_1_method_30_code 10 = .ok (.aload_n 0, 1) := by decide +kernel
theorem d_Tf_next_11 : decode prog_1_method_30_code 11 = .ok (.iload_n 2, 1) := by decide +kernel
theorem d_Tf_next_12 : decode prog_1_method_30_code 12 = .ok (.invokevirtual 138, 3) := by decide +kernel
theorem d_Tf_next_15 : decode prog_1_method_30_code 15 = .ok (.goto 15, 3) := by decide +kernel
theorem d_Tf_next_18 : decode prog_1_method_30_code 18 = .ok (.aload_n 0, 1) := by decide +kernel
theorem d_Tf_next_19 : decode prog_1_method_30_code 19 = .ok (.aload_n 0, 1) := by decide +kernel
theorem d_Tf_next_20 : decode prog_1_method_30_code 20 = .ok (.getfield 60, 3) := by decide +kernel
theorem d_Tf_next_23 : decode prog_1_method_30_code 23 = .ok (.iload_n 1, 1) := by decide +kernel
theorem d_Tf_next_24 : decode prog_1_method_30_code 24 = .ok (.invokevirtual 318, 3) := by decide +kernel
theorem d_Tf_next_27 : decode prog_1_method_30_code 27 = .ok (.invokevirtual 174, 3) := by decide +kernel
theorem d_Tf_next_30 : decode prog_1_method_30_code 30 = .ok (.ireturn, 1) := by decide +kernel
theorem d_Tf_round_0 : decode prog_1_method_31_code 0 = .ok (.aload_n 0, 1) := by decide +kernel
theorem d_Tf_round_1 : decode prog_1_method_31_code 1 = .ok (.iload_n 1, 1) := by decide +kernel
theorem d_Tf_round_2 : decode prog_1_method_31_code 2 = .ok (.invokevirtual 276, 3) := by decide +kernel
theorem d_Tf_round_5 : decode prog_1_method_31_code 5 = .ok (.istore_n 2, 1) := by decide +kernel
theorem d_Tf_round_6 : decode prog_1_method_31_code 6 = .ok (.iload_n 2, 1) := by decide +kernel
theorem d_Tf_round_7 : decode prog_1_method_31_code 7 = .ok (.ifCond .eq 9, 3) := by decide +kernel
theorem d_Tf_round_10 : decode prog_1_method_31_code 10 = .ok (.aload_n 0, 1) := by decide +kernel
theorem d_Tf_round_11 : decode prog_1_method_31_code 11 = .ok (.iload_n 2, 1) := by decide +kernel
theorem d_Tf_round_12 : decode prog_1_method_31_code 12 = .ok (.invokevirtual 138, 3) := by decide +kernel
theorem d_Tf_round_15 : decode prog_1_method_31_code 15 = .ok (.ireturn, 1) := by decide +kernel
theorem d_Tf_round_16 : decode prog_1_method_31_code 16 = .ok (.aload_n 0, 1) := by decide +kernel
theorem d_Tf_round_17 : decode prog_1_method_31_code 17 = .ok (.aload_n 0, 1) := by decide +kernel
theorem d_Tf_round_18 : decode prog_1_method_31_code 18 = .ok (.getfield 60, 3) := by decide +kernel
theorem d_Tf_round_21 : decode prog_1_method_31_code 21 = .ok (.iload_n 1, 1) := by decide +kernel
theorem d_Tf_round_22 : decode prog_1_method_31_code 22 = .ok (.invokestatic 321, 3) := by decide +kernel
theorem d_Tf_round_25 : decode prog_1_method_31_code 25 = .ok (.invokevirtual 174, 3) := by decide +kernel
theorem d_Tf_round_28 : decode prog_1_method_31_code 28 = .ok (.ireturn, 1) := by decide +kernel
theorem d_Tf_roundAt_0 : decode prog_1_method_32_code 0 = .ok (.aload_n 0, 1) := by decide +kernel
theorem d_Tf_roundAt_1 : decode prog_1_method_32_code 1 = .ok (.iload_n 1, 1) := by decide +kernel
theorem d_Tf_roundAt_2 : decode prog_1_method_32_code 2 = .ok (.invokevirtual 276, 3) := by decide +kernel
theorem d_Tf_roundAt_5 : decode prog_1_method_32_code 5 = .ok (.istore_n 3, 1) := by decide +kernel
theorem d_Tf_roundAt_6 : decode prog_1_method_32_code 6 = .ok (.iload_n 3, 1) := by decide +kernel
theorem d_Tf_roundAt_7 : decode prog_1_method_32_code 7 = .ok (.ifCond .eq 9, 3) := by decide +kernel
theorem d_Tf_roundAt_10 : decode prog_1_method_32_code 10 = .ok (.aload_n 0, 1) := by decide +kernel
theorem d_Tf_roundAt_11 : decode prog_1_method_32_code 11 = .ok (.iload_n 3, 1) := by decide +kernel
theorem d_Tf_roundAt_12 : decode prog_1_method_32_code 12 = .ok (.invokevirtual 138, 3) := by decide +kernel
theorem d_Tf_roundAt_15 : decode prog_1_method_32_code 15 = .ok (.ireturn, 1) := by decide +kernel
theorem d_Tf_roundAt_16 : decode prog_1_method_32_code 16 = .ok (.aload_n 0, 1) := by decide +kernel
theorem d_Tf_roundAt_17 : decode prog_1_method_32_code 17 = .ok (.getfield 60, 3) := by decide +kernel
theorem d_Tf_roundAt_20 : decode prog_1_method_32_code 20 = .ok (.iload_n 1, 1) := by decide +kernel
theorem d_Tf_roundAt_21 : decode prog_1_method_32_code 21 = .ok (.iload_n 2, 1) := by decide +kernel
theorem d_Tf_roundAt_22 : decode prog_1_method_32_code 22 = .ok (.invokestatic 324, 3) := by decide +kernel
theorem d_Tf_roundAt_25 : decode prog_1_method_32_code 25 = .ok (.istore 4, 2) := by decide +kernel
theorem d_Tf_roundAt_27 : decode prog_1_method_32_code 27 = .ok (.iload 4, 2) := by decide +kernel
theorem d_Tf_roundAt_29 : decode prog_1_method_32_code 29 = .ok (.ifCond .ge 12, 3) := by decide +kernel
theorem d_Tf_roundAt_32 : decode prog_1_method_32_code 32 = .ok (.aload_n 0, 1) := by decide +kernel
theorem d_Tf_roundAt_33 : decode prog_1_method_32_code 33 = .ok (.bipush 8, 2) := by decide +kernel
theorem d_Tf_roundAt_35 : decode prog_1_method_32_code 35 = .ok (.invokevirtual 138, 3) := by decide +kernel
theorem d_Tf_roundAt_38 : decode prog_1_method_32_code 38 = .ok (.goto 9, 3) := by decide +kernel
theorem d_Tf_roundAt_41 : decode prog_1_method_32_code 41 = .ok (.aload_n 0, 1) := by decide +kernel
theorem d_Tf_roundAt_42 : decode prog_1_method_32_code 42 = .ok (.iload 4, 2) := by decide +kernel
theorem d_Tf_roundAt_44 : decode prog_1_method_32_code 44 = .ok (.invokevirtual 174, 3) := by decide +kernel
theorem d_Tf_roundAt_47 : decode prog_1_method_32_code 47 = .ok (.ireturn, 1) := by decide +kernel
theorem d_Tf_most_0 : decode prog_1_method_33_code 0 = .ok (.aload_n 0, 1) := by decide +kernel
theorem d_Tf_most_1 : decode prog_1_method_33_code 1 = .ok (.iload_n 1, 1) := by decide +kernel
theorem d_Tf_most_2 : decode prog_1_method_33_code 2 = .ok (.invokevirtual 328, 3) := by decide +kernel
theorem d_Tf_most_5 : decode prog_1_method_33_code 5 = .ok (.istore_n 2, 1) := by decide +kernel
theorem d_Tf_most_6 : decode prog_1_method_33_code 6 = .ok (.iload_n 2, 1) := by decide +kernel
theorem d_Tf_most_7 : decode prog_1_method_33_code 7 = .ok (.ifCond .eq 11, 3) := by decide +kernel
theorem d_Tf_most_10 : decode prog_1_method_33_code 10 = .ok (.aload_n 0, 1) := by decide +kernel
theorem d_Tf_most_11 : decode prog_1_method_33_code 11 = .ok (.iload_n 2, 1) := by decide +kernel
theorem d_Tf_most_12 : decode prog_1_method_33_code 12 = .ok (.invokevirtual 138, 3) := by decide +kernel
theorem d_Tf_most_15 : decode prog_1_method_33_code 15 = .ok (.goto 19, 3) := by decide +kernel
theorem d_Tf_most_18 : decode prog_1_method_33_code 18 = .ok (.aload_n 0, 1) := by decide +kernel
theorem d_Tf_most_19 : decode prog_1_method_33_code 19 = .ok (.aload_n 0, 1) := by decide +kernel
theorem d_Tf_most_20 : decode prog_1_method_33_code 20 = .ok (.getfield 97, 3) := by decide +kernel
theorem d_Tf_most_23 : decode prog_1_method_33_code 23 = .ok (.aload_n 0, 1) := by decide +kernel
theorem d_Tf_most_24 : decode prog_1_method_33_code 24 = .ok (.getfield 60, 3) := by decide +kernel
theorem d_Tf_most_27 : decode prog_1_method_33_code 27 = .ok (.iload_n 1, 1) := by decide +kernel
theorem d_Tf_most_28 : decode prog_1_method_33_code 28 = .ok (.invokevirtual 331, 3) := by decide +kernel
theorem d_Tf_most_31 : decode prog_1_method_33_code 31 = .ok (.invokevirtual 174, 3) := by decide +kernel
theorem d_Tf_most_34 : decode prog_1_method_33_code 34 = .ok (.ireturn, 1) := by decide +kernel
theorem d_Tf_heapStatus_0 : decode prog_1_method_65_code 0 = .ok (.iload_n 1, 1) := by decide +kernel
theorem d_Tf_heapStatus_1 : decode prog_1_method_65_code 1 = .ok (.ifCond .lt 15, 3) := by decide +kernel
theorem d_Tf_heapStatus_4 : decode prog_1_method_65_code 4 = .ok (.iload_n 1, 1) := by decide +kernel
theorem d_Tf_heapStatus_5 : decode prog_1_method_65_code 5 = .ok (.aload_n 0, 1) := by decide +kernel
theorem d_Tf_heapStatus_6 : decode prog_1_method_65_code 6 = .ok (.getfield 60, 3) := by decide +kernel
theorem d_Tf_heapStatus_9 : decode prog_1_method_65_code 9 = .ok (.getfield 171, 3) := by decide +kernel
theorem d_Tf_heapStatus_12 : decode prog_1_method_65_code 12 = .ok (.ishr, 1) := by decide +kernel
theorem d_Tf_heapStatus_13 : decode prog_1_method_65_code 13 = .ok (.ifCond .eq 5, 3) := by decide +kernel
theorem d_Tf_heapStatus_16 : decode prog_1_method_65_code 16 = .ok (.iconst 5, 1) := by decide +kernel
theorem d_Tf_heapStatus_17 : decode prog_1_method_65_code 17 = .ok (.ireturn, 1) := by decide +kernel
theorem d_Tf_heapStatus_18 : decode prog_1_method_65_code 18 = .ok (.iload_n 1, 1) := by decide +kernel
theorem d_Tf_heapStatus_19 : decode prog_1_method_65_code 19 = .ok (.aload_n 0, 1) := by decide +kernel
theorem d_Tf_heapStatus_20 : decode prog_1_method_65_code 20 = .ok (.getfield 60, 3) := by decide +kernel
theorem d_Tf_heapStatus_23 : decode prog_1_method_65_code 23 = .ok (.iconst (-1), 1) := by decide +kernel
theorem d_Tf_heapStatus_24 : decode prog_1_method_65_code 24 = .ok (.invokevirtual 214, 3) := by decide +kernel
theorem d_Tf_heapStatus_27 : decode prog_1_method_65_code 27 = .ok (.iand, 1) := by decide +kernel
theorem d_Tf_heapStatus_28 : decode prog_1_method_65_code 28 = .ok (.ifCond .eq 8, 3) := by decide +kernel
theorem d_Tf_heapStatus_31 : decode prog_1_method_65_code 31 = .ok (.bipush 9, 2) := by decide +kernel
theorem d_Tf_heapStatus_33 : decode prog_1_method_65_code 33 = .ok (.goto 4, 3) := by decide +kernel
theorem d_Tf_heapStatus_36 : decode prog_1_method_65_code 36 = .ok (.iconst 0, 1) := by decide +kernel
theorem d_Tf_heapStatus_37 : decode prog_1_method_65_code 37 = .ok (.ireturn, 1) := by decide +kernel
theorem d_Tf_givings_0 : decode prog_1_method_34_code 0 = .ok (.aload_n 0, 1) := by decide +kernel
theorem d_Tf_givings_1 : decode prog_1_method_34_code 1 = .ok (.iload_n 1, 1) := by decide +kernel
theorem d_Tf_givings_2 : decode prog_1_method_34_code 2 = .ok (.invokevirtual 328, 3) := by decide +kernel
theorem d_Tf_givings_5 : decode prog_1_method_34_code 5 = .ok (.istore_n 2, 1) := by decide +kernel
theorem d_Tf_givings_6 : decode prog_1_method_34_code 6 = .ok (.iload_n 2, 1) := by decide +kernel
theorem d_Tf_givings_7 : decode prog_1_method_34_code 7 = .ok (.ifCond .eq 11, 3) := by decide +kernel
theorem d_Tf_givings_10 : decode prog_1_method_34_code 10 = .ok (.aload_n 0, 1) := by decide +kernel
theorem d_Tf_givings_11 : decode prog_1_method_34_code 11 = .ok (.iload_n 2, 1) := by decide +kernel
theorem d_Tf_givings_12 : decode prog_1_method_34_code 12 = .ok (.invokevirtual 138, 3) := by decide +kernel
theorem d_Tf_givings_15 : decode prog_1_method_34_code 15 = .ok (.goto 19, 3) := by decide +kernel
theorem d_Tf_givings_18 : decode prog_1_method_34_code 18 = .ok (.aload_n 0, 1) := by decide +kernel
theorem d_Tf_givings_19 : decode prog_1_method_34_code 19 = .ok (.aload_n 0, 1) := by decide +kernel
theorem d_Tf_givings_20 : decode prog_1_method_34_code 20 = .ok (.getfield 97, 3) := by decide +kernel
theorem d_Tf_givings_23 : decode prog_1_method_34_code 23 = .ok (.aload_n 0, 1) := by decide +kernel
theorem d_Tf_givings_24 : decode prog_1_method_34_code 24 = .ok (.getfield 60, 3) := by decide +kernel
theorem d_Tf_givings_27 : decode prog_1_method_34_code 27 = .ok (.iload_n 1, 1) := by decide +kernel
theorem d_Tf_givings_28 : decode prog_1_method_34_code 28 = .ok (.invokevirtual 334, 3) := by decide +kernel
theorem d_Tf_givings_31 : decode prog_1_method_34_code 31 = .ok (.invokevirtual 174, 3) := by decide +kernel
theorem d_Tf_givings_34 : decode prog_1_method_34_code 34 = .ok (.ireturn, 1) := by decide +kernel
theorem d_Tf_given_0 : decode prog_1_method_35_code 0 = .ok (.aload_n 0, 1) := by decide +kernel
theorem d_Tf_given_1 : decode prog_1_method_35_code 1 = .ok (.iload_n 2, 1) := by decide +kernel
theorem d_Tf_given_2 : decode prog_1_method_35_code 2 = .ok (.invokevirtual 249, 3) := by decide +kernel
theorem d_Tf_given_5 : decode prog_1_method_35_code 5 = .ok (.ifCond .eq 9, 3) := by decide +kernel
theorem d_Tf_given_8 : decode prog_1_method_35_code 8 = .ok (.aload_n 0, 1) := by decide +kernel
theorem d_Tf_given_9 : decode prog_1_method_35_code 9 = .ok (.iconst 2, 1) := by decide +kernel
theorem d_Tf_given_10 : decode prog_1_method_35_code 10 = .ok (.invokevirtual 138, 3) := by decide +kernel
theorem d_Tf_given_13 : decode prog_1_method_35_code 13 = .ok (.ireturn, 1) := by decide +kernel
theorem d_Tf_given_14 : decode prog_1_method_35_code 14 = .ok (.iload_n 1, 1) := by decide +kernel
theorem d_Tf_given_15 : decode prog_1_method_35_code 15 = .ok (.iload_n 2, 1) := by decide +kernel
theorem d_Tf_given_16 : decode prog_1_method_35_code 16 = .ok (.ishr, 1) := by decide +kernel
theorem d_Tf_given_17 : decode prog_1_method_35_code 17 = .ok (.iconst 1, 1) := by decide +kernel
theorem d_Tf_given_18 : decode prog_1_method_35_code 18 = .ok (.iand, 1) := by decide +kernel
theorem d_Tf_given_19 : decode prog_1_method_35_code 19 = .ok (.ifCond .ne 9, 3) := by decide +kernel
theorem d_Tf_given_22 : decode prog_1_method_35_code 22 = .ok (.aload_n 0, 1) := by decide +kernel
theorem d_Tf_given_23 : decode prog_1_method_35_code 23 = .ok (.iconst 5, 1) := by decide +kernel
theorem d_Tf_given_24 : decode prog_1_method_35_code 24 = .ok (.invokevirtual 138, 3) := by decide +kernel
theorem d_Tf_given_27 : decode prog_1_method_35_code 27 = .ok (.ireturn, 1) := by decide +kernel
theorem d_Tf_given_28 : decode prog_1_method_35_code 28 = .ok (.aload_n 0, 1) := by decide +kernel
theorem d_Tf_given_29 : decode prog_1_method_35_code 29 = .ok (.iload_n 1, 1) := by decide +kernel
theorem d_Tf_given_30 : decode prog_1_method_35_code 30 = .ok (.invokevirtual 328, 3) := by decide +kernel
theorem d_Tf_given_33 : decode prog_1_method_35_code 33 = .ok (.istore_n 3, 1) := by decide +kernel
theorem d_Tf_given_34 : decode prog_1_method_35_code 34 = .ok (.iload_n 3, 1) := by decide +kernel
theorem d_Tf_given_35 : decode prog_1_method_35_code 35 = .ok (.ifCond .eq 9, 3) := by decide +kernel
theorem d_Tf_given_38 : decode prog_1_method_35_code 38 = .ok (.aload_n 0, 1) := by decide +kernel
theorem d_Tf_given_39 : decode prog_1_method_35_code 39 = .ok (.iload_n 3, 1) := by decide +kernel
theorem d_Tf_given_40 : decode prog_1_method_35_code 40 = .ok (.invokevirtual 138, 3) := by decide +kernel
theorem d_Tf_given_43 : decode prog_1_method_35_code 43 = .ok (.ireturn, 1) := by decide +kernel
theorem d_Tf_given_44 : decode prog_1_method_35_code 44 = .ok (.aload_n 0, 1) := by decide +kernel
theorem d_Tf_given_45 : decode prog_1_method_35_code 45 = .ok (.getfield 97, 3) := by decide +kernel
theorem d_Tf_given_48 : decode prog_1_method_35_code 48 = .ok (.aload_n 0, 1) := by decide +kernel
theorem d_Tf_given_49 : decode prog_1_method_35_code 49 = .ok (.getfield 60, 3) := by decide +kernel
theorem d_Tf_given_52 : decode prog_1_method_35_code 52 = .ok (.iload_n 1, 1) := by decide +kernel
theorem d_Tf_given_53 : decode prog_1_method_35_code 53 = .ok (.iload_n 2, 1) := by decide +kernel
theorem d_Tf_given_54 : decode prog_1_method_35_code 54 = .ok (.invokevirtual 337, 3) := by decide +kernel
theorem d_Tf_given_57 : decode prog_1_method_35_code 57 = .ok (.istore 4, 2) := by decide +kernel
theorem d_Tf_given_59 : decode prog_1_method_35_code 59 = .ok (.iload 4, 2) := by decide +kernel
theorem d_Tf_given_61 : decode prog_1_method_35_code 61 = .ok (.ifCond .ge 12, 3) := by decide +kernel
theorem d_Tf_given_64 : decode prog_1_method_35_code 64 = .ok (.aload_n 0, 1) := by decide +kernel
theorem d_Tf_given_65 : decode prog_1_method_35_code 65 = .ok (.bipush 8, 2) := by decide +kernel
theorem d_Tf_given_67 : decode prog_1_method_35_code 67 = .ok (.invokevirtual 138, 3) := by decide +kernel
theorem d_Tf_given_70 : decode prog_1_method_35_code 70 = .ok (.goto 9, 3) := by decide +kernel
theorem d_Tf_given_73 : decode prog_1_method_35_code 73 = .ok (.aload_n 0, 1) := by decide +kernel
theorem d_Tf_given_74 : decode prog_1_method_35_code 74 = .ok (.iload 4, 2) := by decide +kernel
theorem d_Tf_given_76 : decode prog_1_method_35_code 76 = .ok (.invokevirtual 174, 3) := by decide +kernel
theorem d_Tf_given_79 : decode prog_1_method_35_code 79 = .ok (.ireturn, 1) := by decide +kernel
theorem d_Tf_cover_0 : decode prog_1_method_36_code 0 = .ok (.aload_n 0, 1) := by decide +kernel
theorem d_Tf_cover_1 : decode prog_1_method_36_code 1 = .ok (.getfield 60, 3) := by decide +kernel
theorem d_Tf_cover_4 : decode prog_1_method_36_code 4 = .ok (.invokestatic 340, 3) := by decide +kernel
theorem d_Tf_cover_7 : decode prog_1_method_36_code 7 = .ok (.istore_n 1, 1) := by decide +kernel
theorem d_Tf_cover_8 : decode prog_1_method_36_code 8 = .ok (.iload_n 1, 1) := by decide +kernel
theorem d_Tf_cover_9 : decode prog_1_method_36_code 9 = .ok (.ifCond .ge 12, 3) := by decide +kernel
theorem d_Tf_cover_12 : decode prog_1_method_36_code 12 = .ok (.aload_n 0, 1) := by decide +kernel
theorem d_Tf_cover_13 : decode prog_1_method_36_code 13 = .ok (.bipush 8, 2) := by decide +kernel
theorem d_Tf_cover_15 : decode prog_1_method_36_code 15 = .ok (.invokevirtual 138, 3) := by decide +kernel
theorem d_Tf_cover_18 : decode prog_1_method_36_code 18 = .ok (.goto 11, 3) := by decide +kernel
theorem d_Tf_cover_21 : decode prog_1_method_36_code 21 = .ok (.aload_n 0, 1) := by decide +kernel
theorem d_Tf_cover_22 : decode prog_1_method_36_code 22 = .ok (.iload_n 1, 1) := by decide +kernel
theorem d_Tf_cover_23 : decode prog_1_method_36_code 23 = .ok (.invokestatic 344, 3) := by decide +kernel
theorem d_Tf_cover_26 : decode prog_1_method_36_code 26 = .ok (.invokevirtual 174, 3) := by decide +kernel
theorem d_Tf_cover_29 : decode prog_1_method_36_code 29 = .ok (.ireturn, 1) := by decide +kernel
theorem d_Tf_coverSet_0 : decode prog_1_method_37_code 0 = .ok (.aload_n 0, 1) := by decide +kernel
theorem d_Tf_coverSet_1 : decode prog_1_method_37_code 1 = .ok (.getfield 60, 3) := by decide +kernel
theorem d_Tf_coverSet_4 : decode prog_1_method_37_code 4 = .ok (.invokestatic 340, 3) := by decide +kernel
theorem d_Tf_coverSet_7 : decode prog_1_method_37_code 7 = .ok (.istore_n 1, 1) := by decide +kernel
theorem d_Tf_coverSet_8 : decode prog_1_method_37_code 8 = .ok (.iload_n 1, 1) := by decide +kernel
theorem d_Tf_coverSet_9 : decode prog_1_method_37_code 9 = .ok (.ifCond .ge 12, 3) := by decide +kernel
theorem d_Tf_coverSet_12 : decode prog_1_method_37_code 12 = .ok (.aload_n 0, 1) := by decide +kernel
theorem d_Tf_coverSet_13 : decode prog_1_method_37_code 13 = .ok (.bipush 8, 2) := by decide +kernel
theorem d_Tf_coverSet_15 : decode prog_1_method_37_code 15 = .ok (.invokevirtual 138, 3) := by decide +kernel
theorem d_Tf_coverSet_18 : decode prog_1_method_37_code 18 = .ok (.goto 8, 3) := by decide +kernel
theorem d_Tf_coverSet_21 : decode prog_1_method_37_code 21 = .ok (.aload_n 0, 1) := by decide +kernel
theorem d_Tf_coverSet_22 : decode prog_1_method_37_code 22 = .ok (.iload_n 1, 1) := by decide +kernel
theorem d_Tf_coverSet_23 : decode prog_1_method_37_code 23 = .ok (.invokevirtual 174, 3) := by decide +kernel
theorem d_Tf_coverSet_26 : decode prog_1_method_37_code 26 = .ok (.ireturn, 1) := by decide +kernel
theorem d_Tf_blamed_0 : decode prog_1_method_38_code 0 = .ok (.aload_n 0, 1) := by decide +kernel
theorem d_Tf_blamed_1 : decode prog_1_method_38_code 1 = .ok (.aload_n 0, 1) := by decide +kernel
theorem d_Tf_blamed_2 : decode prog_1_method_38_code 2 = .ok (.getfield 60, 3) := by decide +kernel
theorem d_Tf_blamed_5 : decode prog_1_method_38_code 5 = .ok (.invokestatic 349, 3) := by decide +kernel
theorem d_Tf_blamed_8 : decode prog_1_method_38_code 8 = .ok (.invokestatic 344, 3) := by decide +kernel
theorem d_Tf_blamed_11 : decode prog_1_method_38_code 11 = .ok (.invokevirtual 174, 3) := by decide +kernel
theorem d_Tf_blamed_14 : decode prog_1_method_38_code 14 = .ok (.ireturn, 1) := by decide +kernel
theorem d_Tf_blamedSet_0 : decode prog_1_method_39_code 0 = .ok (.aload_n 0, 1) := by decide +kernel
theorem d_Tf_blamedSet_1 : decode prog_1_method_39_code 1 = .ok (.aload_n 0, 1) := by decide +kernel
theorem d_Tf_blamedSet_2 : decode prog_1_method_39_code 2 = .ok (.getfield 60, 3) := by decide +kernel
theorem d_Tf_blamedSet_5 : decode prog_1_method_39_code 5 = .ok (.invokestatic 349, 3) := by decide +kernel
theorem d_Tf_blamedSet_8 : decode prog_1_method_39_code 8 = .ok (.invokevirtual 174, 3) := by decide +kernel
theorem d_Tf_blamedSet_11 : decode prog_1_method_39_code 11 = .ok (.ireturn, 1) := by decide +kernel
theorem d_Tf_wheels_0 : decode prog_1_method_40_code 0 = .ok (.iload_n 1, 1) := by decide +kernel
theorem d_Tf_wheels_1 : decode prog_1_method_40_code 1 = .ok (.iconst 2, 1) := by decide +kernel
theorem d_Tf_wheels_2 : decode prog_1_method_40_code 2 = .ok (.if_icmp .lt 9, 3) := by decide +kernel
theorem d_Tf_wheels_5 : decode prog_1_method_40_code 5 = .ok (.iload_n 1, 1) := by decide +kernel
theorem d_Tf_wheels_6 : decode prog_1_method_40_code 6 = .ok (.bipush 7, 2) := by decide +kernel
theorem d_Tf_wheels_8 : decode prog_1_method_40_code 8 = .ok (.if_icmp .le 9, 3) := by decide +kernel
theorem d_Tf_wheels_11 : decode prog_1_method_40_code 11 = .ok (.aload_n 0, 1) := by decide +kernel
theorem d_Tf_wheels_12 : decode prog_1_method_40_code 12 = .ok (.iconst 5, 1) := by decide +kernel
theorem d_Tf_wheels_13 : decode prog_1_method_40_code 13 = .ok (.invokevirtual 138, 3) := by decide +kernel
theorem d_Tf_wheels_16 : decode prog_1_method_40_code 16 = .ok (.ireturn, 1) := by decide +kernel
theorem d_Tf_wheels_17 : decode prog_1_method_40_code 17 = .ok (.aload_n 0, 1) := by decide +kernel
theorem d_Tf_wheels_18 : decode prog_1_method_40_code 18 = .ok (.aload_n 0, 1) := by decide +kernel
theorem d_Tf_wheels_19 : decode prog_1_method_40_code 19 = .ok (.getfield 90, 3) := by decide +kernel
theorem d_Tf_wheels_22 : decode prog_1_method_40_code 22 = .ok (.aload_n 0, 1) := by decide +kernel
theorem d_Tf_wheels_23 : decode prog_1_method_40_code 23 = .ok (.getfield 60, 3) := by decide +kernel
theorem d_Tf_wheels_26 : decode prog_1_method_40_code 26 = .ok (.iload_n 1, 1) := by decide +kernel
theorem d_Tf_wheels_27 : decode prog_1_method_40_code 27 = .ok (.invokevirtual 352, 3) := by decide +kernel
theorem d_Tf_wheels_30 : decode prog_1_method_40_code 30 = .ok (.invokevirtual 174, 3) := by decide +kernel
theorem d_Tf_wheels_33 : decode prog_1_method_40_code 33 = .ok (.ireturn, 1) := by decide +kernel
theorem d_Tf_whose_0 : decode prog_1_method_41_code 0 = .ok (.aload_n 0, 1) := by decide +kernel
theorem d_Tf_whose_1 : decode prog_1_method_41_code 1 = .ok (.iload_n 1, 1) := by decide +kernel
theorem d_Tf_whose_2 : decode prog_1_method_41_code 2 = .ok (.iload_n 2, 1) := by decide +kernel
theorem d_Tf_whose_3 : decode prog_1_method_41_code 3 = .ok (.invokevirtual 355, 3) := by decide +kernel
theorem d_Tf_whose_6 : decode prog_1_method_41_code 6 = .ok (.istore_n 3, 1) := by decide +kernel
theorem d_Tf_whose_7 : decode prog_1_method_41_code 7 = .ok (.iload_n 3, 1) := by decide +kernel
theorem d_Tf_whose_8 : decode prog_1_method_41_code 8 = .ok (.ifCond .eq 11, 3) := by decide +kernel
theorem d_Tf_whose_11 : decode prog_1_method_41_code 11 = .ok (.aload_n 0, 1) := by decide +kernel
theorem d_Tf_whose_12 : decode prog_1_method_41_code 12 = .ok (.iload_n 3, 1) := by decide +kernel
theorem d_Tf_whose_13 : decode prog_1_method_41_code 13 = .ok (.invokevirtual 138, 3) := by decide +kernel
theorem d_Tf_whose_16 : decode prog_1_method_41_code 16 = .ok (.goto 14, 3) := by decide +kernel
theorem d_Tf_whose_19 : decode prog_1_method_41_code 19 = .ok (.aload_n 0, 1) := by decide +kernel
theorem d_Tf_whose_20 : decode prog_1_method_41_code 20 = .ok (.aload_n 0, 1) := by decide +kernel
theorem d_Tf_whose_21 : decode prog_1_method_41_code 21 = .ok (.getfield 104, 3) := by decide +kernel
theorem d_Tf_whose_24 : decode prog_1_method_41_code 24 = .ok (.invokevirtual 358, 3) := by decide +kernel
theorem d_Tf_whose_27 : decode prog_1_method_41_code 27 = .ok (.invokevirtual 174, 3) := by decide +kernel
theorem d_Tf_whose_30 : decode prog_1_method_41_code 30 = .ok (.ireturn, 1) := by decide +kernel
theorem d_Tf_seenStatus_0 : decode prog_1_method_66_code 0 = .ok (.aload_n 0, 1) := by decide +kernel
theorem d_Tf_seenStatus_1 : decode prog_1_method_66_code 1 = .ok (.iload_n 1, 1) := by decide +kernel
theorem d_Tf_seenStatus_2 : decode prog_1_method_66_code 2 = .ok (.invokevirtual 267, 3) := by decide +kernel
theorem d_Tf_seenStatus_5 : decode prog_1_method_66_code 5 = .ok (.istore_n 3, 1) := by decide +kernel
theorem d_Tf_seenStatus_6 : decode prog_1_method_66_code 6 = .ok (.iload_n 3, 1) := by decide +kernel
theorem d_Tf_seenStatus_7 : decode prog_1_method_66_code 7 = .ok (.ifCond .eq 5, 3) := by decide +kernel
theorem d_Tf_seenStatus_10 : decode prog_1_method_66_code 10 = .ok (.iload_n 3, 1) := by decide +kernel
theorem d_Tf_seenStatus_11 : decode prog_1_method_66_code 11 = .ok (.ireturn, 1) := by decide +kernel
theorem d_Tf_seenStatus_12 : decode prog_1_method_66_code 12 = .ok (.ldc2_w 412, 3) := by decide +kernel
theorem d_Tf_seenStatus_15 : decode prog_1_method_66_code 15 = .ok (.iload_n 2, 1) := by decide +kernel
theorem d_Tf_seenStatus_16 : decode prog_1_method_66_code 16 = .ok (.i2l, 1) := by decide +kernel
theorem d_Tf_seenStatus_17 : decode prog_1_method_66_code 17 = .ok (.lmul, 1) := by decide +kernel
theorem d_Tf_seenStatus_18 : decode prog_1_method_66_code 18 = .ok (.aload_n 0, 1) := by decide +kernel
theorem d_Tf_seenStatus_19 : decode prog_1_method_66_code 19 = .ok (.getfield 29, 3) := by decide +kernel
theorem d_Tf_seenStatus_22 : decode prog_1_method_66_code 22 = .ok (.iload_n 1, 1) := by decide +kernel
theorem d_Tf_seenStatus_23 : decode prog_1_method_66_code 23 = .ok (.aaload, 1) := by decide +kernel
theorem d_Tf_seenStatus_24 : decode prog_1_method_66_code 24 = .ok (.getfield 414, 3) := by decide +kernel
theorem d_Tf_seenStatus_27 : decode prog_1_method_66_code 27 = .ok (.i2l, 1) := by decide +kernel
theorem d_Tf_seenStatus_28 : decode prog_1_method_66_code 28 = .ok (.lcmp, 1) := by decide +kernel
theorem d_Tf_seenStatus_29 : decode prog_1_method_66_code 29 = .ok (.ifCond .le 5, 3) := by decide +kernel
theorem d_Tf_seenStatus_32 : decode prog_1_method_66_code 32 = .ok (.iconst 4, 1) := by decide +kernel
theorem d_Tf_seenStatus_33 : decode prog_1_method_66_code 33 = .ok (.ireturn, 1) := by decide +kernel
theorem d_Tf_seenStatus_34 : decode prog_1_method_66_code 34 = .ok (.aload_n 0, 1) := by decide +kernel
theorem d_Tf_seenStatus_35 : decode prog_1_method_66_code 35 = .ok (.getfield 104, 3) := by decide +kernel
theorem d_Tf_seenStatus_38 : decode prog_1_method_66_code 38 = .ok (.aload_n 0, 1) := by decide +kernel
theorem d_Tf_seenStatus_39 : decode prog_1_method_66_code 39 = .ok (.getfield 60, 3) := by decide +kernel
theorem d_Tf_seenStatus_42 : decode prog_1_method_66_code 42 = .ok (.aload_n 0, 1) := by decide +kernel
theorem d_Tf_seenStatus_43 : decode prog_1_method_66_code 43 = .ok (.getfield 29, 3) := by decide +kernel
theorem d_Tf_seenStatus_46 : decode prog_1_method_66_code 46 = .ok (.iload_n 1, 1) := by decide +kernel
theorem d_Tf_seenStatus_47 : decode prog_1_method_66_code 47 = .ok (.aaload, 1) := by decide +kernel
theorem d_Tf_seenStatus_48 : decode prog_1_method_66_code 48 = .ok (.iload_n 2, 1) := by decide +kernel
theorem d_Tf_seenStatus_49 : decode prog_1_method_66_code 49 = .ok (.invokevirtual 417, 3) := by decide +kernel
theorem d_Tf_seenStatus_52 : decode prog_1_method_66_code 52 = .ok (.ifCond .eq 7, 3) := by decide +kernel
theorem d_Tf_seenStatus_55 : decode prog_1_method_66_code 55 = .ok (.iconst 0, 1) := by decide +kernel
theorem d_Tf_seenStatus_56 : decode prog_1_method_66_code 56 = .ok (.goto 4, 3) := by decide +kernel
theorem d_Tf_seenStatus_59 : decode prog_1_method_66_code 59 = .ok (.iconst 5, 1) := by decide +kernel
theorem d_Tf_seenStatus_60 : decode prog_1_method_66_code 60 = .ok (.ireturn, 1) := by decide +kernel
theorem d_Tf_sure_0 : decode prog_1_method_42_code 0 = .ok (.aload_n 0, 1) := by decide +kernel
theorem d_Tf_sure_1 : decode prog_1_method_42_code 1 = .ok (.iload_n 1, 1) := by decide +kernel
theorem d_Tf_sure_2 : decode prog_1_method_42_code 2 = .ok (.iload_n 2, 1) := by decide +kernel
theorem d_Tf_sure_3 : decode prog_1_method_42_code 3 = .ok (.invokevirtual 355, 3) := by decide +kernel
theorem d_Tf_sure_6 : decode prog_1_method_42_code 6 = .ok (.istore_n 3, 1) := by decide +kernel
theorem d_Tf_sure_7 : decode prog_1_method_42_code 7 = .ok (.iload_n 3, 1) := by decide +kernel
theorem d_Tf_sure_8 : decode prog_1_method_42_code 8 = .ok (.ifCond .eq 9, 3) := by decide +kernel
theorem d_Tf_sure_11 : decode prog_1_method_42_code 11 = .ok (.aload_n 0, 1) := by decide +kernel
theorem d_Tf_sure_12 : decode prog_1_method_42_code 12 = .ok (.iload_n 3, 1) := by decide +kernel
theorem d_Tf_sure_13 : decode prog_1_method_42_code 13 = .ok (.invokevirtual 138, 3) := by decide +kernel
theorem d_Tf_sure_16 : decode prog_1_method_42_code 16 = .ok (.ireturn, 1) := by decide +kernel
theorem d_Tf_sure_17 : decode prog_1_method_42_code 17 = .ok (.aload_n 0, 1) := by decide +kernel
theorem d_Tf_sure_18 : decode prog_1_method_42_code 18 = .ok (.getfield 104, 3) := by decide +kernel
theorem d_Tf_sure_21 : decode prog_1_method_42_code 21 = .ok (.invokevirtual 358, 3) := by decide +kernel
theorem d_Tf_sure_24 : decode prog_1_method_42_code 24 = .ok (.ifCond .ne 12, 3) := by decide +kernel
theorem d_Tf_sure_27 : decode prog_1_method_42_code 27 = .ok (.aload_n 0, 1) := by decide +kernel
theorem d_Tf_sure_28 : decode prog_1_method_42_code 28 = .ok (.bipush 8, 2) := by decide +kernel
theorem d_Tf_sure_30 : decode prog_1_method_42_code 30 = .ok (.invokevirtual 138, 3) := by decide +kernel
theorem d_Tf_sure_33 : decode prog_1_method_42_code 33 = .ok (.goto 14, 3) := by decide +kernel
theorem d_Tf_sure_36 : decode prog_1_method_42_code 36 = .ok (.aload_n 0, 1) := by decide +kernel
theorem d_Tf_sure_37 : decode prog_1_method_42_code 37 = .ok (.aload_n 0, 1) := by decide +kernel
theorem d_Tf_sure_38 : decode prog_1_method_42_code 38 = .ok (.getfield 104, 3) := by decide +kernel
theorem d_Tf_sure_41 : decode prog_1_method_42_code 41 = .ok (.invokevirtual 361, 3) := by decide +kernel
theorem d_Tf_sure_44 : decode prog_1_method_42_code 44 = .ok (.invokevirtual 174, 3) := by decide +kernel
theorem d_Tf_sure_47 : decode prog_1_method_42_code 47 = .ok (.ireturn, 1) := by decide +kernel
theorem d_Tf_ask_0 : decode prog_1_method_43_code 0 = .ok (.aload_n 0, 1) := by decide +kernel
theorem d_Tf_ask_1 : decode prog_1_method_43_code 1 = .ok (.iload_n 1, 1) := by decide +kernel
theorem d_Tf_ask_2 : decode prog_1_method_43_code 2 = .ok (.iload_n 2, 1) := by decide +kernel
theorem d_Tf_ask_3 : decode prog_1_method_43_code 3 = .ok (.invokevirtual 355, 3) := by decide +kernel
theorem d_Tf_ask_6 : decode prog_1_method_43_code 6 = .ok (.istore_n 3, 1) := by decide +kernel
theorem d_Tf_ask_7 : decode prog_1_method_43_code 7 = .ok (.iload_n 3, 1) := by decide +kernel
theorem d_Tf_ask_8 : decode prog_1_method_43_code 8 = .ok (.ifCond .eq 9, 3) := by decide +kernel
theorem d_Tf_ask_11 : decode prog_1_method_43_code 11 = .ok (.aload_n 0, 1) := by decide +kernel
theorem d_Tf_ask_12 : decode prog_1_method_43_code 12 = .ok (.iload_n 3, 1) := by decide +kernel
theorem d_Tf_ask_13 : decode prog_1_method_43_code 13 = .ok (.invokevirtual 138, 3) := by decide +kernel
theorem d_Tf_ask_16 : decode prog_1_method_43_code 16 = .ok (.ireturn, 1) := by decide +kernel
theorem d_Tf_ask_17 : decode prog_1_method_43_code 17 = .ok (.aload_n 0, 1) := by decide +kernel
theorem d_Tf_ask_18 : decode prog_1_method_43_code 18 = .ok (.getfield 104, 3) := by decide +kernel
theorem d_Tf_ask_21 : decode prog_1_method_43_code 21 = .ok (.invokevirtual 358, 3) := by decide +kernel
theorem d_Tf_ask_24 : decode prog_1_method_43_code 24 = .ok (.iconst 2, 1) := by decide +kernel
theorem d_Tf_ask_25 : decode prog_1_method_43_code 25 = .ok (.if_icmp .ge 7, 3) := by decide +kernel
theorem d_Tf_ask_28 : decode prog_1_method_43_code 28 = .ok (.iconst (-1), 1) := by decide +kernel
theorem d_Tf_ask_29 : decode prog_1_method_43_code 29 = .ok (.goto 14, 3) := by decide +kernel
theorem d_Tf_ask_32 : decode prog_1_method_43_code 32 = .ok (.aload_n 0, 1) := by decide +kernel
theorem d_Tf_ask_33 : decode prog_1_method_43_code 33 = .ok (.getfield 104, 3) := by decide +kernel
theorem d_Tf_ask_36 : decode prog_1_method_43_code 36 = .ok (.aload_n 0, 1) := by decide +kernel
theorem d_Tf_ask_37 : decode prog_1_method_43_code 37 = .ok (.getfield 60, 3) := by decide +kernel
theorem d_Tf_ask_40 : decode prog_1_method_43_code 40 = .ok (.invokevirtual 364, 3) := by decide +kernel
theorem d_Tf_ask_43 : decode prog_1_method_43_code 43 = .ok (.istore 4, 2) := by decide +kernel
theorem d_Tf_ask_45 : decode prog_1_method_43_code 45 = .ok (.iload 4, 2) := by decide +kernel
theorem d_Tf_ask_47 : decode prog_1_method_43_code 47 = .ok (.ifCond .ge 12, 3) := by decide +kernel
theorem d_Tf_ask_50 : decode prog_1_method_43_code 50 = .ok (.aload_n 0, 1) := by decide +kernel
theorem d_Tf_ask_51 : decode prog_1_method_43_code 51 = .ok (.bipush 8, 2) := by decide +kernel
theorem d_Tf_ask_53 : decode prog_1_method_43_code 53 = .ok (.invokevirtual 138, 3) := by decide +kernel
theorem d_Tf_ask_56 : decode prog_1_method_43_code 56 = .ok (.goto 9, 3) := by decide +kernel
theorem d_Tf_ask_59 : decode prog_1_method_43_code 59 = .ok (.aload_n 0, 1) := by decide +kernel
theorem d_Tf_ask_60 : decode prog_1_method_43_code 60 = .ok (.iload 4, 2) := by decide +kernel
theorem d_Tf_ask_62 : decode prog_1_method_43_code 62 = .ok (.invokevirtual 174, 3) := by decide +kernel
theorem d_Tf_ask_65 : decode prog_1_method_43_code 65 = .ok (.ireturn, 1) := by decide +kernel
theorem d_Tf_game_0 : decode prog_1_method_44_code 0 = .ok (.aload_n 0, 1) := by decide +kernel
theorem d_Tf_game_1 : decode prog_1_method_44_code 1 = .ok (.iload_n 1, 1) := by decide +kernel
theorem d_Tf_game_2 : decode prog_1_method_44_code 2 = .ok (.iload_n 2, 1) := by decide +kernel
theorem d_Tf_game_3 : decode prog_1_method_44_code 3 = .ok (.iload_n 3, 1) := by decide +kernel
theorem d_Tf_game_4 : decode prog_1_method_44_code 4 = .ok (.invokevirtual 367, 3) := by decide +kernel
theorem d_Tf_game_7 : decode prog_1_method_44_code 7 = .ok (.istore 4, 2) := by decide +kernel
theorem d_Tf_game_9 : decode prog_1_method_44_code 9 = .ok (.iload 4, 2) := by decide +kernel
theorem d_Tf_game_11 : decode prog_1_method_44_code 11 = .ok (.ifCond .eq 12, 3) := by decide +kernel
theorem d_Tf_game_14 : decode prog_1_method_44_code 14 = .ok (.aload_n 0, 1) := by decide +kernel
theorem d_Tf_game_15 : decode prog_1_method_44_code 15 = .ok (.iload 4, 2) := by decide +kernel
theorem d_Tf_game_17 : decode prog_1_method_44_code 17 = .ok (.invokevirtual 138, 3) := by decide +kernel
theorem d_Tf_game_20 : decode prog_1_method_44_code 20 = .ok (.goto 21, 3) := by decide +kernel
theorem d_Tf_game_23 : decode prog_1_method_44_code 23 = .ok (.aload_n 0, 1) := by decide +kernel
theorem d_Tf_game_24 : decode prog_1_method_44_code 24 = .ok (.aload_n 0, 1) := by decide +kernel
theorem d_Tf_game_25 : decode prog_1_method_44_code 25 = .ok (.getfield 111, 3) := by decide +kernel
theorem d_Tf_game_28 : decode prog_1_method_44_code 28 = .ok (.aload_n 0, 1) := by decide +kernel
theorem d_Tf_game_29 : decode prog_1_method_44_code 29 = .ok (.getfield 60, 3) := by decide +kernel
theorem d_Tf_game_32 : decode prog_1_method_44_code 32 = .ok (.iload_n 1, 1) := by decide +kernel
theorem d_Tf_game_33 : decode prog_1_method_44_code 33 = .ok (.iload_n 2, 1) := by decide +kernel
theorem d_Tf_game_34 : decode prog_1_method_44_code 34 = .ok (.iload_n 3, 1) := by decide +kernel
theorem d_Tf_game_35 : decode prog_1_method_44_code 35 = .ok (.invokevirtual 371, 3) := by decide +kernel
theorem d_Tf_game_38 : decode prog_1_method_44_code 38 = .ok (.invokevirtual 174, 3) := by decide +kernel
theorem d_Tf_game_41 : decode prog_1_method_44_code 41 = .ok (.ireturn, 1) := by decide +kernel
theorem d_Tf_gameStatus_0 : decode prog_1_method_67_code 0 = .ok (.aload_n 0, 1) := by decide +kernel
theorem d_Tf_gameStatus_1 : decode prog_1_method_67_code 1 = .ok (.iload_n 1, 1) := by decide +kernel
theorem d_Tf_gameStatus_2 : decode prog_1_method_67_code 2 = .ok (.invokevirtual 234, 3) := by decide +kernel
theorem d_Tf_gameStatus_5 : decode prog_1_method_67_code 5 = .ok (.ifCond .ne 11, 3) := by decide +kernel
theorem d_Tf_gameStatus_8 : decode prog_1_method_67_code 8 = .ok (.aload_n 0, 1) := by decide +kernel
theorem d_Tf_gameStatus_9 : decode prog_1_method_67_code 9 = .ok (.iload_n 2, 1) := by decide +kernel
theorem d_Tf_gameStatus_10 : decode prog_1_method_67_code 10 = .ok (.invokevirtual 234, 3) := by decide +kernel
theorem d_Tf_gameStatus_13 : decode prog_1_method_67_code 13 = .ok (.ifCond .eq 5, 3) := by decide +kernel
theorem d_Tf_gameStatus_16 : decode prog_1_method_67_code 16 = .ok (.iconst 2, 1) := by decide +kernel
theorem d_Tf_gameStatus_17 : decode prog_1_method_67_code 17 = .ok (.ireturn, 1) := by decide +kernel
theorem d_Tf_gameStatus_18 : decode prog_1_method_67_code 18 = .ok (.iload_n 1, 1) := by decide +kernel
theorem d_Tf_gameStatus_19 : decode prog_1_method_67_code 19 = .ok (.iload_n 2, 1) := by decide +kernel
theorem d_Tf_gameStatus_20 : decode prog_1_method_67_code 20 = .ok (.if_icmp .eq 12, 3) := by decide +kernel
theorem d_Tf_gameStatus_23 : decode prog_1_method_67_code 23 = .ok (.iload_n 3, 1) := by decide +kernel
theorem d_Tf_gameStatus_24 : decode prog_1_method_67_code 24 = .ok (.ifCond .lt 8, 3) := by decide +kernel
theorem d_Tf_gameStatus_27 : decode prog_1_method_67_code 27 = .ok (.iload_n 3, 1) := by decide +kernel
theorem d_Tf_gameStatus_28 : decode prog_1_method_67_code 28 = .ok (.iconst 3, 1) := by decide +kernel
theorem d_Tf_gameStatus_29 : decode prog_1_method_67_code 29 = .ok (.if_icmp .le 7, 3) := by decide +kernel
theorem d_Tf_gameStatus_32 : decode prog_1_method_67_code 32 = .ok (.iconst 5, 1) := by decide +kernel
theorem d_Tf_gameStatus_33 : decode prog_1_method_67_code 33 = .ok (.goto 4, 3) := by decide +kernel
theorem d_Tf_gameStatus_36 : decode prog_1_method_67_code 36 = .ok (.iconst 0, 1) := by decide +kernel
theorem d_Tf_gameStatus_37 : decode prog_1_method_67_code 37 = .ok (.ireturn, 1) := by decide +kernel
theorem d_Tf_moveOf_0 : decode prog_1_method_45_code 0 = .ok (.aload_n 0, 1) := by decide +kernel
theorem d_Tf_moveOf_1 : decode prog_1_method_45_code 1 = .ok (.iload_n 1, 1) := by decide +kernel
theorem d_Tf_moveOf_2 : decode prog_1_method_45_code 2 = .ok (.iload_n 2, 1) := by decide +kernel
theorem d_Tf_moveOf_3 : decode prog_1_method_45_code 3 = .ok (.iload_n 3, 1) := by decide +kernel
theorem d_Tf_moveOf_4 : decode prog_1_method_45_code 4 = .ok (.invokevirtual 367, 3) := by decide +kernel
theorem d_Tf_moveOf_7 : decode prog_1_method_45_code 7 = .ok (.istore 5, 2) := by decide +kernel
theorem d_Tf_moveOf_9 : decode prog_1_method_45_code 9 = .ok (.iload 5, 2) := by decide +kernel
theorem d_Tf_moveOf_11 : decode prog_1_method_45_code 11 = .ok (.ifCond .eq 10, 3) := by decide +kernel
theorem d_Tf_moveOf_14 : decode prog_1_method_45_code 14 = .ok (.aload_n 0, 1) := by decide +kernel
theorem d_Tf_moveOf_15 : decode prog_1_method_45_code 15 = .ok (.iload 5, 2) := by decide +kernel
theorem d_Tf_moveOf_17 : decode prog_1_method_45_code 17 = .ok (.invokevirtual 138, 3) := by decide +kernel
theorem d_Tf_moveOf_20 : decode prog_1_method_45_code 20 = .ok (.ireturn, 1) := by decide +kernel
theorem d_Tf_moveOf_21 : decode prog_1_method_45_code 21 = .ok (.iload_n 3, 1) := by decide +kernel
theorem d_Tf_moveOf_22 : decode prog_1_method_45_code 22 = .ok (.ifCond .eq 14, 3) := by decide +kernel
theorem d_Tf_moveOf_25 : decode prog_1_method_45_code 25 = .ok (.iload 4, 2) := by decide +kernel
theorem d_Tf_moveOf_27 : decode prog_1_method_45_code 27 = .ok (.ifCond .lt 9, 3) := by decide +kernel
theorem d_Tf_moveOf_30 : decode prog_1_method_45_code 30 = .ok (.iload 4, 2) := by decide +kernel
theorem d_Tf_moveOf_32 : decode prog_1_method_45_code 32 = .ok (.iconst 1, 1) := by decide +kernel
theorem d_Tf_moveOf_33 : decode prog_1_method_45_code 33 = .ok (.if_icmp .le 9, 3) := by decide +kernel
theorem d_Tf_moveOf_36 : decode prog_1_method_45_code 36 = .ok (.aload_n 0, 1) := by decide +kernel
theorem d_Tf_moveOf_37 : decode prog_1_method_45_code 37 = .ok (.iconst 5, 1) := by decide +kernel
theorem d_Tf_moveOf_38 : decode prog_1_method_45_code 38 = .ok (.invokevirtual 138, 3) := by decide +kernel
theorem d_Tf_moveOf_41 : decode prog_1_method_45_code 41 = .ok (.ireturn, 1) := by decide +kernel
theorem d_Tf_moveOf_42 : decode prog_1_method_45_code 42 = .ok (.aload_n 0, 1) := by decide +kernel
theorem d_Tf_moveOf_43 : decode prog_1_method_45_code 43 = .ok (.getfield 111, 3) := by decide +kernel
theorem d_Tf_moveOf_46 : decode prog_1_method_45_code 46 = .ok (.aload_n 0, 1) := by decide +kernel
theorem d_Tf_moveOf_47 : decode prog_1_method_45_code 47 = .ok (.getfield 60, 3) := by decide +kernel
theorem d_Tf_moveOf_50 : decode prog_1_method_45_code 50 = .ok (.iload_n 1, 1) := by decide +kernel
theorem d_Tf_moveOf_51 : decode prog_1_method_45_code 51 = .ok (.iload_n 2, 1) := by decide +kernel
theorem d_Tf_moveOf_52 : decode prog_1_method_45_code 52 = .ok (.iload_n 3, 1) := by decide +kernel
theorem d_Tf_moveOf_53 : decode prog_1_method_45_code 53 = .ok (.invokevirtual 371, 3) := by decide +kernel
theorem d_Tf_moveOf_56 : decode prog_1_method_45_code 56 = .ok (.pop, 1) := by decide +kernel
theorem d_Tf_moveOf_57 : decode prog_1_method_45_code 57 = .ok (.aload_n 0, 1) := by decide +kernel
theorem d_Tf_moveOf_58 : decode prog_1_method_45_code 58 = .ok (.getfield 111, 3) := by decide +kernel
theorem d_Tf_moveOf_61 : decode prog_1_method_45_code 61 = .ok (.getfield 374, 3) := by decide +kernel
theorem d_Tf_moveOf_64 : decode prog_1_method_45_code 64 = .ok (.ifCond .ge 10, 3) := by decide +kernel
theorem d_Tf_moveOf_67 : decode prog_1_method_45_code 67 = .ok (.aload_n 0, 1) := by decide +kernel
theorem d_Tf_moveOf_68 : decode prog_1_method_45_code 68 = .ok (.bipush 8, 2) := by decide +kernel
theorem d_Tf_moveOf_70 : decode prog_1_method_45_code 70 = .ok (.invokevirtual 138, 3) := by decide +kernel
theorem d_Tf_moveOf_73 : decode prog_1_method_45_code 73 = .ok (.ireturn, 1) := by decide +kernel
theorem d_Tf_moveOf_74 : decode prog_1_method_45_code 74 = .ok (.aload_n 0, 1) := by decide +kernel
theorem d_Tf_moveOf_75 : decode prog_1_method_45_code 75 = .ok (.iload 4, 2) := by decide +kernel
theorem d_Tf_moveOf_77 : decode prog_1_method_45_code 77 = .ok (.ifCond .ne 13, 3) := by decide +kernel
theorem d_Tf_moveOf_80 : decode prog_1_method_45_code 80 = .ok (.aload_n 0, 1) := by decide +kernel
theorem d_Tf_moveOf_81 : decode prog_1_method_45_code 81 = .ok (.getfield 111, 3) := by decide +kernel
theorem d_Tf_moveOf_84 : decode prog_1_method_45_code 84 = .ok (.getfield 374, 3) := by decide +kernel
theorem d_Tf_moveOf_87 : decode prog_1_method_45_code 87 = .ok (.goto 10, 3) := by decide +kernel
theorem d_Tf_moveOf_90 : decode prog_1_method_45_code 90 = .ok (.aload_n 0, 1) := by decide +kernel
theorem d_Tf_moveOf_91 : decode prog_1_method_45_code 91 = .ok (.getfield 111, 3) := by decide +kernel
theorem d_Tf_moveOf_94 : decode prog_1_method_45_code 94 = .ok (.getfield 377, 3) := by decide +kernel
theorem d_Tf_moveOf_97 : decode prog_1_method_45_code 97 = .ok (.invokevirtual 174, 3) := by decide +kernel
theorem d_Tf_moveOf_100 : decode prog_1_method_45_code 100 = .ok (.ireturn, 1) := by decide +kernel
theorem d_Tf_bites_0 : decode prog_1_method_46_code 0 = .ok (.aload_n 0, 1) := by decide +kernel
theorem d_Tf_bites_1 : decode prog_1_method_46_code 1 = .ok (.iload_n 1, 1) := by decide +kernel
theorem d_Tf_bites_2 : decode prog_1_method_46_code 2 = .ok (.invokevirtual 234, 3) := by decide +kernel
theorem d_Tf_bites_5 : decode prog_1_method_46_code 5 = .ok (.ifCond .eq 9, 3) := by decide +kernel
theorem d_Tf_bites_8 : decode prog_1_method_46_code 8 = .ok (.aload_n 0, 1) := by decide +kernel
theorem d_Tf_bites_9 : decode prog_1_method_46_code 9 = .ok (.iconst 2, 1) := by decide +kernel
theorem d_Tf_bites_10 : decode prog_1_method_46_code 10 = .ok (.invokevirtual 119, 3) := by decide +kernel
theorem d_Tf_bites_13 : decode prog_1_method_46_code 13 = .ok (.ireturn, 1) := by decide +kernel
theorem d_Tf_bites_14 : decode prog_1_method_46_code 14 = .ok (.iload_n 2, 1) := by decide +kernel
theorem d_Tf_bites_15 : decode prog_1_method_46_code 15 = .ok (.ifCond .lt 9, 3) := by decide +kernel
theorem d_Tf_bites_18 : decode prog_1_method_46_code 18 = .ok (.iload_n 2, 1) := by decide +kernel
theorem d_Tf_bites_19 : decode prog_1_method_46_code 19 = .ok (.bipush 9, 2) := by decide +kernel
theorem d_Tf_bites_21 : decode prog_1_method_46_code 21 = .ok (.if_icmp .le 9, 3) := by decide +kernel
theorem d_Tf_bites_24 : decode prog_1_method_46_code 24 = .ok (.aload_n 0, 1) := by decide +kernel
theorem d_Tf_bites_25 : decode prog_1_method_46_code 25 = .ok (.iconst 5, 1) := by decide +kernel
theorem d_Tf_bites_26 : decode prog_1_method_46_code 26 = .ok (.invokevirtual 119, 3) := by decide +kernel
theorem d_Tf_bites_29 : decode prog_1_method_46_code 29 = .ok (.ireturn, 1) := by decide +kernel
theorem d_Tf_bites_30 : decode prog_1_method_46_code 30 = .ok (.aload_n 0, 1) := by decide +kernel
theorem d_Tf_bites_31 : decode prog_1_method_46_code 31 = .ok (.getfield 60, 3) := by decide +kernel
theorem d_Tf_bites_34 : decode prog_1_method_46_code 34 = .ok (.iload_n 1, 1) := by decide +kernel
theorem d_Tf_bites_35 : decode prog_1_method_46_code 35 = .ok (.invokevirtual 214, 3) := by decide +kernel
theorem d_Tf_bites_38 : decode prog_1_method_46_code 38 = .ok (.aload_n 0, 1) := by decide +kernel
theorem d_Tf_bites_39 : decode prog_1_method_46_code 39 = .ok (.getfield 60, 3) := by decide +kernel
theorem d_Tf_bites_42 : decode prog_1_method_46_code 42 = .ok (.getfield 220, 3) := by decide +kernel
theorem d_Tf_bites_45 : decode prog_1_method_46_code 45 = .ok (.iand, 1) := by decide +kernel
theorem d_Tf_bites_46 : decode prog_1_method_46_code 46 = .ok (.invokestatic 344, 3) := by decide +kernel
theorem d_Tf_bites_49 : decode prog_1_method_46_code 49 = .ok (.istore_n 3, 1) := by decide +kernel
theorem d_Tf_bites_50 : decode prog_1_method_46_code 50 = .ok (.aload_n 0, 1) := by decide +kernel
theorem d_Tf_bites_51 : decode prog_1_method_46_code 51 = .ok (.aload_n 0, 1) := by decide +kernel
theorem d_Tf_bites_52 : decode prog_1_method_46_code 52 = .ok (.iload_n 3, 1) := by decide +kernel
theorem d_Tf_bites_53 : decode prog_1_method_46_code 53 = .ok (.iload_n 2, 1) := by decide +kernel
theorem d_Tf_bites_54 : decode prog_1_method_46_code 54 = .ok (.invokevirtual 380, 3) := by decide +kernel
theorem d_Tf_bites_57 : decode prog_1_method_46_code 57 = .ok (.lconst 1, 1) := by decide +kernel
theorem d_Tf_bites_58 : decode prog_1_method_46_code 58 = .ok (.iconst 4, 1) := by decide +kernel
theorem d_Tf_bites_59 : decode prog_1_method_46_code 59 = .ok (.iload_n 3, 1) := by decide +kernel
theorem d_Tf_bites_60 : decode prog_1_method_46_code 60 = .ok (.imul, 1) := by decide +kernel
theorem d_Tf_bites_61 : decode prog_1_method_46_code 61 = .ok (.lshl, 1) := by decide +kernel
theorem d_Tf_bites_62 : decode prog_1_method_46_code 62 = .ok (.invokevirtual 384, 3) := by decide +kernel
theorem d_Tf_bites_65 : decode prog_1_method_46_code 65 = .ok (.ireturn, 1) := by decide +kernel
theorem d_Tf_bitesTop_0 : decode prog_1_method_69_code 0 = .ok (.lconst 0, 1) := by decide +kernel
theorem d_Tf_bitesTop_1 : decode prog_1_method_69_code 1 = .ok (.lstore_n 3, 1) := by decide +kernel
theorem d_Tf_bitesTop_2 : decode prog_1_method_69_code 2 = .ok (.lconst 1, 1) := by decide +kernel
theorem d_Tf_bitesTop_3 : decode prog_1_method_69_code 3 = .ok (.lstore 5, 2) := by decide +kernel
theorem d_Tf_bitesTop_5 : decode prog_1_method_69_code 5 = .ok (.iconst 0, 1) := by decide +kernel
theorem d_Tf_bitesTop_6 : decode prog_1_method_69_code 6 = .ok (.istore 7, 2) := by decide +kernel
theorem d_Tf_bitesTop_8 : decode prog_1_method_69_code 8 = .ok (.iload 7, 2) := by decide +kernel
theorem d_Tf_bitesTop_10 : decode prog_1_method_69_code 10 = .ok (.iload_n 1, 1) := by decide +kernel
theorem d_Tf_bitesTop_11 : decode prog_1_method_69_code 11 = .ok (.if_icmp .gt 67, 3) := by decide +kernel
theorem d_Tf_bitesTop_14 : decode prog_1_method_69_code 14 = .ok (.iload 7, 2) := by decide +kernel
theorem d_Tf_bitesTop_16 : decode prog_1_method_69_code 16 = .ok (.iload_n 2, 1) := by decide +kernel
theorem d_Tf_bitesTop_17 : decode prog_1_method_69_code 17 = .ok (.if_icmp .lt 39, 3) := by decide +kernel
theorem d_Tf_bitesTop_20 : decode prog_1_method_69_code 20 = .ok (.lload_n 3, 1) := by decide +kernel
theorem d_Tf_bitesTop_21 : decode prog_1_method_69_code 21 = .ok (.lload 5, 2) := by decide +kernel
theorem d_Tf_bitesTop_23 : decode prog_1_method_69_code 23 = .ok (.aload_n 0, 1) := by decide +kernel
theorem d_Tf_bitesTop_24 : decode prog_1_method_69_code 24 = .ok (.getfield 60, 3) := by decide +kernel
theorem d_Tf_bitesTop_27 : decode prog_1_method_69_code 27 = .ok (.getfield 208, 3) := by decide +kernel
theorem d_Tf_bitesTop_30 : decode prog_1_method_69_code 30 = .ok (.iload 7, 2) := by decide +kernel
theorem d_Tf_bitesTop_32 : decode prog_1_method_69_code 32 = .ok (.invokestatic 421, 3) := by decide +kernel
theorem d_Tf_bitesTop_35 : decode prog_1_method_69_code 35 = .ok (.lmul, 1) := by decide +kernel
theorem d_Tf_bitesTop_36 : decode prog_1_method_69_code 36 = .ok (.bipush 16, 2) := by decide +kernel
theorem d_Tf_bitesTop_38 : decode prog_1_method_69_code 38 = .ok (.aload_n 0, 1) := by decide +kernel
theorem d_Tf_bitesTop_39 : decode prog_1_method_69_code 39 = .ok (.getfield 60, 3) := by decide +kernel
theorem d_Tf_bitesTop_42 : decode prog_1_method_69_code 42 = .ok (.getfield 208, 3) := by decide +kernel
theorem d_Tf_bitesTop_45 : decode prog_1_method_69_code 45 = .ok (.isub, 1) := by decide +kernel
theorem d_Tf_bitesTop_46 : decode prog_1_method_69_code 46 = .ok (.iload_n 1, 1) := by decide +kernel
theorem d_Tf_bitesTop_47 : decode prog_1_method_69_code 47 = .ok (.iload 7, 2) := by decide +kernel
theorem d_Tf_bitesTop_49 : decode prog_1_method_69_code 49 = .ok (.isub, 1) := by decide +kernel
theorem d_Tf_bitesTop_50 : decode prog_1_method_69_code 50 = .ok (.invokestatic 421, 3) := by decide +kernel
theorem d_Tf_bitesTop_53 : decode prog_1_method_69_code 53 = .ok (.lmul, 1) := by decide +kernel
theorem d_Tf_bitesTop_54 : decode prog_1_method_69_code 54 = .ok (.ladd, 1) := by decide +kernel
theorem d_Tf_bitesTop_55 : decode prog_1_method_69_code 55 = .ok (.lstore_n 3, 1) := by decide +kernel
theorem d_Tf_bitesTop_56 : decode prog_1_method_69_code 56 = .ok (.lload 5, 2) := by decide +kernel
theorem d_Tf_bitesTop_58 : decode prog_1_method_69_code 58 = .ok (.iload_n 1, 1) := by decide +kernel
theorem d_Tf_bitesTop_59 : decode prog_1_method_69_code 59 = .ok (.iload 7, 2) := by decide +kernel
theorem d_Tf_bitesTop_61 : decode prog_1_method_69_code 61 = .ok (.isub, 1) := by decide +kernel
theorem d_Tf_bitesTop_62 : decode prog_1_method_69_code 62 = .ok (.i2l, 1) := by decide +kernel
theorem d_Tf_bitesTop_63 : decode prog_1_method_69_code 63 = .ok (.lmul, 1) := by decide +kernel
theorem d_Tf_bitesTop_64 : decode prog_1_method_69_code 64 = .ok (.iload 7, 2) := by decide +kernel
theorem d_Tf_bitesTop_66 : decode prog_1_method_69_code 66 = .ok (.iconst 1, 1) := by decide +kernel
theorem d_Tf_bitesTop_67 : decode prog_1_method_69_code 67 = .ok (.iadd, 1) := by decide +kernel
theorem d_Tf_bitesTop_68 : decode prog_1_method_69_code 68 = .ok (.i2l, 1) := by decide +kernel
theorem d_Tf_bitesTop_69 : decode prog_1_method_69_code 69 = .ok (.ldiv, 1) := by decide +kernel
theorem d_Tf_bitesTop_70 : decode prog_1_method_69_code 70 = .ok (.lstore 5, 2) := by decide +kernel
theorem d_Tf_bitesTop_72 : decode prog_1_method_69_code 72 = .ok (.iinc 7 1, 3) := by decide +kernel
theorem d_Tf_bitesTop_75 : decode prog_1_method_69_code 75 = .ok (.goto (-67), 3) := by decide +kernel
theorem d_Tf_bitesTop_78 : decode prog_1_method_69_code 78 = .ok (.lload_n 3, 1) := by decide +kernel
theorem d_Tf_bitesTop_79 : decode prog_1_method_69_code 79 = .ok (.lreturn, 1) := by decide +kernel
theorem d_Tf_power_0 : decode prog_1_method_70_code 0 = .ok (.lconst 1, 1) := by decide +kernel
theorem d_Tf_power_1 : decode prog_1_method_70_code 1 = .ok (.lstore_n 2, 1) := by decide +kernel
theorem d_Tf_power_2 : decode prog_1_method_70_code 2 = .ok (.iconst 0, 1) := by decide +kernel
theorem d_Tf_power_3 : decode prog_1_method_70_code 3 = .ok (.istore 4, 2) := by decide +kernel
theorem d_Tf_power_5 : decode prog_1_method_70_code 5 = .ok (.iload 4, 2) := by decide +kernel
theorem d_Tf_power_7 : decode prog_1_method_70_code 7 = .ok (.iload_n 1, 1) := by decide +kernel
theorem d_Tf_power_8 : decode prog_1_method_70_code 8 = .ok (.if_icmp .ge 14, 3) := by decide +kernel
theorem d_Tf_power_11 : decode prog_1_method_70_code 11 = .ok (.lload_n 2, 1) := by decide +kernel
theorem d_Tf_power_12 : decode prog_1_method_70_code 12 = .ok (.iload_n 0, 1) := by decide +kernel
theorem d_Tf_power_13 : decode prog_1_method_70_code 13 = .ok (.i2l, 1) := by decide +kernel
theorem d_Tf_power_14 : decode prog_1_method_70_code 14 = .ok (.lmul, 1) := by decide +kernel
theorem d_Tf_power_15 : decode prog_1_method_70_code 15 = .ok (.lstore_n 2, 1) := by decide +kernel
theorem d_Tf_power_16 : decode prog_1_method_70_code 16 = .ok (.iinc 4 1, 3) := by decide +kernel
theorem d_Tf_power_19 : decode prog_1_method_70_code 19 = .ok (.goto (-14), 3) := by decide +kernel
theorem d_Tf_power_22 : decode prog_1_method_70_code 22 = .ok (.lload_n 2, 1) := by decide +kernel
theorem d_Tf_power_23 : decode prog_1_method_70_code 23 = .ok (.lreturn, 1) := by decide +kernel
theorem d_Tf_tellFraction_0 : decode prog_1_method_71_code 0 = .ok (.lload_n 1, 1) := by decide +kernel
theorem d_Tf_tellFraction_1 : decode prog_1_method_71_code 1 = .ok (.lstore 5, 2) := by decide +kernel
theorem d_Tf_tellFraction_3 : decode prog_1_method_71_code 3 = .ok (.lload_n 3, 1) := by decide +kernel
theorem d_Tf_tellFraction_4 : decode prog_1_method_71_code 4 = .ok (.lstore 7, 2) := by decide +kernel
theorem d_Tf_tellFraction_6 : decode prog_1_method_71_code 6 = .ok (.iconst 0, 1) := by decide +kernel
theorem d_Tf_tellFraction_7 : decode prog_1_method_71_code 7 = .ok (.istore 9, 2) := by decide +kernel
theorem d_Tf_tellFraction_9 : decode prog_1_method_71_code 9 = .ok (.iload 9, 2) := by decide +kernel
theorem d_Tf_tellFraction_11 : decode prog_1_method_71_code 11 = .ok (.bipush 100, 2) := by decide +kernel
theorem d_Tf_tellFraction_13 : decode prog_1_method_71_code 13 = .ok (.if_icmp .ge 31, 3) := by decide +kernel
theorem d_Tf_tellFraction_16 : decode prog_1_method_71_code 16 = .ok (.lload 5, 2) := by decide +kernel
theorem d_Tf_tellFraction_18 : decode prog_1_method_71_code 18 = .ok (.lconst 0, 1) := by decide +kernel
theorem d_Tf_tellFraction_19 : decode prog_1_method_71_code 19 = .ok (.lcmp, 1) := by decide +kernel
theorem d_Tf_tellFraction_20 : decode prog_1_method_71_code 20 = .ok (.ifCond .eq 24, 3) := by decide +kernel
theorem d_Tf_tellFraction_23 : decode prog_1_method_71_code 23 = .ok (.lload 7, 2) := by decide +kernel
theorem d_Tf_tellFraction_25 : decode prog_1_method_71_code 25 = .ok (.lload 5, 2) := by decide +kernel
theorem d_Tf_tellFraction_27 : decode prog_1_method_71_code 27 = .ok (.lrem, 1) := by decide +kernel
theorem d_Tf_tellFraction_28 : decode prog_1_method_71_code 28 = .ok (.lstore 10, 2) := by decide +kernel
theorem d_Tf_tellFraction_30 : decode prog_1_method_71_code 30 = .ok (.lload 5, 2) := by decide +kernel
theorem d_Tf_tellFraction_32 : decode prog_1_method_71_code 32 = .ok (.lstore 7, 2) := by decide +kernel
theorem d_Tf_tellFraction_34 : decode prog_1_method_71_code 34 = .ok (.lload 10, 2) := by decide +kernel
theorem d_Tf_tellFraction_36 : decode prog_1_method_71_code 36 = .ok (.lstore 5, 2) := by decide +kernel
theorem d_Tf_tellFraction_38 : decode prog_1_method_71_code 38 = .ok (.iinc 9 1, 3) := by decide +kernel
theorem d_Tf_tellFraction_41 : decode prog_1_method_71_code 41 = .ok (.goto (-32), 3) := by decide +kernel
theorem d_Tf_tellFraction_44 : decode prog_1_method_71_code 44 = .ok (.lload 7, 2) := by decide +kernel
theorem d_Tf_tellFraction_46 : decode prog_1_method_71_code 46 = .ok (.lconst 0, 1) := by decide +kernel
theorem d_Tf_tellFraction_47 : decode prog_1_method_71_code 47 = .ok (.lcmp, 1) := by decide +kernel
theorem d_Tf_tellFraction_48 : decode prog_1_method_71_code 48 = .ok (.ifCond .le 8, 3) := by decide +kernel
theorem d_Tf_tellFraction_51 : decode prog_1_method_71_code 51 = .ok (.lload 7, 2) := by decide +kernel
theorem d_Tf_tellFraction_53 : decode prog_1_method_71_code 53 = .ok (.goto 4, 3) := by decide +kernel
theorem d_Tf_tellFraction_56 : decode prog_1_method_71_code 56 = .ok (.lconst 1, 1) := by decide +kernel
theorem d_Tf_tellFraction_57 : decode prog_1_method_71_code 57 = .ok (.lstore 9, 2) := by decide +kernel
theorem d_Tf_tellFraction_59 : decode prog_1_method_71_code 59 = .ok (.aload_n 0, 1) := by decide +kernel
theorem d_Tf_tellFraction_60 : decode prog_1_method_71_code 60 = .ok (.lload_n 1, 1) := by decide +kernel
theorem d_Tf_tellFraction_61 : decode prog_1_method_71_code 61 = .ok (.lload 9, 2) := by decide +kernel
theorem d_Tf_tellFraction_63 : decode prog_1_method_71_code 63 = .ok (.ldiv, 1) := by decide +kernel
theorem d_Tf_tellFraction_64 : decode prog_1_method_71_code 64 = .ok (.putfield 13, 3) := by decide +kernel
theorem d_Tf_tellFraction_67 : decode prog_1_method_71_code 67 = .ok (.aload_n 0, 1) := by decide +kernel
theorem d_Tf_tellFraction_68 : decode prog_1_method_71_code 68 = .ok (.lload_n 3, 1) := by decide +kernel
theorem d_Tf_tellFraction_69 : decode prog_1_method_71_code 69 = .ok (.lload 9, 2) := by decide +kernel
theorem d_Tf_tellFraction_71 : decode prog_1_method_71_code 71 = .ok (.ldiv, 1) := by decide +kernel
theorem d_Tf_tellFraction_72 : decode prog_1_method_71_code 72 = .ok (.putfield 17, 3) := by decide +kernel
theorem d_Tf_tellFraction_75 : decode prog_1_method_71_code 75 = .ok (.aload_n 0, 1) := by decide +kernel
theorem d_Tf_tellFraction_76 : decode prog_1_method_71_code 76 = .ok (.invokevirtual 126, 3) := by decide +kernel
theorem d_Tf_tellFraction_79 : decode prog_1_method_71_code 79 = .ok (.ireturn, 1) := by decide +kernel
theorem d_Tf_share_0 : decode prog_1_method_47_code 0 = .ok (.aload_n 0, 1) := by decide +kernel
theorem d_Tf_share_1 : decode prog_1_method_47_code 1 = .ok (.iload_n 1, 1) := by decide +kernel
theorem d_Tf_share_2 : decode prog_1_method_47_code 2 = .ok (.invokevirtual 234, 3) := by decide +kernel
theorem d_Tf_share_5 : decode prog_1_method_47_code 5 = .ok (.ifCond .eq 9, 3) := by decide +kernel
theorem d_Tf_share_8 : decode prog_1_method_47_code 8 = .ok (.aload_n 0, 1) := by decide +kernel
theorem d_Tf_share_9 : decode prog_1_method_47_code 9 = .ok (.iconst 2, 1) := by decide +kernel
theorem d_Tf_share_10 : decode prog_1_method_47_code 10 = .ok (.invokevirtual 119, 3) := by decide +kernel
theorem d_Tf_share_13 : decode prog_1_method_47_code 13 = .ok (.ireturn, 1) := by decide +kernel
theorem d_Tf_share_14 : decode prog_1_method_47_code 14 = .ok (.aload_n 0, 1) := by decide +kernel
theorem d_Tf_share_15 : decode prog_1_method_47_code 15 = .ok (.getfield 60, 3) := by decide +kernel
theorem d_Tf_share_18 : decode prog_1_method_47_code 18 = .ok (.invokevirtual 223, 3) := by decide +kernel
theorem d_Tf_share_21 : decode prog_1_method_47_code 21 = .ok (.istore_n 2, 1) := by decide +kernel
theorem d_Tf_share_22 : decode prog_1_method_47_code 22 = .ok (.iload_n 2, 1) := by decide +kernel
theorem d_Tf_share_23 : decode prog_1_method_47_code 23 = .ok (.ifCond .ne 10, 3) := by decide +kernel
theorem d_Tf_share_26 : decode prog_1_method_47_code 26 = .ok (.aload_n 0, 1) := by decide +kernel
theorem d_Tf_share_27 : decode prog_1_method_47_code 27 = .ok (.bipush 8, 2) := by decide +kernel
theorem d_Tf_share_29 : decode prog_1_method_47_code 29 = .ok (.invokevirtual 119, 3) := by decide +kernel
theorem d_Tf_share_32 : decode prog_1_method_47_code 32 = .ok (.ireturn, 1) := by decide +kernel
theorem d_Tf_share_33 : decode prog_1_method_47_code 33 = .ok (.aload_n 0, 1) := by decide +kernel
theorem d_Tf_share_34 : decode prog_1_method_47_code 34 = .ok (.aload_n 0, 1) := by decide +kernel
theorem d_Tf_share_35 : decode prog_1_method_47_code 35 = .ok (.getfield 60, 3) := by decide +kernel
theorem d_Tf_share_38 : decode prog_1_method_47_code 38 = .ok (.aload_n 0, 1) := by decide +kernel
theorem d_Tf_share_39 : decode prog_1_method_47_code 39 = .ok (.getfield 60, 3) := by decide +kernel
theorem d_Tf_share_42 : decode prog_1_method_47_code 42 = .ok (.iload_n 1, 1) := by decide +kernel
theorem d_Tf_share_43 : decode prog_1_method_47_code 43 = .ok (.invokevirtual 214, 3) := by decide +kernel
theorem d_Tf_share_46 : decode prog_1_method_47_code 46 = .ok (.invokevirtual 246, 3) := by decide +kernel
theorem d_Tf_share_49 : decode prog_1_method_47_code 49 = .ok (.i2l, 1) := by decide +kernel
theorem d_Tf_share_50 : decode prog_1_method_47_code 50 = .ok (.iload_n 2, 1) := by decide +kernel
theorem d_Tf_share_51 : decode prog_1_method_47_code 51 = .ok (.i2l, 1) := by decide +kernel
theorem d_Tf_share_52 : decode prog_1_method_47_code 52 = .ok (.invokevirtual 384, 3) := by decide +kernel
theorem d_Tf_share_55 : decode prog_1_method_47_code 55 = .ok (.ireturn, 1) := by decide +kernel
theorem d_Tf_live_0 : decode prog_1_method_48_code 0 = .ok (.iload_n 1, 1) := by decide +kernel
theorem d_Tf_live_1 : decode prog_1_method_48_code 1 = .ok (.ifCond .lt 10, 3) := by decide +kernel
theorem d_Tf_live_4 : decode prog_1_method_48_code 4 = .ok (.iload_n 1, 1) := by decide +kernel
theorem d_Tf_live_5 : decode prog_1_method_48_code 5 = .ok (.sipush 9999, 3) := by decide +kernel
theorem d_Tf_live_8 : decode prog_1_method_48_code 8 = .ok (.if_icmp .le 9, 3) := by decide +kernel
theorem d_Tf_live_11 : decode prog_1_method_48_code 11 = .ok (.aload_n 0, 1) := by decide +kernel
theorem d_Tf_live_12 : decode prog_1_method_48_code 12 = .ok (.iconst 5, 1) := by decide +kernel
theorem d_Tf_live_13 : decode prog_1_method_48_code 13 = .ok (.invokevirtual 138, 3) := by decide +kernel
theorem d_Tf_live_16 : decode prog_1_method_48_code 16 = .ok (.ireturn, 1) := by decide +kernel
theorem d_Tf_live_17 : decode prog_1_method_48_code 17 = .ok (.aload_n 0, 1) := by decide +kernel
theorem d_Tf_live_18 : decode prog_1_method_48_code 18 = .ok (.getfield 60, 3) := by decide +kernel
theorem d_Tf_live_21 : decode prog_1_method_48_code 21 = .ok (.getfield 177, 3) := by decide +kernel
theorem d_Tf_live_24 : decode prog_1_method_48_code 24 = .ok (.getfield 388, 3) := by decide +kernel
theorem d_Tf_live_27 : decode prog_1_method_48_code 27 = .ok (.ifCond .ne 10, 3) := by decide +kernel
theorem d_Tf_live_30 : decode prog_1_method_48_code 30 = .ok (.aload_n 0, 1) := by decide +kernel
theorem d_Tf_live_31 : decode prog_1_method_48_code 31 = .ok (.bipush 8, 2) := by decide +kernel
theorem d_Tf_live_33 : decode prog_1_method_48_code 33 = .ok (.invokevirtual 138, 3) := by decide +kernel
theorem d_Tf_live_36 : decode prog_1_method_48_code 36 = .ok (.ireturn, 1) := by decide +kernel
theorem d_Tf_live_37 : decode prog_1_method_48_code 37 = .ok (.aload_n 0, 1) := by decide +kernel
theorem d_Tf_live_38 : decode prog_1_method_48_code 38 = .ok (.getfield 80, 3) := by decide +kernel
theorem d_Tf_live_41 : decode prog_1_method_48_code 41 = .ok (.aload_n 0, 1) := by decide +kernel
theorem d_Tf_live_42 : decode prog_1_method_48_code 42 = .ok (.getfield 60, 3) := by decide +kernel
theorem d_Tf_live_45 : decode prog_1_method_48_code 45 = .ok (.iload_n 1, 1) := by decide +kernel
theorem d_Tf_live_46 : decode prog_1_method_48_code 46 = .ok (.invokevirtual 389, 3) := by decide +kernel
theorem d_Tf_live_49 : decode prog_1_method_48_code 49 = .ok (.aload_n 0, 1) := by decide +kernel
theorem d_Tf_live_50 : decode prog_1_method_48_code 50 = .ok (.aload_n 0, 1) := by decide +kernel
theorem d_Tf_live_51 : decode prog_1_method_48_code 51 = .ok (.getfield 80, 3) := by decide +kernel
theorem d_Tf_live_54 : decode prog_1_method_48_code 54 = .ok (.getfield 393, 3) := by decide +kernel
theorem d_Tf_live_57 : decode prog_1_method_48_code 57 = .ok (.invokevirtual 174, 3) := by decide +kernel
theorem d_Tf_live_60 : decode prog_1_method_48_code 60 = .ok (.ireturn, 1) := by decide +kernel
theorem d_Tf_lived_0 : decode prog_1_method_49_code 0 = .ok (.iload_n 1, 1) := by decide +kernel
theorem d_Tf_lived_1 : decode prog_1_method_49_code 1 = .ok (.ifCond .lt 8, 3) := by decide +kernel
theorem d_Tf_lived_4 : decode prog_1_method_49_code 4 = .ok (.iload_n 1, 1) := by decide +kernel
theorem d_Tf_lived_5 : decode prog_1_method_49_code 5 = .ok (.iconst 4, 1) := by decide +kernel
theorem d_Tf_lived_6 : decode prog_1_method_49_code 6 = .ok (.if_icmp .le 9, 3) := by decide +kernel
theorem d_Tf_lived_9 : decode prog_1_method_49_code 9 = .ok (.aload_n 0, 1) := by decide +kernel
theorem d_Tf_lived_10 : decode prog_1_method_49_code 10 = .ok (.iconst 5, 1) := by decide +kernel
theorem d_Tf_lived_11 : decode prog_1_method_49_code 11 = .ok (.invokevirtual 138, 3) := by decide +kernel
theorem d_Tf_lived_14 : decode prog_1_method_49_code 14 = .ok (.ireturn, 1) := by decide +kernel
theorem d_Tf_lived_15 : decode prog_1_method_49_code 15 = .ok (.aload_n 0, 1) := by decide +kernel
theorem d_Tf_lived_16 : decode prog_1_method_49_code 16 = .ok (.getfield 80, 3) := by decide +kernel
theorem d_Tf_lived_19 : decode prog_1_method_49_code 19 = .ok (.getfield 394, 3) := by decide +kernel
theorem d_Tf_lived_22 : decode prog_1_method_49_code 22 = .ok (.ifCond .ne 10, 3) := by decide +kernel
theorem d_Tf_lived_25 : decode prog_1_method_49_code 25 = .ok (.aload_n 0, 1) := by decide +kernel
theorem d_Tf_lived_26 : decode prog_1_method_49_code 26 = .ok (.bipush 8, 2) := by decide +kernel
theorem d_Tf_lived_28 : decode prog_1_method_49_code 28 = .ok (.invokevirtual 138, 3) := by decide +kernel
theorem d_Tf_lived_31 : decode prog_1_method_49_code 31 = .ok (.ireturn, 1) := by decide +kernel
theorem d_Tf_lived_32 : decode prog_1_method_49_code 32 = .ok (.iload_n 1, 1) := by decide +kernel
theorem d_Tf_lived_33 : decode prog_1_method_49_code 33 = .ok (.tableswitch 79 0 3 #[31, 43, 55, 67], 31) := by decide +kernel
theorem d_Tf_lived_64 : decode prog_1_method_49_code 64 = .ok (.aload_n 0, 1) := by decide +kernel
theorem d_Tf_lived_65 : decode prog_1_method_49_code 65 = .ok (.aload_n 0, 1) := by decide +kernel
theorem d_Tf_lived_66 : decode prog_1_method_49_code 66 = .ok (.getfield 80, 3) := by decide +kernel
theorem d_Tf_lived_69 : decode prog_1_method_49_code 69 = .ok (.getfield 395, 3) := by decide +kernel
theorem d_Tf_lived_72 : decode prog_1_method_49_code 72 = .ok (.invokevirtual 174, 3) := by decide +kernel
theorem d_Tf_lived_75 : decode prog_1_method_49_code 75 = .ok (.ireturn, 1) := by decide +kernel
theorem d_Tf_lived_76 : decode prog_1_method_49_code 76 = .ok (.aload_n 0, 1) := by decide +kernel
theorem d_Tf_lived_77 : decode prog_1_method_49_code 77 = .ok (.aload_n 0, 1) := by decide +kernel
theorem d_Tf_lived_78 : decode prog_1_method_49_code 78 = .ok (.getfield 80, 3) := by decide +kernel
theorem d_Tf_lived_81 : decode prog_1_method_49_code 81 = .ok (.getfield 398, 3) := by decide +kernel
theorem d_Tf_lived_84 : decode prog_1_method_49_code 84 = .ok (.invokevirtual 174, 3) := by decide +kernel
theorem d_Tf_lived_87 : decode prog_1_method_49_code 87 = .ok (.ireturn, 1) := by decide +kernel
theorem d_Tf_lived_88 : decode prog_1_method_49_code 88 = .ok (.aload_n 0, 1) := by decide +kernel
theorem d_Tf_lived_89 : decode prog_1_method_49_code 89 = .ok (.aload_n 0, 1) := by decide +kernel
theorem d_Tf_lived_90 : decode prog_1_method_49_code 90 = .ok (.getfield 80, 3) := by decide +kernel
theorem d_Tf_lived_93 : decode prog_1_method_49_code 93 = .ok (.getfield 399, 3) := by decide +kernel
theorem d_Tf_lived_96 : decode prog_1_method_49_code 96 = .ok (.invokevirtual 174, 3) := by decide +kernel
theorem d_Tf_lived_99 : decode prog_1_method_49_code 99 = .ok (.ireturn, 1) := by decide +kernel
theorem d_Tf_lived_100 : decode prog_1_method_49_code 100 = .ok (.aload_n 0, 1) := by decide +kernel
theorem d_Tf_lived_101 : decode prog_1_method_49_code 101 = .ok (.aload_n 0, 1) := by decide +kernel
theorem d_Tf_lived_102 : decode prog_1_method_49_code 102 = .ok (.getfield 80, 3) := by decide +kernel
theorem d_Tf_lived_105 : decode prog_1_method_49_code 105 = .ok (.getfield 400, 3) := by decide +kernel
theorem d_Tf_lived_108 : decode prog_1_method_49_code 108 = .ok (.invokevirtual 174, 3) := by decide +kernel
theorem d_Tf_lived_111 : decode prog_1_method_49_code 111 = .ok (.ireturn, 1) := by decide +kernel
theorem d_Tf_lived_112 : decode prog_1_method_49_code 112 = .ok (.aload_n 0, 1) := by decide +kernel
theorem d_Tf_lived_113 : decode prog_1_method_49_code 113 = .ok (.aload_n 0, 1) := by decide +kernel
theorem d_Tf_lived_114 : decode prog_1_method_49_code 114 = .ok (.getfield 80, 3) := by decide +kernel
theorem d_Tf_lived_117 : decode prog_1_method_49_code 117 = .ok (.getfield 403, 3) := by decide +kernel
theorem d_Tf_lived_120 : decode prog_1_method_49_code 120 = .ok (.invokevirtual 174, 3) := by decide +kernel
theorem d_Tf_lived_123 : decode prog_1_method_49_code 123 = .ok (.ireturn, 1) := by decide +kernel
theorem d_Tf_mean_0 : decode prog_1_method_50_code 0 = .ok (.iload_n 2, 1) := by decide +kernel
theorem d_Tf_mean_1 : decode prog_1_method_50_code 1 = .ok (.iconst 1, 1) := by decide +kernel
theorem d_Tf_mean_2 : decode prog_1_method_50_code 2 = .ok (.if_icmp .lt 9, 3) := by decide +kernel
theorem d_Tf_mean_5 : decode prog_1_method_50_code 5 = .ok (.iload_n 2, 1) := by decide +kernel
theorem d_Tf_mean_6 : decode prog_1_method_50_code 6 = .ok (.bipush 20, 2) := by decide +kernel
theorem d_Tf_mean_8 : decode prog_1_method_50_code 8 = .ok (.if_icmp .le 7, 3) := by decide +kernel
theorem d_Tf_mean_11 : decode prog_1_method_50_code 11 = .ok (.iconst 1, 1) := by decide +kernel
theorem d_Tf_mean_12 : decode prog_1_method_50_code 12 = .ok (.goto 4, 3) := by decide +kernel
theorem d_Tf_mean_15 : decode prog_1_method_50_code 15 = .ok (.iconst 0, 1) := by decide +kernel
theorem d_Tf_mean_16 : decode prog_1_method_50_code 16 = .ok (.istore_n 3, 1) := by decide +kernel
theorem d_Tf_mean_17 : decode prog_1_method_50_code 17 = .ok (.iload_n 3, 1) := by decide +kernel
theorem d_Tf_mean_18 : decode prog_1_method_50_code 18 = .ok (.ifCond .ne 25, 3) := by decide +kernel
theorem d_Tf_mean_21 : decode prog_1_method_50_code 21 = .ok (.iload_n 1, 1) := by decide +kernel
theorem d_Tf_mean_22 : decode prog_1_method_50_code 22 = .ok (.ifCond .lt 21, 3) := by decide +kernel
theorem d_Tf_mean_25 : decode prog_1_method_50_code 25 = .ok (.iload_n 1, 1) := by decide +kernel
theorem d_Tf_mean_26 : decode prog_1_method_50_code 26 = .ok (.sipush 9999, 3) := by decide +kernel
theorem d_Tf_mean_29 : decode prog_1_method_50_code 29 = .ok (.if_icmp .gt 14, 3) := by decide +kernel
theorem d_Tf_mean_32 : decode prog_1_method_50_code 32 = .ok (.iload_n 1, 1) := by decide +kernel
theorem d_Tf_mean_33 : decode prog_1_method_50_code 33 = .ok (.iload_n 2, 1) := by decide +kernel
theorem d_Tf_mean_34 : decode prog_1_method_50_code 34 = .ok (.iadd, 1) := by decide +kernel
theorem d_Tf_mean_35 : decode prog_1_method_50_code 35 = .ok (.iconst 1, 1) := by decide +kernel
theorem d_Tf_mean_36 : decode prog_1_method_50_code 36 = .ok (.isub, 1) := by decide +kernel
theorem d_Tf_mean_37 : decode prog_1_method_50_code 37 = .ok (.sipush 9999, 3) := by decide +kernel
theorem d_Tf_mean_40 : decode prog_1_method_50_code 40 = .ok (.if_icmp .le 9, 3) := by decide +kernel
theorem d_Tf_mean_43 : decode prog_1_method_50_code 43 = .ok (.aload_n 0, 1) := by decide +kernel
theorem d_Tf_mean_44 : decode prog_1_method_50_code 44 = .ok (.iconst 5, 1) := by decide +kernel
theorem d_Tf_mean_45 : decode prog_1_method_50_code 45 = .ok (.invokevirtual 119, 3) := by decide +kernel
theorem d_Tf_mean_48 : decode prog_1_method_50_code 48 = .ok (.ireturn, 1) := by decide +kernel
theorem d_Tf_mean_49 : decode prog_1_method_50_code 49 = .ok (.aload_n 0, 1) := by decide +kernel
theorem d_Tf_mean_50 : decode prog_1_method_50_code 50 = .ok (.getfield 60, 3) := by decide +kernel
theorem d_Tf_mean_53 : decode prog_1_method_50_code 53 = .ok (.getfield 177, 3) := by decide +kernel
theorem d_Tf_mean_56 : decode prog_1_method_50_code 56 = .ok (.getfield 388, 3) := by decide +kernel
theorem d_Tf_mean_59 : decode prog_1_method_50_code 59 = .ok (.ifCond .ne 10, 3) := by decide +kernel
theorem d_Tf_mean_62 : decode prog_1_method_50_code 62 = .ok (.aload_n 0, 1) := by decide +kernel
theorem d_Tf_mean_63 : decode prog_1_method_50_code 63 = .ok (.bipush 8, 2) := by decide +kernel
theorem d_Tf_mean_65 : decode prog_1_method_50_code 65 = .ok (.invokevirtual 119, 3) := by decide +kernel
theorem d_Tf_mean_68 : decode prog_1_method_50_code 68 = .ok (.ireturn, 1) := by decide +kernel
theorem d_Tf_mean_69 : decode prog_1_method_50_code 69 = .ok (.lconst 0, 1) := by decide +kernel
theorem d_Tf_mean_70 : decode prog_1_method_50_code 70 = .ok (.lstore 4, 2) := by decide +kernel
theorem d_Tf_mean_72 : decode prog_1_method_50_code 72 = .ok (.iconst 0, 1) := by decide +kernel
theorem d_Tf_mean_73 : decode prog_1_method_50_code 73 = .ok (.istore 6, 2) := by decide +kernel
theorem d_Tf_mean_75 : decode prog_1_method_50_code 75 = .ok (.iload 6, 2) := by decide +kernel
theorem d_Tf_mean_77 : decode prog_1_method_50_code 77 = .ok (.iload_n 2, 1) := by decide +kernel
theorem d_Tf_mean_78 : decode prog_1_method_50_code 78 = .ok (.if_icmp .ge 48, 3) := by decide +kernel
theorem d_Tf_mean_81 : decode prog_1_method_50_code 81 = .ok (.aload_n 0, 1) := by decide +kernel
theorem d_Tf_mean_82 : decode prog_1_method_50_code 82 = .ok (.getfield 67, 3) := by decide +kernel
theorem d_Tf_mean_85 : decode prog_1_method_50_code 85 = .ok (.aload_n 0, 1) := by decide +kernel
theorem d_Tf_mean_86 : decode prog_1_method_50_code 86 = .ok (.getfield 60, 3) := by decide +kernel
theorem d_Tf_mean_89 : decode prog_1_method_50_code 89 = .ok (.invokevirtual 406, 3) := by decide +kernel
theorem d_Tf_mean_92 : decode prog_1_method_50_code 92 = .ok (.aload_n 0, 1) := by decide +kernel
theorem d_Tf_mean_93 : decode prog_1_method_50_code 93 = .ok (.getfield 84, 3) := by decide +kernel
theorem d_Tf_mean_96 : decode prog_1_method_50_code 96 = .ok (.aload_n 0, 1) := by decide +kernel
theorem d_Tf_mean_97 : decode prog_1_method_50_code 97 = .ok (.getfield 67, 3) := by decide +kernel
theorem d_Tf_mean_100 : decode prog_1_method_50_code 100 = .ok (.iload_n 1, 1) := by decide +kernel
theorem d_Tf_mean_101 : decode prog_1_method_50_code 101 = .ok (.iload 6, 2) := by decide +kernel
theorem d_Tf_mean_103 : decode prog_1_method_50_code 103 = .ok (.iadd, 1) := by decide +kernel
theorem d_Tf_mean_104 : decode prog_1_method_50_code 104 = .ok (.invokevirtual 389, 3) := by decide +kernel
theorem d_Tf_mean_107 : decode prog_1_method_50_code 107 = .ok (.lload 4, 2) := by decide +kernel
theorem d_Tf_mean_109 : decode prog_1_method_50_code 109 = .ok (.aload_n 0, 1) := by decide +kernel
theorem d_Tf_mean_110 : decode prog_1_method_50_code 110 = .ok (.getfield 67, 3) := by decide +kernel
theorem d_Tf_mean_113 : decode prog_1_method_50_code 113 = .ok (.invokevirtual 409, 3) := by decide +kernel
theorem d_Tf_mean_116 : decode prog_1_method_50_code 116 = .ok (.i2l, 1) := by decide +kernel
theorem d_Tf_mean_117 : decode prog_1_method_50_code 117 = .ok (.ladd, 1) := by decide +kernel
theorem d_Tf_mean_118 : decode prog_1_method_50_code 118 = .ok (.lstore 4, 2) := by decide +kernel
theorem d_Tf_mean_120 : decode prog_1_method_50_code 120 = .ok (.iinc 6 1, 3) := by decide +kernel
theorem d_Tf_mean_123 : decode prog_1_method_50_code 123 = .ok (.goto (-48), 3) := by decide +kernel
theorem d_Tf_mean_126 : decode prog_1_method_50_code 126 = .ok (.aload_n 0, 1) := by decide +kernel
theorem d_Tf_mean_127 : decode prog_1_method_50_code 127 = .ok (.lload 4, 2) := by decide +kernel
theorem d_Tf_mean_129 : decode prog_1_method_50_code 129 = .ok (.iload_n 2, 1) := by decide +kernel
theorem d_Tf_mean_130 : decode prog_1_method_50_code 130 = .ok (.i2l, 1) := by decide +kernel
theorem d_Tf_mean_131 : decode prog_1_method_50_code 131 = .ok (.invokevirtual 384, 3) := by decide +kernel
theorem d_Tf_mean_134 : decode prog_1_method_50_code 134 = .ok (.ireturn, 1) := by decide +kernel
theorem d_Tf_mark_0 : decode prog_1_method_51_code 0 = .ok (.aload_n 0, 1) := by decide +kernel
theorem d_Tf_mark_1 : decode prog_1_method_51_code 1 = .ok (.getfield 74, 3) := by decide +kernel
theorem d_Tf_mark_4 : decode prog_1_method_51_code 4 = .ok (.iconst 3, 1) := by decide +kernel
theorem d_Tf_mark_5 : decode prog_1_method_51_code 5 = .ok (.if_icmp .lt 10, 3) := by decide +kernel
theorem d_Tf_mark_8 : decode prog_1_method_51_code 8 = .ok (.aload_n 0, 1) := by decide +kernel
theorem d_Tf_mark_9 : decode prog_1_method_51_code 9 = .ok (.bipush 7, 2) := by decide +kernel
theorem d_Tf_mark_11 : decode prog_1_method_51_code 11 = .ok (.invokevirtual 138, 3) := by decide +kernel
theorem d_Tf_mark_14 : decode prog_1_method_51_code 14 = .ok (.ireturn, 1) := by decide +kernel
theorem d_Tf_mark_15 : decode prog_1_method_51_code 15 = .ok (.aload_n 0, 1) := by decide +kernel
theorem d_Tf_mark_16 : decode prog_1_method_51_code 16 = .ok (.getfield 70, 3) := by decide +kernel
theorem d_Tf_mark_19 : decode prog_1_method_51_code 19 = .ok (.aload_n 0, 1) := by decide +kernel
theorem d_Tf_mark_20 : decode prog_1_method_51_code 20 = .ok (.getfield 74, 3) := by decide +kernel
theorem d_Tf_mark_23 : decode prog_1_method_51_code 23 = .ok (.aaload, 1) := by decide +kernel
theorem d_Tf_mark_24 : decode prog_1_method_51_code 24 = .ok (.aload_n 0, 1) := by decide +kernel
theorem d_Tf_mark_25 : decode prog_1_method_51_code 25 = .ok (.getfield 60, 3) := by decide +kernel
theorem d_Tf_mark_28 : decode prog_1_method_51_code 28 = .ok (.invokevirtual 406, 3) := by decide +kernel
theorem d_Tf_mark_31 : decode prog_1_method_51_code 31 = .ok (.aload_n 0, 1) := by decide +kernel
theorem d_Tf_mark_32 : decode prog_1_method_51_code 32 = .ok (.dup, 1) := by decide +kernel
theorem d_Tf_mark_33 : decode prog_1_method_51_code 33 = .ok (.getfield 74, 3) := by decide +kernel
theorem d_Tf_mark_36 : decode prog_1_method_51_code 36 = .ok (.iconst 1, 1) := by decide +kernel
theorem d_Tf_mark_37 : decode prog_1_method_51_code 37 = .ok (.iadd, 1) := by decide +kernel
theorem d_Tf_mark_38 : decode prog_1_method_51_code 38 = .ok (.putfield 74, 3) := by decide +kernel
theorem d_Tf_mark_41 : decode prog_1_method_51_code 41 = .ok (.aload_n 0, 1) := by decide +kernel
theorem d_Tf_mark_42 : decode prog_1_method_51_code 42 = .ok (.aload_n 0, 1) := by decide +kernel
theorem d_Tf_mark_43 : decode prog_1_method_51_code 43 = .ok (.getfield 74, 3) := by decide +kernel
theorem d_Tf_mark_46 : decode prog_1_method_51_code 46 = .ok (.invokevirtual 174, 3) := by decide +kernel
theorem d_Tf_mark_49 : decode prog_1_method_51_code 49 = .ok (.ireturn, 1) := by decide +kernel
theorem d_Tf_back_0 : decode prog_1_method_52_code 0 = .ok (.aload_n 0, 1) := by decide +kernel
theorem d_Tf_back_1 : decode prog_1_method_52_code 1 = .ok (.getfield 74, 3) := by decide +kernel
theorem d_Tf_back_4 : decode prog_1_method_52_code 4 = .ok (.iconst 1, 1) := by decide +kernel
theorem d_Tf_back_5 : decode prog_1_method_52_code 5 = .ok (.if_icmp .ge 10, 3) := by decide +kernel
theorem d_Tf_back_8 : decode prog_1_method_52_code 8 = .ok (.aload_n 0, 1) := by decide +kernel
theorem d_Tf_back_9 : decode prog_1_method_52_code 9 = .ok (.bipush 8, 2) := by decide +kernel
theorem d_Tf_back_11 : decode prog_1_method_52_code 11 = .ok (.invokevirtual 138, 3) := by decide +kernel
theorem d_Tf_back_14 : decode prog_1_method_52_code 14 = .ok (.ireturn, 1) := by decide +kernel
theorem d_Tf_back_15 : decode prog_1_method_52_code 15 = .ok (.aload_n 0, 1) := by decide +kernel
theorem d_Tf_back_16 : decode prog_1_method_52_code 16 = .ok (.dup, 1) := by decide +kernel
theorem d_Tf_back_17 : decode prog_1_method_52_code 17 = .ok (.getfield 74, 3) := by decide +kernel
theorem d_Tf_back_20 : decode prog_1_method_52_code 20 = .ok (.iconst 1, 1) := by decide +kernel
theorem d_Tf_back_21 : decode prog_1_method_52_code 21 = .ok (.isub, 1) := by decide +kernel
theorem d_Tf_back_22 : decode prog_1_method_52_code 22 = .ok (.putfield 74, 3) := by decide +kernel
theorem d_Tf_back_25 : decode prog_1_method_52_code 25 = .ok (.aload_n 0, 1) := by decide +kernel
theorem d_Tf_back_26 : decode prog_1_method_52_code 26 = .ok (.getfield 60, 3) := by decide +kernel
theorem d_Tf_back_29 : decode prog_1_method_52_code 29 = .ok (.aload_n 0, 1) := by decide +kernel
theorem d_Tf_back_30 : decode prog_1_method_52_code 30 = .ok (.getfield 70, 3) := by decide +kernel
theorem d_Tf_back_33 : decode prog_1_method_52_code 33 = .ok (.aload_n 0, 1) := by decide +kernel
theorem d_Tf_back_34 : decode prog_1_method_52_code 34 = .ok (.getfield 74, 3) := by decide +kernel
theorem d_Tf_back_37 : decode prog_1_method_52_code 37 = .ok (.aaload, 1) := by decide +kernel
theorem d_Tf_back_38 : decode prog_1_method_52_code 38 = .ok (.invokevirtual 406, 3) := by decide +kernel
theorem d_Tf_back_41 : decode prog_1_method_52_code 41 = .ok (.aload_n 0, 1) := by decide +kernel
theorem d_Tf_back_42 : decode prog_1_method_52_code 42 = .ok (.aload_n 0, 1) := by decide +kernel
theorem d_Tf_back_43 : decode prog_1_method_52_code 43 = .ok (.getfield 74, 3) := by decide +kernel
theorem d_Tf_back_46 : decode prog_1_method_52_code 46 = .ok (.invokevirtual 174, 3) := by decide +kernel
theorem d_Tf_back_49 : decode prog_1_method_52_code 49 = .ok (.ireturn, 1) := by decide +kernel
