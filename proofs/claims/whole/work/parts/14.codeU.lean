theorem d_U_init_0 : decode b_U_init 0 = .ok (.aload_n 0, 1) := by decide +kernel
theorem d_U_init_1 : decode b_U_init 1 = .ok (.invokespecial 1, 3) := by decide +kernel
theorem d_U_init_4 : decode b_U_init 4 = .ok (.aload_n 0, 1) := by decide +kernel
theorem d_U_init_5 : decode b_U_init 5 = .ok (.iconst 4, 1) := by decide +kernel
theorem d_U_init_6 : decode b_U_init 6 = .ok (.anewarray 9, 3) := by decide +kernel
theorem d_U_init_9 : decode b_U_init 9 = .ok (.putfield 11, 3) := by decide +kernel
theorem d_U_init_12 : decode b_U_init 12 = .ok (.aload_n 0, 1) := by decide +kernel
theorem d_U_init_13 : decode b_U_init 13 = .ok (.new 15, 3) := by decide +kernel
theorem d_U_init_16 : decode b_U_init 16 = .ok (.dup, 1) := by decide +kernel
theorem d_U_init_17 : decode b_U_init 17 = .ok (.invokespecial 17, 3) := by decide +kernel
theorem d_U_init_20 : decode b_U_init 20 = .ok (.putfield 18, 3) := by decide +kernel
theorem d_U_init_23 : decode b_U_init 23 = .ok (.aload_n 0, 1) := by decide +kernel
theorem d_U_init_24 : decode b_U_init 24 = .ok (.new 22, 3) := by decide +kernel
theorem d_U_init_27 : decode b_U_init 27 = .ok (.dup, 1) := by decide +kernel
theorem d_U_init_28 : decode b_U_init 28 = .ok (.invokespecial 24, 3) := by decide +kernel
theorem d_U_init_31 : decode b_U_init 31 = .ok (.putfield 25, 3) := by decide +kernel
theorem d_U_init_34 : decode b_U_init 34 = .ok (.aload_n 0, 1) := by decide +kernel
theorem d_U_init_35 : decode b_U_init 35 = .ok (.new 29, 3) := by decide +kernel
theorem d_U_init_38 : decode b_U_init 38 = .ok (.dup, 1) := by decide +kernel
theorem d_U_init_39 : decode b_U_init 39 = .ok (.invokespecial 31, 3) := by decide +kernel
theorem d_U_init_42 : decode b_U_init 42 = .ok (.putfield 32, 3) := by decide +kernel
theorem d_U_init_45 : decode b_U_init 45 = .ok (.aload_n 0, 1) := by decide +kernel
theorem d_U_init_46 : decode b_U_init 46 = .ok (.iconst 3, 1) := by decide +kernel
theorem d_U_init_47 : decode b_U_init 47 = .ok (.anewarray 36, 3) := by decide +kernel
theorem d_U_init_50 : decode b_U_init 50 = .ok (.putfield 38, 3) := by decide +kernel
theorem d_U_init_53 : decode b_U_init 53 = .ok (.aload_n 0, 1) := by decide +kernel
theorem d_U_init_54 : decode b_U_init 54 = .ok (.new 42, 3) := by decide +kernel
theorem d_U_init_57 : decode b_U_init 57 = .ok (.dup, 1) := by decide +kernel
theorem d_U_init_58 : decode b_U_init 58 = .ok (.invokespecial 44, 3) := by decide +kernel
theorem d_U_init_61 : decode b_U_init 61 = .ok (.putfield 45, 3) := by decide +kernel
theorem d_U_init_64 : decode b_U_init 64 = .ok (.aload_n 0, 1) := by decide +kernel
theorem d_U_init_65 : decode b_U_init 65 = .ok (.new 42, 3) := by decide +kernel
theorem d_U_init_68 : decode b_U_init 68 = .ok (.dup, 1) := by decide +kernel
theorem d_U_init_69 : decode b_U_init 69 = .ok (.invokespecial 44, 3) := by decide +kernel
theorem d_U_init_72 : decode b_U_init 72 = .ok (.putfield 49, 3) := by decide +kernel
theorem d_U_init_75 : decode b_U_init 75 = .ok (.aload_n 0, 1) := by decide +kernel
theorem d_U_init_76 : decode b_U_init 76 = .ok (.new 52, 3) := by decide +kernel
theorem d_U_init_79 : decode b_U_init 79 = .ok (.dup, 1) := by decide +kernel
theorem d_U_init_80 : decode b_U_init 80 = .ok (.invokespecial 54, 3) := by decide +kernel
theorem d_U_init_83 : decode b_U_init 83 = .ok (.putfield 55, 3) := by decide +kernel
theorem d_U_init_86 : decode b_U_init 86 = .ok (.aload_n 0, 1) := by decide +kernel
theorem d_U_init_87 : decode b_U_init 87 = .ok (.new 59, 3) := by decide +kernel
theorem d_U_init_90 : decode b_U_init 90 = .ok (.dup, 1) := by decide +kernel
theorem d_U_init_91 : decode b_U_init 91 = .ok (.invokespecial 61, 3) := by decide +kernel
theorem d_U_init_94 : decode b_U_init 94 = .ok (.putfield 62, 3) := by decide +kernel
theorem d_U_init_97 : decode b_U_init 97 = .ok (.aload_n 0, 1) := by decide +kernel
theorem d_U_init_98 : decode b_U_init 98 = .ok (.new 66, 3) := by decide +kernel
theorem d_U_init_101 : decode b_U_init 101 = .ok (.dup, 1) := by decide +kernel
theorem d_U_init_102 : decode b_U_init 102 = .ok (.invokespecial 68, 3) := by decide +kernel
theorem d_U_init_105 : decode b_U_init 105 = .ok (.putfield 69, 3) := by decide +kernel
theorem d_U_init_108 : decode b_U_init 108 = .ok (.aload_n 0, 1) := by decide +kernel
theorem d_U_init_109 : decode b_U_init 109 = .ok (.new 73, 3) := by decide +kernel
theorem d_U_init_112 : decode b_U_init 112 = .ok (.dup, 1) := by decide +kernel
theorem d_U_init_113 : decode b_U_init 113 = .ok (.invokespecial 75, 3) := by decide +kernel
theorem d_U_init_116 : decode b_U_init 116 = .ok (.putfield 76, 3) := by decide +kernel
theorem d_U_init_119 : decode b_U_init 119 = .ok (.aload_n 0, 1) := by decide +kernel
theorem d_U_init_120 : decode b_U_init 120 = .ok (.new 36, 3) := by decide +kernel
theorem d_U_init_123 : decode b_U_init 123 = .ok (.dup, 1) := by decide +kernel
theorem d_U_init_124 : decode b_U_init 124 = .ok (.invokespecial 80, 3) := by decide +kernel
theorem d_U_init_127 : decode b_U_init 127 = .ok (.putfield 81, 3) := by decide +kernel
theorem d_U_init_130 : decode b_U_init 130 = .ok (.aload_n 0, 1) := by decide +kernel
theorem d_U_init_131 : decode b_U_init 131 = .ok (.new 36, 3) := by decide +kernel
theorem d_U_init_134 : decode b_U_init 134 = .ok (.dup, 1) := by decide +kernel
theorem d_U_init_135 : decode b_U_init 135 = .ok (.invokespecial 80, 3) := by decide +kernel
theorem d_U_init_138 : decode b_U_init 138 = .ok (.putfield 85, 3) := by decide +kernel
theorem d_U_init_141 : decode b_U_init 141 = .ok (.aload_n 0, 1) := by decide +kernel
theorem d_U_init_142 : decode b_U_init 142 = .ok (.new 88, 3) := by decide +kernel
theorem d_U_init_145 : decode b_U_init 145 = .ok (.dup, 1) := by decide +kernel
theorem d_U_init_146 : decode b_U_init 146 = .ok (.invokespecial 90, 3) := by decide +kernel
theorem d_U_init_149 : decode b_U_init 149 = .ok (.putfield 91, 3) := by decide +kernel
theorem d_U_init_152 : decode b_U_init 152 = .ok (.aload_n 0, 1) := by decide +kernel
theorem d_U_init_153 : decode b_U_init 153 = .ok (.iconst 0, 1) := by decide +kernel
theorem d_U_init_154 : decode b_U_init 154 = .ok (.putfield 95, 3) := by decide +kernel
theorem d_U_init_157 : decode b_U_init 157 = .ok (.aload_n 0, 1) := by decide +kernel
theorem d_U_init_158 : decode b_U_init 158 = .ok (.iconst 0, 1) := by decide +kernel
theorem d_U_init_159 : decode b_U_init 159 = .ok (.putfield 99, 3) := by decide +kernel
theorem d_U_init_162 : decode b_U_init 162 = .ok (.aload_n 0, 1) := by decide +kernel
theorem d_U_init_163 : decode b_U_init 163 = .ok (.lconst 0, 1) := by decide +kernel
theorem d_U_init_164 : decode b_U_init 164 = .ok (.putfield 102, 3) := by decide +kernel
theorem d_U_init_167 : decode b_U_init 167 = .ok (.aload_n 0, 1) := by decide +kernel
theorem d_U_init_168 : decode b_U_init 168 = .ok (.lconst 1, 1) := by decide +kernel
theorem d_U_init_169 : decode b_U_init 169 = .ok (.putfield 106, 3) := by decide +kernel
theorem d_U_init_172 : decode b_U_init 172 = .ok (.iconst 0, 1) := by decide +kernel
theorem d_U_init_173 : decode b_U_init 173 = .ok (.istore_n 1, 1) := by decide +kernel
theorem d_U_init_174 : decode b_U_init 174 = .ok (.iload_n 1, 1) := by decide +kernel
theorem d_U_init_175 : decode b_U_init 175 = .ok (.iconst 4, 1) := by decide +kernel
theorem d_U_init_176 : decode b_U_init 176 = .ok (.if_icmp .ge 22, 3) := by decide +kernel
theorem d_U_init_179 : decode b_U_init 179 = .ok (.aload_n 0, 1) := by decide +kernel
theorem d_U_init_180 : decode b_U_init 180 = .ok (.getfield 11, 3) := by decide +kernel
theorem d_U_init_183 : decode b_U_init 183 = .ok (.iload_n 1, 1) := by decide +kernel
theorem d_U_init_184 : decode b_U_init 184 = .ok (.new 9, 3) := by decide +kernel
theorem d_U_init_187 : decode b_U_init 187 = .ok (.dup, 1) := by decide +kernel
theorem d_U_init_188 : decode b_U_init 188 = .ok (.invokespecial 109, 3) := by decide +kernel
theorem d_U_init_191 : decode b_U_init 191 = .ok (.aastore, 1) := by decide +kernel
theorem d_U_init_192 : decode b_U_init 192 = .ok (.iinc 1 1, 3) := by decide +kernel
theorem d_U_init_195 : decode b_U_init 195 = .ok (.goto (-21), 3) := by decide +kernel
theorem d_U_init_198 : decode b_U_init 198 = .ok (.iconst 0, 1) := by decide +kernel
theorem d_U_init_199 : decode b_U_init 199 = .ok (.istore_n 1, 1) := by decide +kernel
theorem d_U_init_200 : decode b_U_init 200 = .ok (.iload_n 1, 1) := by decide +kernel
theorem d_U_init_201 : decode b_U_init 201 = .ok (.iconst 3, 1) := by decide +kernel
theorem d_U_init_202 : decode b_U_init 202 = .ok (.if_icmp .ge 22, 3) := by decide +kernel
theorem d_U_init_205 : decode b_U_init 205 = .ok (.aload_n 0, 1) := by decide +kernel
theorem d_U_init_206 : decode b_U_init 206 = .ok (.getfield 38, 3) := by decide +kernel
theorem d_U_init_209 : decode b_U_init 209 = .ok (.iload_n 1, 1) := by decide +kernel
theorem d_U_init_210 : decode b_U_init 210 = .ok (.new 36, 3) := by decide +kernel
theorem d_U_init_213 : decode b_U_init 213 = .ok (.dup, 1) := by decide +kernel
theorem d_U_init_214 : decode b_U_init 214 = .ok (.invokespecial 80, 3) := by decide +kernel
theorem d_U_init_217 : decode b_U_init 217 = .ok (.aastore, 1) := by decide +kernel
theorem d_U_init_218 : decode b_U_init 218 = .ok (.iinc 1 1, 3) := by decide +kernel
theorem d_U_init_221 : decode b_U_init 221 = .ok (.goto (-21), 3) := by decide +kernel
theorem d_U_init_224 : decode b_U_init 224 = .ok (.return_, 1) := by decide +kernel
theorem d_U_status_0 : decode b_U_status 0 = .ok (.aload_n 0, 1) := by decide +kernel
theorem d_U_status_1 : decode b_U_status 1 = .ok (.getfield 99, 3) := by decide +kernel
theorem d_U_status_4 : decode b_U_status 4 = .ok (.ireturn, 1) := by decide +kernel
theorem d_U_top_0 : decode b_U_top 0 = .ok (.aload_n 0, 1) := by decide +kernel
theorem d_U_top_1 : decode b_U_top 1 = .ok (.getfield 102, 3) := by decide +kernel
theorem d_U_top_4 : decode b_U_top 4 = .ok (.lreturn, 1) := by decide +kernel
theorem d_U_bottom_0 : decode b_U_bottom 0 = .ok (.aload_n 0, 1) := by decide +kernel
theorem d_U_bottom_1 : decode b_U_bottom 1 = .ok (.getfield 106, 3) := by decide +kernel
theorem d_U_bottom_4 : decode b_U_bottom 4 = .ok (.lreturn, 1) := by decide +kernel
theorem d_U_tray_0 : decode b_U_tray 0 = .ok (.iload_n 1, 1) := by decide +kernel
theorem d_U_tray_1 : decode b_U_tray 1 = .ok (.invokestatic 110, 3) := by decide +kernel
theorem d_U_tray_4 : decode b_U_tray 4 = .ok (.ifCond .eq 22, 3) := by decide +kernel
theorem d_U_tray_7 : decode b_U_tray 7 = .ok (.iload_n 2, 1) := by decide +kernel
theorem d_U_tray_8 : decode b_U_tray 8 = .ok (.iconst 0, 1) := by decide +kernel
theorem d_U_tray_9 : decode b_U_tray 9 = .ok (.iconst 3, 1) := by decide +kernel
theorem d_U_tray_10 : decode b_U_tray 10 = .ok (.invokestatic 114, 3) := by decide +kernel
theorem d_U_tray_13 : decode b_U_tray 13 = .ok (.ifCond .eq 13, 3) := by decide +kernel
theorem d_U_tray_16 : decode b_U_tray 16 = .ok (.iload_n 3, 1) := by decide +kernel
theorem d_U_tray_17 : decode b_U_tray 17 = .ok (.iconst 0, 1) := by decide +kernel
theorem d_U_tray_18 : decode b_U_tray 18 = .ok (.bipush 60, 2) := by decide +kernel
theorem d_U_tray_20 : decode b_U_tray 20 = .ok (.invokestatic 114, 3) := by decide +kernel
theorem d_U_tray_23 : decode b_U_tray 23 = .ok (.ifCond .ne 9, 3) := by decide +kernel
theorem d_U_tray_26 : decode b_U_tray 26 = .ok (.aload_n 0, 1) := by decide +kernel
theorem d_U_tray_27 : decode b_U_tray 27 = .ok (.iconst 1, 1) := by decide +kernel
theorem d_U_tray_28 : decode b_U_tray 28 = .ok (.invokevirtual 118, 3) := by decide +kernel
theorem d_U_tray_31 : decode b_U_tray 31 = .ok (.ireturn, 1) := by decide +kernel
theorem d_U_tray_32 : decode b_U_tray 32 = .ok (.aload_n 0, 1) := by decide +kernel
theorem d_U_tray_33 : decode b_U_tray 33 = .ok (.getfield 11, 3) := by decide +kernel
theorem d_U_tray_36 : decode b_U_tray 36 = .ok (.iload_n 1, 1) := by decide +kernel
theorem d_U_tray_37 : decode b_U_tray 37 = .ok (.aaload, 1) := by decide +kernel
theorem d_U_tray_38 : decode b_U_tray 38 = .ok (.iload_n 2, 1) := by decide +kernel
theorem d_U_tray_39 : decode b_U_tray 39 = .ok (.iload_n 3, 1) := by decide +kernel
theorem d_U_tray_40 : decode b_U_tray 40 = .ok (.invokevirtual 121, 3) := by decide +kernel
theorem d_U_tray_43 : decode b_U_tray 43 = .ok (.aload_n 0, 1) := by decide +kernel
theorem d_U_tray_44 : decode b_U_tray 44 = .ok (.iconst 0, 1) := by decide +kernel
theorem d_U_tray_45 : decode b_U_tray 45 = .ok (.invokevirtual 118, 3) := by decide +kernel
theorem d_U_tray_48 : decode b_U_tray 48 = .ok (.ireturn, 1) := by decide +kernel
theorem d_U_isTray_0 : decode b_U_isTray 0 = .ok (.iload_n 0, 1) := by decide +kernel
theorem d_U_isTray_1 : decode b_U_isTray 1 = .ok (.iconst 0, 1) := by decide +kernel
theorem d_U_isTray_2 : decode b_U_isTray 2 = .ok (.iconst 3, 1) := by decide +kernel
theorem d_U_isTray_3 : decode b_U_isTray 3 = .ok (.invokestatic 114, 3) := by decide +kernel
theorem d_U_isTray_6 : decode b_U_isTray 6 = .ok (.ireturn, 1) := by decide +kernel
theorem d_U_within_0 : decode b_U_within 0 = .ok (.iload_n 0, 1) := by decide +kernel
theorem d_U_within_1 : decode b_U_within 1 = .ok (.iload_n 1, 1) := by decide +kernel
theorem d_U_within_2 : decode b_U_within 2 = .ok (.if_icmp .lt 12, 3) := by decide +kernel
theorem d_U_within_5 : decode b_U_within 5 = .ok (.iload_n 0, 1) := by decide +kernel
theorem d_U_within_6 : decode b_U_within 6 = .ok (.iload_n 2, 1) := by decide +kernel
theorem d_U_within_7 : decode b_U_within 7 = .ok (.if_icmp .gt 7, 3) := by decide +kernel
theorem d_U_within_10 : decode b_U_within 10 = .ok (.iconst 1, 1) := by decide +kernel
theorem d_U_within_11 : decode b_U_within 11 = .ok (.goto 4, 3) := by decide +kernel
theorem d_U_within_14 : decode b_U_within 14 = .ok (.iconst 0, 1) := by decide +kernel
theorem d_U_within_15 : decode b_U_within 15 = .ok (.ireturn, 1) := by decide +kernel
theorem d_U_settled_0 : decode b_U_settled 0 = .ok (.aload_n 0, 1) := by decide +kernel
theorem d_U_settled_1 : decode b_U_settled 1 = .ok (.iload_n 1, 1) := by decide +kernel
theorem d_U_settled_2 : decode b_U_settled 2 = .ok (.putfield 99, 3) := by decide +kernel
theorem d_U_settled_5 : decode b_U_settled 5 = .ok (.iload_n 1, 1) := by decide +kernel
theorem d_U_settled_6 : decode b_U_settled 6 = .ok (.ifCond .ne 7, 3) := by decide +kernel
theorem d_U_settled_9 : decode b_U_settled 9 = .ok (.iconst 1, 1) := by decide +kernel
theorem d_U_settled_10 : decode b_U_settled 10 = .ok (.goto 4, 3) := by decide +kernel
theorem d_U_settled_13 : decode b_U_settled 13 = .ok (.iconst 0, 1) := by decide +kernel
theorem d_U_settled_14 : decode b_U_settled 14 = .ok (.ireturn, 1) := by decide +kernel
theorem d_U_write_0 : decode b_U_write 0 = .ok (.aload_n 0, 1) := by decide +kernel
theorem d_U_write_1 : decode b_U_write 1 = .ok (.iload_n 1, 1) := by decide +kernel
theorem d_U_write_2 : decode b_U_write 2 = .ok (.iload_n 2, 1) := by decide +kernel
theorem d_U_write_3 : decode b_U_write 3 = .ok (.invokevirtual 125, 3) := by decide +kernel
theorem d_U_write_6 : decode b_U_write 6 = .ok (.istore 5, 2) := by decide +kernel
theorem d_U_write_8 : decode b_U_write 8 = .ok (.iload 5, 2) := by decide +kernel
theorem d_U_write_10 : decode b_U_write 10 = .ok (.ifCond .ne 14, 3) := by decide +kernel
theorem d_U_write_13 : decode b_U_write 13 = .ok (.aload_n 0, 1) := by decide +kernel
theorem d_U_write_14 : decode b_U_write 14 = .ok (.getfield 11, 3) := by decide +kernel
theorem d_U_write_17 : decode b_U_write 17 = .ok (.iload_n 1, 1) := by decide +kernel
theorem d_U_write_18 : decode b_U_write 18 = .ok (.aaload, 1) := by decide +kernel
theorem d_U_write_19 : decode b_U_write 19 = .ok (.iload_n 2, 1) := by decide +kernel
theorem d_U_write_20 : decode b_U_write 20 = .ok (.lload_n 3, 1) := by decide +kernel
theorem d_U_write_21 : decode b_U_write 21 = .ok (.invokevirtual 129, 3) := by decide +kernel
theorem d_U_write_24 : decode b_U_write 24 = .ok (.aload_n 0, 1) := by decide +kernel
theorem d_U_write_25 : decode b_U_write 25 = .ok (.iload 5, 2) := by decide +kernel
theorem d_U_write_27 : decode b_U_write 27 = .ok (.invokevirtual 118, 3) := by decide +kernel
theorem d_U_write_30 : decode b_U_write 30 = .ok (.ireturn, 1) := by decide +kernel
theorem d_U_placeStatus_0 : decode b_U_placeStatus 0 = .ok (.aload_n 0, 1) := by decide +kernel
theorem d_U_placeStatus_1 : decode b_U_placeStatus 1 = .ok (.iload_n 1, 1) := by decide +kernel
theorem d_U_placeStatus_2 : decode b_U_placeStatus 2 = .ok (.iconst 0, 1) := by decide +kernel
theorem d_U_placeStatus_3 : decode b_U_placeStatus 3 = .ok (.invokevirtual 161, 3) := by decide +kernel
theorem d_U_placeStatus_6 : decode b_U_placeStatus 6 = .ok (.istore_n 3, 1) := by decide +kernel
theorem d_U_placeStatus_7 : decode b_U_placeStatus 7 = .ok (.iload_n 3, 1) := by decide +kernel
theorem d_U_placeStatus_8 : decode b_U_placeStatus 8 = .ok (.ifCond .eq 5, 3) := by decide +kernel
theorem d_U_placeStatus_11 : decode b_U_placeStatus 11 = .ok (.iload_n 3, 1) := by decide +kernel
theorem d_U_placeStatus_12 : decode b_U_placeStatus 12 = .ok (.ireturn, 1) := by decide +kernel
theorem d_U_placeStatus_13 : decode b_U_placeStatus 13 = .ok (.iload_n 2, 1) := by decide +kernel
theorem d_U_placeStatus_14 : decode b_U_placeStatus 14 = .ok (.iconst 0, 1) := by decide +kernel
theorem d_U_placeStatus_15 : decode b_U_placeStatus 15 = .ok (.aload_n 0, 1) := by decide +kernel
theorem d_U_placeStatus_16 : decode b_U_placeStatus 16 = .ok (.getfield 11, 3) := by decide +kernel
theorem d_U_placeStatus_19 : decode b_U_placeStatus 19 = .ok (.iload_n 1, 1) := by decide +kernel
theorem d_U_placeStatus_20 : decode b_U_placeStatus 20 = .ok (.aaload, 1) := by decide +kernel
theorem d_U_placeStatus_21 : decode b_U_placeStatus 21 = .ok (.getfield 148, 3) := by decide +kernel
theorem d_U_placeStatus_24 : decode b_U_placeStatus 24 = .ok (.iconst 1, 1) := by decide +kernel
theorem d_U_placeStatus_25 : decode b_U_placeStatus 25 = .ok (.isub, 1) := by decide +kernel
theorem d_U_placeStatus_26 : decode b_U_placeStatus 26 = .ok (.invokestatic 114, 3) := by decide +kernel
theorem d_U_placeStatus_29 : decode b_U_placeStatus 29 = .ok (.ifCond .eq 7, 3) := by decide +kernel
theorem d_U_placeStatus_32 : decode b_U_placeStatus 32 = .ok (.iconst 0, 1) := by decide +kernel
theorem d_U_placeStatus_33 : decode b_U_placeStatus 33 = .ok (.goto 4, 3) := by decide +kernel
theorem d_U_placeStatus_36 : decode b_U_placeStatus 36 = .ok (.iconst 3, 1) := by decide +kernel
theorem d_U_placeStatus_37 : decode b_U_placeStatus 37 = .ok (.ireturn, 1) := by decide +kernel
theorem d_U_trayStatus_0 : decode b_U_trayStatus 0 = .ok (.iload_n 1, 1) := by decide +kernel
theorem d_U_trayStatus_1 : decode b_U_trayStatus 1 = .ok (.invokestatic 110, 3) := by decide +kernel
theorem d_U_trayStatus_4 : decode b_U_trayStatus 4 = .ok (.ifCond .ne 5, 3) := by decide +kernel
theorem d_U_trayStatus_7 : decode b_U_trayStatus 7 = .ok (.iconst 1, 1) := by decide +kernel
theorem d_U_trayStatus_8 : decode b_U_trayStatus 8 = .ok (.ireturn, 1) := by decide +kernel
theorem d_U_trayStatus_9 : decode b_U_trayStatus 9 = .ok (.aload_n 0, 1) := by decide +kernel
theorem d_U_trayStatus_10 : decode b_U_trayStatus 10 = .ok (.getfield 11, 3) := by decide +kernel
theorem d_U_trayStatus_13 : decode b_U_trayStatus 13 = .ok (.iload_n 1, 1) := by decide +kernel
theorem d_U_trayStatus_14 : decode b_U_trayStatus 14 = .ok (.aaload, 1) := by decide +kernel
theorem d_U_trayStatus_15 : decode b_U_trayStatus 15 = .ok (.invokevirtual 141, 3) := by decide +kernel
theorem d_U_trayStatus_18 : decode b_U_trayStatus 18 = .ok (.ifCond .eq 5, 3) := by decide +kernel
theorem d_U_trayStatus_21 : decode b_U_trayStatus 21 = .ok (.iconst 2, 1) := by decide +kernel
theorem d_U_trayStatus_22 : decode b_U_trayStatus 22 = .ok (.ireturn, 1) := by decide +kernel
theorem d_U_trayStatus_23 : decode b_U_trayStatus 23 = .ok (.iload_n 2, 1) := by decide +kernel
theorem d_U_trayStatus_24 : decode b_U_trayStatus 24 = .ok (.aload_n 0, 1) := by decide +kernel
theorem d_U_trayStatus_25 : decode b_U_trayStatus 25 = .ok (.getfield 11, 3) := by decide +kernel
theorem d_U_trayStatus_28 : decode b_U_trayStatus 28 = .ok (.iload_n 1, 1) := by decide +kernel
theorem d_U_trayStatus_29 : decode b_U_trayStatus 29 = .ok (.aaload, 1) := by decide +kernel
theorem d_U_trayStatus_30 : decode b_U_trayStatus 30 = .ok (.getfield 148, 3) := by decide +kernel
theorem d_U_trayStatus_33 : decode b_U_trayStatus 33 = .ok (.if_icmp .gt 7, 3) := by decide +kernel
theorem d_U_trayStatus_36 : decode b_U_trayStatus 36 = .ok (.iconst 0, 1) := by decide +kernel
theorem d_U_trayStatus_37 : decode b_U_trayStatus 37 = .ok (.goto 4, 3) := by decide +kernel
theorem d_U_trayStatus_40 : decode b_U_trayStatus 40 = .ok (.iconst 3, 1) := by decide +kernel
theorem d_U_trayStatus_41 : decode b_U_trayStatus 41 = .ok (.ireturn, 1) := by decide +kernel
theorem d_U_read_0 : decode b_U_read 0 = .ok (.aload_n 0, 1) := by decide +kernel
theorem d_U_read_1 : decode b_U_read 1 = .ok (.iload_n 1, 1) := by decide +kernel
theorem d_U_read_2 : decode b_U_read 2 = .ok (.iload_n 2, 1) := by decide +kernel
theorem d_U_read_3 : decode b_U_read 3 = .ok (.invokevirtual 125, 3) := by decide +kernel
theorem d_U_read_6 : decode b_U_read 6 = .ok (.istore_n 3, 1) := by decide +kernel
theorem d_U_read_7 : decode b_U_read 7 = .ok (.iload_n 3, 1) := by decide +kernel
theorem d_U_read_8 : decode b_U_read 8 = .ok (.ifCond .eq 10, 3) := by decide +kernel
theorem d_U_read_11 : decode b_U_read 11 = .ok (.aload_n 0, 1) := by decide +kernel
theorem d_U_read_12 : decode b_U_read 12 = .ok (.iload_n 3, 1) := by decide +kernel
theorem d_U_read_13 : decode b_U_read 13 = .ok (.invokevirtual 133, 3) := by decide +kernel
theorem d_U_read_16 : decode b_U_read 16 = .ok (.i2l, 1) := by decide +kernel
theorem d_U_read_17 : decode b_U_read 17 = .ok (.lreturn, 1) := by decide +kernel
theorem d_U_read_18 : decode b_U_read 18 = .ok (.aload_n 0, 1) := by decide +kernel
theorem d_U_read_19 : decode b_U_read 19 = .ok (.iconst 0, 1) := by decide +kernel
theorem d_U_read_20 : decode b_U_read 20 = .ok (.putfield 99, 3) := by decide +kernel
theorem d_U_read_23 : decode b_U_read 23 = .ok (.aload_n 0, 1) := by decide +kernel
theorem d_U_read_24 : decode b_U_read 24 = .ok (.getfield 11, 3) := by decide +kernel
theorem d_U_read_27 : decode b_U_read 27 = .ok (.iload_n 1, 1) := by decide +kernel
theorem d_U_read_28 : decode b_U_read 28 = .ok (.aaload, 1) := by decide +kernel
theorem d_U_read_29 : decode b_U_read 29 = .ok (.iload_n 2, 1) := by decide +kernel
theorem d_U_read_30 : decode b_U_read 30 = .ok (.invokevirtual 137, 3) := by decide +kernel
theorem d_U_read_33 : decode b_U_read 33 = .ok (.lreturn, 1) := by decide +kernel
theorem d_U_refused_0 : decode b_U_refused 0 = .ok (.aload_n 0, 1) := by decide +kernel
theorem d_U_refused_1 : decode b_U_refused 1 = .ok (.iload_n 1, 1) := by decide +kernel
theorem d_U_refused_2 : decode b_U_refused 2 = .ok (.putfield 99, 3) := by decide +kernel
theorem d_U_refused_5 : decode b_U_refused 5 = .ok (.iconst (-1), 1) := by decide +kernel
theorem d_U_refused_6 : decode b_U_refused 6 = .ok (.ireturn, 1) := by decide +kernel
theorem d_U_pour_0 : decode b_U_pour 0 = .ok (.iload_n 1, 1) := by decide +kernel
theorem d_U_pour_1 : decode b_U_pour 1 = .ok (.invokestatic 110, 3) := by decide +kernel
theorem d_U_pour_4 : decode b_U_pour 4 = .ok (.ifCond .eq 24, 3) := by decide +kernel
theorem d_U_pour_7 : decode b_U_pour 7 = .ok (.iload_n 3, 1) := by decide +kernel
theorem d_U_pour_8 : decode b_U_pour 8 = .ok (.invokestatic 110, 3) := by decide +kernel
theorem d_U_pour_11 : decode b_U_pour 11 = .ok (.ifCond .eq 17, 3) := by decide +kernel
theorem d_U_pour_14 : decode b_U_pour 14 = .ok (.iload_n 2, 1) := by decide +kernel
theorem d_U_pour_15 : decode b_U_pour 15 = .ok (.ifCond .lt 13, 3) := by decide +kernel
theorem d_U_pour_18 : decode b_U_pour 18 = .ok (.iload 4, 2) := by decide +kernel
theorem d_U_pour_20 : decode b_U_pour 20 = .ok (.ifCond .lt 8, 3) := by decide +kernel
theorem d_U_pour_23 : decode b_U_pour 23 = .ok (.iload 5, 2) := by decide +kernel
theorem d_U_pour_25 : decode b_U_pour 25 = .ok (.ifCond .ge 9, 3) := by decide +kernel
theorem d_U_pour_28 : decode b_U_pour 28 = .ok (.aload_n 0, 1) := by decide +kernel
theorem d_U_pour_29 : decode b_U_pour 29 = .ok (.iconst 1, 1) := by decide +kernel
theorem d_U_pour_30 : decode b_U_pour 30 = .ok (.invokevirtual 118, 3) := by decide +kernel
theorem d_U_pour_33 : decode b_U_pour 33 = .ok (.ireturn, 1) := by decide +kernel
theorem d_U_pour_34 : decode b_U_pour 34 = .ok (.aload_n 0, 1) := by decide +kernel
theorem d_U_pour_35 : decode b_U_pour 35 = .ok (.getfield 11, 3) := by decide +kernel
theorem d_U_pour_38 : decode b_U_pour 38 = .ok (.iload_n 1, 1) := by decide +kernel
theorem d_U_pour_39 : decode b_U_pour 39 = .ok (.aaload, 1) := by decide +kernel
theorem d_U_pour_40 : decode b_U_pour 40 = .ok (.astore 6, 2) := by decide +kernel
theorem d_U_pour_42 : decode b_U_pour 42 = .ok (.aload_n 0, 1) := by decide +kernel
theorem d_U_pour_43 : decode b_U_pour 43 = .ok (.getfield 11, 3) := by decide +kernel
theorem d_U_pour_46 : decode b_U_pour 46 = .ok (.iload_n 3, 1) := by decide +kernel
theorem d_U_pour_47 : decode b_U_pour 47 = .ok (.aaload, 1) := by decide +kernel
theorem d_U_pour_48 : decode b_U_pour 48 = .ok (.astore 7, 2) := by decide +kernel
theorem d_U_pour_50 : decode b_U_pour 50 = .ok (.aload 6, 2) := by decide +kernel
theorem d_U_pour_52 : decode b_U_pour 52 = .ok (.invokevirtual 141, 3) := by decide +kernel
theorem d_U_pour_55 : decode b_U_pour 55 = .ok (.ifCond .ne 11, 3) := by decide +kernel
theorem d_U_pour_58 : decode b_U_pour 58 = .ok (.aload 7, 2) := by decide +kernel
theorem d_U_pour_60 : decode b_U_pour 60 = .ok (.invokevirtual 141, 3) := by decide +kernel
theorem d_U_pour_63 : decode b_U_pour 63 = .ok (.ifCond .eq 9, 3) := by decide +kernel
theorem d_U_pour_66 : decode b_U_pour 66 = .ok (.aload_n 0, 1) := by decide +kernel
theorem d_U_pour_67 : decode b_U_pour 67 = .ok (.iconst 2, 1) := by decide +kernel
theorem d_U_pour_68 : decode b_U_pour 68 = .ok (.invokevirtual 118, 3) := by decide +kernel
theorem d_U_pour_71 : decode b_U_pour 71 = .ok (.ireturn, 1) := by decide +kernel
theorem d_U_pour_72 : decode b_U_pour 72 = .ok (.aload 6, 2) := by decide +kernel
theorem d_U_pour_74 : decode b_U_pour 74 = .ok (.getfield 145, 3) := by decide +kernel
theorem d_U_pour_77 : decode b_U_pour 77 = .ok (.aload 7, 2) := by decide +kernel
theorem d_U_pour_79 : decode b_U_pour 79 = .ok (.getfield 145, 3) := by decide +kernel
theorem d_U_pour_82 : decode b_U_pour 82 = .ok (.if_icmp .eq 10, 3) := by decide +kernel
theorem d_U_pour_85 : decode b_U_pour 85 = .ok (.aload_n 0, 1) := by decide +kernel
theorem d_U_pour_86 : decode b_U_pour 86 = .ok (.bipush 8, 2) := by decide +kernel
theorem d_U_pour_88 : decode b_U_pour 88 = .ok (.invokevirtual 118, 3) := by decide +kernel
theorem d_U_pour_91 : decode b_U_pour 91 = .ok (.ireturn, 1) := by decide +kernel
theorem d_U_pour_92 : decode b_U_pour 92 = .ok (.iload_n 2, 1) := by decide +kernel
theorem d_U_pour_93 : decode b_U_pour 93 = .ok (.aload 6, 2) := by decide +kernel
theorem d_U_pour_95 : decode b_U_pour 95 = .ok (.getfield 148, 3) := by decide +kernel
theorem d_U_pour_98 : decode b_U_pour 98 = .ok (.iload 5, 2) := by decide +kernel
theorem d_U_pour_100 : decode b_U_pour 100 = .ok (.isub, 1) := by decide +kernel
theorem d_U_pour_101 : decode b_U_pour 101 = .ok (.if_icmp .gt 16, 3) := by decide +kernel
theorem d_U_pour_104 : decode b_U_pour 104 = .ok (.iload 4, 2) := by decide +kernel
theorem d_U_pour_106 : decode b_U_pour 106 = .ok (.aload 7, 2) := by decide +kernel
theorem d_U_pour_108 : decode b_U_pour 108 = .ok (.getfield 148, 3) := by decide +kernel
theorem d_U_pour_111 : decode b_U_pour 111 = .ok (.iload 5, 2) := by decide +kernel
theorem d_U_pour_113 : decode b_U_pour 113 = .ok (.isub, 1) := by decide +kernel
theorem d_U_pour_114 : decode b_U_pour 114 = .ok (.if_icmp .le 9, 3) := by decide +kernel
theorem d_U_pour_117 : decode b_U_pour 117 = .ok (.aload_n 0, 1) := by decide +kernel
theorem d_U_pour_118 : decode b_U_pour 118 = .ok (.iconst 3, 1) := by decide +kernel
theorem d_U_pour_119 : decode b_U_pour 119 = .ok (.invokevirtual 118, 3) := by decide +kernel
theorem d_U_pour_122 : decode b_U_pour 122 = .ok (.ireturn, 1) := by decide +kernel
theorem d_U_pour_123 : decode b_U_pour 123 = .ok (.aload 6, 2) := by decide +kernel
theorem d_U_pour_125 : decode b_U_pour 125 = .ok (.getfield 151, 3) := by decide +kernel
theorem d_U_pour_128 : decode b_U_pour 128 = .ok (.iload_n 2, 1) := by decide +kernel
theorem d_U_pour_129 : decode b_U_pour 129 = .ok (.aload 7, 2) := by decide +kernel
theorem d_U_pour_131 : decode b_U_pour 131 = .ok (.getfield 151, 3) := by decide +kernel
theorem d_U_pour_134 : decode b_U_pour 134 = .ok (.iload 4, 2) := by decide +kernel
theorem d_U_pour_136 : decode b_U_pour 136 = .ok (.iload 5, 2) := by decide +kernel
theorem d_U_pour_138 : decode b_U_pour 138 = .ok (.invokestatic 155, 3) := by decide +kernel
theorem d_U_pour_141 : decode b_U_pour 141 = .ok (.aload_n 0, 1) := by decide +kernel
theorem d_U_pour_142 : decode b_U_pour 142 = .ok (.iconst 0, 1) := by decide +kernel
theorem d_U_pour_143 : decode b_U_pour 143 = .ok (.invokevirtual 118, 3) := by decide +kernel
theorem d_U_pour_146 : decode b_U_pour 146 = .ok (.ireturn, 1) := by decide +kernel
theorem d_U_feed_0 : decode b_U_feed 0 = .ok (.aload_n 0, 1) := by decide +kernel
theorem d_U_feed_1 : decode b_U_feed 1 = .ok (.getfield 18, 3) := by decide +kernel
theorem d_U_feed_4 : decode b_U_feed 4 = .ok (.invokevirtual 164, 3) := by decide +kernel
theorem d_U_feed_7 : decode b_U_feed 7 = .ok (.ifCond .ne 5, 3) := by decide +kernel
theorem d_U_feed_10 : decode b_U_feed 10 = .ok (.iconst (-1), 1) := by decide +kernel
theorem d_U_feed_11 : decode b_U_feed 11 = .ok (.ireturn, 1) := by decide +kernel
theorem d_U_feed_12 : decode b_U_feed 12 = .ok (.aload_n 0, 1) := by decide +kernel
theorem d_U_feed_13 : decode b_U_feed 13 = .ok (.getfield 18, 3) := by decide +kernel
theorem d_U_feed_16 : decode b_U_feed 16 = .ok (.iload_n 1, 1) := by decide +kernel
theorem d_U_feed_17 : decode b_U_feed 17 = .ok (.invokevirtual 167, 3) := by decide +kernel
theorem d_U_feed_20 : decode b_U_feed 20 = .ok (.aload_n 0, 1) := by decide +kernel
theorem d_U_feed_21 : decode b_U_feed 21 = .ok (.getfield 18, 3) := by decide +kernel
theorem d_U_feed_24 : decode b_U_feed 24 = .ok (.iload_n 2, 1) := by decide +kernel
theorem d_U_feed_25 : decode b_U_feed 25 = .ok (.invokevirtual 167, 3) := by decide +kernel
theorem d_U_feed_28 : decode b_U_feed 28 = .ok (.aload_n 0, 1) := by decide +kernel
theorem d_U_feed_29 : decode b_U_feed 29 = .ok (.getfield 18, 3) := by decide +kernel
theorem d_U_feed_32 : decode b_U_feed 32 = .ok (.iload_n 3, 1) := by decide +kernel
theorem d_U_feed_33 : decode b_U_feed 33 = .ok (.invokevirtual 167, 3) := by decide +kernel
theorem d_U_feed_36 : decode b_U_feed 36 = .ok (.aload_n 0, 1) := by decide +kernel
theorem d_U_feed_37 : decode b_U_feed 37 = .ok (.getfield 18, 3) := by decide +kernel
theorem d_U_feed_40 : decode b_U_feed 40 = .ok (.iload 4, 2) := by decide +kernel
theorem d_U_feed_42 : decode b_U_feed 42 = .ok (.invokevirtual 167, 3) := by decide +kernel
theorem d_U_feed_45 : decode b_U_feed 45 = .ok (.aload_n 0, 1) := by decide +kernel
theorem d_U_feed_46 : decode b_U_feed 46 = .ok (.getfield 18, 3) := by decide +kernel
theorem d_U_feed_49 : decode b_U_feed 49 = .ok (.iload 5, 2) := by decide +kernel
theorem d_U_feed_51 : decode b_U_feed 51 = .ok (.invokevirtual 167, 3) := by decide +kernel
theorem d_U_feed_54 : decode b_U_feed 54 = .ok (.aload_n 0, 1) := by decide +kernel
theorem d_U_feed_55 : decode b_U_feed 55 = .ok (.getfield 18, 3) := by decide +kernel
theorem d_U_feed_58 : decode b_U_feed 58 = .ok (.getfield 171, 3) := by decide +kernel
theorem d_U_feed_61 : decode b_U_feed 61 = .ok (.ireturn, 1) := by decide +kernel
theorem d_U_square_0 : decode b_U_square 0 = .ok (.iload_n 1, 1) := by decide +kernel
theorem d_U_square_1 : decode b_U_square 1 = .ok (.iconst 0, 1) := by decide +kernel
theorem d_U_square_2 : decode b_U_square 2 = .ok (.aload_n 0, 1) := by decide +kernel
theorem d_U_square_3 : decode b_U_square 3 = .ok (.getfield 18, 3) := by decide +kernel
theorem d_U_square_6 : decode b_U_square 6 = .ok (.getfield 171, 3) := by decide +kernel
theorem d_U_square_9 : decode b_U_square 9 = .ok (.invokestatic 114, 3) := by decide +kernel
theorem d_U_square_12 : decode b_U_square 12 = .ok (.ifCond .ne 9, 3) := by decide +kernel
theorem d_U_square_15 : decode b_U_square 15 = .ok (.aload_n 0, 1) := by decide +kernel
theorem d_U_square_16 : decode b_U_square 16 = .ok (.iconst 1, 1) := by decide +kernel
theorem d_U_square_17 : decode b_U_square 17 = .ok (.invokevirtual 133, 3) := by decide +kernel
theorem d_U_square_20 : decode b_U_square 20 = .ok (.ireturn, 1) := by decide +kernel
theorem d_U_square_21 : decode b_U_square 21 = .ok (.aload_n 0, 1) := by decide +kernel
theorem d_U_square_22 : decode b_U_square 22 = .ok (.getfield 25, 3) := by decide +kernel
theorem d_U_square_25 : decode b_U_square 25 = .ok (.aload_n 0, 1) := by decide +kernel
theorem d_U_square_26 : decode b_U_square 26 = .ok (.getfield 18, 3) := by decide +kernel
theorem d_U_square_29 : decode b_U_square 29 = .ok (.iload_n 1, 1) := by decide +kernel
theorem d_U_square_30 : decode b_U_square 30 = .ok (.aload_n 0, 1) := by decide +kernel
theorem d_U_square_31 : decode b_U_square 31 = .ok (.getfield 85, 3) := by decide +kernel
theorem d_U_square_34 : decode b_U_square 34 = .ok (.invokevirtual 174, 3) := by decide +kernel
theorem d_U_square_37 : decode b_U_square 37 = .ok (.istore_n 2, 1) := by decide +kernel
theorem d_U_square_38 : decode b_U_square 38 = .ok (.aload_n 0, 1) := by decide +kernel
theorem d_U_square_39 : decode b_U_square 39 = .ok (.getfield 18, 3) := by decide +kernel
theorem d_U_square_42 : decode b_U_square 42 = .ok (.invokevirtual 178, 3) := by decide +kernel
theorem d_U_square_45 : decode b_U_square 45 = .ok (.iload_n 2, 1) := by decide +kernel
theorem d_U_square_46 : decode b_U_square 46 = .ok (.ifCond .ne 10, 3) := by decide +kernel
theorem d_U_square_49 : decode b_U_square 49 = .ok (.aload_n 0, 1) := by decide +kernel
theorem d_U_square_50 : decode b_U_square 50 = .ok (.bipush 9, 2) := by decide +kernel
theorem d_U_square_52 : decode b_U_square 52 = .ok (.invokevirtual 133, 3) := by decide +kernel
theorem d_U_square_55 : decode b_U_square 55 = .ok (.ireturn, 1) := by decide +kernel
theorem d_U_square_56 : decode b_U_square 56 = .ok (.aload_n 0, 1) := by decide +kernel
theorem d_U_square_57 : decode b_U_square 57 = .ok (.getfield 81, 3) := by decide +kernel
theorem d_U_square_60 : decode b_U_square 60 = .ok (.astore_n 3, 1) := by decide +kernel
theorem d_U_square_61 : decode b_U_square 61 = .ok (.aload_n 0, 1) := by decide +kernel
theorem d_U_square_62 : decode b_U_square 62 = .ok (.aload_n 0, 1) := by decide +kernel
theorem d_U_square_63 : decode b_U_square 63 = .ok (.getfield 85, 3) := by decide +kernel
theorem d_U_square_66 : decode b_U_square 66 = .ok (.putfield 81, 3) := by decide +kernel
theorem d_U_square_69 : decode b_U_square 69 = .ok (.aload_n 0, 1) := by decide +kernel
theorem d_U_square_70 : decode b_U_square 70 = .ok (.aload_n 3, 1) := by decide +kernel
theorem d_U_square_71 : decode b_U_square 71 = .ok (.putfield 85, 3) := by decide +kernel
theorem d_U_square_74 : decode b_U_square 74 = .ok (.aload_n 0, 1) := by decide +kernel
theorem d_U_square_75 : decode b_U_square 75 = .ok (.aload_n 0, 1) := by decide +kernel
theorem d_U_square_76 : decode b_U_square 76 = .ok (.getfield 81, 3) := by decide +kernel
theorem d_U_square_79 : decode b_U_square 79 = .ok (.getfield 181, 3) := by decide +kernel
theorem d_U_square_82 : decode b_U_square 82 = .ok (.invokevirtual 184, 3) := by decide +kernel
theorem d_U_square_85 : decode b_U_square 85 = .ok (.ireturn, 1) := by decide +kernel
theorem d_U_answered_0 : decode b_U_answered 0 = .ok (.aload_n 0, 1) := by decide +kernel
theorem d_U_answered_1 : decode b_U_answered 1 = .ok (.iconst 0, 1) := by decide +kernel
theorem d_U_answered_2 : decode b_U_answered 2 = .ok (.putfield 99, 3) := by decide +kernel
theorem d_U_answered_5 : decode b_U_answered 5 = .ok (.iload_n 1, 1) := by decide +kernel
theorem d_U_answered_6 : decode b_U_answered 6 = .ok (.ireturn, 1) := by decide +kernel
theorem d_U_days_0 : decode b_U_days 0 = .ok (.iload_n 1, 1) := by decide +kernel
theorem d_U_days_1 : decode b_U_days 1 = .ok (.iconst 0, 1) := by decide +kernel
theorem d_U_days_2 : decode b_U_days 2 = .ok (.aload_n 0, 1) := by decide +kernel
theorem d_U_days_3 : decode b_U_days 3 = .ok (.getfield 18, 3) := by decide +kernel
theorem d_U_days_6 : decode b_U_days 6 = .ok (.getfield 171, 3) := by decide +kernel
theorem d_U_days_9 : decode b_U_days 9 = .ok (.invokestatic 114, 3) := by decide +kernel
theorem d_U_days_12 : decode b_U_days 12 = .ok (.ifCond .eq 10, 3) := by decide +kernel
theorem d_U_days_15 : decode b_U_days 15 = .ok (.iload_n 1, 1) := by decide +kernel
theorem d_U_days_16 : decode b_U_days 16 = .ok (.sipush 300, 3) := by decide +kernel
theorem d_U_days_19 : decode b_U_days 19 = .ok (.if_icmp .le 9, 3) := by decide +kernel
theorem d_U_days_22 : decode b_U_days 22 = .ok (.aload_n 0, 1) := by decide +kernel
theorem d_U_days_23 : decode b_U_days 23 = .ok (.iconst 1, 1) := by decide +kernel
theorem d_U_days_24 : decode b_U_days 24 = .ok (.invokevirtual 133, 3) := by decide +kernel
theorem d_U_days_27 : decode b_U_days 27 = .ok (.ireturn, 1) := by decide +kernel
theorem d_U_days_28 : decode b_U_days 28 = .ok (.aload_n 0, 1) := by decide +kernel
theorem d_U_days_29 : decode b_U_days 29 = .ok (.getfield 32, 3) := by decide +kernel
theorem d_U_days_32 : decode b_U_days 32 = .ok (.aload_n 0, 1) := by decide +kernel
theorem d_U_days_33 : decode b_U_days 33 = .ok (.getfield 18, 3) := by decide +kernel
theorem d_U_days_36 : decode b_U_days 36 = .ok (.iload_n 1, 1) := by decide +kernel
theorem d_U_days_37 : decode b_U_days 37 = .ok (.aload_n 0, 1) := by decide +kernel
theorem d_U_days_38 : decode b_U_days 38 = .ok (.getfield 81, 3) := by decide +kernel
theorem d_U_days_41 : decode b_U_days 41 = .ok (.aload_n 0, 1) := by decide +kernel
theorem d_U_days_42 : decode b_U_days 42 = .ok (.getfield 91, 3) := by decide +kernel
theorem d_U_days_45 : decode b_U_days 45 = .ok (.invokevirtual 187, 3) := by decide +kernel
theorem d_U_days_48 : decode b_U_days 48 = .ok (.istore_n 2, 1) := by decide +kernel
theorem d_U_days_49 : decode b_U_days 49 = .ok (.aload_n 0, 1) := by decide +kernel
theorem d_U_days_50 : decode b_U_days 50 = .ok (.getfield 18, 3) := by decide +kernel
theorem d_U_days_53 : decode b_U_days 53 = .ok (.invokevirtual 178, 3) := by decide +kernel
theorem d_U_days_56 : decode b_U_days 56 = .ok (.iload_n 2, 1) := by decide +kernel
theorem d_U_days_57 : decode b_U_days 57 = .ok (.ifCond .ne 10, 3) := by decide +kernel
theorem d_U_days_60 : decode b_U_days 60 = .ok (.aload_n 0, 1) := by decide +kernel
theorem d_U_days_61 : decode b_U_days 61 = .ok (.bipush 9, 2) := by decide +kernel
theorem d_U_days_63 : decode b_U_days 63 = .ok (.invokevirtual 133, 3) := by decide +kernel
theorem d_U_days_66 : decode b_U_days 66 = .ok (.ireturn, 1) := by decide +kernel
theorem d_U_days_67 : decode b_U_days 67 = .ok (.aload_n 0, 1) := by decide +kernel
theorem d_U_days_68 : decode b_U_days 68 = .ok (.getfield 81, 3) := by decide +kernel
theorem d_U_days_71 : decode b_U_days 71 = .ok (.getfield 190, 3) := by decide +kernel
theorem d_U_days_74 : decode b_U_days 74 = .ok (.astore_n 3, 1) := by decide +kernel
theorem d_U_days_75 : decode b_U_days 75 = .ok (.aload_n 0, 1) := by decide +kernel
theorem d_U_days_76 : decode b_U_days 76 = .ok (.getfield 81, 3) := by decide +kernel
theorem d_U_days_79 : decode b_U_days 79 = .ok (.aload_n 0, 1) := by decide +kernel
theorem d_U_days_80 : decode b_U_days 80 = .ok (.getfield 91, 3) := by decide +kernel
theorem d_U_days_83 : decode b_U_days 83 = .ok (.putfield 190, 3) := by decide +kernel
theorem d_U_days_86 : decode b_U_days 86 = .ok (.aload_n 0, 1) := by decide +kernel
theorem d_U_days_87 : decode b_U_days 87 = .ok (.aload_n 3, 1) := by decide +kernel
theorem d_U_days_88 : decode b_U_days 88 = .ok (.putfield 91, 3) := by decide +kernel
theorem d_U_days_91 : decode b_U_days 91 = .ok (.aload_n 0, 1) := by decide +kernel
theorem d_U_days_92 : decode b_U_days 92 = .ok (.aload_n 0, 1) := by decide +kernel
theorem d_U_days_93 : decode b_U_days 93 = .ok (.getfield 81, 3) := by decide +kernel
theorem d_U_days_96 : decode b_U_days 96 = .ok (.getfield 190, 3) := by decide +kernel
theorem d_U_days_99 : decode b_U_days 99 = .ok (.getfield 193, 3) := by decide +kernel
theorem d_U_days_102 : decode b_U_days 102 = .ok (.invokevirtual 184, 3) := by decide +kernel
theorem d_U_days_105 : decode b_U_days 105 = .ok (.ireturn, 1) := by decide +kernel
theorem d_U_fault_0 : decode b_U_fault 0 = .ok (.iload_n 1, 1) := by decide +kernel
theorem d_U_fault_1 : decode b_U_fault 1 = .ok (.ifCond .ne 11, 3) := by decide +kernel
theorem d_U_fault_4 : decode b_U_fault 4 = .ok (.aload_n 0, 1) := by decide +kernel
theorem d_U_fault_5 : decode b_U_fault 5 = .ok (.getfield 18, 3) := by decide +kernel
theorem d_U_fault_8 : decode b_U_fault 8 = .ok (.getfield 196, 3) := by decide +kernel
theorem d_U_fault_11 : decode b_U_fault 11 = .ok (.ireturn, 1) := by decide +kernel
theorem d_U_fault_12 : decode b_U_fault 12 = .ok (.iload_n 1, 1) := by decide +kernel
theorem d_U_fault_13 : decode b_U_fault 13 = .ok (.iconst 1, 1) := by decide +kernel
theorem d_U_fault_14 : decode b_U_fault 14 = .ok (.if_icmp .ne 13, 3) := by decide +kernel
theorem d_U_fault_17 : decode b_U_fault 17 = .ok (.aload_n 0, 1) := by decide +kernel
theorem d_U_fault_18 : decode b_U_fault 18 = .ok (.getfield 18, 3) := by decide +kernel
theorem d_U_fault_21 : decode b_U_fault 21 = .ok (.getfield 199, 3) := by decide +kernel
theorem d_U_fault_24 : decode b_U_fault 24 = .ok (.goto 4, 3) := by decide +kernel
theorem d_U_fault_27 : decode b_U_fault 27 = .ok (.iconst (-1), 1) := by decide +kernel
theorem d_U_fault_28 : decode b_U_fault 28 = .ok (.ireturn, 1) := by decide +kernel
theorem d_U_told_0 : decode b_U_told 0 = .ok (.iload_n 1, 1) := by decide +kernel
theorem d_U_told_1 : decode b_U_told 1 = .ok (.iconst 0, 1) := by decide +kernel
theorem d_U_told_2 : decode b_U_told 2 = .ok (.bipush 10, 2) := by decide +kernel
theorem d_U_told_4 : decode b_U_told 4 = .ok (.invokestatic 114, 3) := by decide +kernel
theorem d_U_told_7 : decode b_U_told 7 = .ok (.ifCond .ne 9, 3) := by decide +kernel
theorem d_U_told_10 : decode b_U_told 10 = .ok (.aload_n 0, 1) := by decide +kernel
theorem d_U_told_11 : decode b_U_told 11 = .ok (.iconst 1, 1) := by decide +kernel
theorem d_U_told_12 : decode b_U_told 12 = .ok (.invokevirtual 133, 3) := by decide +kernel
theorem d_U_told_15 : decode b_U_told 15 = .ok (.ireturn, 1) := by decide +kernel
theorem d_U_told_16 : decode b_U_told 16 = .ok (.aload_n 0, 1) := by decide +kernel
theorem d_U_told_17 : decode b_U_told 17 = .ok (.aload_n 0, 1) := by decide +kernel
theorem d_U_told_18 : decode b_U_told 18 = .ok (.getfield 81, 3) := by decide +kernel
theorem d_U_told_21 : decode b_U_told 21 = .ok (.iload_n 1, 1) := by decide +kernel
theorem d_U_told_22 : decode b_U_told 22 = .ok (.invokevirtual 202, 3) := by decide +kernel
theorem d_U_told_25 : decode b_U_told 25 = .ok (.invokevirtual 184, 3) := by decide +kernel
theorem d_U_told_28 : decode b_U_told 28 = .ok (.ireturn, 1) := by decide +kernel
theorem d_U_hearer_0 : decode b_U_hearer 0 = .ok (.aload_n 0, 1) := by decide +kernel
theorem d_U_hearer_1 : decode b_U_hearer 1 = .ok (.getfield 81, 3) := by decide +kernel
theorem d_U_hearer_4 : decode b_U_hearer 4 = .ok (.iload_n 1, 1) := by decide +kernel
theorem d_U_hearer_5 : decode b_U_hearer 5 = .ok (.invokevirtual 205, 3) := by decide +kernel
theorem d_U_hearer_8 : decode b_U_hearer 8 = .ok (.ifCond .eq 12, 3) := by decide +kernel
theorem d_U_hearer_11 : decode b_U_hearer 11 = .ok (.iload_n 2, 1) := by decide +kernel
theorem d_U_hearer_12 : decode b_U_hearer 12 = .ok (.iconst 0, 1) := by decide +kernel
theorem d_U_hearer_13 : decode b_U_hearer 13 = .ok (.iconst 4, 1) := by decide +kernel
theorem d_U_hearer_14 : decode b_U_hearer 14 = .ok (.invokestatic 114, 3) := by decide +kernel
theorem d_U_hearer_17 : decode b_U_hearer 17 = .ok (.ifCond .ne 9, 3) := by decide +kernel
theorem d_U_hearer_20 : decode b_U_hearer 20 = .ok (.aload_n 0, 1) := by decide +kernel
theorem d_U_hearer_21 : decode b_U_hearer 21 = .ok (.iconst 1, 1) := by decide +kernel
theorem d_U_hearer_22 : decode b_U_hearer 22 = .ok (.invokevirtual 133, 3) := by decide +kernel
theorem d_U_hearer_25 : decode b_U_hearer 25 = .ok (.ireturn, 1) := by decide +kernel
theorem d_U_hearer_26 : decode b_U_hearer 26 = .ok (.aload_n 0, 1) := by decide +kernel
theorem d_U_hearer_27 : decode b_U_hearer 27 = .ok (.aload_n 0, 1) := by decide +kernel
theorem d_U_hearer_28 : decode b_U_hearer 28 = .ok (.getfield 81, 3) := by decide +kernel
theorem d_U_hearer_31 : decode b_U_hearer 31 = .ok (.iload_n 1, 1) := by decide +kernel
theorem d_U_hearer_32 : decode b_U_hearer 32 = .ok (.iload_n 2, 1) := by decide +kernel
theorem d_U_hearer_33 : decode b_U_hearer 33 = .ok (.invokevirtual 208, 3) := by decide +kernel
theorem d_U_hearer_36 : decode b_U_hearer 36 = .ok (.invokevirtual 184, 3) := by decide +kernel
theorem d_U_hearer_39 : decode b_U_hearer 39 = .ok (.ireturn, 1) := by decide +kernel
theorem d_U_dog_0 : decode b_U_dog 0 = .ok (.aload_n 0, 1) := by decide +kernel
theorem d_U_dog_1 : decode b_U_dog 1 = .ok (.getfield 81, 3) := by decide +kernel
theorem d_U_dog_4 : decode b_U_dog 4 = .ok (.iload_n 1, 1) := by decide +kernel
theorem d_U_dog_5 : decode b_U_dog 5 = .ok (.invokevirtual 211, 3) := by decide +kernel
theorem d_U_dog_8 : decode b_U_dog 8 = .ok (.ifCond .eq 12, 3) := by decide +kernel
theorem d_U_dog_11 : decode b_U_dog 11 = .ok (.iload_n 2, 1) := by decide +kernel
theorem d_U_dog_12 : decode b_U_dog 12 = .ok (.iconst 0, 1) := by decide +kernel
theorem d_U_dog_13 : decode b_U_dog 13 = .ok (.iconst 1, 1) := by decide +kernel
theorem d_U_dog_14 : decode b_U_dog 14 = .ok (.invokestatic 114, 3) := by decide +kernel
theorem d_U_dog_17 : decode b_U_dog 17 = .ok (.ifCond .ne 9, 3) := by decide +kernel
theorem d_U_dog_20 : decode b_U_dog 20 = .ok (.aload_n 0, 1) := by decide +kernel
theorem d_U_dog_21 : decode b_U_dog 21 = .ok (.iconst 1, 1) := by decide +kernel
theorem d_U_dog_22 : decode b_U_dog 22 = .ok (.invokevirtual 133, 3) := by decide +kernel
theorem d_U_dog_25 : decode b_U_dog 25 = .ok (.ireturn, 1) := by decide +kernel
theorem d_U_dog_26 : decode b_U_dog 26 = .ok (.iload_n 2, 1) := by decide +kernel
theorem d_U_dog_27 : decode b_U_dog 27 = .ok (.ifCond .ne 17, 3) := by decide +kernel
theorem d_U_dog_30 : decode b_U_dog 30 = .ok (.aload_n 0, 1) := by decide +kernel
theorem d_U_dog_31 : decode b_U_dog 31 = .ok (.aload_n 0, 1) := by decide +kernel
theorem d_U_dog_32 : decode b_U_dog 32 = .ok (.getfield 81, 3) := by decide +kernel
theorem d_U_dog_35 : decode b_U_dog 35 = .ok (.getfield 214, 3) := by decide +kernel
theorem d_U_dog_38 : decode b_U_dog 38 = .ok (.iload_n 1, 1) := by decide +kernel
theorem d_U_dog_39 : decode b_U_dog 39 = .ok (.iaload, 1) := by decide +kernel
theorem d_U_dog_40 : decode b_U_dog 40 = .ok (.invokevirtual 184, 3) := by decide +kernel
theorem d_U_dog_43 : decode b_U_dog 43 = .ok (.ireturn, 1) := by decide +kernel
theorem d_U_dog_44 : decode b_U_dog 44 = .ok (.aload_n 0, 1) := by decide +kernel
theorem d_U_dog_45 : decode b_U_dog 45 = .ok (.aload_n 0, 1) := by decide +kernel
theorem d_U_dog_46 : decode b_U_dog 46 = .ok (.getfield 81, 3) := by decide +kernel
theorem d_U_dog_49 : decode b_U_dog 49 = .ok (.iload_n 1, 1) := by decide +kernel
theorem d_U_dog_50 : decode b_U_dog 50 = .ok (.invokevirtual 218, 3) := by decide +kernel
theorem d_U_dog_53 : decode b_U_dog 53 = .ok (.ifCond .eq 7, 3) := by decide +kernel
theorem d_U_dog_56 : decode b_U_dog 56 = .ok (.iconst 1, 1) := by decide +kernel
theorem d_U_dog_57 : decode b_U_dog 57 = .ok (.goto 4, 3) := by decide +kernel
theorem d_U_dog_60 : decode b_U_dog 60 = .ok (.iconst 0, 1) := by decide +kernel
theorem d_U_dog_61 : decode b_U_dog 61 = .ok (.invokevirtual 184, 3) := by decide +kernel
theorem d_U_dog_64 : decode b_U_dog 64 = .ok (.ireturn, 1) := by decide +kernel
theorem d_U_cell_0 : decode b_U_cell 0 = .ok (.aload_n 0, 1) := by decide +kernel
theorem d_U_cell_1 : decode b_U_cell 1 = .ok (.getfield 81, 3) := by decide +kernel
theorem d_U_cell_4 : decode b_U_cell 4 = .ok (.iload_n 1, 1) := by decide +kernel
theorem d_U_cell_5 : decode b_U_cell 5 = .ok (.invokevirtual 221, 3) := by decide +kernel
theorem d_U_cell_8 : decode b_U_cell 8 = .ok (.ifCond .eq 12, 3) := by decide +kernel
theorem d_U_cell_11 : decode b_U_cell 11 = .ok (.iload_n 2, 1) := by decide +kernel
theorem d_U_cell_12 : decode b_U_cell 12 = .ok (.iconst 0, 1) := by decide +kernel
theorem d_U_cell_13 : decode b_U_cell 13 = .ok (.iconst 2, 1) := by decide +kernel
theorem d_U_cell_14 : decode b_U_cell 14 = .ok (.invokestatic 114, 3) := by decide +kernel
theorem d_U_cell_17 : decode b_U_cell 17 = .ok (.ifCond .ne 9, 3) := by decide +kernel
theorem d_U_cell_20 : decode b_U_cell 20 = .ok (.aload_n 0, 1) := by decide +kernel
theorem d_U_cell_21 : decode b_U_cell 21 = .ok (.iconst 1, 1) := by decide +kernel
theorem d_U_cell_22 : decode b_U_cell 22 = .ok (.invokevirtual 133, 3) := by decide +kernel
theorem d_U_cell_25 : decode b_U_cell 25 = .ok (.ireturn, 1) := by decide +kernel
theorem d_U_cell_26 : decode b_U_cell 26 = .ok (.iload_n 2, 1) := by decide +kernel
theorem d_U_cell_27 : decode b_U_cell 27 = .ok (.ifCond .ne 17, 3) := by decide +kernel
theorem d_U_cell_30 : decode b_U_cell 30 = .ok (.aload_n 0, 1) := by decide +kernel
theorem d_U_cell_31 : decode b_U_cell 31 = .ok (.aload_n 0, 1) := by decide +kernel
theorem d_U_cell_32 : decode b_U_cell 32 = .ok (.getfield 81, 3) := by decide +kernel
theorem d_U_cell_35 : decode b_U_cell 35 = .ok (.iload_n 1, 1) := by decide +kernel
theorem d_U_cell_36 : decode b_U_cell 36 = .ok (.iconst 0, 1) := by decide +kernel
theorem d_U_cell_37 : decode b_U_cell 37 = .ok (.invokevirtual 224, 3) := by decide +kernel
theorem d_U_cell_40 : decode b_U_cell 40 = .ok (.invokevirtual 184, 3) := by decide +kernel
theorem d_U_cell_43 : decode b_U_cell 43 = .ok (.ireturn, 1) := by decide +kernel
theorem d_U_cell_44 : decode b_U_cell 44 = .ok (.aload_n 0, 1) := by decide +kernel
theorem d_U_cell_45 : decode b_U_cell 45 = .ok (.iload_n 2, 1) := by decide +kernel
theorem d_U_cell_46 : decode b_U_cell 46 = .ok (.iconst 1, 1) := by decide +kernel
theorem d_U_cell_47 : decode b_U_cell 47 = .ok (.if_icmp .ne 21, 3) := by decide +kernel
theorem d_U_cell_50 : decode b_U_cell 50 = .ok (.aload_n 0, 1) := by decide +kernel
theorem d_U_cell_51 : decode b_U_cell 51 = .ok (.getfield 81, 3) := by decide +kernel
theorem d_U_cell_54 : decode b_U_cell 54 = .ok (.iload_n 1, 1) := by decide +kernel
theorem d_U_cell_55 : decode b_U_cell 55 = .ok (.aload_n 0, 1) := by decide +kernel
theorem d_U_cell_56 : decode b_U_cell 56 = .ok (.getfield 81, 3) := by decide +kernel
theorem d_U_cell_59 : decode b_U_cell 59 = .ok (.getfield 227, 3) := by decide +kernel
theorem d_U_cell_62 : decode b_U_cell 62 = .ok (.invokevirtual 230, 3) := by decide +kernel
theorem d_U_cell_65 : decode b_U_cell 65 = .ok (.goto 11, 3) := by decide +kernel
theorem d_U_cell_68 : decode b_U_cell 68 = .ok (.aload_n 0, 1) := by decide +kernel
theorem d_U_cell_69 : decode b_U_cell 69 = .ok (.getfield 81, 3) := by decide +kernel
theorem d_U_cell_72 : decode b_U_cell 72 = .ok (.iload_n 1, 1) := by decide +kernel
theorem d_U_cell_73 : decode b_U_cell 73 = .ok (.invokevirtual 233, 3) := by decide +kernel
theorem d_U_cell_76 : decode b_U_cell 76 = .ok (.invokevirtual 184, 3) := by decide +kernel
theorem d_U_cell_79 : decode b_U_cell 79 = .ok (.ireturn, 1) := by decide +kernel
theorem d_U_likers_0 : decode b_U_likers 0 = .ok (.aload_n 0, 1) := by decide +kernel
theorem d_U_likers_1 : decode b_U_likers 1 = .ok (.getfield 81, 3) := by decide +kernel
theorem d_U_likers_4 : decode b_U_likers 4 = .ok (.iload_n 1, 1) := by decide +kernel
theorem d_U_likers_5 : decode b_U_likers 5 = .ok (.invokevirtual 236, 3) := by decide +kernel
theorem d_U_likers_8 : decode b_U_likers 8 = .ok (.ifCond .ne 9, 3) := by decide +kernel
theorem d_U_likers_11 : decode b_U_likers 11 = .ok (.aload_n 0, 1) := by decide +kernel
theorem d_U_likers_12 : decode b_U_likers 12 = .ok (.iconst 1, 1) := by decide +kernel
theorem d_U_likers_13 : decode b_U_likers 13 = .ok (.invokevirtual 133, 3) := by decide +kernel
theorem d_U_likers_16 : decode b_U_likers 16 = .ok (.ireturn, 1) := by decide +kernel
theorem d_U_likers_17 : decode b_U_likers 17 = .ok (.aload_n 0, 1) := by decide +kernel
theorem d_U_likers_18 : decode b_U_likers 18 = .ok (.aload_n 0, 1) := by decide +kernel
theorem d_U_likers_19 : decode b_U_likers 19 = .ok (.getfield 81, 3) := by decide +kernel
theorem d_U_likers_22 : decode b_U_likers 22 = .ok (.iload_n 1, 1) := by decide +kernel
theorem d_U_likers_23 : decode b_U_likers 23 = .ok (.invokevirtual 239, 3) := by decide +kernel
theorem d_U_likers_26 : decode b_U_likers 26 = .ok (.invokevirtual 184, 3) := by decide +kernel
theorem d_U_likers_29 : decode b_U_likers 29 = .ok (.ireturn, 1) := by decide +kernel
theorem d_U_play_0 : decode b_U_play 0 = .ok (.aload_n 0, 1) := by decide +kernel
theorem d_U_play_1 : decode b_U_play 1 = .ok (.getfield 81, 3) := by decide +kernel
theorem d_U_play_4 : decode b_U_play 4 = .ok (.iload_n 1, 1) := by decide +kernel
theorem d_U_play_5 : decode b_U_play 5 = .ok (.invokevirtual 236, 3) := by decide +kernel
theorem d_U_play_8 : decode b_U_play 8 = .ok (.ifCond .ne 9, 3) := by decide +kernel
theorem d_U_play_11 : decode b_U_play 11 = .ok (.aload_n 0, 1) := by decide +kernel
theorem d_U_play_12 : decode b_U_play 12 = .ok (.iconst 1, 1) := by decide +kernel
theorem d_U_play_13 : decode b_U_play 13 = .ok (.invokevirtual 133, 3) := by decide +kernel
theorem d_U_play_16 : decode b_U_play 16 = .ok (.ireturn, 1) := by decide +kernel
theorem d_U_play_17 : decode b_U_play 17 = .ok (.aload_n 0, 1) := by decide +kernel
theorem d_U_play_18 : decode b_U_play 18 = .ok (.aload_n 0, 1) := by decide +kernel
theorem d_U_play_19 : decode b_U_play 19 = .ok (.getfield 81, 3) := by decide +kernel
theorem d_U_play_22 : decode b_U_play 22 = .ok (.iload_n 1, 1) := by decide +kernel
theorem d_U_play_23 : decode b_U_play 23 = .ok (.invokevirtual 242, 3) := by decide +kernel
theorem d_U_play_26 : decode b_U_play 26 = .ok (.invokevirtual 245, 3) := by decide +kernel
theorem d_U_play_29 : decode b_U_play 29 = .ok (.ireturn, 1) := by decide +kernel
theorem d_U_answeredIfItCanBe_0 : decode b_U_answeredIfItCanBe 0 = .ok (.iload_n 1, 1) := by decide +kernel
theorem d_U_answeredIfItCanBe_1 : decode b_U_answeredIfItCanBe 1 = .ok (.iconst (-1), 1) := by decide +kernel
theorem d_U_answeredIfItCanBe_2 : decode b_U_answeredIfItCanBe 2 = .ok (.if_icmp .ne 12, 3) := by decide +kernel
theorem d_U_answeredIfItCanBe_5 : decode b_U_answeredIfItCanBe 5 = .ok (.aload_n 0, 1) := by decide +kernel
theorem d_U_answeredIfItCanBe_6 : decode b_U_answeredIfItCanBe 6 = .ok (.bipush 7, 2) := by decide +kernel
theorem d_U_answeredIfItCanBe_8 : decode b_U_answeredIfItCanBe 8 = .ok (.invokevirtual 133, 3) := by decide +kernel
theorem d_U_answeredIfItCanBe_11 : decode b_U_answeredIfItCanBe 11 = .ok (.goto 8, 3) := by decide +kernel
theorem d_U_answeredIfItCanBe_14 : decode b_U_answeredIfItCanBe 14 = .ok (.aload_n 0, 1) := by decide +kernel
theorem d_U_answeredIfItCanBe_15 : decode b_U_answeredIfItCanBe 15 = .ok (.iload_n 1, 1) := by decide +kernel
theorem d_U_answeredIfItCanBe_16 : decode b_U_answeredIfItCanBe 16 = .ok (.invokevirtual 184, 3) := by decide +kernel
theorem d_U_answeredIfItCanBe_19 : decode b_U_answeredIfItCanBe 19 = .ok (.ireturn, 1) := by decide +kernel
theorem d_U_grind_0 : decode b_U_grind 0 = .ok (.aload_n 0, 1) := by decide +kernel
theorem d_U_grind_1 : decode b_U_grind 1 = .ok (.getfield 81, 3) := by decide +kernel
theorem d_U_grind_4 : decode b_U_grind 4 = .ok (.iload_n 1, 1) := by decide +kernel
theorem d_U_grind_5 : decode b_U_grind 5 = .ok (.invokevirtual 221, 3) := by decide +kernel
theorem d_U_grind_8 : decode b_U_grind 8 = .ok (.ifCond .ne 9, 3) := by decide +kernel
theorem d_U_grind_11 : decode b_U_grind 11 = .ok (.aload_n 0, 1) := by decide +kernel
theorem d_U_grind_12 : decode b_U_grind 12 = .ok (.iconst 1, 1) := by decide +kernel
theorem d_U_grind_13 : decode b_U_grind 13 = .ok (.invokevirtual 133, 3) := by decide +kernel
theorem d_U_grind_16 : decode b_U_grind 16 = .ok (.ireturn, 1) := by decide +kernel
theorem d_U_grind_17 : decode b_U_grind 17 = .ok (.aload_n 0, 1) := by decide +kernel
theorem d_U_grind_18 : decode b_U_grind 18 = .ok (.aload_n 0, 1) := by decide +kernel
theorem d_U_grind_19 : decode b_U_grind 19 = .ok (.getfield 81, 3) := by decide +kernel
theorem d_U_grind_22 : decode b_U_grind 22 = .ok (.iload_n 1, 1) := by decide +kernel
theorem d_U_grind_23 : decode b_U_grind 23 = .ok (.invokevirtual 248, 3) := by decide +kernel
theorem d_U_grind_26 : decode b_U_grind 26 = .ok (.invokevirtual 245, 3) := by decide +kernel
theorem d_U_grind_29 : decode b_U_grind 29 = .ok (.ireturn, 1) := by decide +kernel
theorem d_U_throwAt_0 : decode b_U_throwAt 0 = .ok (.aload_n 0, 1) := by decide +kernel
theorem d_U_throwAt_1 : decode b_U_throwAt 1 = .ok (.getfield 81, 3) := by decide +kernel
theorem d_U_throwAt_4 : decode b_U_throwAt 4 = .ok (.iload_n 1, 1) := by decide +kernel
theorem d_U_throwAt_5 : decode b_U_throwAt 5 = .ok (.invokevirtual 221, 3) := by decide +kernel
theorem d_U_throwAt_8 : decode b_U_throwAt 8 = .ok (.ifCond .ne 9, 3) := by decide +kernel
theorem d_U_throwAt_11 : decode b_U_throwAt 11 = .ok (.aload_n 0, 1) := by decide +kernel
theorem d_U_throwAt_12 : decode b_U_throwAt 12 = .ok (.iconst 1, 1) := by decide +kernel
theorem d_U_throwAt_13 : decode b_U_throwAt 13 = .ok (.invokevirtual 133, 3) := by decide +kernel
theorem d_U_throwAt_16 : decode b_U_throwAt 16 = .ok (.ireturn, 1) := by decide +kernel
theorem d_U_throwAt_17 : decode b_U_throwAt 17 = .ok (.aload_n 0, 1) := by decide +kernel
theorem d_U_throwAt_18 : decode b_U_throwAt 18 = .ok (.aload_n 0, 1) := by decide +kernel
theorem d_U_throwAt_19 : decode b_U_throwAt 19 = .ok (.getfield 81, 3) := by decide +kernel
theorem d_U_throwAt_22 : decode b_U_throwAt 22 = .ok (.iload_n 1, 1) := by decide +kernel
theorem d_U_throwAt_23 : decode b_U_throwAt 23 = .ok (.invokevirtual 251, 3) := by decide +kernel
theorem d_U_throwAt_26 : decode b_U_throwAt 26 = .ok (.invokevirtual 245, 3) := by decide +kernel
theorem d_U_throwAt_29 : decode b_U_throwAt 29 = .ok (.ireturn, 1) := by decide +kernel
theorem d_U_brush_0 : decode b_U_brush 0 = .ok (.aload_n 0, 1) := by decide +kernel
theorem d_U_brush_1 : decode b_U_brush 1 = .ok (.aload_n 0, 1) := by decide +kernel
theorem d_U_brush_2 : decode b_U_brush 2 = .ok (.getfield 81, 3) := by decide +kernel
theorem d_U_brush_5 : decode b_U_brush 5 = .ok (.invokevirtual 254, 3) := by decide +kernel
theorem d_U_brush_8 : decode b_U_brush 8 = .ok (.invokevirtual 245, 3) := by decide +kernel
theorem d_U_brush_11 : decode b_U_brush 11 = .ok (.ireturn, 1) := by decide +kernel
theorem d_U_send_0 : decode b_U_send 0 = .ok (.aload_n 0, 1) := by decide +kernel
theorem d_U_send_1 : decode b_U_send 1 = .ok (.getfield 81, 3) := by decide +kernel
theorem d_U_send_4 : decode b_U_send 4 = .ok (.iload_n 1, 1) := by decide +kernel
theorem d_U_send_5 : decode b_U_send 5 = .ok (.invokevirtual 205, 3) := by decide +kernel
theorem d_U_send_8 : decode b_U_send 8 = .ok (.ifCond .eq 14, 3) := by decide +kernel
theorem d_U_send_11 : decode b_U_send 11 = .ok (.aload_n 0, 1) := by decide +kernel
theorem d_U_send_12 : decode b_U_send 12 = .ok (.getfield 81, 3) := by decide +kernel
theorem d_U_send_15 : decode b_U_send 15 = .ok (.iload_n 2, 1) := by decide +kernel
theorem d_U_send_16 : decode b_U_send 16 = .ok (.invokevirtual 221, 3) := by decide +kernel
theorem d_U_send_19 : decode b_U_send 19 = .ok (.ifCond .ne 9, 3) := by decide +kernel
theorem d_U_send_22 : decode b_U_send 22 = .ok (.aload_n 0, 1) := by decide +kernel
theorem d_U_send_23 : decode b_U_send 23 = .ok (.iconst 1, 1) := by decide +kernel
theorem d_U_send_24 : decode b_U_send 24 = .ok (.invokevirtual 133, 3) := by decide +kernel
theorem d_U_send_27 : decode b_U_send 27 = .ok (.ireturn, 1) := by decide +kernel
theorem d_U_send_28 : decode b_U_send 28 = .ok (.aload_n 0, 1) := by decide +kernel
theorem d_U_send_29 : decode b_U_send 29 = .ok (.aload_n 0, 1) := by decide +kernel
theorem d_U_send_30 : decode b_U_send 30 = .ok (.getfield 81, 3) := by decide +kernel
theorem d_U_send_33 : decode b_U_send 33 = .ok (.iload_n 1, 1) := by decide +kernel
theorem d_U_send_34 : decode b_U_send 34 = .ok (.iload_n 2, 1) := by decide +kernel
theorem d_U_send_35 : decode b_U_send 35 = .ok (.invokevirtual 258, 3) := by decide +kernel
theorem d_U_send_38 : decode b_U_send 38 = .ok (.invokevirtual 245, 3) := by decide +kernel
theorem d_U_send_41 : decode b_U_send 41 = .ok (.ireturn, 1) := by decide +kernel
theorem d_U_give_0 : decode b_U_give 0 = .ok (.aload_n 0, 1) := by decide +kernel
theorem d_U_give_1 : decode b_U_give 1 = .ok (.getfield 81, 3) := by decide +kernel
theorem d_U_give_4 : decode b_U_give 4 = .ok (.iload_n 1, 1) := by decide +kernel
theorem d_U_give_5 : decode b_U_give 5 = .ok (.invokevirtual 205, 3) := by decide +kernel
theorem d_U_give_8 : decode b_U_give 8 = .ok (.ifCond .eq 13, 3) := by decide +kernel
theorem d_U_give_11 : decode b_U_give 11 = .ok (.iload_n 2, 1) := by decide +kernel
theorem d_U_give_12 : decode b_U_give 12 = .ok (.iconst 0, 1) := by decide +kernel
theorem d_U_give_13 : decode b_U_give 13 = .ok (.bipush 99, 2) := by decide +kernel
theorem d_U_give_15 : decode b_U_give 15 = .ok (.invokestatic 114, 3) := by decide +kernel
theorem d_U_give_18 : decode b_U_give 18 = .ok (.ifCond .ne 9, 3) := by decide +kernel
theorem d_U_give_21 : decode b_U_give 21 = .ok (.aload_n 0, 1) := by decide +kernel
theorem d_U_give_22 : decode b_U_give 22 = .ok (.iconst 1, 1) := by decide +kernel
theorem d_U_give_23 : decode b_U_give 23 = .ok (.invokevirtual 133, 3) := by decide +kernel
theorem d_U_give_26 : decode b_U_give 26 = .ok (.ireturn, 1) := by decide +kernel
theorem d_U_give_27 : decode b_U_give 27 = .ok (.aload_n 0, 1) := by decide +kernel
theorem d_U_give_28 : decode b_U_give 28 = .ok (.getfield 81, 3) := by decide +kernel
theorem d_U_give_31 : decode b_U_give 31 = .ok (.getfield 261, 3) := by decide +kernel
theorem d_U_give_34 : decode b_U_give 34 = .ok (.iload_n 1, 1) := by decide +kernel
theorem d_U_give_35 : decode b_U_give 35 = .ok (.iaload, 1) := by decide +kernel
theorem d_U_give_36 : decode b_U_give 36 = .ok (.istore_n 3, 1) := by decide +kernel
theorem d_U_give_37 : decode b_U_give 37 = .ok (.aload_n 0, 1) := by decide +kernel
theorem d_U_give_38 : decode b_U_give 38 = .ok (.getfield 81, 3) := by decide +kernel
theorem d_U_give_41 : decode b_U_give 41 = .ok (.getfield 261, 3) := by decide +kernel
theorem d_U_give_44 : decode b_U_give 44 = .ok (.iload_n 1, 1) := by decide +kernel
theorem d_U_give_45 : decode b_U_give 45 = .ok (.iload_n 2, 1) := by decide +kernel
theorem d_U_give_46 : decode b_U_give 46 = .ok (.iastore, 1) := by decide +kernel
theorem d_U_give_47 : decode b_U_give 47 = .ok (.aload_n 0, 1) := by decide +kernel
theorem d_U_give_48 : decode b_U_give 48 = .ok (.iload_n 3, 1) := by decide +kernel
theorem d_U_give_49 : decode b_U_give 49 = .ok (.invokevirtual 184, 3) := by decide +kernel
theorem d_U_give_52 : decode b_U_give 52 = .ok (.ireturn, 1) := by decide +kernel
theorem d_U_teach_0 : decode b_U_teach 0 = .ok (.aload_n 0, 1) := by decide +kernel
theorem d_U_teach_1 : decode b_U_teach 1 = .ok (.getfield 81, 3) := by decide +kernel
theorem d_U_teach_4 : decode b_U_teach 4 = .ok (.iload_n 1, 1) := by decide +kernel
theorem d_U_teach_5 : decode b_U_teach 5 = .ok (.invokevirtual 205, 3) := by decide +kernel
theorem d_U_teach_8 : decode b_U_teach 8 = .ok (.ifCond .eq 14, 3) := by decide +kernel
theorem d_U_teach_11 : decode b_U_teach 11 = .ok (.aload_n 0, 1) := by decide +kernel
theorem d_U_teach_12 : decode b_U_teach 12 = .ok (.getfield 81, 3) := by decide +kernel
theorem d_U_teach_15 : decode b_U_teach 15 = .ok (.iload_n 2, 1) := by decide +kernel
theorem d_U_teach_16 : decode b_U_teach 16 = .ok (.invokevirtual 236, 3) := by decide +kernel
theorem d_U_teach_19 : decode b_U_teach 19 = .ok (.ifCond .ne 9, 3) := by decide +kernel
theorem d_U_teach_22 : decode b_U_teach 22 = .ok (.aload_n 0, 1) := by decide +kernel
theorem d_U_teach_23 : decode b_U_teach 23 = .ok (.iconst 1, 1) := by decide +kernel
theorem d_U_teach_24 : decode b_U_teach 24 = .ok (.invokevirtual 118, 3) := by decide +kernel
theorem d_U_teach_27 : decode b_U_teach 27 = .ok (.ireturn, 1) := by decide +kernel
theorem d_U_teach_28 : decode b_U_teach 28 = .ok (.aload_n 0, 1) := by decide +kernel
theorem d_U_teach_29 : decode b_U_teach 29 = .ok (.getfield 81, 3) := by decide +kernel
theorem d_U_teach_32 : decode b_U_teach 32 = .ok (.iload_n 1, 1) := by decide +kernel
theorem d_U_teach_33 : decode b_U_teach 33 = .ok (.iload_n 2, 1) := by decide +kernel
theorem d_U_teach_34 : decode b_U_teach 34 = .ok (.invokevirtual 264, 3) := by decide +kernel
theorem d_U_teach_37 : decode b_U_teach 37 = .ok (.iload_n 3, 1) := by decide +kernel
theorem d_U_teach_38 : decode b_U_teach 38 = .ok (.if_icmp .ne 10, 3) := by decide +kernel
theorem d_U_teach_41 : decode b_U_teach 41 = .ok (.aload_n 0, 1) := by decide +kernel
theorem d_U_teach_42 : decode b_U_teach 42 = .ok (.bipush 7, 2) := by decide +kernel
theorem d_U_teach_44 : decode b_U_teach 44 = .ok (.invokevirtual 118, 3) := by decide +kernel
theorem d_U_teach_47 : decode b_U_teach 47 = .ok (.ireturn, 1) := by decide +kernel
theorem d_U_teach_48 : decode b_U_teach 48 = .ok (.aload_n 0, 1) := by decide +kernel
theorem d_U_teach_49 : decode b_U_teach 49 = .ok (.getfield 81, 3) := by decide +kernel
theorem d_U_teach_52 : decode b_U_teach 52 = .ok (.getfield 268, 3) := by decide +kernel
theorem d_U_teach_55 : decode b_U_teach 55 = .ok (.iload_n 1, 1) := by decide +kernel
theorem d_U_teach_56 : decode b_U_teach 56 = .ok (.dup2, 1) := by decide +kernel
theorem d_U_teach_57 : decode b_U_teach 57 = .ok (.iaload, 1) := by decide +kernel
theorem d_U_teach_58 : decode b_U_teach 58 = .ok (.iconst 1, 1) := by decide +kernel
theorem d_U_teach_59 : decode b_U_teach 59 = .ok (.iload_n 2, 1) := by decide +kernel
theorem d_U_teach_60 : decode b_U_teach 60 = .ok (.ishl, 1) := by decide +kernel
theorem d_U_teach_61 : decode b_U_teach 61 = .ok (.ixor, 1) := by decide +kernel
theorem d_U_teach_62 : decode b_U_teach 62 = .ok (.iastore, 1) := by decide +kernel
theorem d_U_teach_63 : decode b_U_teach 63 = .ok (.aload_n 0, 1) := by decide +kernel
theorem d_U_teach_64 : decode b_U_teach 64 = .ok (.iconst 0, 1) := by decide +kernel
theorem d_U_teach_65 : decode b_U_teach 65 = .ok (.invokevirtual 118, 3) := by decide +kernel
theorem d_U_teach_68 : decode b_U_teach 68 = .ok (.ireturn, 1) := by decide +kernel
theorem d_U_come_0 : decode b_U_come 0 = .ok (.aload_n 0, 1) := by decide +kernel
theorem d_U_come_1 : decode b_U_come 1 = .ok (.getfield 81, 3) := by decide +kernel
theorem d_U_come_4 : decode b_U_come 4 = .ok (.iload_n 1, 1) := by decide +kernel
theorem d_U_come_5 : decode b_U_come 5 = .ok (.invokevirtual 221, 3) := by decide +kernel
theorem d_U_come_8 : decode b_U_come 8 = .ok (.ifCond .ne 9, 3) := by decide +kernel
theorem d_U_come_11 : decode b_U_come 11 = .ok (.aload_n 0, 1) := by decide +kernel
theorem d_U_come_12 : decode b_U_come 12 = .ok (.iconst 1, 1) := by decide +kernel
theorem d_U_come_13 : decode b_U_come 13 = .ok (.invokevirtual 133, 3) := by decide +kernel
theorem d_U_come_16 : decode b_U_come 16 = .ok (.ireturn, 1) := by decide +kernel
theorem d_U_come_17 : decode b_U_come 17 = .ok (.aload_n 0, 1) := by decide +kernel
theorem d_U_come_18 : decode b_U_come 18 = .ok (.getfield 81, 3) := by decide +kernel
theorem d_U_come_21 : decode b_U_come 21 = .ok (.getfield 181, 3) := by decide +kernel
theorem d_U_come_24 : decode b_U_come 24 = .ok (.bipush 6, 2) := by decide +kernel
theorem d_U_come_26 : decode b_U_come 26 = .ok (.if_icmp .lt 9, 3) := by decide +kernel
theorem d_U_come_29 : decode b_U_come 29 = .ok (.aload_n 0, 1) := by decide +kernel
theorem d_U_come_30 : decode b_U_come 30 = .ok (.iconst 4, 1) := by decide +kernel
theorem d_U_come_31 : decode b_U_come 31 = .ok (.invokevirtual 133, 3) := by decide +kernel
theorem d_U_come_34 : decode b_U_come 34 = .ok (.ireturn, 1) := by decide +kernel
theorem d_U_come_35 : decode b_U_come 35 = .ok (.aload_n 0, 1) := by decide +kernel
theorem d_U_come_36 : decode b_U_come 36 = .ok (.getfield 81, 3) := by decide +kernel
theorem d_U_come_39 : decode b_U_come 39 = .ok (.iload_n 1, 1) := by decide +kernel
theorem d_U_come_40 : decode b_U_come 40 = .ok (.iconst 3, 1) := by decide +kernel
theorem d_U_come_41 : decode b_U_come 41 = .ok (.iconst 0, 1) := by decide +kernel
theorem d_U_come_42 : decode b_U_come 42 = .ok (.invokevirtual 271, 3) := by decide +kernel
theorem d_U_come_45 : decode b_U_come 45 = .ok (.aload_n 0, 1) := by decide +kernel
theorem d_U_come_46 : decode b_U_come 46 = .ok (.aload_n 0, 1) := by decide +kernel
theorem d_U_come_47 : decode b_U_come 47 = .ok (.getfield 81, 3) := by decide +kernel
theorem d_U_come_50 : decode b_U_come 50 = .ok (.getfield 181, 3) := by decide +kernel
theorem d_U_come_53 : decode b_U_come 53 = .ok (.iconst 1, 1) := by decide +kernel
theorem d_U_come_54 : decode b_U_come 54 = .ok (.isub, 1) := by decide +kernel
theorem d_U_come_55 : decode b_U_come 55 = .ok (.invokevirtual 184, 3) := by decide +kernel
theorem d_U_come_58 : decode b_U_come 58 = .ok (.ireturn, 1) := by decide +kernel
theorem d_U_empty_0 : decode b_U_empty 0 = .ok (.aload_n 0, 1) := by decide +kernel
theorem d_U_empty_1 : decode b_U_empty 1 = .ok (.aload_n 0, 1) := by decide +kernel
theorem d_U_empty_2 : decode b_U_empty 2 = .ok (.getfield 81, 3) := by decide +kernel
theorem d_U_empty_5 : decode b_U_empty 5 = .ok (.invokevirtual 275, 3) := by decide +kernel
theorem d_U_empty_8 : decode b_U_empty 8 = .ok (.invokevirtual 245, 3) := by decide +kernel
theorem d_U_empty_11 : decode b_U_empty 11 = .ok (.ireturn, 1) := by decide +kernel
theorem d_U_rule_0 : decode b_U_rule 0 = .ok (.iload_n 1, 1) := by decide +kernel
theorem d_U_rule_1 : decode b_U_rule 1 = .ok (.iconst 0, 1) := by decide +kernel
theorem d_U_rule_2 : decode b_U_rule 2 = .ok (.bipush 16, 2) := by decide +kernel
theorem d_U_rule_4 : decode b_U_rule 4 = .ok (.invokestatic 114, 3) := by decide +kernel
theorem d_U_rule_7 : decode b_U_rule 7 = .ok (.ifCond .ne 9, 3) := by decide +kernel
theorem d_U_rule_10 : decode b_U_rule 10 = .ok (.aload_n 0, 1) := by decide +kernel
theorem d_U_rule_11 : decode b_U_rule 11 = .ok (.iconst 1, 1) := by decide +kernel
theorem d_U_rule_12 : decode b_U_rule 12 = .ok (.invokevirtual 118, 3) := by decide +kernel
theorem d_U_rule_15 : decode b_U_rule 15 = .ok (.ireturn, 1) := by decide +kernel
theorem d_U_rule_16 : decode b_U_rule 16 = .ok (.aload_n 0, 1) := by decide +kernel
theorem d_U_rule_17 : decode b_U_rule 17 = .ok (.getfield 81, 3) := by decide +kernel
theorem d_U_rule_20 : decode b_U_rule 20 = .ok (.iload_n 1, 1) := by decide +kernel
theorem d_U_rule_21 : decode b_U_rule 21 = .ok (.putfield 278, 3) := by decide +kernel
theorem d_U_rule_24 : decode b_U_rule 24 = .ok (.aload_n 0, 1) := by decide +kernel
theorem d_U_rule_25 : decode b_U_rule 25 = .ok (.iconst 0, 1) := by decide +kernel
theorem d_U_rule_26 : decode b_U_rule 26 = .ok (.invokevirtual 118, 3) := by decide +kernel
theorem d_U_rule_29 : decode b_U_rule 29 = .ok (.ireturn, 1) := by decide +kernel
theorem d_U_takings_0 : decode b_U_takings 0 = .ok (.aload_n 0, 1) := by decide +kernel
theorem d_U_takings_1 : decode b_U_takings 1 = .ok (.aload_n 0, 1) := by decide +kernel
theorem d_U_takings_2 : decode b_U_takings 2 = .ok (.getfield 81, 3) := by decide +kernel
theorem d_U_takings_5 : decode b_U_takings 5 = .ok (.getfield 227, 3) := by decide +kernel
theorem d_U_takings_8 : decode b_U_takings 8 = .ok (.iload_n 1, 1) := by decide +kernel
theorem d_U_takings_9 : decode b_U_takings 9 = .ok (.iload_n 2, 1) := by decide +kernel
theorem d_U_takings_10 : decode b_U_takings 10 = .ok (.invokevirtual 281, 3) := by decide +kernel
theorem d_U_takings_13 : decode b_U_takings 13 = .ok (.ireturn, 1) := by decide +kernel
theorem d_U_pitch_0 : decode b_U_pitch 0 = .ok (.aload_n 0, 1) := by decide +kernel
theorem d_U_pitch_1 : decode b_U_pitch 1 = .ok (.getfield 81, 3) := by decide +kernel
theorem d_U_pitch_4 : decode b_U_pitch 4 = .ok (.iload_n 1, 1) := by decide +kernel
theorem d_U_pitch_5 : decode b_U_pitch 5 = .ok (.invokevirtual 221, 3) := by decide +kernel
theorem d_U_pitch_8 : decode b_U_pitch 8 = .ok (.ifCond .eq 24, 3) := by decide +kernel
theorem d_U_pitch_11 : decode b_U_pitch 11 = .ok (.aload_n 0, 1) := by decide +kernel
theorem d_U_pitch_12 : decode b_U_pitch 12 = .ok (.getfield 81, 3) := by decide +kernel
theorem d_U_pitch_15 : decode b_U_pitch 15 = .ok (.iload_n 2, 1) := by decide +kernel
theorem d_U_pitch_16 : decode b_U_pitch 16 = .ok (.invokevirtual 236, 3) := by decide +kernel
theorem d_U_pitch_19 : decode b_U_pitch 19 = .ok (.ifCond .eq 13, 3) := by decide +kernel
theorem d_U_pitch_22 : decode b_U_pitch 22 = .ok (.iload_n 3, 1) := by decide +kernel
theorem d_U_pitch_23 : decode b_U_pitch 23 = .ok (.iconst 0, 1) := by decide +kernel
theorem d_U_pitch_24 : decode b_U_pitch 24 = .ok (.bipush 20, 2) := by decide +kernel
theorem d_U_pitch_26 : decode b_U_pitch 26 = .ok (.invokestatic 114, 3) := by decide +kernel
theorem d_U_pitch_29 : decode b_U_pitch 29 = .ok (.ifCond .ne 9, 3) := by decide +kernel
theorem d_U_pitch_32 : decode b_U_pitch 32 = .ok (.aload_n 0, 1) := by decide +kernel
theorem d_U_pitch_33 : decode b_U_pitch 33 = .ok (.iconst 1, 1) := by decide +kernel
theorem d_U_pitch_34 : decode b_U_pitch 34 = .ok (.invokevirtual 133, 3) := by decide +kernel
theorem d_U_pitch_37 : decode b_U_pitch 37 = .ok (.ireturn, 1) := by decide +kernel
theorem d_U_pitch_38 : decode b_U_pitch 38 = .ok (.aload_n 0, 1) := by decide +kernel
theorem d_U_pitch_39 : decode b_U_pitch 39 = .ok (.aload_n 0, 1) := by decide +kernel
theorem d_U_pitch_40 : decode b_U_pitch 40 = .ok (.getfield 81, 3) := by decide +kernel
theorem d_U_pitch_43 : decode b_U_pitch 43 = .ok (.iload_n 1, 1) := by decide +kernel
theorem d_U_pitch_44 : decode b_U_pitch 44 = .ok (.iload_n 2, 1) := by decide +kernel
theorem d_U_pitch_45 : decode b_U_pitch 45 = .ok (.iload_n 3, 1) := by decide +kernel
theorem d_U_pitch_46 : decode b_U_pitch 46 = .ok (.invokevirtual 285, 3) := by decide +kernel
theorem d_U_pitch_49 : decode b_U_pitch 49 = .ok (.invokevirtual 184, 3) := by decide +kernel
theorem d_U_pitch_52 : decode b_U_pitch 52 = .ok (.ireturn, 1) := by decide +kernel
theorem d_U_bestPitch_0 : decode b_U_bestPitch 0 = .ok (.aload_n 0, 1) := by decide +kernel
theorem d_U_bestPitch_1 : decode b_U_bestPitch 1 = .ok (.getfield 81, 3) := by decide +kernel
theorem d_U_bestPitch_4 : decode b_U_bestPitch 4 = .ok (.iload_n 1, 1) := by decide +kernel
theorem d_U_bestPitch_5 : decode b_U_bestPitch 5 = .ok (.invokevirtual 236, 3) := by decide +kernel
theorem d_U_bestPitch_8 : decode b_U_bestPitch 8 = .ok (.ifCond .eq 13, 3) := by decide +kernel
theorem d_U_bestPitch_11 : decode b_U_bestPitch 11 = .ok (.iload_n 2, 1) := by decide +kernel
theorem d_U_bestPitch_12 : decode b_U_bestPitch 12 = .ok (.iconst 0, 1) := by decide +kernel
theorem d_U_bestPitch_13 : decode b_U_bestPitch 13 = .ok (.bipush 20, 2) := by decide +kernel
theorem d_U_bestPitch_15 : decode b_U_bestPitch 15 = .ok (.invokestatic 114, 3) := by decide +kernel
theorem d_U_bestPitch_18 : decode b_U_bestPitch 18 = .ok (.ifCond .ne 9, 3) := by decide +kernel
theorem d_U_bestPitch_21 : decode b_U_bestPitch 21 = .ok (.aload_n 0, 1) := by decide +kernel
theorem d_U_bestPitch_22 : decode b_U_bestPitch 22 = .ok (.iconst 1, 1) := by decide +kernel
theorem d_U_bestPitch_23 : decode b_U_bestPitch 23 = .ok (.invokevirtual 133, 3) := by decide +kernel
theorem d_U_bestPitch_26 : decode b_U_bestPitch 26 = .ok (.ireturn, 1) := by decide +kernel
theorem d_U_bestPitch_27 : decode b_U_bestPitch 27 = .ok (.iconst 0, 1) := by decide +kernel
theorem d_U_bestPitch_28 : decode b_U_bestPitch 28 = .ok (.istore_n 3, 1) := by decide +kernel
theorem d_U_bestPitch_29 : decode b_U_bestPitch 29 = .ok (.aload_n 0, 1) := by decide +kernel
theorem d_U_bestPitch_30 : decode b_U_bestPitch 30 = .ok (.getfield 81, 3) := by decide +kernel
theorem d_U_bestPitch_33 : decode b_U_bestPitch 33 = .ok (.iconst 0, 1) := by decide +kernel
theorem d_U_bestPitch_34 : decode b_U_bestPitch 34 = .ok (.iload_n 1, 1) := by decide +kernel
theorem d_U_bestPitch_35 : decode b_U_bestPitch 35 = .ok (.iload_n 2, 1) := by decide +kernel
theorem d_U_bestPitch_36 : decode b_U_bestPitch 36 = .ok (.invokevirtual 285, 3) := by decide +kernel
theorem d_U_bestPitch_39 : decode b_U_bestPitch 39 = .ok (.istore 4, 2) := by decide +kernel
theorem d_U_bestPitch_41 : decode b_U_bestPitch 41 = .ok (.iconst 1, 1) := by decide +kernel
theorem d_U_bestPitch_42 : decode b_U_bestPitch 42 = .ok (.istore 5, 2) := by decide +kernel
theorem d_U_bestPitch_44 : decode b_U_bestPitch 44 = .ok (.iload 5, 2) := by decide +kernel
theorem d_U_bestPitch_46 : decode b_U_bestPitch 46 = .ok (.aload_n 0, 1) := by decide +kernel
theorem d_U_bestPitch_47 : decode b_U_bestPitch 47 = .ok (.getfield 81, 3) := by decide +kernel
theorem d_U_bestPitch_50 : decode b_U_bestPitch 50 = .ok (.invokevirtual 288, 3) := by decide +kernel
theorem d_U_bestPitch_53 : decode b_U_bestPitch 53 = .ok (.if_icmp .ge 36, 3) := by decide +kernel
theorem d_U_bestPitch_56 : decode b_U_bestPitch 56 = .ok (.aload_n 0, 1) := by decide +kernel
theorem d_U_bestPitch_57 : decode b_U_bestPitch 57 = .ok (.getfield 81, 3) := by decide +kernel
theorem d_U_bestPitch_60 : decode b_U_bestPitch 60 = .ok (.iload 5, 2) := by decide +kernel
theorem d_U_bestPitch_62 : decode b_U_bestPitch 62 = .ok (.iload_n 1, 1) := by decide +kernel
theorem d_U_bestPitch_63 : decode b_U_bestPitch 63 = .ok (.iload_n 2, 1) := by decide +kernel
theorem d_U_bestPitch_64 : decode b_U_bestPitch 64 = .ok (.invokevirtual 285, 3) := by decide +kernel
theorem d_U_bestPitch_67 : decode b_U_bestPitch 67 = .ok (.istore 6, 2) := by decide +kernel
theorem d_U_bestPitch_69 : decode b_U_bestPitch 69 = .ok (.iload 6, 2) := by decide +kernel
theorem d_U_bestPitch_71 : decode b_U_bestPitch 71 = .ok (.iload 4, 2) := by decide +kernel
theorem d_U_bestPitch_73 : decode b_U_bestPitch 73 = .ok (.if_icmp .le 10, 3) := by decide +kernel
theorem d_U_bestPitch_76 : decode b_U_bestPitch 76 = .ok (.iload 5, 2) := by decide +kernel
theorem d_U_bestPitch_78 : decode b_U_bestPitch 78 = .ok (.istore_n 3, 1) := by decide +kernel
theorem d_U_bestPitch_79 : decode b_U_bestPitch 79 = .ok (.iload 6, 2) := by decide +kernel
theorem d_U_bestPitch_81 : decode b_U_bestPitch 81 = .ok (.istore 4, 2) := by decide +kernel
theorem d_U_bestPitch_83 : decode b_U_bestPitch 83 = .ok (.iinc 5 1, 3) := by decide +kernel
theorem d_U_bestPitch_86 : decode b_U_bestPitch 86 = .ok (.goto (-42), 3) := by decide +kernel
theorem d_U_bestPitch_89 : decode b_U_bestPitch 89 = .ok (.aload_n 0, 1) := by decide +kernel
theorem d_U_bestPitch_90 : decode b_U_bestPitch 90 = .ok (.iload_n 3, 1) := by decide +kernel
theorem d_U_bestPitch_91 : decode b_U_bestPitch 91 = .ok (.invokevirtual 184, 3) := by decide +kernel
theorem d_U_bestPitch_94 : decode b_U_bestPitch 94 = .ok (.ireturn, 1) := by decide +kernel
theorem d_U_soon_0 : decode b_U_soon 0 = .ok (.aload_n 0, 1) := by decide +kernel
theorem d_U_soon_1 : decode b_U_soon 1 = .ok (.getfield 81, 3) := by decide +kernel
theorem d_U_soon_4 : decode b_U_soon 4 = .ok (.iload_n 1, 1) := by decide +kernel
theorem d_U_soon_5 : decode b_U_soon 5 = .ok (.invokevirtual 205, 3) := by decide +kernel
theorem d_U_soon_8 : decode b_U_soon 8 = .ok (.ifCond .ne 9, 3) := by decide +kernel
theorem d_U_soon_11 : decode b_U_soon 11 = .ok (.aload_n 0, 1) := by decide +kernel
theorem d_U_soon_12 : decode b_U_soon 12 = .ok (.iconst 1, 1) := by decide +kernel
theorem d_U_soon_13 : decode b_U_soon 13 = .ok (.invokevirtual 133, 3) := by decide +kernel
theorem d_U_soon_16 : decode b_U_soon 16 = .ok (.ireturn, 1) := by decide +kernel
theorem d_U_soon_17 : decode b_U_soon 17 = .ok (.aload_n 0, 1) := by decide +kernel
theorem d_U_soon_18 : decode b_U_soon 18 = .ok (.getfield 81, 3) := by decide +kernel
theorem d_U_soon_21 : decode b_U_soon 21 = .ok (.iload_n 1, 1) := by decide +kernel
theorem d_U_soon_22 : decode b_U_soon 22 = .ok (.invokevirtual 291, 3) := by decide +kernel
theorem d_U_soon_25 : decode b_U_soon 25 = .ok (.istore_n 2, 1) := by decide +kernel
theorem d_U_soon_26 : decode b_U_soon 26 = .ok (.iload_n 2, 1) := by decide +kernel
theorem d_U_soon_27 : decode b_U_soon 27 = .ok (.ifCond .le 22, 3) := by decide +kernel
theorem d_U_soon_30 : decode b_U_soon 30 = .ok (.aload_n 0, 1) := by decide +kernel
theorem d_U_soon_31 : decode b_U_soon 31 = .ok (.getfield 81, 3) := by decide +kernel
theorem d_U_soon_34 : decode b_U_soon 34 = .ok (.getfield 268, 3) := by decide +kernel
theorem d_U_soon_37 : decode b_U_soon 37 = .ok (.iload_n 1, 1) := by decide +kernel
theorem d_U_soon_38 : decode b_U_soon 38 = .ok (.iaload, 1) := by decide +kernel
theorem d_U_soon_39 : decode b_U_soon 39 = .ok (.ifCond .ne 10, 3) := by decide +kernel
theorem d_U_soon_42 : decode b_U_soon 42 = .ok (.aload_n 0, 1) := by decide +kernel
theorem d_U_soon_43 : decode b_U_soon 43 = .ok (.bipush 6, 2) := by decide +kernel
theorem d_U_soon_45 : decode b_U_soon 45 = .ok (.invokevirtual 133, 3) := by decide +kernel
theorem d_U_soon_48 : decode b_U_soon 48 = .ok (.ireturn, 1) := by decide +kernel
theorem d_U_soon_49 : decode b_U_soon 49 = .ok (.aload_n 0, 1) := by decide +kernel
theorem d_U_soon_50 : decode b_U_soon 50 = .ok (.iload_n 2, 1) := by decide +kernel
theorem d_U_soon_51 : decode b_U_soon 51 = .ok (.invokevirtual 184, 3) := by decide +kernel
theorem d_U_soon_54 : decode b_U_soon 54 = .ok (.ireturn, 1) := by decide +kernel
theorem d_U_gather_0 : decode b_U_gather 0 = .ok (.aload_n 0, 1) := by decide +kernel
theorem d_U_gather_1 : decode b_U_gather 1 = .ok (.iload_n 1, 1) := by decide +kernel
theorem d_U_gather_2 : decode b_U_gather 2 = .ok (.invokevirtual 294, 3) := by decide +kernel
theorem d_U_gather_5 : decode b_U_gather 5 = .ok (.ifCond .ne 9, 3) := by decide +kernel
theorem d_U_gather_8 : decode b_U_gather 8 = .ok (.aload_n 0, 1) := by decide +kernel
theorem d_U_gather_9 : decode b_U_gather 9 = .ok (.iconst 1, 1) := by decide +kernel
theorem d_U_gather_10 : decode b_U_gather 10 = .ok (.invokevirtual 133, 3) := by decide +kernel
theorem d_U_gather_13 : decode b_U_gather 13 = .ok (.ireturn, 1) := by decide +kernel
theorem d_U_gather_14 : decode b_U_gather 14 = .ok (.aload_n 0, 1) := by decide +kernel
theorem d_U_gather_15 : decode b_U_gather 15 = .ok (.aload_n 0, 1) := by decide +kernel
theorem d_U_gather_16 : decode b_U_gather 16 = .ok (.getfield 55, 3) := by decide +kernel
theorem d_U_gather_19 : decode b_U_gather 19 = .ok (.aload_n 0, 1) := by decide +kernel
theorem d_U_gather_20 : decode b_U_gather 20 = .ok (.getfield 81, 3) := by decide +kernel
theorem d_U_gather_23 : decode b_U_gather 23 = .ok (.iload_n 1, 1) := by decide +kernel
theorem d_U_gather_24 : decode b_U_gather 24 = .ok (.invokevirtual 297, 3) := by decide +kernel
theorem d_U_gather_27 : decode b_U_gather 27 = .ok (.invokevirtual 301, 3) := by decide +kernel
theorem d_U_gather_30 : decode b_U_gather 30 = .ok (.ireturn, 1) := by decide +kernel
theorem d_U_canGather_0 : decode b_U_canGather 0 = .ok (.iload_n 1, 1) := by decide +kernel
theorem d_U_canGather_1 : decode b_U_canGather 1 = .ok (.aload_n 0, 1) := by decide +kernel
theorem d_U_canGather_2 : decode b_U_canGather 2 = .ok (.getfield 81, 3) := by decide +kernel
theorem d_U_canGather_5 : decode b_U_canGather 5 = .ok (.getfield 181, 3) := by decide +kernel
theorem d_U_canGather_8 : decode b_U_canGather 8 = .ok (.invokestatic 307, 3) := by decide +kernel
theorem d_U_canGather_11 : decode b_U_canGather 11 = .ok (.ifCond .eq 19, 3) := by decide +kernel
theorem d_U_canGather_14 : decode b_U_canGather 14 = .ok (.iload_n 1, 1) := by decide +kernel
theorem d_U_canGather_15 : decode b_U_canGather 15 = .ok (.invokestatic 310, 3) := by decide +kernel
theorem d_U_canGather_18 : decode b_U_canGather 18 = .ok (.iconst 1, 1) := by decide +kernel
theorem d_U_canGather_19 : decode b_U_canGather 19 = .ok (.iconst 3, 1) := by decide +kernel
theorem d_U_canGather_20 : decode b_U_canGather 20 = .ok (.invokestatic 114, 3) := by decide +kernel
theorem d_U_canGather_23 : decode b_U_canGather 23 = .ok (.ifCond .eq 7, 3) := by decide +kernel
theorem d_U_canGather_26 : decode b_U_canGather 26 = .ok (.iconst 1, 1) := by decide +kernel
theorem d_U_canGather_27 : decode b_U_canGather 27 = .ok (.goto 4, 3) := by decide +kernel
theorem d_U_canGather_30 : decode b_U_canGather 30 = .ok (.iconst 0, 1) := by decide +kernel
theorem d_U_canGather_31 : decode b_U_canGather 31 = .ok (.ireturn, 1) := by decide +kernel
theorem d_U_isSet_0 : decode b_U_isSet 0 = .ok (.iload_n 0, 1) := by decide +kernel
theorem d_U_isSet_1 : decode b_U_isSet 1 = .ok (.iconst 0, 1) := by decide +kernel
theorem d_U_isSet_2 : decode b_U_isSet 2 = .ok (.iconst 1, 1) := by decide +kernel
theorem d_U_isSet_3 : decode b_U_isSet 3 = .ok (.iload_n 1, 1) := by decide +kernel
theorem d_U_isSet_4 : decode b_U_isSet 4 = .ok (.ishl, 1) := by decide +kernel
theorem d_U_isSet_5 : decode b_U_isSet 5 = .ok (.iconst 1, 1) := by decide +kernel
theorem d_U_isSet_6 : decode b_U_isSet 6 = .ok (.isub, 1) := by decide +kernel
theorem d_U_isSet_7 : decode b_U_isSet 7 = .ok (.invokestatic 114, 3) := by decide +kernel
theorem d_U_isSet_10 : decode b_U_isSet 10 = .ok (.ireturn, 1) := by decide +kernel
theorem d_U_answeredIfThereIs_0 : decode b_U_answeredIfThereIs 0 = .ok (.iload_n 1, 1) := by decide +kernel
theorem d_U_answeredIfThereIs_1 : decode b_U_answeredIfThereIs 1 = .ok (.iconst (-1), 1) := by decide +kernel
theorem d_U_answeredIfThereIs_2 : decode b_U_answeredIfThereIs 2 = .ok (.if_icmp .ne 12, 3) := by decide +kernel
theorem d_U_answeredIfThereIs_5 : decode b_U_answeredIfThereIs 5 = .ok (.aload_n 0, 1) := by decide +kernel
theorem d_U_answeredIfThereIs_6 : decode b_U_answeredIfThereIs 6 = .ok (.bipush 6, 2) := by decide +kernel
theorem d_U_answeredIfThereIs_8 : decode b_U_answeredIfThereIs 8 = .ok (.invokevirtual 133, 3) := by decide +kernel
theorem d_U_answeredIfThereIs_11 : decode b_U_answeredIfThereIs 11 = .ok (.goto 8, 3) := by decide +kernel
theorem d_U_answeredIfThereIs_14 : decode b_U_answeredIfThereIs 14 = .ok (.aload_n 0, 1) := by decide +kernel
theorem d_U_answeredIfThereIs_15 : decode b_U_answeredIfThereIs 15 = .ok (.iload_n 1, 1) := by decide +kernel
theorem d_U_answeredIfThereIs_16 : decode b_U_answeredIfThereIs 16 = .ok (.invokevirtual 184, 3) := by decide +kernel
theorem d_U_answeredIfThereIs_19 : decode b_U_answeredIfThereIs 19 = .ok (.ireturn, 1) := by decide +kernel
theorem d_U_gatherAt_0 : decode b_U_gatherAt 0 = .ok (.aload_n 0, 1) := by decide +kernel
theorem d_U_gatherAt_1 : decode b_U_gatherAt 1 = .ok (.iload_n 1, 1) := by decide +kernel
theorem d_U_gatherAt_2 : decode b_U_gatherAt 2 = .ok (.invokevirtual 294, 3) := by decide +kernel
theorem d_U_gatherAt_5 : decode b_U_gatherAt 5 = .ok (.ifCond .eq 7, 3) := by decide +kernel
theorem d_U_gatherAt_8 : decode b_U_gatherAt 8 = .ok (.iload_n 2, 1) := by decide +kernel
theorem d_U_gatherAt_9 : decode b_U_gatherAt 9 = .ok (.ifCond .ge 9, 3) := by decide +kernel
theorem d_U_gatherAt_12 : decode b_U_gatherAt 12 = .ok (.aload_n 0, 1) := by decide +kernel
theorem d_U_gatherAt_13 : decode b_U_gatherAt 13 = .ok (.iconst 1, 1) := by decide +kernel
theorem d_U_gatherAt_14 : decode b_U_gatherAt 14 = .ok (.invokevirtual 133, 3) := by decide +kernel
theorem d_U_gatherAt_17 : decode b_U_gatherAt 17 = .ok (.ireturn, 1) := by decide +kernel
theorem d_U_gatherAt_18 : decode b_U_gatherAt 18 = .ok (.aload_n 0, 1) := by decide +kernel
theorem d_U_gatherAt_19 : decode b_U_gatherAt 19 = .ok (.getfield 55, 3) := by decide +kernel
theorem d_U_gatherAt_22 : decode b_U_gatherAt 22 = .ok (.aload_n 0, 1) := by decide +kernel
theorem d_U_gatherAt_23 : decode b_U_gatherAt 23 = .ok (.getfield 81, 3) := by decide +kernel
theorem d_U_gatherAt_26 : decode b_U_gatherAt 26 = .ok (.iload_n 1, 1) := by decide +kernel
theorem d_U_gatherAt_27 : decode b_U_gatherAt 27 = .ok (.invokevirtual 297, 3) := by decide +kernel
theorem d_U_gatherAt_30 : decode b_U_gatherAt 30 = .ok (.istore_n 3, 1) := by decide +kernel
theorem d_U_gatherAt_31 : decode b_U_gatherAt 31 = .ok (.aload_n 0, 1) := by decide +kernel
theorem d_U_gatherAt_32 : decode b_U_gatherAt 32 = .ok (.iload_n 2, 1) := by decide +kernel
theorem d_U_gatherAt_33 : decode b_U_gatherAt 33 = .ok (.iload_n 3, 1) := by decide +kernel
theorem d_U_gatherAt_34 : decode b_U_gatherAt 34 = .ok (.if_icmp .ge 14, 3) := by decide +kernel
theorem d_U_gatherAt_37 : decode b_U_gatherAt 37 = .ok (.aload_n 0, 1) := by decide +kernel
theorem d_U_gatherAt_38 : decode b_U_gatherAt 38 = .ok (.getfield 55, 3) := by decide +kernel
theorem d_U_gatherAt_41 : decode b_U_gatherAt 41 = .ok (.iload_n 2, 1) := by decide +kernel
theorem d_U_gatherAt_42 : decode b_U_gatherAt 42 = .ok (.invokevirtual 304, 3) := by decide +kernel
theorem d_U_gatherAt_45 : decode b_U_gatherAt 45 = .ok (.goto 4, 3) := by decide +kernel
theorem d_U_gatherAt_48 : decode b_U_gatherAt 48 = .ok (.iconst (-1), 1) := by decide +kernel
theorem d_U_gatherAt_49 : decode b_U_gatherAt 49 = .ok (.invokevirtual 301, 3) := by decide +kernel
theorem d_U_gatherAt_52 : decode b_U_gatherAt 52 = .ok (.ireturn, 1) := by decide +kernel
theorem d_U_explain_0 : decode b_U_explain 0 = .ok (.iload_n 1, 1) := by decide +kernel
theorem d_U_explain_1 : decode b_U_explain 1 = .ok (.aload_n 0, 1) := by decide +kernel
theorem d_U_explain_2 : decode b_U_explain 2 = .ok (.getfield 81, 3) := by decide +kernel
theorem d_U_explain_5 : decode b_U_explain 5 = .ok (.getfield 315, 3) := by decide +kernel
theorem d_U_explain_8 : decode b_U_explain 8 = .ok (.invokestatic 307, 3) := by decide +kernel
theorem d_U_explain_11 : decode b_U_explain 11 = .ok (.ifCond .ne 9, 3) := by decide +kernel
theorem d_U_explain_14 : decode b_U_explain 14 = .ok (.aload_n 0, 1) := by decide +kernel
theorem d_U_explain_15 : decode b_U_explain 15 = .ok (.iconst 1, 1) := by decide +kernel
theorem d_U_explain_16 : decode b_U_explain 16 = .ok (.invokevirtual 133, 3) := by decide +kernel
theorem d_U_explain_19 : decode b_U_explain 19 = .ok (.ireturn, 1) := by decide +kernel
theorem d_U_explain_20 : decode b_U_explain 20 = .ok (.aload_n 0, 1) := by decide +kernel
theorem d_U_explain_21 : decode b_U_explain 21 = .ok (.getfield 62, 3) := by decide +kernel
theorem d_U_explain_24 : decode b_U_explain 24 = .ok (.aload_n 0, 1) := by decide +kernel
theorem d_U_explain_25 : decode b_U_explain 25 = .ok (.getfield 81, 3) := by decide +kernel
theorem d_U_explain_28 : decode b_U_explain 28 = .ok (.invokevirtual 318, 3) := by decide +kernel
theorem d_U_explain_31 : decode b_U_explain 31 = .ok (.aload_n 0, 1) := by decide +kernel
theorem d_U_explain_32 : decode b_U_explain 32 = .ok (.aload_n 0, 1) := by decide +kernel
theorem d_U_explain_33 : decode b_U_explain 33 = .ok (.getfield 62, 3) := by decide +kernel
theorem d_U_explain_36 : decode b_U_explain 36 = .ok (.iload_n 1, 1) := by decide +kernel
theorem d_U_explain_37 : decode b_U_explain 37 = .ok (.invokevirtual 322, 3) := by decide +kernel
theorem d_U_explain_40 : decode b_U_explain 40 = .ok (.invokevirtual 301, 3) := by decide +kernel
theorem d_U_explain_43 : decode b_U_explain 43 = .ok (.ireturn, 1) := by decide +kernel
theorem d_U_placings_0 : decode b_U_placings 0 = .ok (.aload_n 0, 1) := by decide +kernel
theorem d_U_placings_1 : decode b_U_placings 1 = .ok (.iload_n 1, 1) := by decide +kernel
theorem d_U_placings_2 : decode b_U_placings 2 = .ok (.iload_n 2, 1) := by decide +kernel
theorem d_U_placings_3 : decode b_U_placings 3 = .ok (.invokevirtual 325, 3) := by decide +kernel
theorem d_U_placings_6 : decode b_U_placings 6 = .ok (.ifCond .ne 9, 3) := by decide +kernel
theorem d_U_placings_9 : decode b_U_placings 9 = .ok (.aload_n 0, 1) := by decide +kernel
theorem d_U_placings_10 : decode b_U_placings 10 = .ok (.iconst 1, 1) := by decide +kernel
theorem d_U_placings_11 : decode b_U_placings 11 = .ok (.invokevirtual 133, 3) := by decide +kernel
theorem d_U_placings_14 : decode b_U_placings 14 = .ok (.ireturn, 1) := by decide +kernel
theorem d_U_placings_15 : decode b_U_placings 15 = .ok (.aload_n 0, 1) := by decide +kernel
theorem d_U_placings_16 : decode b_U_placings 16 = .ok (.getfield 62, 3) := by decide +kernel
theorem d_U_placings_19 : decode b_U_placings 19 = .ok (.aload_n 0, 1) := by decide +kernel
theorem d_U_placings_20 : decode b_U_placings 20 = .ok (.getfield 81, 3) := by decide +kernel
theorem d_U_placings_23 : decode b_U_placings 23 = .ok (.invokevirtual 318, 3) := by decide +kernel
theorem d_U_placings_26 : decode b_U_placings 26 = .ok (.aload_n 0, 1) := by decide +kernel
theorem d_U_placings_27 : decode b_U_placings 27 = .ok (.aload_n 0, 1) := by decide +kernel
theorem d_U_placings_28 : decode b_U_placings 28 = .ok (.getfield 62, 3) := by decide +kernel
theorem d_U_placings_31 : decode b_U_placings 31 = .ok (.iload_n 1, 1) := by decide +kernel
theorem d_U_placings_32 : decode b_U_placings 32 = .ok (.iload_n 2, 1) := by decide +kernel
theorem d_U_placings_33 : decode b_U_placings 33 = .ok (.iconst 0, 1) := by decide +kernel
theorem d_U_placings_34 : decode b_U_placings 34 = .ok (.invokevirtual 328, 3) := by decide +kernel
theorem d_U_placings_37 : decode b_U_placings 37 = .ok (.invokevirtual 184, 3) := by decide +kernel
theorem d_U_placings_40 : decode b_U_placings 40 = .ok (.ireturn, 1) := by decide +kernel
theorem d_U_isPlacing_0 : decode b_U_isPlacing 0 = .ok (.iload_n 1, 1) := by decide +kernel
theorem d_U_isPlacing_1 : decode b_U_isPlacing 1 = .ok (.aload_n 0, 1) := by decide +kernel
theorem d_U_isPlacing_2 : decode b_U_isPlacing 2 = .ok (.getfield 81, 3) := by decide +kernel
theorem d_U_isPlacing_5 : decode b_U_isPlacing 5 = .ok (.getfield 315, 3) := by decide +kernel
theorem d_U_isPlacing_8 : decode b_U_isPlacing 8 = .ok (.invokestatic 307, 3) := by decide +kernel
theorem d_U_isPlacing_11 : decode b_U_isPlacing 11 = .ok (.ifCond .eq 16, 3) := by decide +kernel
theorem d_U_isPlacing_14 : decode b_U_isPlacing 14 = .ok (.iload_n 2, 1) := by decide +kernel
theorem d_U_isPlacing_15 : decode b_U_isPlacing 15 = .ok (.iconst 0, 1) := by decide +kernel
theorem d_U_isPlacing_16 : decode b_U_isPlacing 16 = .ok (.iconst 4, 1) := by decide +kernel
theorem d_U_isPlacing_17 : decode b_U_isPlacing 17 = .ok (.invokestatic 114, 3) := by decide +kernel
theorem d_U_isPlacing_20 : decode b_U_isPlacing 20 = .ok (.ifCond .eq 7, 3) := by decide +kernel
theorem d_U_isPlacing_23 : decode b_U_isPlacing 23 = .ok (.iconst 1, 1) := by decide +kernel
theorem d_U_isPlacing_24 : decode b_U_isPlacing 24 = .ok (.goto 4, 3) := by decide +kernel
theorem d_U_isPlacing_27 : decode b_U_isPlacing 27 = .ok (.iconst 0, 1) := by decide +kernel
theorem d_U_isPlacing_28 : decode b_U_isPlacing 28 = .ok (.ireturn, 1) := by decide +kernel
theorem d_U_choose_0 : decode b_U_choose 0 = .ok (.iload_n 1, 1) := by decide +kernel
theorem d_U_choose_1 : decode b_U_choose 1 = .ok (.ifCond .lt 8, 3) := by decide +kernel
theorem d_U_choose_4 : decode b_U_choose 4 = .ok (.iload_n 1, 1) := by decide +kernel
theorem d_U_choose_5 : decode b_U_choose 5 = .ok (.iload_n 0, 1) := by decide +kernel
theorem d_U_choose_6 : decode b_U_choose 6 = .ok (.if_icmp .le 5, 3) := by decide +kernel
theorem d_U_choose_9 : decode b_U_choose 9 = .ok (.iconst 0, 1) := by decide +kernel
theorem d_U_choose_10 : decode b_U_choose 10 = .ok (.ireturn, 1) := by decide +kernel
theorem d_U_choose_11 : decode b_U_choose 11 = .ok (.iconst 1, 1) := by decide +kernel
theorem d_U_choose_12 : decode b_U_choose 12 = .ok (.istore_n 2, 1) := by decide +kernel
theorem d_U_choose_13 : decode b_U_choose 13 = .ok (.iconst 0, 1) := by decide +kernel
theorem d_U_choose_14 : decode b_U_choose 14 = .ok (.istore_n 3, 1) := by decide +kernel
theorem d_U_choose_15 : decode b_U_choose 15 = .ok (.iload_n 3, 1) := by decide +kernel
theorem d_U_choose_16 : decode b_U_choose 16 = .ok (.iload_n 1, 1) := by decide +kernel
theorem d_U_choose_17 : decode b_U_choose 17 = .ok (.if_icmp .ge 19, 3) := by decide +kernel
theorem d_U_choose_20 : decode b_U_choose 20 = .ok (.iload_n 2, 1) := by decide +kernel
theorem d_U_choose_21 : decode b_U_choose 21 = .ok (.iload_n 0, 1) := by decide +kernel
theorem d_U_choose_22 : decode b_U_choose 22 = .ok (.iload_n 3, 1) := by decide +kernel
theorem d_U_choose_23 : decode b_U_choose 23 = .ok (.isub, 1) := by decide +kernel
theorem d_U_choose_24 : decode b_U_choose 24 = .ok (.imul, 1) := by decide +kernel
theorem d_U_choose_25 : decode b_U_choose 25 = .ok (.iload_n 3, 1) := by decide +kernel
theorem d_U_choose_26 : decode b_U_choose 26 = .ok (.iconst 1, 1) := by decide +kernel
theorem d_U_choose_27 : decode b_U_choose 27 = .ok (.iadd, 1) := by decide +kernel
theorem d_U_choose_28 : decode b_U_choose 28 = .ok (.idiv, 1) := by decide +kernel
theorem d_U_choose_29 : decode b_U_choose 29 = .ok (.istore_n 2, 1) := by decide +kernel
theorem d_U_choose_30 : decode b_U_choose 30 = .ok (.iinc 3 1, 3) := by decide +kernel
theorem d_U_choose_33 : decode b_U_choose 33 = .ok (.goto (-18), 3) := by decide +kernel
theorem d_U_choose_36 : decode b_U_choose 36 = .ok (.iload_n 2, 1) := by decide +kernel
theorem d_U_choose_37 : decode b_U_choose 37 = .ok (.ireturn, 1) := by decide +kernel
theorem d_U_oddsThat_0 : decode b_U_oddsThat 0 = .ok (.aload_n 0, 1) := by decide +kernel
theorem d_U_oddsThat_1 : decode b_U_oddsThat 1 = .ok (.iload_n 1, 1) := by decide +kernel
theorem d_U_oddsThat_2 : decode b_U_oddsThat 2 = .ok (.iload_n 2, 1) := by decide +kernel
theorem d_U_oddsThat_3 : decode b_U_oddsThat 3 = .ok (.invokevirtual 325, 3) := by decide +kernel
theorem d_U_oddsThat_6 : decode b_U_oddsThat 6 = .ok (.ifCond .eq 14, 3) := by decide +kernel
theorem d_U_oddsThat_9 : decode b_U_oddsThat 9 = .ok (.aload_n 0, 1) := by decide +kernel
theorem d_U_oddsThat_10 : decode b_U_oddsThat 10 = .ok (.getfield 81, 3) := by decide +kernel
theorem d_U_oddsThat_13 : decode b_U_oddsThat 13 = .ok (.iload_n 3, 1) := by decide +kernel
theorem d_U_oddsThat_14 : decode b_U_oddsThat 14 = .ok (.invokevirtual 221, 3) := by decide +kernel
theorem d_U_oddsThat_17 : decode b_U_oddsThat 17 = .ok (.ifCond .ne 9, 3) := by decide +kernel
theorem d_U_oddsThat_20 : decode b_U_oddsThat 20 = .ok (.aload_n 0, 1) := by decide +kernel
theorem d_U_oddsThat_21 : decode b_U_oddsThat 21 = .ok (.iconst 1, 1) := by decide +kernel
theorem d_U_oddsThat_22 : decode b_U_oddsThat 22 = .ok (.invokevirtual 118, 3) := by decide +kernel
theorem d_U_oddsThat_25 : decode b_U_oddsThat 25 = .ok (.ireturn, 1) := by decide +kernel
theorem d_U_oddsThat_26 : decode b_U_oddsThat 26 = .ok (.aload_n 0, 1) := by decide +kernel
theorem d_U_oddsThat_27 : decode b_U_oddsThat 27 = .ok (.getfield 62, 3) := by decide +kernel
theorem d_U_oddsThat_30 : decode b_U_oddsThat 30 = .ok (.aload_n 0, 1) := by decide +kernel
theorem d_U_oddsThat_31 : decode b_U_oddsThat 31 = .ok (.getfield 81, 3) := by decide +kernel
theorem d_U_oddsThat_34 : decode b_U_oddsThat 34 = .ok (.invokevirtual 318, 3) := by decide +kernel
theorem d_U_oddsThat_37 : decode b_U_oddsThat 37 = .ok (.aload_n 0, 1) := by decide +kernel
theorem d_U_oddsThat_38 : decode b_U_oddsThat 38 = .ok (.getfield 62, 3) := by decide +kernel
theorem d_U_oddsThat_41 : decode b_U_oddsThat 41 = .ok (.iload_n 1, 1) := by decide +kernel
theorem d_U_oddsThat_42 : decode b_U_oddsThat 42 = .ok (.iload_n 2, 1) := by decide +kernel
theorem d_U_oddsThat_43 : decode b_U_oddsThat 43 = .ok (.iconst 0, 1) := by decide +kernel
theorem d_U_oddsThat_44 : decode b_U_oddsThat 44 = .ok (.invokevirtual 328, 3) := by decide +kernel
theorem d_U_oddsThat_47 : decode b_U_oddsThat 47 = .ok (.istore 4, 2) := by decide +kernel
theorem d_U_oddsThat_49 : decode b_U_oddsThat 49 = .ok (.iload 4, 2) := by decide +kernel
theorem d_U_oddsThat_51 : decode b_U_oddsThat 51 = .ok (.ifCond .ne 10, 3) := by decide +kernel
theorem d_U_oddsThat_54 : decode b_U_oddsThat 54 = .ok (.aload_n 0, 1) := by decide +kernel
theorem d_U_oddsThat_55 : decode b_U_oddsThat 55 = .ok (.bipush 6, 2) := by decide +kernel
theorem d_U_oddsThat_57 : decode b_U_oddsThat 57 = .ok (.invokevirtual 118, 3) := by decide +kernel
theorem d_U_oddsThat_60 : decode b_U_oddsThat 60 = .ok (.ireturn, 1) := by decide +kernel
theorem d_U_oddsThat_61 : decode b_U_oddsThat 61 = .ok (.aload_n 0, 1) := by decide +kernel
theorem d_U_oddsThat_62 : decode b_U_oddsThat 62 = .ok (.iload 4, 2) := by decide +kernel
theorem d_U_oddsThat_64 : decode b_U_oddsThat 64 = .ok (.aload_n 0, 1) := by decide +kernel
theorem d_U_oddsThat_65 : decode b_U_oddsThat 65 = .ok (.getfield 62, 3) := by decide +kernel
theorem d_U_oddsThat_68 : decode b_U_oddsThat 68 = .ok (.iload_n 1, 1) := by decide +kernel
theorem d_U_oddsThat_69 : decode b_U_oddsThat 69 = .ok (.iload_n 2, 1) := by decide +kernel
theorem d_U_oddsThat_70 : decode b_U_oddsThat 70 = .ok (.iconst 1, 1) := by decide +kernel
theorem d_U_oddsThat_71 : decode b_U_oddsThat 71 = .ok (.iload_n 3, 1) := by decide +kernel
theorem d_U_oddsThat_72 : decode b_U_oddsThat 72 = .ok (.ishl, 1) := by decide +kernel
theorem d_U_oddsThat_73 : decode b_U_oddsThat 73 = .ok (.invokevirtual 328, 3) := by decide +kernel
theorem d_U_oddsThat_76 : decode b_U_oddsThat 76 = .ok (.isub, 1) := by decide +kernel
theorem d_U_oddsThat_77 : decode b_U_oddsThat 77 = .ok (.i2l, 1) := by decide +kernel
theorem d_U_oddsThat_78 : decode b_U_oddsThat 78 = .ok (.iload 4, 2) := by decide +kernel
theorem d_U_oddsThat_80 : decode b_U_oddsThat 80 = .ok (.i2l, 1) := by decide +kernel
theorem d_U_oddsThat_81 : decode b_U_oddsThat 81 = .ok (.invokevirtual 331, 3) := by decide +kernel
theorem d_U_oddsThat_84 : decode b_U_oddsThat 84 = .ok (.aload_n 0, 1) := by decide +kernel
theorem d_U_oddsThat_85 : decode b_U_oddsThat 85 = .ok (.iconst 0, 1) := by decide +kernel
theorem d_U_oddsThat_86 : decode b_U_oddsThat 86 = .ok (.invokevirtual 118, 3) := by decide +kernel
theorem d_U_oddsThat_89 : decode b_U_oddsThat 89 = .ok (.ireturn, 1) := by decide +kernel
theorem d_U_tellFraction_0 : decode b_U_tellFraction 0 = .ok (.lload_n 1, 1) := by decide +kernel
theorem d_U_tellFraction_1 : decode b_U_tellFraction 1 = .ok (.lload_n 3, 1) := by decide +kernel
theorem d_U_tellFraction_2 : decode b_U_tellFraction 2 = .ok (.invokestatic 411, 3) := by decide +kernel
theorem d_U_tellFraction_5 : decode b_U_tellFraction 5 = .ok (.lstore 5, 2) := by decide +kernel
theorem d_U_tellFraction_7 : decode b_U_tellFraction 7 = .ok (.lload 5, 2) := by decide +kernel
theorem d_U_tellFraction_9 : decode b_U_tellFraction 9 = .ok (.lconst 0, 1) := by decide +kernel
theorem d_U_tellFraction_10 : decode b_U_tellFraction 10 = .ok (.lcmp, 1) := by decide +kernel
theorem d_U_tellFraction_11 : decode b_U_tellFraction 11 = .ok (.ifCond .le 19, 3) := by decide +kernel
theorem d_U_tellFraction_14 : decode b_U_tellFraction 14 = .ok (.aload_n 0, 1) := by decide +kernel
theorem d_U_tellFraction_15 : decode b_U_tellFraction 15 = .ok (.lload_n 1, 1) := by decide +kernel
theorem d_U_tellFraction_16 : decode b_U_tellFraction 16 = .ok (.lload 5, 2) := by decide +kernel
theorem d_U_tellFraction_18 : decode b_U_tellFraction 18 = .ok (.ldiv, 1) := by decide +kernel
theorem d_U_tellFraction_19 : decode b_U_tellFraction 19 = .ok (.putfield 102, 3) := by decide +kernel
theorem d_U_tellFraction_22 : decode b_U_tellFraction 22 = .ok (.aload_n 0, 1) := by decide +kernel
theorem d_U_tellFraction_23 : decode b_U_tellFraction 23 = .ok (.lload_n 3, 1) := by decide +kernel
theorem d_U_tellFraction_24 : decode b_U_tellFraction 24 = .ok (.lload 5, 2) := by decide +kernel
theorem d_U_tellFraction_26 : decode b_U_tellFraction 26 = .ok (.ldiv, 1) := by decide +kernel
theorem d_U_tellFraction_27 : decode b_U_tellFraction 27 = .ok (.putfield 106, 3) := by decide +kernel
theorem d_U_tellFraction_30 : decode b_U_tellFraction 30 = .ok (.return_, 1) := by decide +kernel
theorem d_U_commonDivisor_0 : decode b_U_commonDivisor 0 = .ok (.iconst 0, 1) := by decide +kernel
theorem d_U_commonDivisor_1 : decode b_U_commonDivisor 1 = .ok (.istore 4, 2) := by decide +kernel
theorem d_U_commonDivisor_3 : decode b_U_commonDivisor 3 = .ok (.iload 4, 2) := by decide +kernel
theorem d_U_commonDivisor_5 : decode b_U_commonDivisor 5 = .ok (.sipush 200, 3) := by decide +kernel
theorem d_U_commonDivisor_8 : decode b_U_commonDivisor 8 = .ok (.if_icmp .ge 25, 3) := by decide +kernel
theorem d_U_commonDivisor_11 : decode b_U_commonDivisor 11 = .ok (.lload_n 2, 1) := by decide +kernel
theorem d_U_commonDivisor_12 : decode b_U_commonDivisor 12 = .ok (.lconst 0, 1) := by decide +kernel
theorem d_U_commonDivisor_13 : decode b_U_commonDivisor 13 = .ok (.lcmp, 1) := by decide +kernel
theorem d_U_commonDivisor_14 : decode b_U_commonDivisor 14 = .ok (.ifCond .eq 19, 3) := by decide +kernel
theorem d_U_commonDivisor_17 : decode b_U_commonDivisor 17 = .ok (.lload_n 0, 1) := by decide +kernel
theorem d_U_commonDivisor_18 : decode b_U_commonDivisor 18 = .ok (.lload_n 2, 1) := by decide +kernel
theorem d_U_commonDivisor_19 : decode b_U_commonDivisor 19 = .ok (.lrem, 1) := by decide +kernel
theorem d_U_commonDivisor_20 : decode b_U_commonDivisor 20 = .ok (.lstore 5, 2) := by decide +kernel
theorem d_U_commonDivisor_22 : decode b_U_commonDivisor 22 = .ok (.lload_n 2, 1) := by decide +kernel
theorem d_U_commonDivisor_23 : decode b_U_commonDivisor 23 = .ok (.lstore_n 0, 1) := by decide +kernel
theorem d_U_commonDivisor_24 : decode b_U_commonDivisor 24 = .ok (.lload 5, 2) := by decide +kernel
theorem d_U_commonDivisor_26 : decode b_U_commonDivisor 26 = .ok (.lstore_n 2, 1) := by decide +kernel
theorem d_U_commonDivisor_27 : decode b_U_commonDivisor 27 = .ok (.iinc 4 1, 3) := by decide +kernel
theorem d_U_commonDivisor_30 : decode b_U_commonDivisor 30 = .ok (.goto (-27), 3) := by decide +kernel
theorem d_U_commonDivisor_33 : decode b_U_commonDivisor 33 = .ok (.lload_n 0, 1) := by decide +kernel
theorem d_U_commonDivisor_34 : decode b_U_commonDivisor 34 = .ok (.lreturn, 1) := by decide +kernel
theorem d_U_aim_0 : decode b_U_aim 0 = .ok (.aload_n 0, 1) := by decide +kernel
theorem d_U_aim_1 : decode b_U_aim 1 = .ok (.iload_n 1, 1) := by decide +kernel
theorem d_U_aim_2 : decode b_U_aim 2 = .ok (.iload_n 2, 1) := by decide +kernel
theorem d_U_aim_3 : decode b_U_aim 3 = .ok (.invokevirtual 325, 3) := by decide +kernel
theorem d_U_aim_6 : decode b_U_aim 6 = .ok (.ifCond .ne 9, 3) := by decide +kernel
theorem d_U_aim_9 : decode b_U_aim 9 = .ok (.aload_n 0, 1) := by decide +kernel
theorem d_U_aim_10 : decode b_U_aim 10 = .ok (.iconst 1, 1) := by decide +kernel
theorem d_U_aim_11 : decode b_U_aim 11 = .ok (.invokevirtual 133, 3) := by decide +kernel
theorem d_U_aim_14 : decode b_U_aim 14 = .ok (.ireturn, 1) := by decide +kernel
theorem d_U_aim_15 : decode b_U_aim 15 = .ok (.aload_n 0, 1) := by decide +kernel
theorem d_U_aim_16 : decode b_U_aim 16 = .ok (.getfield 62, 3) := by decide +kernel
theorem d_U_aim_19 : decode b_U_aim 19 = .ok (.aload_n 0, 1) := by decide +kernel
theorem d_U_aim_20 : decode b_U_aim 20 = .ok (.getfield 81, 3) := by decide +kernel
theorem d_U_aim_23 : decode b_U_aim 23 = .ok (.invokevirtual 318, 3) := by decide +kernel
theorem d_U_aim_26 : decode b_U_aim 26 = .ok (.aload_n 0, 1) := by decide +kernel
theorem d_U_aim_27 : decode b_U_aim 27 = .ok (.aload_n 0, 1) := by decide +kernel
theorem d_U_aim_28 : decode b_U_aim 28 = .ok (.getfield 62, 3) := by decide +kernel
theorem d_U_aim_31 : decode b_U_aim 31 = .ok (.aload_n 0, 1) := by decide +kernel
theorem d_U_aim_32 : decode b_U_aim 32 = .ok (.getfield 81, 3) := by decide +kernel
theorem d_U_aim_35 : decode b_U_aim 35 = .ok (.iload_n 1, 1) := by decide +kernel
theorem d_U_aim_36 : decode b_U_aim 36 = .ok (.iload_n 2, 1) := by decide +kernel
theorem d_U_aim_37 : decode b_U_aim 37 = .ok (.invokevirtual 335, 3) := by decide +kernel
theorem d_U_aim_40 : decode b_U_aim 40 = .ok (.invokevirtual 301, 3) := by decide +kernel
theorem d_U_aim_43 : decode b_U_aim 43 = .ok (.ireturn, 1) := by decide +kernel
theorem d_U_cover_0 : decode b_U_cover 0 = .ok (.aload_n 0, 1) := by decide +kernel
theorem d_U_cover_1 : decode b_U_cover 1 = .ok (.iload_n 1, 1) := by decide +kernel
theorem d_U_cover_2 : decode b_U_cover 2 = .ok (.iload_n 2, 1) := by decide +kernel
theorem d_U_cover_3 : decode b_U_cover 3 = .ok (.invokevirtual 339, 3) := by decide +kernel
theorem d_U_cover_6 : decode b_U_cover 6 = .ok (.istore_n 3, 1) := by decide +kernel
theorem d_U_cover_7 : decode b_U_cover 7 = .ok (.iload_n 3, 1) := by decide +kernel
theorem d_U_cover_8 : decode b_U_cover 8 = .ok (.ifCond .ne 17, 3) := by decide +kernel
theorem d_U_cover_11 : decode b_U_cover 11 = .ok (.aload_n 0, 1) := by decide +kernel
theorem d_U_cover_12 : decode b_U_cover 12 = .ok (.aload_n 0, 1) := by decide +kernel
theorem d_U_cover_13 : decode b_U_cover 13 = .ok (.getfield 69, 3) := by decide +kernel
theorem d_U_cover_16 : decode b_U_cover 16 = .ok (.invokevirtual 342, 3) := by decide +kernel
theorem d_U_cover_19 : decode b_U_cover 19 = .ok (.invokevirtual 184, 3) := by decide +kernel
theorem d_U_cover_22 : decode b_U_cover 22 = .ok (.goto 8, 3) := by decide +kernel
theorem d_U_cover_25 : decode b_U_cover 25 = .ok (.aload_n 0, 1) := by decide +kernel
theorem d_U_cover_26 : decode b_U_cover 26 = .ok (.iload_n 3, 1) := by decide +kernel
theorem d_U_cover_27 : decode b_U_cover 27 = .ok (.invokevirtual 133, 3) := by decide +kernel
theorem d_U_cover_30 : decode b_U_cover 30 = .ok (.ireturn, 1) := by decide +kernel
theorem d_U_coverStatus_0 : decode b_U_coverStatus 0 = .ok (.iload_n 2, 1) := by decide +kernel
theorem d_U_coverStatus_1 : decode b_U_coverStatus 1 = .ok (.iconst 0, 1) := by decide +kernel
theorem d_U_coverStatus_2 : decode b_U_coverStatus 2 = .ok (.bipush 8, 2) := by decide +kernel
theorem d_U_coverStatus_4 : decode b_U_coverStatus 4 = .ok (.invokestatic 114, 3) := by decide +kernel
theorem d_U_coverStatus_7 : decode b_U_coverStatus 7 = .ok (.ifCond .ne 5, 3) := by decide +kernel
theorem d_U_coverStatus_10 : decode b_U_coverStatus 10 = .ok (.iconst 1, 1) := by decide +kernel
theorem d_U_coverStatus_11 : decode b_U_coverStatus 11 = .ok (.ireturn, 1) := by decide +kernel
theorem d_U_coverStatus_12 : decode b_U_coverStatus 12 = .ok (.aload_n 0, 1) := by decide +kernel
theorem d_U_coverStatus_13 : decode b_U_coverStatus 13 = .ok (.iload_n 1, 1) := by decide +kernel
theorem d_U_coverStatus_14 : decode b_U_coverStatus 14 = .ok (.iload_n 2, 1) := by decide +kernel
theorem d_U_coverStatus_15 : decode b_U_coverStatus 15 = .ok (.invokevirtual 161, 3) := by decide +kernel
theorem d_U_coverStatus_18 : decode b_U_coverStatus 18 = .ok (.istore_n 3, 1) := by decide +kernel
theorem d_U_coverStatus_19 : decode b_U_coverStatus 19 = .ok (.iload_n 3, 1) := by decide +kernel
theorem d_U_coverStatus_20 : decode b_U_coverStatus 20 = .ok (.ifCond .eq 5, 3) := by decide +kernel
theorem d_U_coverStatus_23 : decode b_U_coverStatus 23 = .ok (.iload_n 3, 1) := by decide +kernel
theorem d_U_coverStatus_24 : decode b_U_coverStatus 24 = .ok (.ireturn, 1) := by decide +kernel
theorem d_U_coverStatus_25 : decode b_U_coverStatus 25 = .ok (.aload_n 0, 1) := by decide +kernel
theorem d_U_coverStatus_26 : decode b_U_coverStatus 26 = .ok (.getfield 69, 3) := by decide +kernel
theorem d_U_coverStatus_29 : decode b_U_coverStatus 29 = .ok (.aload_n 0, 1) := by decide +kernel
theorem d_U_coverStatus_30 : decode b_U_coverStatus 30 = .ok (.getfield 81, 3) := by decide +kernel
theorem d_U_coverStatus_33 : decode b_U_coverStatus 33 = .ok (.aload_n 0, 1) := by decide +kernel
theorem d_U_coverStatus_34 : decode b_U_coverStatus 34 = .ok (.getfield 11, 3) := by decide +kernel
theorem d_U_coverStatus_37 : decode b_U_coverStatus 37 = .ok (.iload_n 1, 1) := by decide +kernel
theorem d_U_coverStatus_38 : decode b_U_coverStatus 38 = .ok (.aaload, 1) := by decide +kernel
theorem d_U_coverStatus_39 : decode b_U_coverStatus 39 = .ok (.iload_n 2, 1) := by decide +kernel
theorem d_U_coverStatus_40 : decode b_U_coverStatus 40 = .ok (.invokevirtual 348, 3) := by decide +kernel
theorem d_U_coverStatus_43 : decode b_U_coverStatus 43 = .ok (.ifCond .eq 7, 3) := by decide +kernel
theorem d_U_coverStatus_46 : decode b_U_coverStatus 46 = .ok (.iconst 0, 1) := by decide +kernel
theorem d_U_coverStatus_47 : decode b_U_coverStatus 47 = .ok (.goto 4, 3) := by decide +kernel
theorem d_U_coverStatus_50 : decode b_U_coverStatus 50 = .ok (.iconst 5, 1) := by decide +kernel
theorem d_U_coverStatus_51 : decode b_U_coverStatus 51 = .ok (.ireturn, 1) := by decide +kernel
theorem d_U_coverAt_0 : decode b_U_coverAt 0 = .ok (.iload_n 3, 1) := by decide +kernel
theorem d_U_coverAt_1 : decode b_U_coverAt 1 = .ok (.ifCond .ge 7, 3) := by decide +kernel
theorem d_U_coverAt_4 : decode b_U_coverAt 4 = .ok (.iconst 1, 1) := by decide +kernel
theorem d_U_coverAt_5 : decode b_U_coverAt 5 = .ok (.goto 9, 3) := by decide +kernel
theorem d_U_coverAt_8 : decode b_U_coverAt 8 = .ok (.aload_n 0, 1) := by decide +kernel
theorem d_U_coverAt_9 : decode b_U_coverAt 9 = .ok (.iload_n 1, 1) := by decide +kernel
theorem d_U_coverAt_10 : decode b_U_coverAt 10 = .ok (.iload_n 2, 1) := by decide +kernel
theorem d_U_coverAt_11 : decode b_U_coverAt 11 = .ok (.invokevirtual 339, 3) := by decide +kernel
theorem d_U_coverAt_14 : decode b_U_coverAt 14 = .ok (.istore 4, 2) := by decide +kernel
theorem d_U_coverAt_16 : decode b_U_coverAt 16 = .ok (.iload 4, 2) := by decide +kernel
theorem d_U_coverAt_18 : decode b_U_coverAt 18 = .ok (.ifCond .eq 10, 3) := by decide +kernel
theorem d_U_coverAt_21 : decode b_U_coverAt 21 = .ok (.aload_n 0, 1) := by decide +kernel
theorem d_U_coverAt_22 : decode b_U_coverAt 22 = .ok (.iload 4, 2) := by decide +kernel
theorem d_U_coverAt_24 : decode b_U_coverAt 24 = .ok (.invokevirtual 133, 3) := by decide +kernel
theorem d_U_coverAt_27 : decode b_U_coverAt 27 = .ok (.ireturn, 1) := by decide +kernel
theorem d_U_coverAt_28 : decode b_U_coverAt 28 = .ok (.aload_n 0, 1) := by decide +kernel
theorem d_U_coverAt_29 : decode b_U_coverAt 29 = .ok (.iload_n 3, 1) := by decide +kernel
theorem d_U_coverAt_30 : decode b_U_coverAt 30 = .ok (.aload_n 0, 1) := by decide +kernel
theorem d_U_coverAt_31 : decode b_U_coverAt 31 = .ok (.getfield 69, 3) := by decide +kernel
theorem d_U_coverAt_34 : decode b_U_coverAt 34 = .ok (.invokevirtual 342, 3) := by decide +kernel
theorem d_U_coverAt_37 : decode b_U_coverAt 37 = .ok (.if_icmp .ge 14, 3) := by decide +kernel
theorem d_U_coverAt_40 : decode b_U_coverAt 40 = .ok (.aload_n 0, 1) := by decide +kernel
theorem d_U_coverAt_41 : decode b_U_coverAt 41 = .ok (.getfield 69, 3) := by decide +kernel
theorem d_U_coverAt_44 : decode b_U_coverAt 44 = .ok (.iload_n 3, 1) := by decide +kernel
theorem d_U_coverAt_45 : decode b_U_coverAt 45 = .ok (.invokevirtual 345, 3) := by decide +kernel
theorem d_U_coverAt_48 : decode b_U_coverAt 48 = .ok (.goto 4, 3) := by decide +kernel
theorem d_U_coverAt_51 : decode b_U_coverAt 51 = .ok (.iconst (-1), 1) := by decide +kernel
theorem d_U_coverAt_52 : decode b_U_coverAt 52 = .ok (.invokevirtual 301, 3) := by decide +kernel
theorem d_U_coverAt_55 : decode b_U_coverAt 55 = .ok (.ireturn, 1) := by decide +kernel
theorem d_U_fits_0 : decode b_U_fits 0 = .ok (.aload_n 0, 1) := by decide +kernel
theorem d_U_fits_1 : decode b_U_fits 1 = .ok (.iload_n 1, 1) := by decide +kernel
theorem d_U_fits_2 : decode b_U_fits 2 = .ok (.iload_n 2, 1) := by decide +kernel
theorem d_U_fits_3 : decode b_U_fits 3 = .ok (.iload_n 3, 1) := by decide +kernel
theorem d_U_fits_4 : decode b_U_fits 4 = .ok (.invokevirtual 352, 3) := by decide +kernel
theorem d_U_fits_7 : decode b_U_fits 7 = .ok (.istore 4, 2) := by decide +kernel
theorem d_U_fits_9 : decode b_U_fits 9 = .ok (.iload 4, 2) := by decide +kernel
theorem d_U_fits_11 : decode b_U_fits 11 = .ok (.ifCond .eq 10, 3) := by decide +kernel
theorem d_U_fits_14 : decode b_U_fits 14 = .ok (.aload_n 0, 1) := by decide +kernel
theorem d_U_fits_15 : decode b_U_fits 15 = .ok (.iload 4, 2) := by decide +kernel
theorem d_U_fits_17 : decode b_U_fits 17 = .ok (.invokevirtual 133, 3) := by decide +kernel
theorem d_U_fits_20 : decode b_U_fits 20 = .ok (.ireturn, 1) := by decide +kernel
theorem d_U_fits_21 : decode b_U_fits 21 = .ok (.iconst 0, 1) := by decide +kernel
theorem d_U_fits_22 : decode b_U_fits 22 = .ok (.istore 5, 2) := by decide +kernel
theorem d_U_fits_24 : decode b_U_fits 24 = .ok (.iconst 0, 1) := by decide +kernel
theorem d_U_fits_25 : decode b_U_fits 25 = .ok (.istore 6, 2) := by decide +kernel
theorem d_U_fits_27 : decode b_U_fits 27 = .ok (.iload 6, 2) := by decide +kernel
theorem d_U_fits_29 : decode b_U_fits 29 = .ok (.iconst 1, 1) := by decide +kernel
theorem d_U_fits_30 : decode b_U_fits 30 = .ok (.aload_n 0, 1) := by decide +kernel
theorem d_U_fits_31 : decode b_U_fits 31 = .ok (.getfield 81, 3) := by decide +kernel
theorem d_U_fits_34 : decode b_U_fits 34 = .ok (.getfield 355, 3) := by decide +kernel
theorem d_U_fits_37 : decode b_U_fits 37 = .ok (.ishl, 1) := by decide +kernel
theorem d_U_fits_38 : decode b_U_fits 38 = .ok (.if_icmp .ge 29, 3) := by decide +kernel
theorem d_U_fits_41 : decode b_U_fits 41 = .ok (.aload_n 0, 1) := by decide +kernel
theorem d_U_fits_42 : decode b_U_fits 42 = .ok (.iload 6, 2) := by decide +kernel
theorem d_U_fits_44 : decode b_U_fits 44 = .ok (.iload_n 1, 1) := by decide +kernel
theorem d_U_fits_45 : decode b_U_fits 45 = .ok (.aload_n 0, 1) := by decide +kernel
theorem d_U_fits_46 : decode b_U_fits 46 = .ok (.getfield 11, 3) := by decide +kernel
theorem d_U_fits_49 : decode b_U_fits 49 = .ok (.iload_n 2, 1) := by decide +kernel
theorem d_U_fits_50 : decode b_U_fits 50 = .ok (.aaload, 1) := by decide +kernel
theorem d_U_fits_51 : decode b_U_fits 51 = .ok (.iload_n 3, 1) := by decide +kernel
theorem d_U_fits_52 : decode b_U_fits 52 = .ok (.invokevirtual 358, 3) := by decide +kernel
theorem d_U_fits_55 : decode b_U_fits 55 = .ok (.ifCond .eq 6, 3) := by decide +kernel
theorem d_U_fits_58 : decode b_U_fits 58 = .ok (.iinc 5 1, 3) := by decide +kernel
theorem d_U_fits_61 : decode b_U_fits 61 = .ok (.iinc 6 1, 3) := by decide +kernel
theorem d_U_fits_64 : decode b_U_fits 64 = .ok (.goto (-37), 3) := by decide +kernel
theorem d_U_fits_67 : decode b_U_fits 67 = .ok (.aload_n 0, 1) := by decide +kernel
theorem d_U_fits_68 : decode b_U_fits 68 = .ok (.iload 5, 2) := by decide +kernel
theorem d_U_fits_70 : decode b_U_fits 70 = .ok (.invokevirtual 184, 3) := by decide +kernel
theorem d_U_fits_73 : decode b_U_fits 73 = .ok (.ireturn, 1) := by decide +kernel
theorem d_U_fitStatus_0 : decode b_U_fitStatus 0 = .ok (.aload_n 0, 1) := by decide +kernel
theorem d_U_fitStatus_1 : decode b_U_fitStatus 1 = .ok (.getfield 81, 3) := by decide +kernel
theorem d_U_fitStatus_4 : decode b_U_fitStatus 4 = .ok (.iload_n 1, 1) := by decide +kernel
theorem d_U_fitStatus_5 : decode b_U_fitStatus 5 = .ok (.invokevirtual 205, 3) := by decide +kernel
theorem d_U_fitStatus_8 : decode b_U_fitStatus 8 = .ok (.ifCond .eq 13, 3) := by decide +kernel
theorem d_U_fitStatus_11 : decode b_U_fitStatus 11 = .ok (.iload_n 3, 1) := by decide +kernel
theorem d_U_fitStatus_12 : decode b_U_fitStatus 12 = .ok (.iconst 0, 1) := by decide +kernel
theorem d_U_fitStatus_13 : decode b_U_fitStatus 13 = .ok (.bipush 20, 2) := by decide +kernel
theorem d_U_fitStatus_15 : decode b_U_fitStatus 15 = .ok (.invokestatic 114, 3) := by decide +kernel
theorem d_U_fitStatus_18 : decode b_U_fitStatus 18 = .ok (.ifCond .ne 5, 3) := by decide +kernel
theorem d_U_fitStatus_21 : decode b_U_fitStatus 21 = .ok (.iconst 1, 1) := by decide +kernel
theorem d_U_fitStatus_22 : decode b_U_fitStatus 22 = .ok (.ireturn, 1) := by decide +kernel
theorem d_U_fitStatus_23 : decode b_U_fitStatus 23 = .ok (.aload_n 0, 1) := by decide +kernel
theorem d_U_fitStatus_24 : decode b_U_fitStatus 24 = .ok (.iload_n 2, 1) := by decide +kernel
theorem d_U_fitStatus_25 : decode b_U_fitStatus 25 = .ok (.iconst 2, 1) := by decide +kernel
theorem d_U_fitStatus_26 : decode b_U_fitStatus 26 = .ok (.iload_n 3, 1) := by decide +kernel
theorem d_U_fitStatus_27 : decode b_U_fitStatus 27 = .ok (.imul, 1) := by decide +kernel
theorem d_U_fitStatus_28 : decode b_U_fitStatus 28 = .ok (.invokevirtual 161, 3) := by decide +kernel
theorem d_U_fitStatus_31 : decode b_U_fitStatus 31 = .ok (.istore 4, 2) := by decide +kernel
theorem d_U_fitStatus_33 : decode b_U_fitStatus 33 = .ok (.iload 4, 2) := by decide +kernel
theorem d_U_fitStatus_35 : decode b_U_fitStatus 35 = .ok (.ifCond .eq 6, 3) := by decide +kernel
theorem d_U_fitStatus_38 : decode b_U_fitStatus 38 = .ok (.iload 4, 2) := by decide +kernel
theorem d_U_fitStatus_40 : decode b_U_fitStatus 40 = .ok (.ireturn, 1) := by decide +kernel
theorem d_U_fitStatus_41 : decode b_U_fitStatus 41 = .ok (.iconst 0, 1) := by decide +kernel
theorem d_U_fitStatus_42 : decode b_U_fitStatus 42 = .ok (.istore 5, 2) := by decide +kernel
theorem d_U_fitStatus_44 : decode b_U_fitStatus 44 = .ok (.iload 5, 2) := by decide +kernel
theorem d_U_fitStatus_46 : decode b_U_fitStatus 46 = .ok (.iload_n 3, 1) := by decide +kernel
theorem d_U_fitStatus_47 : decode b_U_fitStatus 47 = .ok (.if_icmp .ge 80, 3) := by decide +kernel
theorem d_U_fitStatus_50 : decode b_U_fitStatus 50 = .ok (.aload_n 0, 1) := by decide +kernel
theorem d_U_fitStatus_51 : decode b_U_fitStatus 51 = .ok (.getfield 11, 3) := by decide +kernel
theorem d_U_fitStatus_54 : decode b_U_fitStatus 54 = .ok (.iload_n 2, 1) := by decide +kernel
theorem d_U_fitStatus_55 : decode b_U_fitStatus 55 = .ok (.aaload, 1) := by decide +kernel
theorem d_U_fitStatus_56 : decode b_U_fitStatus 56 = .ok (.iconst 2, 1) := by decide +kernel
theorem d_U_fitStatus_57 : decode b_U_fitStatus 57 = .ok (.iload 5, 2) := by decide +kernel
theorem d_U_fitStatus_59 : decode b_U_fitStatus 59 = .ok (.imul, 1) := by decide +kernel
theorem d_U_fitStatus_60 : decode b_U_fitStatus 60 = .ok (.invokevirtual 137, 3) := by decide +kernel
theorem d_U_fitStatus_63 : decode b_U_fitStatus 63 = .ok (.lstore 6, 2) := by decide +kernel
theorem d_U_fitStatus_65 : decode b_U_fitStatus 65 = .ok (.aload_n 0, 1) := by decide +kernel
theorem d_U_fitStatus_66 : decode b_U_fitStatus 66 = .ok (.getfield 11, 3) := by decide +kernel
theorem d_U_fitStatus_69 : decode b_U_fitStatus 69 = .ok (.iload_n 2, 1) := by decide +kernel
theorem d_U_fitStatus_70 : decode b_U_fitStatus 70 = .ok (.aaload, 1) := by decide +kernel
theorem d_U_fitStatus_71 : decode b_U_fitStatus 71 = .ok (.iconst 2, 1) := by decide +kernel
theorem d_U_fitStatus_72 : decode b_U_fitStatus 72 = .ok (.iload 5, 2) := by decide +kernel
theorem d_U_fitStatus_74 : decode b_U_fitStatus 74 = .ok (.imul, 1) := by decide +kernel
theorem d_U_fitStatus_75 : decode b_U_fitStatus 75 = .ok (.iconst 1, 1) := by decide +kernel
theorem d_U_fitStatus_76 : decode b_U_fitStatus 76 = .ok (.iadd, 1) := by decide +kernel
theorem d_U_fitStatus_77 : decode b_U_fitStatus 77 = .ok (.invokevirtual 137, 3) := by decide +kernel
theorem d_U_fitStatus_80 : decode b_U_fitStatus 80 = .ok (.lstore 8, 2) := by decide +kernel
theorem d_U_fitStatus_82 : decode b_U_fitStatus 82 = .ok (.lload 6, 2) := by decide +kernel
theorem d_U_fitStatus_84 : decode b_U_fitStatus 84 = .ok (.lconst 0, 1) := by decide +kernel
theorem d_U_fitStatus_85 : decode b_U_fitStatus 85 = .ok (.lcmp, 1) := by decide +kernel
theorem d_U_fitStatus_86 : decode b_U_fitStatus 86 = .ok (.ifCond .lt 33, 3) := by decide +kernel
theorem d_U_fitStatus_89 : decode b_U_fitStatus 89 = .ok (.lload 6, 2) := by decide +kernel
theorem d_U_fitStatus_91 : decode b_U_fitStatus 91 = .ok (.aload_n 0, 1) := by decide +kernel
theorem d_U_fitStatus_92 : decode b_U_fitStatus 92 = .ok (.getfield 81, 3) := by decide +kernel
theorem d_U_fitStatus_95 : decode b_U_fitStatus 95 = .ok (.getfield 355, 3) := by decide +kernel
theorem d_U_fitStatus_98 : decode b_U_fitStatus 98 = .ok (.i2l, 1) := by decide +kernel
theorem d_U_fitStatus_99 : decode b_U_fitStatus 99 = .ok (.lcmp, 1) := by decide +kernel
theorem d_U_fitStatus_100 : decode b_U_fitStatus 100 = .ok (.ifCond .ge 19, 3) := by decide +kernel
theorem d_U_fitStatus_103 : decode b_U_fitStatus 103 = .ok (.lload 8, 2) := by decide +kernel
theorem d_U_fitStatus_105 : decode b_U_fitStatus 105 = .ok (.lconst 0, 1) := by decide +kernel
theorem d_U_fitStatus_106 : decode b_U_fitStatus 106 = .ok (.lcmp, 1) := by decide +kernel
theorem d_U_fitStatus_107 : decode b_U_fitStatus 107 = .ok (.ifCond .lt 12, 3) := by decide +kernel
theorem d_U_fitStatus_110 : decode b_U_fitStatus 110 = .ok (.lload 8, 2) := by decide +kernel
theorem d_U_fitStatus_112 : decode b_U_fitStatus 112 = .ok (.ldc2_w 362, 3) := by decide +kernel
theorem d_U_fitStatus_115 : decode b_U_fitStatus 115 = .ok (.lcmp, 1) := by decide +kernel
theorem d_U_fitStatus_116 : decode b_U_fitStatus 116 = .ok (.ifCond .le 5, 3) := by decide +kernel
theorem d_U_fitStatus_119 : decode b_U_fitStatus 119 = .ok (.iconst 5, 1) := by decide +kernel
theorem d_U_fitStatus_120 : decode b_U_fitStatus 120 = .ok (.ireturn, 1) := by decide +kernel
theorem d_U_fitStatus_121 : decode b_U_fitStatus 121 = .ok (.iinc 5 1, 3) := by decide +kernel
theorem d_U_fitStatus_124 : decode b_U_fitStatus 124 = .ok (.goto (-80), 3) := by decide +kernel
theorem d_U_fitStatus_127 : decode b_U_fitStatus 127 = .ok (.iconst 0, 1) := by decide +kernel
theorem d_U_fitStatus_128 : decode b_U_fitStatus 128 = .ok (.ireturn, 1) := by decide +kernel
theorem d_U_doesFit_0 : decode b_U_doesFit 0 = .ok (.aload_n 0, 1) := by decide +kernel
theorem d_U_doesFit_1 : decode b_U_doesFit 1 = .ok (.getfield 81, 3) := by decide +kernel
theorem d_U_doesFit_4 : decode b_U_doesFit 4 = .ok (.iload_n 2, 1) := by decide +kernel
theorem d_U_doesFit_5 : decode b_U_doesFit 5 = .ok (.invokevirtual 291, 3) := by decide +kernel
theorem d_U_doesFit_8 : decode b_U_doesFit 8 = .ok (.istore 5, 2) := by decide +kernel
theorem d_U_doesFit_10 : decode b_U_doesFit 10 = .ok (.iconst 0, 1) := by decide +kernel
theorem d_U_doesFit_11 : decode b_U_doesFit 11 = .ok (.istore 6, 2) := by decide +kernel
theorem d_U_doesFit_13 : decode b_U_doesFit 13 = .ok (.iload 6, 2) := by decide +kernel
theorem d_U_doesFit_15 : decode b_U_doesFit 15 = .ok (.iload 4, 2) := by decide +kernel
theorem d_U_doesFit_17 : decode b_U_doesFit 17 = .ok (.if_icmp .ge 57, 3) := by decide +kernel
theorem d_U_doesFit_20 : decode b_U_doesFit 20 = .ok (.aload_n 3, 1) := by decide +kernel
theorem d_U_doesFit_21 : decode b_U_doesFit 21 = .ok (.iconst 2, 1) := by decide +kernel
theorem d_U_doesFit_22 : decode b_U_doesFit 22 = .ok (.iload 6, 2) := by decide +kernel
theorem d_U_doesFit_24 : decode b_U_doesFit 24 = .ok (.imul, 1) := by decide +kernel
theorem d_U_doesFit_25 : decode b_U_doesFit 25 = .ok (.invokevirtual 137, 3) := by decide +kernel
theorem d_U_doesFit_28 : decode b_U_doesFit 28 = .ok (.l2i, 1) := by decide +kernel
theorem d_U_doesFit_29 : decode b_U_doesFit 29 = .ok (.istore 7, 2) := by decide +kernel
theorem d_U_doesFit_31 : decode b_U_doesFit 31 = .ok (.iload 5, 2) := by decide +kernel
theorem d_U_doesFit_33 : decode b_U_doesFit 33 = .ok (.ifCond .le 16, 3) := by decide +kernel
theorem d_U_doesFit_36 : decode b_U_doesFit 36 = .ok (.iload_n 1, 1) := by decide +kernel
theorem d_U_doesFit_37 : decode b_U_doesFit 37 = .ok (.iload 7, 2) := by decide +kernel
theorem d_U_doesFit_39 : decode b_U_doesFit 39 = .ok (.ishr, 1) := by decide +kernel
theorem d_U_doesFit_40 : decode b_U_doesFit 40 = .ok (.iconst 1, 1) := by decide +kernel
theorem d_U_doesFit_41 : decode b_U_doesFit 41 = .ok (.iand, 1) := by decide +kernel
theorem d_U_doesFit_42 : decode b_U_doesFit 42 = .ok (.iconst 1, 1) := by decide +kernel
theorem d_U_doesFit_43 : decode b_U_doesFit 43 = .ok (.if_icmp .ne 6, 3) := by decide +kernel
theorem d_U_doesFit_46 : decode b_U_doesFit 46 = .ok (.iinc 5 (-1), 3) := by decide +kernel
theorem d_U_doesFit_49 : decode b_U_doesFit 49 = .ok (.iload 5, 2) := by decide +kernel
theorem d_U_doesFit_51 : decode b_U_doesFit 51 = .ok (.i2l, 1) := by decide +kernel
theorem d_U_doesFit_52 : decode b_U_doesFit 52 = .ok (.aload_n 3, 1) := by decide +kernel
theorem d_U_doesFit_53 : decode b_U_doesFit 53 = .ok (.iconst 2, 1) := by decide +kernel
theorem d_U_doesFit_54 : decode b_U_doesFit 54 = .ok (.iload 6, 2) := by decide +kernel
theorem d_U_doesFit_56 : decode b_U_doesFit 56 = .ok (.imul, 1) := by decide +kernel
theorem d_U_doesFit_57 : decode b_U_doesFit 57 = .ok (.iconst 1, 1) := by decide +kernel
theorem d_U_doesFit_58 : decode b_U_doesFit 58 = .ok (.iadd, 1) := by decide +kernel
theorem d_U_doesFit_59 : decode b_U_doesFit 59 = .ok (.invokevirtual 137, 3) := by decide +kernel
theorem d_U_doesFit_62 : decode b_U_doesFit 62 = .ok (.lcmp, 1) := by decide +kernel
theorem d_U_doesFit_63 : decode b_U_doesFit 63 = .ok (.ifCond .eq 5, 3) := by decide +kernel
theorem d_U_doesFit_66 : decode b_U_doesFit 66 = .ok (.iconst 0, 1) := by decide +kernel
theorem d_U_doesFit_67 : decode b_U_doesFit 67 = .ok (.ireturn, 1) := by decide +kernel
theorem d_U_doesFit_68 : decode b_U_doesFit 68 = .ok (.iinc 6 1, 3) := by decide +kernel
theorem d_U_doesFit_71 : decode b_U_doesFit 71 = .ok (.goto (-58), 3) := by decide +kernel
theorem d_U_doesFit_74 : decode b_U_doesFit 74 = .ok (.iconst 1, 1) := by decide +kernel
theorem d_U_doesFit_75 : decode b_U_doesFit 75 = .ok (.ireturn, 1) := by decide +kernel
theorem d_U_sure_0 : decode b_U_sure 0 = .ok (.aload_n 0, 1) := by decide +kernel
theorem d_U_sure_1 : decode b_U_sure 1 = .ok (.iload_n 1, 1) := by decide +kernel
theorem d_U_sure_2 : decode b_U_sure 2 = .ok (.iload_n 2, 1) := by decide +kernel
theorem d_U_sure_3 : decode b_U_sure 3 = .ok (.iload_n 3, 1) := by decide +kernel
theorem d_U_sure_4 : decode b_U_sure 4 = .ok (.invokevirtual 352, 3) := by decide +kernel
theorem d_U_sure_7 : decode b_U_sure 7 = .ok (.istore 4, 2) := by decide +kernel
theorem d_U_sure_9 : decode b_U_sure 9 = .ok (.iload 4, 2) := by decide +kernel
theorem d_U_sure_11 : decode b_U_sure 11 = .ok (.ifCond .eq 10, 3) := by decide +kernel
theorem d_U_sure_14 : decode b_U_sure 14 = .ok (.aload_n 0, 1) := by decide +kernel
theorem d_U_sure_15 : decode b_U_sure 15 = .ok (.iload 4, 2) := by decide +kernel
theorem d_U_sure_17 : decode b_U_sure 17 = .ok (.invokevirtual 133, 3) := by decide +kernel
theorem d_U_sure_20 : decode b_U_sure 20 = .ok (.ireturn, 1) := by decide +kernel
theorem d_U_sure_21 : decode b_U_sure 21 = .ok (.iconst (-1), 1) := by decide +kernel
theorem d_U_sure_22 : decode b_U_sure 22 = .ok (.istore 5, 2) := by decide +kernel
theorem d_U_sure_24 : decode b_U_sure 24 = .ok (.iconst 0, 1) := by decide +kernel
theorem d_U_sure_25 : decode b_U_sure 25 = .ok (.istore 6, 2) := by decide +kernel
theorem d_U_sure_27 : decode b_U_sure 27 = .ok (.iload 6, 2) := by decide +kernel
theorem d_U_sure_29 : decode b_U_sure 29 = .ok (.iconst 1, 1) := by decide +kernel
theorem d_U_sure_30 : decode b_U_sure 30 = .ok (.aload_n 0, 1) := by decide +kernel
theorem d_U_sure_31 : decode b_U_sure 31 = .ok (.getfield 81, 3) := by decide +kernel
theorem d_U_sure_34 : decode b_U_sure 34 = .ok (.getfield 355, 3) := by decide +kernel
theorem d_U_sure_37 : decode b_U_sure 37 = .ok (.ishl, 1) := by decide +kernel
theorem d_U_sure_38 : decode b_U_sure 38 = .ok (.if_icmp .ge 33, 3) := by decide +kernel
theorem d_U_sure_41 : decode b_U_sure 41 = .ok (.aload_n 0, 1) := by decide +kernel
theorem d_U_sure_42 : decode b_U_sure 42 = .ok (.iload 6, 2) := by decide +kernel
theorem d_U_sure_44 : decode b_U_sure 44 = .ok (.iload_n 1, 1) := by decide +kernel
theorem d_U_sure_45 : decode b_U_sure 45 = .ok (.aload_n 0, 1) := by decide +kernel
theorem d_U_sure_46 : decode b_U_sure 46 = .ok (.getfield 11, 3) := by decide +kernel
theorem d_U_sure_49 : decode b_U_sure 49 = .ok (.iload_n 2, 1) := by decide +kernel
theorem d_U_sure_50 : decode b_U_sure 50 = .ok (.aaload, 1) := by decide +kernel
theorem d_U_sure_51 : decode b_U_sure 51 = .ok (.iload_n 3, 1) := by decide +kernel
theorem d_U_sure_52 : decode b_U_sure 52 = .ok (.invokevirtual 358, 3) := by decide +kernel
theorem d_U_sure_55 : decode b_U_sure 55 = .ok (.ifCond .eq 10, 3) := by decide +kernel
theorem d_U_sure_58 : decode b_U_sure 58 = .ok (.iload 5, 2) := by decide +kernel
theorem d_U_sure_60 : decode b_U_sure 60 = .ok (.iload 6, 2) := by decide +kernel
theorem d_U_sure_62 : decode b_U_sure 62 = .ok (.iand, 1) := by decide +kernel
theorem d_U_sure_63 : decode b_U_sure 63 = .ok (.istore 5, 2) := by decide +kernel
theorem d_U_sure_65 : decode b_U_sure 65 = .ok (.iinc 6 1, 3) := by decide +kernel
theorem d_U_sure_68 : decode b_U_sure 68 = .ok (.goto (-41), 3) := by decide +kernel
theorem d_U_sure_71 : decode b_U_sure 71 = .ok (.aload_n 0, 1) := by decide +kernel
theorem d_U_sure_72 : decode b_U_sure 72 = .ok (.iload 5, 2) := by decide +kernel
theorem d_U_sure_74 : decode b_U_sure 74 = .ok (.invokevirtual 301, 3) := by decide +kernel
theorem d_U_sure_77 : decode b_U_sure 77 = .ok (.ireturn, 1) := by decide +kernel
theorem d_U_rounds_0 : decode b_U_rounds 0 = .ok (.aload_n 0, 1) := by decide +kernel
theorem d_U_rounds_1 : decode b_U_rounds 1 = .ok (.iload_n 1, 1) := by decide +kernel
theorem d_U_rounds_2 : decode b_U_rounds 2 = .ok (.iload_n 2, 1) := by decide +kernel
theorem d_U_rounds_3 : decode b_U_rounds 3 = .ok (.invokevirtual 364, 3) := by decide +kernel
theorem d_U_rounds_6 : decode b_U_rounds 6 = .ok (.ifCond .ne 9, 3) := by decide +kernel
theorem d_U_rounds_9 : decode b_U_rounds 9 = .ok (.aload_n 0, 1) := by decide +kernel
theorem d_U_rounds_10 : decode b_U_rounds 10 = .ok (.iconst 1, 1) := by decide +kernel
theorem d_U_rounds_11 : decode b_U_rounds 11 = .ok (.invokevirtual 133, 3) := by decide +kernel
theorem d_U_rounds_14 : decode b_U_rounds 14 = .ok (.ireturn, 1) := by decide +kernel
theorem d_U_rounds_15 : decode b_U_rounds 15 = .ok (.aload_n 0, 1) := by decide +kernel
theorem d_U_rounds_16 : decode b_U_rounds 16 = .ok (.aload_n 0, 1) := by decide +kernel
theorem d_U_rounds_17 : decode b_U_rounds 17 = .ok (.getfield 76, 3) := by decide +kernel
theorem d_U_rounds_20 : decode b_U_rounds 20 = .ok (.aload_n 0, 1) := by decide +kernel
theorem d_U_rounds_21 : decode b_U_rounds 21 = .ok (.getfield 81, 3) := by decide +kernel
theorem d_U_rounds_24 : decode b_U_rounds 24 = .ok (.iload_n 1, 1) := by decide +kernel
theorem d_U_rounds_25 : decode b_U_rounds 25 = .ok (.iload_n 2, 1) := by decide +kernel
theorem d_U_rounds_26 : decode b_U_rounds 26 = .ok (.invokevirtual 367, 3) := by decide +kernel
theorem d_U_rounds_29 : decode b_U_rounds 29 = .ok (.invokevirtual 301, 3) := by decide +kernel
theorem d_U_rounds_32 : decode b_U_rounds 32 = .ok (.ireturn, 1) := by decide +kernel
theorem d_U_isKnowing_0 : decode b_U_isKnowing 0 = .ok (.iload_n 1, 1) := by decide +kernel
theorem d_U_isKnowing_1 : decode b_U_isKnowing 1 = .ok (.aload_n 0, 1) := by decide +kernel
theorem d_U_isKnowing_2 : decode b_U_isKnowing 2 = .ok (.getfield 81, 3) := by decide +kernel
theorem d_U_isKnowing_5 : decode b_U_isKnowing 5 = .ok (.getfield 181, 3) := by decide +kernel
theorem d_U_isKnowing_8 : decode b_U_isKnowing 8 = .ok (.invokestatic 307, 3) := by decide +kernel
theorem d_U_isKnowing_11 : decode b_U_isKnowing 11 = .ok (.ifCond .eq 21, 3) := by decide +kernel
theorem d_U_isKnowing_14 : decode b_U_isKnowing 14 = .ok (.iload_n 1, 1) := by decide +kernel
theorem d_U_isKnowing_15 : decode b_U_isKnowing 15 = .ok (.ifCond .eq 17, 3) := by decide +kernel
theorem d_U_isKnowing_18 : decode b_U_isKnowing 18 = .ok (.iload_n 2, 1) := by decide +kernel
theorem d_U_isKnowing_19 : decode b_U_isKnowing 19 = .ok (.iconst 0, 1) := by decide +kernel
theorem d_U_isKnowing_20 : decode b_U_isKnowing 20 = .ok (.bipush 8, 2) := by decide +kernel
theorem d_U_isKnowing_22 : decode b_U_isKnowing 22 = .ok (.invokestatic 114, 3) := by decide +kernel
theorem d_U_isKnowing_25 : decode b_U_isKnowing 25 = .ok (.ifCond .eq 7, 3) := by decide +kernel
theorem d_U_isKnowing_28 : decode b_U_isKnowing 28 = .ok (.iconst 1, 1) := by decide +kernel
theorem d_U_isKnowing_29 : decode b_U_isKnowing 29 = .ok (.goto 4, 3) := by decide +kernel
theorem d_U_isKnowing_32 : decode b_U_isKnowing 32 = .ok (.iconst 0, 1) := by decide +kernel
theorem d_U_isKnowing_33 : decode b_U_isKnowing 33 = .ok (.ireturn, 1) := by decide +kernel
theorem d_U_knowers_0 : decode b_U_knowers 0 = .ok (.aload_n 0, 1) := by decide +kernel
theorem d_U_knowers_1 : decode b_U_knowers 1 = .ok (.iload_n 1, 1) := by decide +kernel
theorem d_U_knowers_2 : decode b_U_knowers 2 = .ok (.iload_n 2, 1) := by decide +kernel
theorem d_U_knowers_3 : decode b_U_knowers 3 = .ok (.invokevirtual 364, 3) := by decide +kernel
theorem d_U_knowers_6 : decode b_U_knowers 6 = .ok (.ifCond .eq 13, 3) := by decide +kernel
theorem d_U_knowers_9 : decode b_U_knowers 9 = .ok (.iload_n 3, 1) := by decide +kernel
theorem d_U_knowers_10 : decode b_U_knowers 10 = .ok (.iconst 1, 1) := by decide +kernel
theorem d_U_knowers_11 : decode b_U_knowers 11 = .ok (.bipush 8, 2) := by decide +kernel
theorem d_U_knowers_13 : decode b_U_knowers 13 = .ok (.invokestatic 114, 3) := by decide +kernel
theorem d_U_knowers_16 : decode b_U_knowers 16 = .ok (.ifCond .ne 9, 3) := by decide +kernel
theorem d_U_knowers_19 : decode b_U_knowers 19 = .ok (.aload_n 0, 1) := by decide +kernel
theorem d_U_knowers_20 : decode b_U_knowers 20 = .ok (.iconst 1, 1) := by decide +kernel
theorem d_U_knowers_21 : decode b_U_knowers 21 = .ok (.invokevirtual 133, 3) := by decide +kernel
theorem d_U_knowers_24 : decode b_U_knowers 24 = .ok (.ireturn, 1) := by decide +kernel
theorem d_U_knowers_25 : decode b_U_knowers 25 = .ok (.aload_n 0, 1) := by decide +kernel
theorem d_U_knowers_26 : decode b_U_knowers 26 = .ok (.aload_n 0, 1) := by decide +kernel
theorem d_U_knowers_27 : decode b_U_knowers 27 = .ok (.getfield 76, 3) := by decide +kernel
theorem d_U_knowers_30 : decode b_U_knowers 30 = .ok (.aload_n 0, 1) := by decide +kernel
theorem d_U_knowers_31 : decode b_U_knowers 31 = .ok (.getfield 81, 3) := by decide +kernel
theorem d_U_knowers_34 : decode b_U_knowers 34 = .ok (.iload_n 1, 1) := by decide +kernel
theorem d_U_knowers_35 : decode b_U_knowers 35 = .ok (.iload_n 2, 1) := by decide +kernel
theorem d_U_knowers_36 : decode b_U_knowers 36 = .ok (.iload_n 3, 1) := by decide +kernel
theorem d_U_knowers_37 : decode b_U_knowers 37 = .ok (.invokevirtual 370, 3) := by decide +kernel
theorem d_U_knowers_40 : decode b_U_knowers 40 = .ok (.invokevirtual 184, 3) := by decide +kernel
theorem d_U_knowers_43 : decode b_U_knowers 43 = .ok (.ireturn, 1) := by decide +kernel
theorem d_U_game_0 : decode b_U_game 0 = .ok (.iload_n 1, 1) := by decide +kernel
theorem d_U_game_1 : decode b_U_game 1 = .ok (.iconst 0, 1) := by decide +kernel
theorem d_U_game_2 : decode b_U_game 2 = .ok (.iconst 4, 1) := by decide +kernel
theorem d_U_game_3 : decode b_U_game 3 = .ok (.invokestatic 114, 3) := by decide +kernel
theorem d_U_game_6 : decode b_U_game 6 = .ok (.ifCond .ne 9, 3) := by decide +kernel
theorem d_U_game_9 : decode b_U_game 9 = .ok (.aload_n 0, 1) := by decide +kernel
theorem d_U_game_10 : decode b_U_game 10 = .ok (.iconst 1, 1) := by decide +kernel
theorem d_U_game_11 : decode b_U_game 11 = .ok (.invokevirtual 133, 3) := by decide +kernel
theorem d_U_game_14 : decode b_U_game 14 = .ok (.ireturn, 1) := by decide +kernel
theorem d_U_game_15 : decode b_U_game 15 = .ok (.aload_n 0, 1) := by decide +kernel
theorem d_U_game_16 : decode b_U_game 16 = .ok (.aload_n 0, 1) := by decide +kernel
theorem d_U_game_17 : decode b_U_game 17 = .ok (.getfield 55, 3) := by decide +kernel
theorem d_U_game_20 : decode b_U_game 20 = .ok (.aload_n 0, 1) := by decide +kernel
theorem d_U_game_21 : decode b_U_game 21 = .ok (.getfield 81, 3) := by decide +kernel
theorem d_U_game_24 : decode b_U_game 24 = .ok (.iload_n 1, 1) := by decide +kernel
theorem d_U_game_25 : decode b_U_game 25 = .ok (.invokevirtual 374, 3) := by decide +kernel
theorem d_U_game_28 : decode b_U_game 28 = .ok (.invokevirtual 184, 3) := by decide +kernel
theorem d_U_game_31 : decode b_U_game 31 = .ok (.ireturn, 1) := by decide +kernel
theorem d_U_moveOf_0 : decode b_U_moveOf 0 = .ok (.iload_n 1, 1) := by decide +kernel
theorem d_U_moveOf_1 : decode b_U_moveOf 1 = .ok (.iconst 1, 1) := by decide +kernel
theorem d_U_moveOf_2 : decode b_U_moveOf 2 = .ok (.iconst 4, 1) := by decide +kernel
theorem d_U_moveOf_3 : decode b_U_moveOf 3 = .ok (.invokestatic 114, 3) := by decide +kernel
theorem d_U_moveOf_6 : decode b_U_moveOf 6 = .ok (.ifCond .ne 9, 3) := by decide +kernel
theorem d_U_moveOf_9 : decode b_U_moveOf 9 = .ok (.aload_n 0, 1) := by decide +kernel
theorem d_U_moveOf_10 : decode b_U_moveOf 10 = .ok (.iconst 1, 1) := by decide +kernel
theorem d_U_moveOf_11 : decode b_U_moveOf 11 = .ok (.invokevirtual 133, 3) := by decide +kernel
theorem d_U_moveOf_14 : decode b_U_moveOf 14 = .ok (.ireturn, 1) := by decide +kernel
theorem d_U_moveOf_15 : decode b_U_moveOf 15 = .ok (.aload_n 0, 1) := by decide +kernel
theorem d_U_moveOf_16 : decode b_U_moveOf 16 = .ok (.aload_n 0, 1) := by decide +kernel
theorem d_U_moveOf_17 : decode b_U_moveOf 17 = .ok (.getfield 55, 3) := by decide +kernel
theorem d_U_moveOf_20 : decode b_U_moveOf 20 = .ok (.aload_n 0, 1) := by decide +kernel
theorem d_U_moveOf_21 : decode b_U_moveOf 21 = .ok (.getfield 81, 3) := by decide +kernel
theorem d_U_moveOf_24 : decode b_U_moveOf 24 = .ok (.iload_n 1, 1) := by decide +kernel
theorem d_U_moveOf_25 : decode b_U_moveOf 25 = .ok (.invokevirtual 377, 3) := by decide +kernel
theorem d_U_moveOf_28 : decode b_U_moveOf 28 = .ok (.invokevirtual 301, 3) := by decide +kernel
theorem d_U_moveOf_31 : decode b_U_moveOf 31 = .ok (.ireturn, 1) := by decide +kernel
theorem d_U_crowd_0 : decode b_U_crowd 0 = .ok (.iload_n 1, 1) := by decide +kernel
theorem d_U_crowd_1 : decode b_U_crowd 1 = .ok (.iconst 0, 1) := by decide +kernel
theorem d_U_crowd_2 : decode b_U_crowd 2 = .ok (.bipush 6, 2) := by decide +kernel
theorem d_U_crowd_4 : decode b_U_crowd 4 = .ok (.invokestatic 114, 3) := by decide +kernel
theorem d_U_crowd_7 : decode b_U_crowd 7 = .ok (.ifCond .ne 9, 3) := by decide +kernel
theorem d_U_crowd_10 : decode b_U_crowd 10 = .ok (.aload_n 0, 1) := by decide +kernel
theorem d_U_crowd_11 : decode b_U_crowd 11 = .ok (.iconst 1, 1) := by decide +kernel
theorem d_U_crowd_12 : decode b_U_crowd 12 = .ok (.invokevirtual 118, 3) := by decide +kernel
theorem d_U_crowd_15 : decode b_U_crowd 15 = .ok (.ireturn, 1) := by decide +kernel
theorem d_U_crowd_16 : decode b_U_crowd 16 = .ok (.aload_n 0, 1) := by decide +kernel
theorem d_U_crowd_17 : decode b_U_crowd 17 = .ok (.getfield 81, 3) := by decide +kernel
theorem d_U_crowd_20 : decode b_U_crowd 20 = .ok (.getfield 181, 3) := by decide +kernel
theorem d_U_crowd_23 : decode b_U_crowd 23 = .ok (.istore_n 2, 1) := by decide +kernel
theorem d_U_crowd_24 : decode b_U_crowd 24 = .ok (.lconst 0, 1) := by decide +kernel
theorem d_U_crowd_25 : decode b_U_crowd 25 = .ok (.lstore_n 3, 1) := by decide +kernel
theorem d_U_crowd_26 : decode b_U_crowd 26 = .ok (.iload_n 1, 1) := by decide +kernel
theorem d_U_crowd_27 : decode b_U_crowd 27 = .ok (.istore 5, 2) := by decide +kernel
theorem d_U_crowd_29 : decode b_U_crowd 29 = .ok (.iload 5, 2) := by decide +kernel
theorem d_U_crowd_31 : decode b_U_crowd 31 = .ok (.iload_n 2, 1) := by decide +kernel
theorem d_U_crowd_32 : decode b_U_crowd 32 = .ok (.if_icmp .gt 50, 3) := by decide +kernel
theorem d_U_crowd_35 : decode b_U_crowd 35 = .ok (.lload_n 3, 1) := by decide +kernel
theorem d_U_crowd_36 : decode b_U_crowd 36 = .ok (.iload_n 2, 1) := by decide +kernel
theorem d_U_crowd_37 : decode b_U_crowd 37 = .ok (.iload 5, 2) := by decide +kernel
theorem d_U_crowd_39 : decode b_U_crowd 39 = .ok (.invokestatic 380, 3) := by decide +kernel
theorem d_U_crowd_42 : decode b_U_crowd 42 = .ok (.i2l, 1) := by decide +kernel
theorem d_U_crowd_43 : decode b_U_crowd 43 = .ok (.aload_n 0, 1) := by decide +kernel
theorem d_U_crowd_44 : decode b_U_crowd 44 = .ok (.getfield 81, 3) := by decide +kernel
theorem d_U_crowd_47 : decode b_U_crowd 47 = .ok (.getfield 278, 3) := by decide +kernel
theorem d_U_crowd_50 : decode b_U_crowd 50 = .ok (.iload 5, 2) := by decide +kernel
theorem d_U_crowd_52 : decode b_U_crowd 52 = .ok (.invokestatic 383, 3) := by decide +kernel
theorem d_U_crowd_55 : decode b_U_crowd 55 = .ok (.lmul, 1) := by decide +kernel
theorem d_U_crowd_56 : decode b_U_crowd 56 = .ok (.bipush 16, 2) := by decide +kernel
theorem d_U_crowd_58 : decode b_U_crowd 58 = .ok (.aload_n 0, 1) := by decide +kernel
theorem d_U_crowd_59 : decode b_U_crowd 59 = .ok (.getfield 81, 3) := by decide +kernel
theorem d_U_crowd_62 : decode b_U_crowd 62 = .ok (.getfield 278, 3) := by decide +kernel
theorem d_U_crowd_65 : decode b_U_crowd 65 = .ok (.isub, 1) := by decide +kernel
theorem d_U_crowd_66 : decode b_U_crowd 66 = .ok (.iload_n 2, 1) := by decide +kernel
theorem d_U_crowd_67 : decode b_U_crowd 67 = .ok (.iload 5, 2) := by decide +kernel
theorem d_U_crowd_69 : decode b_U_crowd 69 = .ok (.isub, 1) := by decide +kernel
theorem d_U_crowd_70 : decode b_U_crowd 70 = .ok (.invokestatic 383, 3) := by decide +kernel
theorem d_U_crowd_73 : decode b_U_crowd 73 = .ok (.lmul, 1) := by decide +kernel
theorem d_U_crowd_74 : decode b_U_crowd 74 = .ok (.ladd, 1) := by decide +kernel
theorem d_U_crowd_75 : decode b_U_crowd 75 = .ok (.lstore_n 3, 1) := by decide +kernel
theorem d_U_crowd_76 : decode b_U_crowd 76 = .ok (.iinc 5 1, 3) := by decide +kernel
theorem d_U_crowd_79 : decode b_U_crowd 79 = .ok (.goto (-50), 3) := by decide +kernel
theorem d_U_crowd_82 : decode b_U_crowd 82 = .ok (.aload_n 0, 1) := by decide +kernel
theorem d_U_crowd_83 : decode b_U_crowd 83 = .ok (.lload_n 3, 1) := by decide +kernel
theorem d_U_crowd_84 : decode b_U_crowd 84 = .ok (.bipush 16, 2) := by decide +kernel
theorem d_U_crowd_86 : decode b_U_crowd 86 = .ok (.iload_n 2, 1) := by decide +kernel
theorem d_U_crowd_87 : decode b_U_crowd 87 = .ok (.invokestatic 383, 3) := by decide +kernel
theorem d_U_crowd_90 : decode b_U_crowd 90 = .ok (.invokevirtual 331, 3) := by decide +kernel
theorem d_U_crowd_93 : decode b_U_crowd 93 = .ok (.aload_n 0, 1) := by decide +kernel
theorem d_U_crowd_94 : decode b_U_crowd 94 = .ok (.iconst 0, 1) := by decide +kernel
theorem d_U_crowd_95 : decode b_U_crowd 95 = .ok (.invokevirtual 118, 3) := by decide +kernel
theorem d_U_crowd_98 : decode b_U_crowd 98 = .ok (.ireturn, 1) := by decide +kernel
theorem d_U_power_0 : decode b_U_power 0 = .ok (.lconst 1, 1) := by decide +kernel
theorem d_U_power_1 : decode b_U_power 1 = .ok (.lstore_n 2, 1) := by decide +kernel
theorem d_U_power_2 : decode b_U_power 2 = .ok (.iconst 0, 1) := by decide +kernel
theorem d_U_power_3 : decode b_U_power 3 = .ok (.istore 4, 2) := by decide +kernel
theorem d_U_power_5 : decode b_U_power 5 = .ok (.iload 4, 2) := by decide +kernel
theorem d_U_power_7 : decode b_U_power 7 = .ok (.iload_n 1, 1) := by decide +kernel
theorem d_U_power_8 : decode b_U_power 8 = .ok (.if_icmp .ge 14, 3) := by decide +kernel
theorem d_U_power_11 : decode b_U_power 11 = .ok (.lload_n 2, 1) := by decide +kernel
theorem d_U_power_12 : decode b_U_power 12 = .ok (.iload_n 0, 1) := by decide +kernel
theorem d_U_power_13 : decode b_U_power 13 = .ok (.i2l, 1) := by decide +kernel
theorem d_U_power_14 : decode b_U_power 14 = .ok (.lmul, 1) := by decide +kernel
theorem d_U_power_15 : decode b_U_power 15 = .ok (.lstore_n 2, 1) := by decide +kernel
theorem d_U_power_16 : decode b_U_power 16 = .ok (.iinc 4 1, 3) := by decide +kernel
theorem d_U_power_19 : decode b_U_power 19 = .ok (.goto (-14), 3) := by decide +kernel
theorem d_U_power_22 : decode b_U_power 22 = .ok (.lload_n 2, 1) := by decide +kernel
theorem d_U_power_23 : decode b_U_power 23 = .ok (.lreturn, 1) := by decide +kernel
theorem d_U_share_0 : decode b_U_share 0 = .ok (.aload_n 0, 1) := by decide +kernel
theorem d_U_share_1 : decode b_U_share 1 = .ok (.getfield 81, 3) := by decide +kernel
theorem d_U_share_4 : decode b_U_share 4 = .ok (.iload_n 1, 1) := by decide +kernel
theorem d_U_share_5 : decode b_U_share 5 = .ok (.invokevirtual 205, 3) := by decide +kernel
theorem d_U_share_8 : decode b_U_share 8 = .ok (.ifCond .ne 9, 3) := by decide +kernel
theorem d_U_share_11 : decode b_U_share 11 = .ok (.aload_n 0, 1) := by decide +kernel
theorem d_U_share_12 : decode b_U_share 12 = .ok (.iconst 1, 1) := by decide +kernel
theorem d_U_share_13 : decode b_U_share 13 = .ok (.invokevirtual 118, 3) := by decide +kernel
theorem d_U_share_16 : decode b_U_share 16 = .ok (.ireturn, 1) := by decide +kernel
theorem d_U_share_17 : decode b_U_share 17 = .ok (.iconst 0, 1) := by decide +kernel
theorem d_U_share_18 : decode b_U_share 18 = .ok (.istore_n 2, 1) := by decide +kernel
theorem d_U_share_19 : decode b_U_share 19 = .ok (.iconst 0, 1) := by decide +kernel
theorem d_U_share_20 : decode b_U_share 20 = .ok (.istore_n 3, 1) := by decide +kernel
theorem d_U_share_21 : decode b_U_share 21 = .ok (.iload_n 3, 1) := by decide +kernel
theorem d_U_share_22 : decode b_U_share 22 = .ok (.aload_n 0, 1) := by decide +kernel
theorem d_U_share_23 : decode b_U_share 23 = .ok (.getfield 81, 3) := by decide +kernel
theorem d_U_share_26 : decode b_U_share 26 = .ok (.getfield 181, 3) := by decide +kernel
theorem d_U_share_29 : decode b_U_share 29 = .ok (.if_icmp .ge 21, 3) := by decide +kernel
theorem d_U_share_32 : decode b_U_share 32 = .ok (.iload_n 2, 1) := by decide +kernel
theorem d_U_share_33 : decode b_U_share 33 = .ok (.aload_n 0, 1) := by decide +kernel
theorem d_U_share_34 : decode b_U_share 34 = .ok (.getfield 81, 3) := by decide +kernel
theorem d_U_share_37 : decode b_U_share 37 = .ok (.getfield 261, 3) := by decide +kernel
theorem d_U_share_40 : decode b_U_share 40 = .ok (.iload_n 3, 1) := by decide +kernel
theorem d_U_share_41 : decode b_U_share 41 = .ok (.iaload, 1) := by decide +kernel
theorem d_U_share_42 : decode b_U_share 42 = .ok (.iadd, 1) := by decide +kernel
theorem d_U_share_43 : decode b_U_share 43 = .ok (.istore_n 2, 1) := by decide +kernel
theorem d_U_share_44 : decode b_U_share 44 = .ok (.iinc 3 1, 3) := by decide +kernel
theorem d_U_share_47 : decode b_U_share 47 = .ok (.goto (-26), 3) := by decide +kernel
theorem d_U_share_50 : decode b_U_share 50 = .ok (.iload_n 2, 1) := by decide +kernel
theorem d_U_share_51 : decode b_U_share 51 = .ok (.ifCond .ne 10, 3) := by decide +kernel
theorem d_U_share_54 : decode b_U_share 54 = .ok (.aload_n 0, 1) := by decide +kernel
theorem d_U_share_55 : decode b_U_share 55 = .ok (.bipush 6, 2) := by decide +kernel
theorem d_U_share_57 : decode b_U_share 57 = .ok (.invokevirtual 118, 3) := by decide +kernel
theorem d_U_share_60 : decode b_U_share 60 = .ok (.ireturn, 1) := by decide +kernel
theorem d_U_share_61 : decode b_U_share 61 = .ok (.aload_n 0, 1) := by decide +kernel
theorem d_U_share_62 : decode b_U_share 62 = .ok (.aload_n 0, 1) := by decide +kernel
theorem d_U_share_63 : decode b_U_share 63 = .ok (.getfield 81, 3) := by decide +kernel
theorem d_U_share_66 : decode b_U_share 66 = .ok (.getfield 261, 3) := by decide +kernel
theorem d_U_share_69 : decode b_U_share 69 = .ok (.iload_n 1, 1) := by decide +kernel
theorem d_U_share_70 : decode b_U_share 70 = .ok (.iaload, 1) := by decide +kernel
theorem d_U_share_71 : decode b_U_share 71 = .ok (.i2l, 1) := by decide +kernel
theorem d_U_share_72 : decode b_U_share 72 = .ok (.iload_n 2, 1) := by decide +kernel
theorem d_U_share_73 : decode b_U_share 73 = .ok (.i2l, 1) := by decide +kernel
theorem d_U_share_74 : decode b_U_share 74 = .ok (.invokevirtual 331, 3) := by decide +kernel
theorem d_U_share_77 : decode b_U_share 77 = .ok (.aload_n 0, 1) := by decide +kernel
theorem d_U_share_78 : decode b_U_share 78 = .ok (.iconst 0, 1) := by decide +kernel
theorem d_U_share_79 : decode b_U_share 79 = .ok (.invokevirtual 118, 3) := by decide +kernel
theorem d_U_share_82 : decode b_U_share 82 = .ok (.ireturn, 1) := by decide +kernel
theorem d_U_copyCells_0 : decode b_U_copyCells 0 = .ok (.aload_n 0, 1) := by decide +kernel
theorem d_U_copyCells_1 : decode b_U_copyCells 1 = .ok (.iload_n 1, 1) := by decide +kernel
theorem d_U_copyCells_2 : decode b_U_copyCells 2 = .ok (.aload_n 0, 1) := by decide +kernel
theorem d_U_copyCells_3 : decode b_U_copyCells 3 = .ok (.getfield 81, 3) := by decide +kernel
theorem d_U_copyCells_6 : decode b_U_copyCells 6 = .ok (.getfield 181, 3) := by decide +kernel
theorem d_U_copyCells_9 : decode b_U_copyCells 9 = .ok (.invokevirtual 161, 3) := by decide +kernel
theorem d_U_copyCells_12 : decode b_U_copyCells 12 = .ok (.istore_n 2, 1) := by decide +kernel
theorem d_U_copyCells_13 : decode b_U_copyCells 13 = .ok (.iload_n 2, 1) := by decide +kernel
theorem d_U_copyCells_14 : decode b_U_copyCells 14 = .ok (.ifCond .eq 9, 3) := by decide +kernel
theorem d_U_copyCells_17 : decode b_U_copyCells 17 = .ok (.aload_n 0, 1) := by decide +kernel
theorem d_U_copyCells_18 : decode b_U_copyCells 18 = .ok (.iload_n 2, 1) := by decide +kernel
theorem d_U_copyCells_19 : decode b_U_copyCells 19 = .ok (.invokevirtual 133, 3) := by decide +kernel
theorem d_U_copyCells_22 : decode b_U_copyCells 22 = .ok (.ireturn, 1) := by decide +kernel
theorem d_U_copyCells_23 : decode b_U_copyCells 23 = .ok (.iconst 0, 1) := by decide +kernel
theorem d_U_copyCells_24 : decode b_U_copyCells 24 = .ok (.istore_n 3, 1) := by decide +kernel
theorem d_U_copyCells_25 : decode b_U_copyCells 25 = .ok (.iload_n 3, 1) := by decide +kernel
theorem d_U_copyCells_26 : decode b_U_copyCells 26 = .ok (.aload_n 0, 1) := by decide +kernel
theorem d_U_copyCells_27 : decode b_U_copyCells 27 = .ok (.getfield 81, 3) := by decide +kernel
theorem d_U_copyCells_30 : decode b_U_copyCells 30 = .ok (.getfield 181, 3) := by decide +kernel
theorem d_U_copyCells_33 : decode b_U_copyCells 33 = .ok (.if_icmp .ge 29, 3) := by decide +kernel
theorem d_U_copyCells_36 : decode b_U_copyCells 36 = .ok (.aload_n 0, 1) := by decide +kernel
theorem d_U_copyCells_37 : decode b_U_copyCells 37 = .ok (.getfield 11, 3) := by decide +kernel
theorem d_U_copyCells_40 : decode b_U_copyCells 40 = .ok (.iload_n 1, 1) := by decide +kernel
theorem d_U_copyCells_41 : decode b_U_copyCells 41 = .ok (.aaload, 1) := by decide +kernel
theorem d_U_copyCells_42 : decode b_U_copyCells 42 = .ok (.iload_n 3, 1) := by decide +kernel
theorem d_U_copyCells_43 : decode b_U_copyCells 43 = .ok (.aload_n 0, 1) := by decide +kernel
theorem d_U_copyCells_44 : decode b_U_copyCells 44 = .ok (.getfield 81, 3) := by decide +kernel
theorem d_U_copyCells_47 : decode b_U_copyCells 47 = .ok (.getfield 387, 3) := by decide +kernel
theorem d_U_copyCells_50 : decode b_U_copyCells 50 = .ok (.iload_n 3, 1) := by decide +kernel
theorem d_U_copyCells_51 : decode b_U_copyCells 51 = .ok (.iaload, 1) := by decide +kernel
theorem d_U_copyCells_52 : decode b_U_copyCells 52 = .ok (.i2l, 1) := by decide +kernel
theorem d_U_copyCells_53 : decode b_U_copyCells 53 = .ok (.invokevirtual 129, 3) := by decide +kernel
theorem d_U_copyCells_56 : decode b_U_copyCells 56 = .ok (.iinc 3 1, 3) := by decide +kernel
theorem d_U_copyCells_59 : decode b_U_copyCells 59 = .ok (.goto (-34), 3) := by decide +kernel
theorem d_U_copyCells_62 : decode b_U_copyCells 62 = .ok (.aload_n 0, 1) := by decide +kernel
theorem d_U_copyCells_63 : decode b_U_copyCells 63 = .ok (.aload_n 0, 1) := by decide +kernel
theorem d_U_copyCells_64 : decode b_U_copyCells 64 = .ok (.getfield 81, 3) := by decide +kernel
theorem d_U_copyCells_67 : decode b_U_copyCells 67 = .ok (.getfield 181, 3) := by decide +kernel
theorem d_U_copyCells_70 : decode b_U_copyCells 70 = .ok (.invokevirtual 184, 3) := by decide +kernel
theorem d_U_copyCells_73 : decode b_U_copyCells 73 = .ok (.ireturn, 1) := by decide +kernel
theorem d_U_live_0 : decode b_U_live 0 = .ok (.iload_n 1, 1) := by decide +kernel
theorem d_U_live_1 : decode b_U_live 1 = .ok (.iconst 0, 1) := by decide +kernel
theorem d_U_live_2 : decode b_U_live 2 = .ok (.sipush 9999, 3) := by decide +kernel
theorem d_U_live_5 : decode b_U_live 5 = .ok (.invokestatic 114, 3) := by decide +kernel
theorem d_U_live_8 : decode b_U_live 8 = .ok (.ifCond .ne 9, 3) := by decide +kernel
theorem d_U_live_11 : decode b_U_live 11 = .ok (.aload_n 0, 1) := by decide +kernel
theorem d_U_live_12 : decode b_U_live 12 = .ok (.iconst 1, 1) := by decide +kernel
theorem d_U_live_13 : decode b_U_live 13 = .ok (.invokevirtual 133, 3) := by decide +kernel
theorem d_U_live_16 : decode b_U_live 16 = .ok (.ireturn, 1) := by decide +kernel
theorem d_U_live_17 : decode b_U_live 17 = .ok (.aload_n 0, 1) := by decide +kernel
theorem d_U_live_18 : decode b_U_live 18 = .ok (.getfield 81, 3) := by decide +kernel
theorem d_U_live_21 : decode b_U_live 21 = .ok (.getfield 190, 3) := by decide +kernel
theorem d_U_live_24 : decode b_U_live 24 = .ok (.getfield 390, 3) := by decide +kernel
theorem d_U_live_27 : decode b_U_live 27 = .ok (.ifCond .ne 10, 3) := by decide +kernel
theorem d_U_live_30 : decode b_U_live 30 = .ok (.aload_n 0, 1) := by decide +kernel
theorem d_U_live_31 : decode b_U_live 31 = .ok (.bipush 6, 2) := by decide +kernel
theorem d_U_live_33 : decode b_U_live 33 = .ok (.invokevirtual 133, 3) := by decide +kernel
theorem d_U_live_36 : decode b_U_live 36 = .ok (.ireturn, 1) := by decide +kernel
theorem d_U_live_37 : decode b_U_live 37 = .ok (.aload_n 0, 1) := by decide +kernel
theorem d_U_live_38 : decode b_U_live 38 = .ok (.getfield 45, 3) := by decide +kernel
theorem d_U_live_41 : decode b_U_live 41 = .ok (.aload_n 0, 1) := by decide +kernel
theorem d_U_live_42 : decode b_U_live 42 = .ok (.getfield 81, 3) := by decide +kernel
theorem d_U_live_45 : decode b_U_live 45 = .ok (.iload_n 1, 1) := by decide +kernel
theorem d_U_live_46 : decode b_U_live 46 = .ok (.invokevirtual 394, 3) := by decide +kernel
theorem d_U_live_49 : decode b_U_live 49 = .ok (.aload_n 0, 1) := by decide +kernel
theorem d_U_live_50 : decode b_U_live 50 = .ok (.aload_n 0, 1) := by decide +kernel
theorem d_U_live_51 : decode b_U_live 51 = .ok (.getfield 45, 3) := by decide +kernel
theorem d_U_live_54 : decode b_U_live 54 = .ok (.getfield 398, 3) := by decide +kernel
theorem d_U_live_57 : decode b_U_live 57 = .ok (.invokevirtual 184, 3) := by decide +kernel
theorem d_U_live_60 : decode b_U_live 60 = .ok (.ireturn, 1) := by decide +kernel
theorem d_U_lived_0 : decode b_U_lived 0 = .ok (.iload_n 1, 1) := by decide +kernel
theorem d_U_lived_1 : decode b_U_lived 1 = .ok (.iconst 0, 1) := by decide +kernel
theorem d_U_lived_2 : decode b_U_lived 2 = .ok (.iconst 4, 1) := by decide +kernel
theorem d_U_lived_3 : decode b_U_lived 3 = .ok (.invokestatic 114, 3) := by decide +kernel
theorem d_U_lived_6 : decode b_U_lived 6 = .ok (.ifCond .ne 9, 3) := by decide +kernel
theorem d_U_lived_9 : decode b_U_lived 9 = .ok (.aload_n 0, 1) := by decide +kernel
theorem d_U_lived_10 : decode b_U_lived 10 = .ok (.iconst 1, 1) := by decide +kernel
theorem d_U_lived_11 : decode b_U_lived 11 = .ok (.invokevirtual 133, 3) := by decide +kernel
theorem d_U_lived_14 : decode b_U_lived 14 = .ok (.ireturn, 1) := by decide +kernel
theorem d_U_lived_15 : decode b_U_lived 15 = .ok (.aload_n 0, 1) := by decide +kernel
theorem d_U_lived_16 : decode b_U_lived 16 = .ok (.getfield 45, 3) := by decide +kernel
theorem d_U_lived_19 : decode b_U_lived 19 = .ok (.getfield 399, 3) := by decide +kernel
theorem d_U_lived_22 : decode b_U_lived 22 = .ok (.ifCond .eq 18, 3) := by decide +kernel
theorem d_U_lived_25 : decode b_U_lived 25 = .ok (.aload_n 0, 1) := by decide +kernel
theorem d_U_lived_26 : decode b_U_lived 26 = .ok (.aload_n 0, 1) := by decide +kernel
theorem d_U_lived_27 : decode b_U_lived 27 = .ok (.getfield 45, 3) := by decide +kernel
theorem d_U_lived_30 : decode b_U_lived 30 = .ok (.iload_n 1, 1) := by decide +kernel
theorem d_U_lived_31 : decode b_U_lived 31 = .ok (.invokevirtual 402, 3) := by decide +kernel
theorem d_U_lived_34 : decode b_U_lived 34 = .ok (.invokevirtual 184, 3) := by decide +kernel
theorem d_U_lived_37 : decode b_U_lived 37 = .ok (.goto 9, 3) := by decide +kernel
theorem d_U_lived_40 : decode b_U_lived 40 = .ok (.aload_n 0, 1) := by decide +kernel
theorem d_U_lived_41 : decode b_U_lived 41 = .ok (.bipush 6, 2) := by decide +kernel
theorem d_U_lived_43 : decode b_U_lived 43 = .ok (.invokevirtual 133, 3) := by decide +kernel
theorem d_U_lived_46 : decode b_U_lived 46 = .ok (.ireturn, 1) := by decide +kernel
theorem d_U_mean_0 : decode b_U_mean 0 = .ok (.iload_n 2, 1) := by decide +kernel
theorem d_U_mean_1 : decode b_U_mean 1 = .ok (.iconst 1, 1) := by decide +kernel
theorem d_U_mean_2 : decode b_U_mean 2 = .ok (.bipush 20, 2) := by decide +kernel
theorem d_U_mean_4 : decode b_U_mean 4 = .ok (.invokestatic 114, 3) := by decide +kernel
theorem d_U_mean_7 : decode b_U_mean 7 = .ok (.ifCond .eq 18, 3) := by decide +kernel
theorem d_U_mean_10 : decode b_U_mean 10 = .ok (.iload_n 1, 1) := by decide +kernel
theorem d_U_mean_11 : decode b_U_mean 11 = .ok (.iconst 0, 1) := by decide +kernel
theorem d_U_mean_12 : decode b_U_mean 12 = .ok (.sipush 9999, 3) := by decide +kernel
theorem d_U_mean_15 : decode b_U_mean 15 = .ok (.iload_n 2, 1) := by decide +kernel
theorem d_U_mean_16 : decode b_U_mean 16 = .ok (.isub, 1) := by decide +kernel
theorem d_U_mean_17 : decode b_U_mean 17 = .ok (.iconst 1, 1) := by decide +kernel
theorem d_U_mean_18 : decode b_U_mean 18 = .ok (.iadd, 1) := by decide +kernel
theorem d_U_mean_19 : decode b_U_mean 19 = .ok (.invokestatic 114, 3) := by decide +kernel
theorem d_U_mean_22 : decode b_U_mean 22 = .ok (.ifCond .ne 9, 3) := by decide +kernel
theorem d_U_mean_25 : decode b_U_mean 25 = .ok (.aload_n 0, 1) := by decide +kernel
theorem d_U_mean_26 : decode b_U_mean 26 = .ok (.iconst 1, 1) := by decide +kernel
theorem d_U_mean_27 : decode b_U_mean 27 = .ok (.invokevirtual 118, 3) := by decide +kernel
theorem d_U_mean_30 : decode b_U_mean 30 = .ok (.ireturn, 1) := by decide +kernel
theorem d_U_mean_31 : decode b_U_mean 31 = .ok (.aload_n 0, 1) := by decide +kernel
theorem d_U_mean_32 : decode b_U_mean 32 = .ok (.getfield 81, 3) := by decide +kernel
theorem d_U_mean_35 : decode b_U_mean 35 = .ok (.getfield 190, 3) := by decide +kernel
theorem d_U_mean_38 : decode b_U_mean 38 = .ok (.getfield 390, 3) := by decide +kernel
theorem d_U_mean_41 : decode b_U_mean 41 = .ok (.ifCond .ne 10, 3) := by decide +kernel
theorem d_U_mean_44 : decode b_U_mean 44 = .ok (.aload_n 0, 1) := by decide +kernel
theorem d_U_mean_45 : decode b_U_mean 45 = .ok (.bipush 6, 2) := by decide +kernel
theorem d_U_mean_47 : decode b_U_mean 47 = .ok (.invokevirtual 118, 3) := by decide +kernel
theorem d_U_mean_50 : decode b_U_mean 50 = .ok (.ireturn, 1) := by decide +kernel
theorem d_U_mean_51 : decode b_U_mean 51 = .ok (.lconst 0, 1) := by decide +kernel
theorem d_U_mean_52 : decode b_U_mean 52 = .ok (.lstore_n 3, 1) := by decide +kernel
theorem d_U_mean_53 : decode b_U_mean 53 = .ok (.iconst 0, 1) := by decide +kernel
theorem d_U_mean_54 : decode b_U_mean 54 = .ok (.istore 5, 2) := by decide +kernel
theorem d_U_mean_56 : decode b_U_mean 56 = .ok (.iload 5, 2) := by decide +kernel
theorem d_U_mean_58 : decode b_U_mean 58 = .ok (.iload_n 2, 1) := by decide +kernel
theorem d_U_mean_59 : decode b_U_mean 59 = .ok (.if_icmp .ge 46, 3) := by decide +kernel
theorem d_U_mean_62 : decode b_U_mean 62 = .ok (.aload_n 0, 1) := by decide +kernel
theorem d_U_mean_63 : decode b_U_mean 63 = .ok (.getfield 85, 3) := by decide +kernel
theorem d_U_mean_66 : decode b_U_mean 66 = .ok (.aload_n 0, 1) := by decide +kernel
theorem d_U_mean_67 : decode b_U_mean 67 = .ok (.getfield 81, 3) := by decide +kernel
theorem d_U_mean_70 : decode b_U_mean 70 = .ok (.invokevirtual 405, 3) := by decide +kernel
theorem d_U_mean_73 : decode b_U_mean 73 = .ok (.aload_n 0, 1) := by decide +kernel
theorem d_U_mean_74 : decode b_U_mean 74 = .ok (.getfield 49, 3) := by decide +kernel
theorem d_U_mean_77 : decode b_U_mean 77 = .ok (.aload_n 0, 1) := by decide +kernel
theorem d_U_mean_78 : decode b_U_mean 78 = .ok (.getfield 85, 3) := by decide +kernel
theorem d_U_mean_81 : decode b_U_mean 81 = .ok (.iload_n 1, 1) := by decide +kernel
theorem d_U_mean_82 : decode b_U_mean 82 = .ok (.iload 5, 2) := by decide +kernel
theorem d_U_mean_84 : decode b_U_mean 84 = .ok (.iadd, 1) := by decide +kernel
theorem d_U_mean_85 : decode b_U_mean 85 = .ok (.invokevirtual 394, 3) := by decide +kernel
theorem d_U_mean_88 : decode b_U_mean 88 = .ok (.lload_n 3, 1) := by decide +kernel
theorem d_U_mean_89 : decode b_U_mean 89 = .ok (.aload_n 0, 1) := by decide +kernel
theorem d_U_mean_90 : decode b_U_mean 90 = .ok (.getfield 85, 3) := by decide +kernel
theorem d_U_mean_93 : decode b_U_mean 93 = .ok (.getfield 408, 3) := by decide +kernel
theorem d_U_mean_96 : decode b_U_mean 96 = .ok (.i2l, 1) := by decide +kernel
theorem d_U_mean_97 : decode b_U_mean 97 = .ok (.ladd, 1) := by decide +kernel
theorem d_U_mean_98 : decode b_U_mean 98 = .ok (.lstore_n 3, 1) := by decide +kernel
theorem d_U_mean_99 : decode b_U_mean 99 = .ok (.iinc 5 1, 3) := by decide +kernel
theorem d_U_mean_102 : decode b_U_mean 102 = .ok (.goto (-46), 3) := by decide +kernel
theorem d_U_mean_105 : decode b_U_mean 105 = .ok (.aload_n 0, 1) := by decide +kernel
theorem d_U_mean_106 : decode b_U_mean 106 = .ok (.lload_n 3, 1) := by decide +kernel
theorem d_U_mean_107 : decode b_U_mean 107 = .ok (.iload_n 2, 1) := by decide +kernel
theorem d_U_mean_108 : decode b_U_mean 108 = .ok (.i2l, 1) := by decide +kernel
theorem d_U_mean_109 : decode b_U_mean 109 = .ok (.invokevirtual 331, 3) := by decide +kernel
theorem d_U_mean_112 : decode b_U_mean 112 = .ok (.aload_n 0, 1) := by decide +kernel
theorem d_U_mean_113 : decode b_U_mean 113 = .ok (.iconst 0, 1) := by decide +kernel
theorem d_U_mean_114 : decode b_U_mean 114 = .ok (.invokevirtual 118, 3) := by decide +kernel
theorem d_U_mean_117 : decode b_U_mean 117 = .ok (.ireturn, 1) := by decide +kernel
theorem d_U_mark_0 : decode b_U_mark 0 = .ok (.aload_n 0, 1) := by decide +kernel
theorem d_U_mark_1 : decode b_U_mark 1 = .ok (.getfield 95, 3) := by decide +kernel
theorem d_U_mark_4 : decode b_U_mark 4 = .ok (.iconst 3, 1) := by decide +kernel
theorem d_U_mark_5 : decode b_U_mark 5 = .ok (.if_icmp .lt 9, 3) := by decide +kernel
theorem d_U_mark_8 : decode b_U_mark 8 = .ok (.aload_n 0, 1) := by decide +kernel
theorem d_U_mark_9 : decode b_U_mark 9 = .ok (.iconst 4, 1) := by decide +kernel
theorem d_U_mark_10 : decode b_U_mark 10 = .ok (.invokevirtual 133, 3) := by decide +kernel
theorem d_U_mark_13 : decode b_U_mark 13 = .ok (.ireturn, 1) := by decide +kernel
theorem d_U_mark_14 : decode b_U_mark 14 = .ok (.aload_n 0, 1) := by decide +kernel
theorem d_U_mark_15 : decode b_U_mark 15 = .ok (.getfield 38, 3) := by decide +kernel
theorem d_U_mark_18 : decode b_U_mark 18 = .ok (.aload_n 0, 1) := by decide +kernel
theorem d_U_mark_19 : decode b_U_mark 19 = .ok (.getfield 95, 3) := by decide +kernel
theorem d_U_mark_22 : decode b_U_mark 22 = .ok (.aaload, 1) := by decide +kernel
theorem d_U_mark_23 : decode b_U_mark 23 = .ok (.aload_n 0, 1) := by decide +kernel
theorem d_U_mark_24 : decode b_U_mark 24 = .ok (.getfield 81, 3) := by decide +kernel
theorem d_U_mark_27 : decode b_U_mark 27 = .ok (.invokevirtual 405, 3) := by decide +kernel
theorem d_U_mark_30 : decode b_U_mark 30 = .ok (.aload_n 0, 1) := by decide +kernel
theorem d_U_mark_31 : decode b_U_mark 31 = .ok (.dup, 1) := by decide +kernel
theorem d_U_mark_32 : decode b_U_mark 32 = .ok (.getfield 95, 3) := by decide +kernel
theorem d_U_mark_35 : decode b_U_mark 35 = .ok (.iconst 1, 1) := by decide +kernel
theorem d_U_mark_36 : decode b_U_mark 36 = .ok (.iadd, 1) := by decide +kernel
theorem d_U_mark_37 : decode b_U_mark 37 = .ok (.putfield 95, 3) := by decide +kernel
theorem d_U_mark_40 : decode b_U_mark 40 = .ok (.aload_n 0, 1) := by decide +kernel
theorem d_U_mark_41 : decode b_U_mark 41 = .ok (.aload_n 0, 1) := by decide +kernel
theorem d_U_mark_42 : decode b_U_mark 42 = .ok (.getfield 95, 3) := by decide +kernel
theorem d_U_mark_45 : decode b_U_mark 45 = .ok (.invokevirtual 184, 3) := by decide +kernel
theorem d_U_mark_48 : decode b_U_mark 48 = .ok (.ireturn, 1) := by decide +kernel
theorem d_U_undo_0 : decode b_U_undo 0 = .ok (.aload_n 0, 1) := by decide +kernel
theorem d_U_undo_1 : decode b_U_undo 1 = .ok (.getfield 95, 3) := by decide +kernel
theorem d_U_undo_4 : decode b_U_undo 4 = .ok (.ifCond .gt 10, 3) := by decide +kernel
theorem d_U_undo_7 : decode b_U_undo 7 = .ok (.aload_n 0, 1) := by decide +kernel
theorem d_U_undo_8 : decode b_U_undo 8 = .ok (.bipush 6, 2) := by decide +kernel
theorem d_U_undo_10 : decode b_U_undo 10 = .ok (.invokevirtual 133, 3) := by decide +kernel
theorem d_U_undo_13 : decode b_U_undo 13 = .ok (.ireturn, 1) := by decide +kernel
theorem d_U_undo_14 : decode b_U_undo 14 = .ok (.aload_n 0, 1) := by decide +kernel
theorem d_U_undo_15 : decode b_U_undo 15 = .ok (.dup, 1) := by decide +kernel
theorem d_U_undo_16 : decode b_U_undo 16 = .ok (.getfield 95, 3) := by decide +kernel
theorem d_U_undo_19 : decode b_U_undo 19 = .ok (.iconst 1, 1) := by decide +kernel
theorem d_U_undo_20 : decode b_U_undo 20 = .ok (.isub, 1) := by decide +kernel
theorem d_U_undo_21 : decode b_U_undo 21 = .ok (.putfield 95, 3) := by decide +kernel
theorem d_U_undo_24 : decode b_U_undo 24 = .ok (.aload_n 0, 1) := by decide +kernel
theorem d_U_undo_25 : decode b_U_undo 25 = .ok (.getfield 81, 3) := by decide +kernel
theorem d_U_undo_28 : decode b_U_undo 28 = .ok (.aload_n 0, 1) := by decide +kernel
theorem d_U_undo_29 : decode b_U_undo 29 = .ok (.getfield 38, 3) := by decide +kernel
theorem d_U_undo_32 : decode b_U_undo 32 = .ok (.aload_n 0, 1) := by decide +kernel
theorem d_U_undo_33 : decode b_U_undo 33 = .ok (.getfield 95, 3) := by decide +kernel
theorem d_U_undo_36 : decode b_U_undo 36 = .ok (.aaload, 1) := by decide +kernel
theorem d_U_undo_37 : decode b_U_undo 37 = .ok (.invokevirtual 405, 3) := by decide +kernel
theorem d_U_undo_40 : decode b_U_undo 40 = .ok (.aload_n 0, 1) := by decide +kernel
theorem d_U_undo_41 : decode b_U_undo 41 = .ok (.aload_n 0, 1) := by decide +kernel
theorem d_U_undo_42 : decode b_U_undo 42 = .ok (.getfield 95, 3) := by decide +kernel
theorem d_U_undo_45 : decode b_U_undo 45 = .ok (.invokevirtual 184, 3) := by decide +kernel
theorem d_U_undo_48 : decode b_U_undo 48 = .ok (.ireturn, 1) := by decide +kernel
