theorem d_M_init_0 : decode b_M_init 0 = .ok (.aload_n 0, 1) := by decide +kernel
theorem d_M_init_1 : decode b_M_init 1 = .ok (.invokespecial 1, 3) := by decide +kernel
theorem d_M_init_4 : decode b_M_init 4 = .ok (.aload_n 0, 1) := by decide +kernel
theorem d_M_init_5 : decode b_M_init 5 = .ok (.sipush 2258, 3) := by decide +kernel
theorem d_M_init_8 : decode b_M_init 8 = .ok (.newarray .int, 2) := by decide +kernel
theorem d_M_init_10 : decode b_M_init 10 = .ok (.putfield 7, 3) := by decide +kernel
theorem d_M_init_13 : decode b_M_init 13 = .ok (.aload_n 0, 1) := by decide +kernel
theorem d_M_init_14 : decode b_M_init 14 = .ok (.bipush 36, 2) := by decide +kernel
theorem d_M_init_16 : decode b_M_init 16 = .ok (.newarray .long, 2) := by decide +kernel
theorem d_M_init_18 : decode b_M_init 18 = .ok (.putfield 13, 3) := by decide +kernel
theorem d_M_init_21 : decode b_M_init 21 = .ok (.aload_n 0, 1) := by decide +kernel
theorem d_M_init_22 : decode b_M_init 22 = .ok (.lconst 1, 1) := by decide +kernel
theorem d_M_init_23 : decode b_M_init 23 = .ok (.putfield 17, 3) := by decide +kernel
theorem d_M_init_26 : decode b_M_init 26 = .ok (.aload_n 0, 1) := by decide +kernel
theorem d_M_init_27 : decode b_M_init 27 = .ok (.iconst 4, 1) := by decide +kernel
theorem d_M_init_28 : decode b_M_init 28 = .ok (.newarray .int, 2) := by decide +kernel
theorem d_M_init_30 : decode b_M_init 30 = .ok (.putfield 21, 3) := by decide +kernel
theorem d_M_init_33 : decode b_M_init 33 = .ok (.aload_n 0, 1) := by decide +kernel
theorem d_M_init_34 : decode b_M_init 34 = .ok (.iconst 4, 1) := by decide +kernel
theorem d_M_init_35 : decode b_M_init 35 = .ok (.newarray .int, 2) := by decide +kernel
theorem d_M_init_37 : decode b_M_init 37 = .ok (.dup, 1) := by decide +kernel
theorem d_M_init_38 : decode b_M_init 38 = .ok (.iconst 0, 1) := by decide +kernel
theorem d_M_init_39 : decode b_M_init 39 = .ok (.iconst (-1), 1) := by decide +kernel
theorem d_M_init_40 : decode b_M_init 40 = .ok (.iastore, 1) := by decide +kernel
theorem d_M_init_41 : decode b_M_init 41 = .ok (.dup, 1) := by decide +kernel
theorem d_M_init_42 : decode b_M_init 42 = .ok (.iconst 1, 1) := by decide +kernel
theorem d_M_init_43 : decode b_M_init 43 = .ok (.iconst (-1), 1) := by decide +kernel
theorem d_M_init_44 : decode b_M_init 44 = .ok (.iastore, 1) := by decide +kernel
theorem d_M_init_45 : decode b_M_init 45 = .ok (.dup, 1) := by decide +kernel
theorem d_M_init_46 : decode b_M_init 46 = .ok (.iconst 2, 1) := by decide +kernel
theorem d_M_init_47 : decode b_M_init 47 = .ok (.iconst (-1), 1) := by decide +kernel
theorem d_M_init_48 : decode b_M_init 48 = .ok (.iastore, 1) := by decide +kernel
theorem d_M_init_49 : decode b_M_init 49 = .ok (.dup, 1) := by decide +kernel
theorem d_M_init_50 : decode b_M_init 50 = .ok (.iconst 3, 1) := by decide +kernel
theorem d_M_init_51 : decode b_M_init 51 = .ok (.iconst (-1), 1) := by decide +kernel
theorem d_M_init_52 : decode b_M_init 52 = .ok (.iastore, 1) := by decide +kernel
theorem d_M_init_53 : decode b_M_init 53 = .ok (.putfield 24, 3) := by decide +kernel
theorem d_M_init_56 : decode b_M_init 56 = .ok (.aload_n 0, 1) := by decide +kernel
theorem d_M_init_57 : decode b_M_init 57 = .ok (.sipush 240, 3) := by decide +kernel
theorem d_M_init_60 : decode b_M_init 60 = .ok (.newarray .long, 2) := by decide +kernel
theorem d_M_init_62 : decode b_M_init 62 = .ok (.putfield 27, 3) := by decide +kernel
theorem d_M_init_65 : decode b_M_init 65 = .ok (.aload_n 0, 1) := by decide +kernel
theorem d_M_init_66 : decode b_M_init 66 = .ok (.sipush 900, 3) := by decide +kernel
theorem d_M_init_69 : decode b_M_init 69 = .ok (.newarray .byte, 2) := by decide +kernel
theorem d_M_init_71 : decode b_M_init 71 = .ok (.putfield 30, 3) := by decide +kernel
theorem d_M_init_74 : decode b_M_init 74 = .ok (.aload_n 0, 1) := by decide +kernel
theorem d_M_init_75 : decode b_M_init 75 = .ok (.sipush 900, 3) := by decide +kernel
theorem d_M_init_78 : decode b_M_init 78 = .ok (.newarray .byte, 2) := by decide +kernel
theorem d_M_init_80 : decode b_M_init 80 = .ok (.putfield 34, 3) := by decide +kernel
theorem d_M_init_83 : decode b_M_init 83 = .ok (.aload_n 0, 1) := by decide +kernel
theorem d_M_init_84 : decode b_M_init 84 = .ok (.iconst (-1), 1) := by decide +kernel
theorem d_M_init_85 : decode b_M_init 85 = .ok (.putfield 37, 3) := by decide +kernel
theorem d_M_init_88 : decode b_M_init 88 = .ok (.aload_n 0, 1) := by decide +kernel
theorem d_M_init_89 : decode b_M_init 89 = .ok (.iconst (-1), 1) := by decide +kernel
theorem d_M_init_90 : decode b_M_init 90 = .ok (.putfield 41, 3) := by decide +kernel
theorem d_M_init_93 : decode b_M_init 93 = .ok (.aload_n 0, 1) := by decide +kernel
theorem d_M_init_94 : decode b_M_init 94 = .ok (.iconst 3, 1) := by decide +kernel
theorem d_M_init_95 : decode b_M_init 95 = .ok (.newarray .int, 2) := by decide +kernel
theorem d_M_init_97 : decode b_M_init 97 = .ok (.putfield 44, 3) := by decide +kernel
theorem d_M_init_100 : decode b_M_init 100 = .ok (.aload_n 0, 1) := by decide +kernel
theorem d_M_init_101 : decode b_M_init 101 = .ok (.sipush 729, 3) := by decide +kernel
theorem d_M_init_104 : decode b_M_init 104 = .ok (.newarray .int, 2) := by decide +kernel
theorem d_M_init_106 : decode b_M_init 106 = .ok (.putfield 47, 3) := by decide +kernel
theorem d_M_init_109 : decode b_M_init 109 = .ok (.aload_n 0, 1) := by decide +kernel
theorem d_M_init_110 : decode b_M_init 110 = .ok (.iconst 3, 1) := by decide +kernel
theorem d_M_init_111 : decode b_M_init 111 = .ok (.newarray .int, 2) := by decide +kernel
theorem d_M_init_113 : decode b_M_init 113 = .ok (.putfield 50, 3) := by decide +kernel
theorem d_M_init_116 : decode b_M_init 116 = .ok (.aload_n 0, 1) := by decide +kernel
theorem d_M_init_117 : decode b_M_init 117 = .ok (.iconst 5, 1) := by decide +kernel
theorem d_M_init_118 : decode b_M_init 118 = .ok (.newarray .int, 2) := by decide +kernel
theorem d_M_init_120 : decode b_M_init 120 = .ok (.putfield 53, 3) := by decide +kernel
theorem d_M_init_123 : decode b_M_init 123 = .ok (.aload_n 0, 1) := by decide +kernel
theorem d_M_init_124 : decode b_M_init 124 = .ok (.iconst 5, 1) := by decide +kernel
theorem d_M_init_125 : decode b_M_init 125 = .ok (.newarray .int, 2) := by decide +kernel
theorem d_M_init_127 : decode b_M_init 127 = .ok (.putfield 56, 3) := by decide +kernel
theorem d_M_init_130 : decode b_M_init 130 = .ok (.aload_n 0, 1) := by decide +kernel
theorem d_M_init_131 : decode b_M_init 131 = .ok (.bipush 25, 2) := by decide +kernel
theorem d_M_init_133 : decode b_M_init 133 = .ok (.newarray .int, 2) := by decide +kernel
theorem d_M_init_135 : decode b_M_init 135 = .ok (.putfield 59, 3) := by decide +kernel
theorem d_M_init_138 : decode b_M_init 138 = .ok (.aload_n 0, 1) := by decide +kernel
theorem d_M_init_139 : decode b_M_init 139 = .ok (.bipush 25, 2) := by decide +kernel
theorem d_M_init_141 : decode b_M_init 141 = .ok (.newarray .int, 2) := by decide +kernel
theorem d_M_init_143 : decode b_M_init 143 = .ok (.putfield 62, 3) := by decide +kernel
theorem d_M_init_146 : decode b_M_init 146 = .ok (.aload_n 0, 1) := by decide +kernel
theorem d_M_init_147 : decode b_M_init 147 = .ok (.bipush 80, 2) := by decide +kernel
theorem d_M_init_149 : decode b_M_init 149 = .ok (.newarray .int, 2) := by decide +kernel
theorem d_M_init_151 : decode b_M_init 151 = .ok (.putfield 65, 3) := by decide +kernel
theorem d_M_init_154 : decode b_M_init 154 = .ok (.aload_n 0, 1) := by decide +kernel
theorem d_M_init_155 : decode b_M_init 155 = .ok (.bipush 80, 2) := by decide +kernel
theorem d_M_init_157 : decode b_M_init 157 = .ok (.newarray .int, 2) := by decide +kernel
theorem d_M_init_159 : decode b_M_init 159 = .ok (.putfield 68, 3) := by decide +kernel
theorem d_M_init_162 : decode b_M_init 162 = .ok (.aload_n 0, 1) := by decide +kernel
theorem d_M_init_163 : decode b_M_init 163 = .ok (.sipush 6656, 3) := by decide +kernel
theorem d_M_init_166 : decode b_M_init 166 = .ok (.newarray .int, 2) := by decide +kernel
theorem d_M_init_168 : decode b_M_init 168 = .ok (.putfield 71, 3) := by decide +kernel
theorem d_M_init_171 : decode b_M_init 171 = .ok (.aload_n 0, 1) := by decide +kernel
theorem d_M_init_172 : decode b_M_init 172 = .ok (.bipush 64, 2) := by decide +kernel
theorem d_M_init_174 : decode b_M_init 174 = .ok (.newarray .boolean, 2) := by decide +kernel
theorem d_M_init_176 : decode b_M_init 176 = .ok (.putfield 74, 3) := by decide +kernel
theorem d_M_init_179 : decode b_M_init 179 = .ok (.aload_n 0, 1) := by decide +kernel
theorem d_M_init_180 : decode b_M_init 180 = .ok (.bipush 64, 2) := by decide +kernel
theorem d_M_init_182 : decode b_M_init 182 = .ok (.newarray .boolean, 2) := by decide +kernel
theorem d_M_init_184 : decode b_M_init 184 = .ok (.putfield 78, 3) := by decide +kernel
theorem d_M_init_187 : decode b_M_init 187 = .ok (.aload_n 0, 1) := by decide +kernel
theorem d_M_init_188 : decode b_M_init 188 = .ok (.bipush 6, 2) := by decide +kernel
theorem d_M_init_190 : decode b_M_init 190 = .ok (.newarray .int, 2) := by decide +kernel
theorem d_M_init_192 : decode b_M_init 192 = .ok (.putfield 81, 3) := by decide +kernel
theorem d_M_init_195 : decode b_M_init 195 = .ok (.aload_n 0, 1) := by decide +kernel
theorem d_M_init_196 : decode b_M_init 196 = .ok (.iconst 5, 1) := by decide +kernel
theorem d_M_init_197 : decode b_M_init 197 = .ok (.newarray .int, 2) := by decide +kernel
theorem d_M_init_199 : decode b_M_init 199 = .ok (.putfield 84, 3) := by decide +kernel
theorem d_M_init_202 : decode b_M_init 202 = .ok (.aload_n 0, 1) := by decide +kernel
theorem d_M_init_203 : decode b_M_init 203 = .ok (.iconst 5, 1) := by decide +kernel
theorem d_M_init_204 : decode b_M_init 204 = .ok (.newarray .int, 2) := by decide +kernel
theorem d_M_init_206 : decode b_M_init 206 = .ok (.putfield 87, 3) := by decide +kernel
theorem d_M_init_209 : decode b_M_init 209 = .ok (.aload_n 0, 1) := by decide +kernel
theorem d_M_init_210 : decode b_M_init 210 = .ok (.iconst 5, 1) := by decide +kernel
theorem d_M_init_211 : decode b_M_init 211 = .ok (.newarray .int, 2) := by decide +kernel
theorem d_M_init_213 : decode b_M_init 213 = .ok (.putfield 90, 3) := by decide +kernel
theorem d_M_init_216 : decode b_M_init 216 = .ok (.aload_n 0, 1) := by decide +kernel
theorem d_M_init_217 : decode b_M_init 217 = .ok (.iconst 5, 1) := by decide +kernel
theorem d_M_init_218 : decode b_M_init 218 = .ok (.newarray .int, 2) := by decide +kernel
theorem d_M_init_220 : decode b_M_init 220 = .ok (.putfield 93, 3) := by decide +kernel
theorem d_M_init_223 : decode b_M_init 223 = .ok (.aload_n 0, 1) := by decide +kernel
theorem d_M_init_224 : decode b_M_init 224 = .ok (.iconst 5, 1) := by decide +kernel
theorem d_M_init_225 : decode b_M_init 225 = .ok (.newarray .int, 2) := by decide +kernel
theorem d_M_init_227 : decode b_M_init 227 = .ok (.putfield 96, 3) := by decide +kernel
theorem d_M_init_230 : decode b_M_init 230 = .ok (.aload_n 0, 1) := by decide +kernel
theorem d_M_init_231 : decode b_M_init 231 = .ok (.bipush 7, 2) := by decide +kernel
theorem d_M_init_233 : decode b_M_init 233 = .ok (.newarray .long, 2) := by decide +kernel
theorem d_M_init_235 : decode b_M_init 235 = .ok (.putfield 99, 3) := by decide +kernel
theorem d_M_init_238 : decode b_M_init 238 = .ok (.aload_n 0, 1) := by decide +kernel
theorem d_M_init_239 : decode b_M_init 239 = .ok (.bipush 80, 2) := by decide +kernel
theorem d_M_init_241 : decode b_M_init 241 = .ok (.newarray .int, 2) := by decide +kernel
theorem d_M_init_243 : decode b_M_init 243 = .ok (.putfield 102, 3) := by decide +kernel
theorem d_M_init_246 : decode b_M_init 246 = .ok (.aload_n 0, 1) := by decide +kernel
theorem d_M_init_247 : decode b_M_init 247 = .ok (.iconst 5, 1) := by decide +kernel
theorem d_M_init_248 : decode b_M_init 248 = .ok (.newarray .int, 2) := by decide +kernel
theorem d_M_init_250 : decode b_M_init 250 = .ok (.putfield 105, 3) := by decide +kernel
theorem d_M_init_253 : decode b_M_init 253 = .ok (.aload_n 0, 1) := by decide +kernel
theorem d_M_init_254 : decode b_M_init 254 = .ok (.iconst 5, 1) := by decide +kernel
theorem d_M_init_255 : decode b_M_init 255 = .ok (.newarray .int, 2) := by decide +kernel
theorem d_M_init_257 : decode b_M_init 257 = .ok (.putfield 108, 3) := by decide +kernel
theorem d_M_init_260 : decode b_M_init 260 = .ok (.aload_n 0, 1) := by decide +kernel
theorem d_M_init_261 : decode b_M_init 261 = .ok (.iconst 0, 1) := by decide +kernel
theorem d_M_init_262 : decode b_M_init 262 = .ok (.invokevirtual 111, 3) := by decide +kernel
theorem d_M_init_265 : decode b_M_init 265 = .ok (.return_, 1) := by decide +kernel
theorem d_M_plain_0 : decode b_M_plain 0 = .ok (.iconst 0, 1) := by decide +kernel
theorem d_M_plain_1 : decode b_M_plain 1 = .ok (.istore_n 2, 1) := by decide +kernel
theorem d_M_plain_2 : decode b_M_plain 2 = .ok (.iload_n 2, 1) := by decide +kernel
theorem d_M_plain_3 : decode b_M_plain 3 = .ok (.sipush 406, 3) := by decide +kernel
theorem d_M_plain_6 : decode b_M_plain 6 = .ok (.if_icmp .ge 18, 3) := by decide +kernel
theorem d_M_plain_9 : decode b_M_plain 9 = .ok (.aload_n 0, 1) := by decide +kernel
theorem d_M_plain_10 : decode b_M_plain 10 = .ok (.getfield 7, 3) := by decide +kernel
theorem d_M_plain_13 : decode b_M_plain 13 = .ok (.iload_n 1, 1) := by decide +kernel
theorem d_M_plain_14 : decode b_M_plain 14 = .ok (.iload_n 2, 1) := by decide +kernel
theorem d_M_plain_15 : decode b_M_plain 15 = .ok (.iadd, 1) := by decide +kernel
theorem d_M_plain_16 : decode b_M_plain 16 = .ok (.iconst 0, 1) := by decide +kernel
theorem d_M_plain_17 : decode b_M_plain 17 = .ok (.iastore, 1) := by decide +kernel
theorem d_M_plain_18 : decode b_M_plain 18 = .ok (.iinc 2 1, 3) := by decide +kernel
theorem d_M_plain_21 : decode b_M_plain 21 = .ok (.goto (-19), 3) := by decide +kernel
theorem d_M_plain_24 : decode b_M_plain 24 = .ok (.aload_n 0, 1) := by decide +kernel
theorem d_M_plain_25 : decode b_M_plain 25 = .ok (.getfield 7, 3) := by decide +kernel
theorem d_M_plain_28 : decode b_M_plain 28 = .ok (.iload_n 1, 1) := by decide +kernel
theorem d_M_plain_29 : decode b_M_plain 29 = .ok (.iconst 0, 1) := by decide +kernel
theorem d_M_plain_30 : decode b_M_plain 30 = .ok (.iadd, 1) := by decide +kernel
theorem d_M_plain_31 : decode b_M_plain 31 = .ok (.iconst 4, 1) := by decide +kernel
theorem d_M_plain_32 : decode b_M_plain 32 = .ok (.iastore, 1) := by decide +kernel
theorem d_M_plain_33 : decode b_M_plain 33 = .ok (.aload_n 0, 1) := by decide +kernel
theorem d_M_plain_34 : decode b_M_plain 34 = .ok (.getfield 7, 3) := by decide +kernel
theorem d_M_plain_37 : decode b_M_plain 37 = .ok (.iload_n 1, 1) := by decide +kernel
theorem d_M_plain_38 : decode b_M_plain 38 = .ok (.iconst 1, 1) := by decide +kernel
theorem d_M_plain_39 : decode b_M_plain 39 = .ok (.iadd, 1) := by decide +kernel
theorem d_M_plain_40 : decode b_M_plain 40 = .ok (.iconst 4, 1) := by decide +kernel
theorem d_M_plain_41 : decode b_M_plain 41 = .ok (.iastore, 1) := by decide +kernel
theorem d_M_plain_42 : decode b_M_plain 42 = .ok (.aload_n 0, 1) := by decide +kernel
theorem d_M_plain_43 : decode b_M_plain 43 = .ok (.getfield 7, 3) := by decide +kernel
theorem d_M_plain_46 : decode b_M_plain 46 = .ok (.iload_n 1, 1) := by decide +kernel
theorem d_M_plain_47 : decode b_M_plain 47 = .ok (.iconst 5, 1) := by decide +kernel
theorem d_M_plain_48 : decode b_M_plain 48 = .ok (.iadd, 1) := by decide +kernel
theorem d_M_plain_49 : decode b_M_plain 49 = .ok (.bipush 8, 2) := by decide +kernel
theorem d_M_plain_51 : decode b_M_plain 51 = .ok (.iastore, 1) := by decide +kernel
theorem d_M_plain_52 : decode b_M_plain 52 = .ok (.aload_n 0, 1) := by decide +kernel
theorem d_M_plain_53 : decode b_M_plain 53 = .ok (.getfield 7, 3) := by decide +kernel
theorem d_M_plain_56 : decode b_M_plain 56 = .ok (.iload_n 1, 1) := by decide +kernel
theorem d_M_plain_57 : decode b_M_plain 57 = .ok (.bipush 7, 2) := by decide +kernel
theorem d_M_plain_59 : decode b_M_plain 59 = .ok (.iadd, 1) := by decide +kernel
theorem d_M_plain_60 : decode b_M_plain 60 = .ok (.iconst (-1), 1) := by decide +kernel
theorem d_M_plain_61 : decode b_M_plain 61 = .ok (.iastore, 1) := by decide +kernel
theorem d_M_plain_62 : decode b_M_plain 62 = .ok (.return_, 1) := by decide +kernel
theorem d_M_status_0 : decode b_M_status 0 = .ok (.aload_n 0, 1) := by decide +kernel
theorem d_M_status_1 : decode b_M_status 1 = .ok (.getfield 115, 3) := by decide +kernel
theorem d_M_status_4 : decode b_M_status 4 = .ok (.ireturn, 1) := by decide +kernel
theorem d_M_top_0 : decode b_M_top 0 = .ok (.aload_n 0, 1) := by decide +kernel
theorem d_M_top_1 : decode b_M_top 1 = .ok (.getfield 118, 3) := by decide +kernel
theorem d_M_top_4 : decode b_M_top 4 = .ok (.lreturn, 1) := by decide +kernel
theorem d_M_bottom_0 : decode b_M_bottom 0 = .ok (.aload_n 0, 1) := by decide +kernel
theorem d_M_bottom_1 : decode b_M_bottom 1 = .ok (.getfield 17, 3) := by decide +kernel
theorem d_M_bottom_4 : decode b_M_bottom 4 = .ok (.lreturn, 1) := by decide +kernel
theorem d_M_tray_0 : decode b_M_tray 0 = .ok (.iload_n 1, 1) := by decide +kernel
theorem d_M_tray_1 : decode b_M_tray 1 = .ok (.invokestatic 132, 3) := by decide +kernel
theorem d_M_tray_4 : decode b_M_tray 4 = .ok (.ifCond .eq 22, 3) := by decide +kernel
theorem d_M_tray_7 : decode b_M_tray 7 = .ok (.iload_n 2, 1) := by decide +kernel
theorem d_M_tray_8 : decode b_M_tray 8 = .ok (.ifCond .lt 18, 3) := by decide +kernel
theorem d_M_tray_11 : decode b_M_tray 11 = .ok (.iload_n 2, 1) := by decide +kernel
theorem d_M_tray_12 : decode b_M_tray 12 = .ok (.iconst 3, 1) := by decide +kernel
theorem d_M_tray_13 : decode b_M_tray 13 = .ok (.if_icmp .gt 13, 3) := by decide +kernel
theorem d_M_tray_16 : decode b_M_tray 16 = .ok (.iload_n 3, 1) := by decide +kernel
theorem d_M_tray_17 : decode b_M_tray 17 = .ok (.ifCond .lt 9, 3) := by decide +kernel
theorem d_M_tray_20 : decode b_M_tray 20 = .ok (.iload_n 3, 1) := by decide +kernel
theorem d_M_tray_21 : decode b_M_tray 21 = .ok (.bipush 60, 2) := by decide +kernel
theorem d_M_tray_23 : decode b_M_tray 23 = .ok (.if_icmp .le 9, 3) := by decide +kernel
theorem d_M_tray_26 : decode b_M_tray 26 = .ok (.aload_n 0, 1) := by decide +kernel
theorem d_M_tray_27 : decode b_M_tray 27 = .ok (.iconst 1, 1) := by decide +kernel
theorem d_M_tray_28 : decode b_M_tray 28 = .ok (.invokevirtual 128, 3) := by decide +kernel
theorem d_M_tray_31 : decode b_M_tray 31 = .ok (.ireturn, 1) := by decide +kernel
theorem d_M_tray_32 : decode b_M_tray 32 = .ok (.aload_n 0, 1) := by decide +kernel
theorem d_M_tray_33 : decode b_M_tray 33 = .ok (.getfield 21, 3) := by decide +kernel
theorem d_M_tray_36 : decode b_M_tray 36 = .ok (.iload_n 1, 1) := by decide +kernel
theorem d_M_tray_37 : decode b_M_tray 37 = .ok (.iload_n 2, 1) := by decide +kernel
theorem d_M_tray_38 : decode b_M_tray 38 = .ok (.iastore, 1) := by decide +kernel
theorem d_M_tray_39 : decode b_M_tray 39 = .ok (.aload_n 0, 1) := by decide +kernel
theorem d_M_tray_40 : decode b_M_tray 40 = .ok (.getfield 24, 3) := by decide +kernel
theorem d_M_tray_43 : decode b_M_tray 43 = .ok (.iload_n 1, 1) := by decide +kernel
theorem d_M_tray_44 : decode b_M_tray 44 = .ok (.iload_n 3, 1) := by decide +kernel
theorem d_M_tray_45 : decode b_M_tray 45 = .ok (.iastore, 1) := by decide +kernel
theorem d_M_tray_46 : decode b_M_tray 46 = .ok (.iconst 0, 1) := by decide +kernel
theorem d_M_tray_47 : decode b_M_tray 47 = .ok (.istore 4, 2) := by decide +kernel
theorem d_M_tray_49 : decode b_M_tray 49 = .ok (.iload 4, 2) := by decide +kernel
theorem d_M_tray_51 : decode b_M_tray 51 = .ok (.iload_n 3, 1) := by decide +kernel
theorem d_M_tray_52 : decode b_M_tray 52 = .ok (.if_icmp .ge 22, 3) := by decide +kernel
theorem d_M_tray_55 : decode b_M_tray 55 = .ok (.aload_n 0, 1) := by decide +kernel
theorem d_M_tray_56 : decode b_M_tray 56 = .ok (.getfield 27, 3) := by decide +kernel
theorem d_M_tray_59 : decode b_M_tray 59 = .ok (.bipush 60, 2) := by decide +kernel
theorem d_M_tray_61 : decode b_M_tray 61 = .ok (.iload_n 1, 1) := by decide +kernel
theorem d_M_tray_62 : decode b_M_tray 62 = .ok (.imul, 1) := by decide +kernel
theorem d_M_tray_63 : decode b_M_tray 63 = .ok (.iload 4, 2) := by decide +kernel
theorem d_M_tray_65 : decode b_M_tray 65 = .ok (.iadd, 1) := by decide +kernel
theorem d_M_tray_66 : decode b_M_tray 66 = .ok (.lconst 0, 1) := by decide +kernel
theorem d_M_tray_67 : decode b_M_tray 67 = .ok (.lastore, 1) := by decide +kernel
theorem d_M_tray_68 : decode b_M_tray 68 = .ok (.iinc 4 1, 3) := by decide +kernel
theorem d_M_tray_71 : decode b_M_tray 71 = .ok (.goto (-22), 3) := by decide +kernel
theorem d_M_tray_74 : decode b_M_tray 74 = .ok (.aload_n 0, 1) := by decide +kernel
theorem d_M_tray_75 : decode b_M_tray 75 = .ok (.iconst 0, 1) := by decide +kernel
theorem d_M_tray_76 : decode b_M_tray 76 = .ok (.invokevirtual 128, 3) := by decide +kernel
theorem d_M_tray_79 : decode b_M_tray 79 = .ok (.ireturn, 1) := by decide +kernel
theorem d_M_isTray_0 : decode b_M_isTray 0 = .ok (.iload_n 0, 1) := by decide +kernel
theorem d_M_isTray_1 : decode b_M_isTray 1 = .ok (.ifCond .lt 12, 3) := by decide +kernel
theorem d_M_isTray_4 : decode b_M_isTray 4 = .ok (.iload_n 0, 1) := by decide +kernel
theorem d_M_isTray_5 : decode b_M_isTray 5 = .ok (.iconst 4, 1) := by decide +kernel
theorem d_M_isTray_6 : decode b_M_isTray 6 = .ok (.if_icmp .ge 7, 3) := by decide +kernel
theorem d_M_isTray_9 : decode b_M_isTray 9 = .ok (.iconst 1, 1) := by decide +kernel
theorem d_M_isTray_10 : decode b_M_isTray 10 = .ok (.goto 4, 3) := by decide +kernel
theorem d_M_isTray_13 : decode b_M_isTray 13 = .ok (.iconst 0, 1) := by decide +kernel
theorem d_M_isTray_14 : decode b_M_isTray 14 = .ok (.ireturn, 1) := by decide +kernel
theorem d_M_is_0 : decode b_M_is 0 = .ok (.aload_n 0, 1) := by decide +kernel
theorem d_M_is_1 : decode b_M_is 1 = .ok (.iload_n 1, 1) := by decide +kernel
theorem d_M_is_2 : decode b_M_is 2 = .ok (.putfield 115, 3) := by decide +kernel
theorem d_M_is_5 : decode b_M_is 5 = .ok (.iload_n 1, 1) := by decide +kernel
theorem d_M_is_6 : decode b_M_is 6 = .ok (.ifCond .ne 7, 3) := by decide +kernel
theorem d_M_is_9 : decode b_M_is 9 = .ok (.iconst 1, 1) := by decide +kernel
theorem d_M_is_10 : decode b_M_is 10 = .ok (.goto 4, 3) := by decide +kernel
theorem d_M_is_13 : decode b_M_is 13 = .ok (.iconst 0, 1) := by decide +kernel
theorem d_M_is_14 : decode b_M_is 14 = .ok (.ireturn, 1) := by decide +kernel
theorem d_M_write_0 : decode b_M_write 0 = .ok (.aload_n 0, 1) := by decide +kernel
theorem d_M_write_1 : decode b_M_write 1 = .ok (.iload_n 1, 1) := by decide +kernel
theorem d_M_write_2 : decode b_M_write 2 = .ok (.iload_n 2, 1) := by decide +kernel
theorem d_M_write_3 : decode b_M_write 3 = .ok (.invokevirtual 135, 3) := by decide +kernel
theorem d_M_write_6 : decode b_M_write 6 = .ok (.istore 5, 2) := by decide +kernel
theorem d_M_write_8 : decode b_M_write 8 = .ok (.iload 5, 2) := by decide +kernel
theorem d_M_write_10 : decode b_M_write 10 = .ok (.ifCond .ne 24, 3) := by decide +kernel
theorem d_M_write_13 : decode b_M_write 13 = .ok (.aload_n 0, 1) := by decide +kernel
theorem d_M_write_14 : decode b_M_write 14 = .ok (.getfield 27, 3) := by decide +kernel
theorem d_M_write_17 : decode b_M_write 17 = .ok (.bipush 60, 2) := by decide +kernel
theorem d_M_write_19 : decode b_M_write 19 = .ok (.iload_n 1, 1) := by decide +kernel
theorem d_M_write_20 : decode b_M_write 20 = .ok (.imul, 1) := by decide +kernel
theorem d_M_write_21 : decode b_M_write 21 = .ok (.iload_n 2, 1) := by decide +kernel
theorem d_M_write_22 : decode b_M_write 22 = .ok (.iadd, 1) := by decide +kernel
theorem d_M_write_23 : decode b_M_write 23 = .ok (.lload_n 3, 1) := by decide +kernel
theorem d_M_write_24 : decode b_M_write 24 = .ok (.aload_n 0, 1) := by decide +kernel
theorem d_M_write_25 : decode b_M_write 25 = .ok (.getfield 21, 3) := by decide +kernel
theorem d_M_write_28 : decode b_M_write 28 = .ok (.iload_n 1, 1) := by decide +kernel
theorem d_M_write_29 : decode b_M_write 29 = .ok (.iaload, 1) := by decide +kernel
theorem d_M_write_30 : decode b_M_write 30 = .ok (.invokestatic 139, 3) := by decide +kernel
theorem d_M_write_33 : decode b_M_write 33 = .ok (.lastore, 1) := by decide +kernel
theorem d_M_write_34 : decode b_M_write 34 = .ok (.aload_n 0, 1) := by decide +kernel
theorem d_M_write_35 : decode b_M_write 35 = .ok (.iload 5, 2) := by decide +kernel
theorem d_M_write_37 : decode b_M_write 37 = .ok (.invokevirtual 128, 3) := by decide +kernel
theorem d_M_write_40 : decode b_M_write 40 = .ok (.ireturn, 1) := by decide +kernel
theorem d_M_wrongPlace_0 : decode b_M_wrongPlace 0 = .ok (.iload_n 1, 1) := by decide +kernel
theorem d_M_wrongPlace_1 : decode b_M_wrongPlace 1 = .ok (.invokestatic 132, 3) := by decide +kernel
theorem d_M_wrongPlace_4 : decode b_M_wrongPlace 4 = .ok (.ifCond .ne 7, 3) := by decide +kernel
theorem d_M_wrongPlace_7 : decode b_M_wrongPlace 7 = .ok (.iconst 1, 1) := by decide +kernel
theorem d_M_wrongPlace_8 : decode b_M_wrongPlace 8 = .ok (.goto 36, 3) := by decide +kernel
theorem d_M_wrongPlace_11 : decode b_M_wrongPlace 11 = .ok (.aload_n 0, 1) := by decide +kernel
theorem d_M_wrongPlace_12 : decode b_M_wrongPlace 12 = .ok (.getfield 24, 3) := by decide +kernel
theorem d_M_wrongPlace_15 : decode b_M_wrongPlace 15 = .ok (.iload_n 1, 1) := by decide +kernel
theorem d_M_wrongPlace_16 : decode b_M_wrongPlace 16 = .ok (.iaload, 1) := by decide +kernel
theorem d_M_wrongPlace_17 : decode b_M_wrongPlace 17 = .ok (.iconst (-1), 1) := by decide +kernel
theorem d_M_wrongPlace_18 : decode b_M_wrongPlace 18 = .ok (.if_icmp .ne 7, 3) := by decide +kernel
theorem d_M_wrongPlace_21 : decode b_M_wrongPlace 21 = .ok (.iconst 2, 1) := by decide +kernel
theorem d_M_wrongPlace_22 : decode b_M_wrongPlace 22 = .ok (.goto 22, 3) := by decide +kernel
theorem d_M_wrongPlace_25 : decode b_M_wrongPlace 25 = .ok (.iload_n 2, 1) := by decide +kernel
theorem d_M_wrongPlace_26 : decode b_M_wrongPlace 26 = .ok (.ifCond .lt 13, 3) := by decide +kernel
theorem d_M_wrongPlace_29 : decode b_M_wrongPlace 29 = .ok (.iload_n 2, 1) := by decide +kernel
theorem d_M_wrongPlace_30 : decode b_M_wrongPlace 30 = .ok (.aload_n 0, 1) := by decide +kernel
theorem d_M_wrongPlace_31 : decode b_M_wrongPlace 31 = .ok (.getfield 24, 3) := by decide +kernel
theorem d_M_wrongPlace_34 : decode b_M_wrongPlace 34 = .ok (.iload_n 1, 1) := by decide +kernel
theorem d_M_wrongPlace_35 : decode b_M_wrongPlace 35 = .ok (.iaload, 1) := by decide +kernel
theorem d_M_wrongPlace_36 : decode b_M_wrongPlace 36 = .ok (.if_icmp .lt 7, 3) := by decide +kernel
theorem d_M_wrongPlace_39 : decode b_M_wrongPlace 39 = .ok (.iconst 3, 1) := by decide +kernel
theorem d_M_wrongPlace_40 : decode b_M_wrongPlace 40 = .ok (.goto 4, 3) := by decide +kernel
theorem d_M_wrongPlace_43 : decode b_M_wrongPlace 43 = .ok (.iconst 0, 1) := by decide +kernel
theorem d_M_wrongPlace_44 : decode b_M_wrongPlace 44 = .ok (.ireturn, 1) := by decide +kernel
theorem d_M_cut_0 : decode b_M_cut 0 = .ok (.iload_n 2, 1) := by decide +kernel
theorem d_M_cut_1 : decode b_M_cut 1 = .ok (.ifCond .ne 10, 3) := by decide +kernel
theorem d_M_cut_4 : decode b_M_cut 4 = .ok (.lload_n 0, 1) := by decide +kernel
theorem d_M_cut_5 : decode b_M_cut 5 = .ok (.l2i, 1) := by decide +kernel
theorem d_M_cut_6 : decode b_M_cut 6 = .ok (.i2b, 1) := by decide +kernel
theorem d_M_cut_7 : decode b_M_cut 7 = .ok (.i2l, 1) := by decide +kernel
theorem d_M_cut_8 : decode b_M_cut 8 = .ok (.goto 27, 3) := by decide +kernel
theorem d_M_cut_11 : decode b_M_cut 11 = .ok (.iload_n 2, 1) := by decide +kernel
theorem d_M_cut_12 : decode b_M_cut 12 = .ok (.iconst 1, 1) := by decide +kernel
theorem d_M_cut_13 : decode b_M_cut 13 = .ok (.if_icmp .ne 10, 3) := by decide +kernel
theorem d_M_cut_16 : decode b_M_cut 16 = .ok (.lload_n 0, 1) := by decide +kernel
theorem d_M_cut_17 : decode b_M_cut 17 = .ok (.l2i, 1) := by decide +kernel
theorem d_M_cut_18 : decode b_M_cut 18 = .ok (.i2s, 1) := by decide +kernel
theorem d_M_cut_19 : decode b_M_cut 19 = .ok (.i2l, 1) := by decide +kernel
theorem d_M_cut_20 : decode b_M_cut 20 = .ok (.goto 15, 3) := by decide +kernel
theorem d_M_cut_23 : decode b_M_cut 23 = .ok (.iload_n 2, 1) := by decide +kernel
theorem d_M_cut_24 : decode b_M_cut 24 = .ok (.iconst 2, 1) := by decide +kernel
theorem d_M_cut_25 : decode b_M_cut 25 = .ok (.if_icmp .ne 9, 3) := by decide +kernel
theorem d_M_cut_28 : decode b_M_cut 28 = .ok (.lload_n 0, 1) := by decide +kernel
theorem d_M_cut_29 : decode b_M_cut 29 = .ok (.l2i, 1) := by decide +kernel
theorem d_M_cut_30 : decode b_M_cut 30 = .ok (.i2l, 1) := by decide +kernel
theorem d_M_cut_31 : decode b_M_cut 31 = .ok (.goto 4, 3) := by decide +kernel
theorem d_M_cut_34 : decode b_M_cut 34 = .ok (.lload_n 0, 1) := by decide +kernel
theorem d_M_cut_35 : decode b_M_cut 35 = .ok (.lreturn, 1) := by decide +kernel
theorem d_M_read_0 : decode b_M_read 0 = .ok (.aload_n 0, 1) := by decide +kernel
theorem d_M_read_1 : decode b_M_read 1 = .ok (.aload_n 0, 1) := by decide +kernel
theorem d_M_read_2 : decode b_M_read 2 = .ok (.iload_n 1, 1) := by decide +kernel
theorem d_M_read_3 : decode b_M_read 3 = .ok (.iload_n 2, 1) := by decide +kernel
theorem d_M_read_4 : decode b_M_read 4 = .ok (.invokevirtual 135, 3) := by decide +kernel
theorem d_M_read_7 : decode b_M_read 7 = .ok (.putfield 115, 3) := by decide +kernel
theorem d_M_read_10 : decode b_M_read 10 = .ok (.aload_n 0, 1) := by decide +kernel
theorem d_M_read_11 : decode b_M_read 11 = .ok (.getfield 115, 3) := by decide +kernel
theorem d_M_read_14 : decode b_M_read 14 = .ok (.ifCond .le 9, 3) := by decide +kernel
theorem d_M_read_17 : decode b_M_read 17 = .ok (.ldc2_w 143, 3) := by decide +kernel
theorem d_M_read_20 : decode b_M_read 20 = .ok (.goto 14, 3) := by decide +kernel
theorem d_M_read_23 : decode b_M_read 23 = .ok (.aload_n 0, 1) := by decide +kernel
theorem d_M_read_24 : decode b_M_read 24 = .ok (.getfield 27, 3) := by decide +kernel
theorem d_M_read_27 : decode b_M_read 27 = .ok (.bipush 60, 2) := by decide +kernel
theorem d_M_read_29 : decode b_M_read 29 = .ok (.iload_n 1, 1) := by decide +kernel
theorem d_M_read_30 : decode b_M_read 30 = .ok (.imul, 1) := by decide +kernel
theorem d_M_read_31 : decode b_M_read 31 = .ok (.iload_n 2, 1) := by decide +kernel
theorem d_M_read_32 : decode b_M_read 32 = .ok (.iadd, 1) := by decide +kernel
theorem d_M_read_33 : decode b_M_read 33 = .ok (.laload, 1) := by decide +kernel
theorem d_M_read_34 : decode b_M_read 34 = .ok (.lreturn, 1) := by decide +kernel
theorem d_M_pour_0 : decode b_M_pour 0 = .ok (.iload_n 1, 1) := by decide +kernel
theorem d_M_pour_1 : decode b_M_pour 1 = .ok (.invokestatic 132, 3) := by decide +kernel
theorem d_M_pour_4 : decode b_M_pour 4 = .ok (.ifCond .eq 24, 3) := by decide +kernel
theorem d_M_pour_7 : decode b_M_pour 7 = .ok (.iload_n 3, 1) := by decide +kernel
theorem d_M_pour_8 : decode b_M_pour 8 = .ok (.invokestatic 132, 3) := by decide +kernel
theorem d_M_pour_11 : decode b_M_pour 11 = .ok (.ifCond .eq 17, 3) := by decide +kernel
theorem d_M_pour_14 : decode b_M_pour 14 = .ok (.iload_n 2, 1) := by decide +kernel
theorem d_M_pour_15 : decode b_M_pour 15 = .ok (.ifCond .lt 13, 3) := by decide +kernel
theorem d_M_pour_18 : decode b_M_pour 18 = .ok (.iload 4, 2) := by decide +kernel
theorem d_M_pour_20 : decode b_M_pour 20 = .ok (.ifCond .lt 8, 3) := by decide +kernel
theorem d_M_pour_23 : decode b_M_pour 23 = .ok (.iload 5, 2) := by decide +kernel
theorem d_M_pour_25 : decode b_M_pour 25 = .ok (.ifCond .ge 9, 3) := by decide +kernel
theorem d_M_pour_28 : decode b_M_pour 28 = .ok (.aload_n 0, 1) := by decide +kernel
theorem d_M_pour_29 : decode b_M_pour 29 = .ok (.iconst 1, 1) := by decide +kernel
theorem d_M_pour_30 : decode b_M_pour 30 = .ok (.invokevirtual 128, 3) := by decide +kernel
theorem d_M_pour_33 : decode b_M_pour 33 = .ok (.ireturn, 1) := by decide +kernel
theorem d_M_pour_34 : decode b_M_pour 34 = .ok (.aload_n 0, 1) := by decide +kernel
theorem d_M_pour_35 : decode b_M_pour 35 = .ok (.getfield 24, 3) := by decide +kernel
theorem d_M_pour_38 : decode b_M_pour 38 = .ok (.iload_n 1, 1) := by decide +kernel
theorem d_M_pour_39 : decode b_M_pour 39 = .ok (.iaload, 1) := by decide +kernel
theorem d_M_pour_40 : decode b_M_pour 40 = .ok (.iconst (-1), 1) := by decide +kernel
theorem d_M_pour_41 : decode b_M_pour 41 = .ok (.if_icmp .eq 13, 3) := by decide +kernel
theorem d_M_pour_44 : decode b_M_pour 44 = .ok (.aload_n 0, 1) := by decide +kernel
theorem d_M_pour_45 : decode b_M_pour 45 = .ok (.getfield 24, 3) := by decide +kernel
theorem d_M_pour_48 : decode b_M_pour 48 = .ok (.iload_n 3, 1) := by decide +kernel
theorem d_M_pour_49 : decode b_M_pour 49 = .ok (.iaload, 1) := by decide +kernel
theorem d_M_pour_50 : decode b_M_pour 50 = .ok (.iconst (-1), 1) := by decide +kernel
theorem d_M_pour_51 : decode b_M_pour 51 = .ok (.if_icmp .ne 9, 3) := by decide +kernel
theorem d_M_pour_54 : decode b_M_pour 54 = .ok (.aload_n 0, 1) := by decide +kernel
theorem d_M_pour_55 : decode b_M_pour 55 = .ok (.iconst 2, 1) := by decide +kernel
theorem d_M_pour_56 : decode b_M_pour 56 = .ok (.invokevirtual 128, 3) := by decide +kernel
theorem d_M_pour_59 : decode b_M_pour 59 = .ok (.ireturn, 1) := by decide +kernel
theorem d_M_pour_60 : decode b_M_pour 60 = .ok (.aload_n 0, 1) := by decide +kernel
theorem d_M_pour_61 : decode b_M_pour 61 = .ok (.getfield 21, 3) := by decide +kernel
theorem d_M_pour_64 : decode b_M_pour 64 = .ok (.iload_n 1, 1) := by decide +kernel
theorem d_M_pour_65 : decode b_M_pour 65 = .ok (.iaload, 1) := by decide +kernel
theorem d_M_pour_66 : decode b_M_pour 66 = .ok (.aload_n 0, 1) := by decide +kernel
theorem d_M_pour_67 : decode b_M_pour 67 = .ok (.getfield 21, 3) := by decide +kernel
theorem d_M_pour_70 : decode b_M_pour 70 = .ok (.iload_n 3, 1) := by decide +kernel
theorem d_M_pour_71 : decode b_M_pour 71 = .ok (.iaload, 1) := by decide +kernel
theorem d_M_pour_72 : decode b_M_pour 72 = .ok (.if_icmp .eq 10, 3) := by decide +kernel
theorem d_M_pour_75 : decode b_M_pour 75 = .ok (.aload_n 0, 1) := by decide +kernel
theorem d_M_pour_76 : decode b_M_pour 76 = .ok (.bipush 8, 2) := by decide +kernel
theorem d_M_pour_78 : decode b_M_pour 78 = .ok (.invokevirtual 128, 3) := by decide +kernel
theorem d_M_pour_81 : decode b_M_pour 81 = .ok (.ireturn, 1) := by decide +kernel
theorem d_M_pour_82 : decode b_M_pour 82 = .ok (.iload 5, 2) := by decide +kernel
theorem d_M_pour_84 : decode b_M_pour 84 = .ok (.aload_n 0, 1) := by decide +kernel
theorem d_M_pour_85 : decode b_M_pour 85 = .ok (.getfield 24, 3) := by decide +kernel
theorem d_M_pour_88 : decode b_M_pour 88 = .ok (.iload_n 1, 1) := by decide +kernel
theorem d_M_pour_89 : decode b_M_pour 89 = .ok (.iaload, 1) := by decide +kernel
theorem d_M_pour_90 : decode b_M_pour 90 = .ok (.iload_n 2, 1) := by decide +kernel
theorem d_M_pour_91 : decode b_M_pour 91 = .ok (.isub, 1) := by decide +kernel
theorem d_M_pour_92 : decode b_M_pour 92 = .ok (.if_icmp .gt 17, 3) := by decide +kernel
theorem d_M_pour_95 : decode b_M_pour 95 = .ok (.iload 5, 2) := by decide +kernel
theorem d_M_pour_97 : decode b_M_pour 97 = .ok (.aload_n 0, 1) := by decide +kernel
theorem d_M_pour_98 : decode b_M_pour 98 = .ok (.getfield 24, 3) := by decide +kernel
theorem d_M_pour_101 : decode b_M_pour 101 = .ok (.iload_n 3, 1) := by decide +kernel
theorem d_M_pour_102 : decode b_M_pour 102 = .ok (.iaload, 1) := by decide +kernel
theorem d_M_pour_103 : decode b_M_pour 103 = .ok (.iload 4, 2) := by decide +kernel
theorem d_M_pour_105 : decode b_M_pour 105 = .ok (.isub, 1) := by decide +kernel
theorem d_M_pour_106 : decode b_M_pour 106 = .ok (.if_icmp .le 9, 3) := by decide +kernel
theorem d_M_pour_109 : decode b_M_pour 109 = .ok (.aload_n 0, 1) := by decide +kernel
theorem d_M_pour_110 : decode b_M_pour 110 = .ok (.iconst 3, 1) := by decide +kernel
theorem d_M_pour_111 : decode b_M_pour 111 = .ok (.invokevirtual 128, 3) := by decide +kernel
theorem d_M_pour_114 : decode b_M_pour 114 = .ok (.ireturn, 1) := by decide +kernel
theorem d_M_pour_115 : decode b_M_pour 115 = .ok (.iconst 0, 1) := by decide +kernel
theorem d_M_pour_116 : decode b_M_pour 116 = .ok (.istore 6, 2) := by decide +kernel
theorem d_M_pour_118 : decode b_M_pour 118 = .ok (.iload 6, 2) := by decide +kernel
theorem d_M_pour_120 : decode b_M_pour 120 = .ok (.iload 5, 2) := by decide +kernel
theorem d_M_pour_122 : decode b_M_pour 122 = .ok (.if_icmp .ge 58, 3) := by decide +kernel
theorem d_M_pour_125 : decode b_M_pour 125 = .ok (.iload_n 2, 1) := by decide +kernel
theorem d_M_pour_126 : decode b_M_pour 126 = .ok (.iload 4, 2) := by decide +kernel
theorem d_M_pour_128 : decode b_M_pour 128 = .ok (.if_icmp .ge 13, 3) := by decide +kernel
theorem d_M_pour_131 : decode b_M_pour 131 = .ok (.iload 5, 2) := by decide +kernel
theorem d_M_pour_133 : decode b_M_pour 133 = .ok (.iconst 1, 1) := by decide +kernel
theorem d_M_pour_134 : decode b_M_pour 134 = .ok (.isub, 1) := by decide +kernel
theorem d_M_pour_135 : decode b_M_pour 135 = .ok (.iload 6, 2) := by decide +kernel
theorem d_M_pour_137 : decode b_M_pour 137 = .ok (.isub, 1) := by decide +kernel
theorem d_M_pour_138 : decode b_M_pour 138 = .ok (.goto 5, 3) := by decide +kernel
theorem d_M_pour_141 : decode b_M_pour 141 = .ok (.iload 6, 2) := by decide +kernel
theorem d_M_pour_143 : decode b_M_pour 143 = .ok (.istore 7, 2) := by decide +kernel
theorem d_M_pour_145 : decode b_M_pour 145 = .ok (.aload_n 0, 1) := by decide +kernel
theorem d_M_pour_146 : decode b_M_pour 146 = .ok (.getfield 27, 3) := by decide +kernel
theorem d_M_pour_149 : decode b_M_pour 149 = .ok (.bipush 60, 2) := by decide +kernel
theorem d_M_pour_151 : decode b_M_pour 151 = .ok (.iload_n 3, 1) := by decide +kernel
theorem d_M_pour_152 : decode b_M_pour 152 = .ok (.imul, 1) := by decide +kernel
theorem d_M_pour_153 : decode b_M_pour 153 = .ok (.iload 4, 2) := by decide +kernel
theorem d_M_pour_155 : decode b_M_pour 155 = .ok (.iadd, 1) := by decide +kernel
theorem d_M_pour_156 : decode b_M_pour 156 = .ok (.iload 7, 2) := by decide +kernel
theorem d_M_pour_158 : decode b_M_pour 158 = .ok (.iadd, 1) := by decide +kernel
theorem d_M_pour_159 : decode b_M_pour 159 = .ok (.aload_n 0, 1) := by decide +kernel
theorem d_M_pour_160 : decode b_M_pour 160 = .ok (.getfield 27, 3) := by decide +kernel
theorem d_M_pour_163 : decode b_M_pour 163 = .ok (.bipush 60, 2) := by decide +kernel
theorem d_M_pour_165 : decode b_M_pour 165 = .ok (.iload_n 1, 1) := by decide +kernel
theorem d_M_pour_166 : decode b_M_pour 166 = .ok (.imul, 1) := by decide +kernel
theorem d_M_pour_167 : decode b_M_pour 167 = .ok (.iload_n 2, 1) := by decide +kernel
theorem d_M_pour_168 : decode b_M_pour 168 = .ok (.iadd, 1) := by decide +kernel
theorem d_M_pour_169 : decode b_M_pour 169 = .ok (.iload 7, 2) := by decide +kernel
theorem d_M_pour_171 : decode b_M_pour 171 = .ok (.iadd, 1) := by decide +kernel
theorem d_M_pour_172 : decode b_M_pour 172 = .ok (.laload, 1) := by decide +kernel
theorem d_M_pour_173 : decode b_M_pour 173 = .ok (.lastore, 1) := by decide +kernel
theorem d_M_pour_174 : decode b_M_pour 174 = .ok (.iinc 6 1, 3) := by decide +kernel
theorem d_M_pour_177 : decode b_M_pour 177 = .ok (.goto (-59), 3) := by decide +kernel
theorem d_M_pour_180 : decode b_M_pour 180 = .ok (.aload_n 0, 1) := by decide +kernel
theorem d_M_pour_181 : decode b_M_pour 181 = .ok (.iconst 0, 1) := by decide +kernel
theorem d_M_pour_182 : decode b_M_pour 182 = .ok (.invokevirtual 128, 3) := by decide +kernel
theorem d_M_pour_185 : decode b_M_pour 185 = .ok (.ireturn, 1) := by decide +kernel
theorem d_M_feed_0 : decode b_M_feed 0 = .ok (.aload_n 0, 1) := by decide +kernel
theorem d_M_feed_1 : decode b_M_feed 1 = .ok (.getfield 145, 3) := by decide +kernel
theorem d_M_feed_4 : decode b_M_feed 4 = .ok (.bipush 20, 2) := by decide +kernel
theorem d_M_feed_6 : decode b_M_feed 6 = .ok (.iadd, 1) := by decide +kernel
theorem d_M_feed_7 : decode b_M_feed 7 = .ok (.sipush 900, 3) := by decide +kernel
theorem d_M_feed_10 : decode b_M_feed 10 = .ok (.if_icmp .le 5, 3) := by decide +kernel
theorem d_M_feed_13 : decode b_M_feed 13 = .ok (.iconst (-1), 1) := by decide +kernel
theorem d_M_feed_14 : decode b_M_feed 14 = .ok (.ireturn, 1) := by decide +kernel
theorem d_M_feed_15 : decode b_M_feed 15 = .ok (.aload_n 0, 1) := by decide +kernel
theorem d_M_feed_16 : decode b_M_feed 16 = .ok (.iload_n 1, 1) := by decide +kernel
theorem d_M_feed_17 : decode b_M_feed 17 = .ok (.invokevirtual 148, 3) := by decide +kernel
theorem d_M_feed_20 : decode b_M_feed 20 = .ok (.aload_n 0, 1) := by decide +kernel
theorem d_M_feed_21 : decode b_M_feed 21 = .ok (.iload_n 2, 1) := by decide +kernel
theorem d_M_feed_22 : decode b_M_feed 22 = .ok (.invokevirtual 148, 3) := by decide +kernel
theorem d_M_feed_25 : decode b_M_feed 25 = .ok (.aload_n 0, 1) := by decide +kernel
theorem d_M_feed_26 : decode b_M_feed 26 = .ok (.iload_n 3, 1) := by decide +kernel
theorem d_M_feed_27 : decode b_M_feed 27 = .ok (.invokevirtual 148, 3) := by decide +kernel
theorem d_M_feed_30 : decode b_M_feed 30 = .ok (.aload_n 0, 1) := by decide +kernel
theorem d_M_feed_31 : decode b_M_feed 31 = .ok (.iload 4, 2) := by decide +kernel
theorem d_M_feed_33 : decode b_M_feed 33 = .ok (.invokevirtual 148, 3) := by decide +kernel
theorem d_M_feed_36 : decode b_M_feed 36 = .ok (.aload_n 0, 1) := by decide +kernel
theorem d_M_feed_37 : decode b_M_feed 37 = .ok (.iload 5, 2) := by decide +kernel
theorem d_M_feed_39 : decode b_M_feed 39 = .ok (.invokevirtual 148, 3) := by decide +kernel
theorem d_M_feed_42 : decode b_M_feed 42 = .ok (.aload_n 0, 1) := by decide +kernel
theorem d_M_feed_43 : decode b_M_feed 43 = .ok (.getfield 145, 3) := by decide +kernel
theorem d_M_feed_46 : decode b_M_feed 46 = .ok (.ireturn, 1) := by decide +kernel
theorem d_M_four_0 : decode b_M_four 0 = .ok (.bipush 24, 2) := by decide +kernel
theorem d_M_four_2 : decode b_M_four 2 = .ok (.istore_n 2, 1) := by decide +kernel
theorem d_M_four_3 : decode b_M_four 3 = .ok (.iload_n 2, 1) := by decide +kernel
theorem d_M_four_4 : decode b_M_four 4 = .ok (.ifCond .lt 32, 3) := by decide +kernel
theorem d_M_four_7 : decode b_M_four 7 = .ok (.aload_n 0, 1) := by decide +kernel
theorem d_M_four_8 : decode b_M_four 8 = .ok (.getfield 30, 3) := by decide +kernel
theorem d_M_four_11 : decode b_M_four 11 = .ok (.aload_n 0, 1) := by decide +kernel
theorem d_M_four_12 : decode b_M_four 12 = .ok (.getfield 145, 3) := by decide +kernel
theorem d_M_four_15 : decode b_M_four 15 = .ok (.iload_n 1, 1) := by decide +kernel
theorem d_M_four_16 : decode b_M_four 16 = .ok (.iload_n 2, 1) := by decide +kernel
theorem d_M_four_17 : decode b_M_four 17 = .ok (.ishr, 1) := by decide +kernel
theorem d_M_four_18 : decode b_M_four 18 = .ok (.i2b, 1) := by decide +kernel
theorem d_M_four_19 : decode b_M_four 19 = .ok (.bastore, 1) := by decide +kernel
theorem d_M_four_20 : decode b_M_four 20 = .ok (.aload_n 0, 1) := by decide +kernel
theorem d_M_four_21 : decode b_M_four 21 = .ok (.dup, 1) := by decide +kernel
theorem d_M_four_22 : decode b_M_four 22 = .ok (.getfield 145, 3) := by decide +kernel
theorem d_M_four_25 : decode b_M_four 25 = .ok (.iconst 1, 1) := by decide +kernel
theorem d_M_four_26 : decode b_M_four 26 = .ok (.iadd, 1) := by decide +kernel
theorem d_M_four_27 : decode b_M_four 27 = .ok (.putfield 145, 3) := by decide +kernel
theorem d_M_four_30 : decode b_M_four 30 = .ok (.iinc 2 (-8), 3) := by decide +kernel
theorem d_M_four_33 : decode b_M_four 33 = .ok (.goto (-30), 3) := by decide +kernel
theorem d_M_four_36 : decode b_M_four 36 = .ok (.return_, 1) := by decide +kernel
theorem d_M_fault_0 : decode b_M_fault 0 = .ok (.iload_n 1, 1) := by decide +kernel
theorem d_M_fault_1 : decode b_M_fault 1 = .ok (.ifCond .ne 10, 3) := by decide +kernel
theorem d_M_fault_4 : decode b_M_fault 4 = .ok (.aload_n 0, 1) := by decide +kernel
theorem d_M_fault_5 : decode b_M_fault 5 = .ok (.getfield 37, 3) := by decide +kernel
theorem d_M_fault_8 : decode b_M_fault 8 = .ok (.goto 16, 3) := by decide +kernel
theorem d_M_fault_11 : decode b_M_fault 11 = .ok (.iload_n 1, 1) := by decide +kernel
theorem d_M_fault_12 : decode b_M_fault 12 = .ok (.iconst 1, 1) := by decide +kernel
theorem d_M_fault_13 : decode b_M_fault 13 = .ok (.if_icmp .ne 10, 3) := by decide +kernel
theorem d_M_fault_16 : decode b_M_fault 16 = .ok (.aload_n 0, 1) := by decide +kernel
theorem d_M_fault_17 : decode b_M_fault 17 = .ok (.getfield 41, 3) := by decide +kernel
theorem d_M_fault_20 : decode b_M_fault 20 = .ok (.goto 4, 3) := by decide +kernel
theorem d_M_fault_23 : decode b_M_fault 23 = .ok (.iconst (-1), 1) := by decide +kernel
theorem d_M_fault_24 : decode b_M_fault 24 = .ok (.ireturn, 1) := by decide +kernel
theorem d_M_square_0 : decode b_M_square 0 = .ok (.aload_n 0, 1) := by decide +kernel
theorem d_M_square_1 : decode b_M_square 1 = .ok (.iload_n 1, 1) := by decide +kernel
theorem d_M_square_2 : decode b_M_square 2 = .ok (.sipush 900, 3) := by decide +kernel
theorem d_M_square_5 : decode b_M_square 5 = .ok (.invokevirtual 273, 3) := by decide +kernel
theorem d_M_square_8 : decode b_M_square 8 = .ok (.ifCond .ne 9, 3) := by decide +kernel
theorem d_M_square_11 : decode b_M_square 11 = .ok (.aload_n 0, 1) := by decide +kernel
theorem d_M_square_12 : decode b_M_square 12 = .ok (.iconst 1, 1) := by decide +kernel
theorem d_M_square_13 : decode b_M_square 13 = .ok (.invokevirtual 121, 3) := by decide +kernel
theorem d_M_square_16 : decode b_M_square 16 = .ok (.ireturn, 1) := by decide +kernel
theorem d_M_square_17 : decode b_M_square 17 = .ok (.aload_n 0, 1) := by decide +kernel
theorem d_M_square_18 : decode b_M_square 18 = .ok (.sipush 1624, 3) := by decide +kernel
theorem d_M_square_21 : decode b_M_square 21 = .ok (.invokevirtual 111, 3) := by decide +kernel
theorem d_M_square_24 : decode b_M_square 24 = .ok (.aload_n 0, 1) := by decide +kernel
theorem d_M_square_25 : decode b_M_square 25 = .ok (.iconst 0, 1) := by decide +kernel
theorem d_M_square_26 : decode b_M_square 26 = .ok (.putfield 254, 3) := by decide +kernel
theorem d_M_square_29 : decode b_M_square 29 = .ok (.iconst 1, 1) := by decide +kernel
theorem d_M_square_30 : decode b_M_square 30 = .ok (.istore_n 2, 1) := by decide +kernel
theorem d_M_square_31 : decode b_M_square 31 = .ok (.iload_n 2, 1) := by decide +kernel
theorem d_M_square_32 : decode b_M_square 32 = .ok (.ifCond .eq 18, 3) := by decide +kernel
theorem d_M_square_35 : decode b_M_square 35 = .ok (.aload_n 0, 1) := by decide +kernel
theorem d_M_square_36 : decode b_M_square 36 = .ok (.getfield 166, 3) := by decide +kernel
theorem d_M_square_39 : decode b_M_square 39 = .ok (.ifCond .eq 11, 3) := by decide +kernel
theorem d_M_square_42 : decode b_M_square 42 = .ok (.aload_n 0, 1) := by decide +kernel
theorem d_M_square_43 : decode b_M_square 43 = .ok (.invokevirtual 276, 3) := by decide +kernel
theorem d_M_square_46 : decode b_M_square 46 = .ok (.istore_n 2, 1) := by decide +kernel
theorem d_M_square_47 : decode b_M_square 47 = .ok (.goto (-16), 3) := by decide +kernel
theorem d_M_square_50 : decode b_M_square 50 = .ok (.aload_n 0, 1) := by decide +kernel
theorem d_M_square_51 : decode b_M_square 51 = .ok (.getfield 191, 3) := by decide +kernel
theorem d_M_square_54 : decode b_M_square 54 = .ok (.ifCond .ne 63, 3) := by decide +kernel
theorem d_M_square_57 : decode b_M_square 57 = .ok (.iconst 0, 1) := by decide +kernel
theorem d_M_square_58 : decode b_M_square 58 = .ok (.istore_n 3, 1) := by decide +kernel
theorem d_M_square_59 : decode b_M_square 59 = .ok (.iload_n 3, 1) := by decide +kernel
theorem d_M_square_60 : decode b_M_square 60 = .ok (.sipush 406, 3) := by decide +kernel
theorem d_M_square_63 : decode b_M_square 63 = .ok (.if_icmp .ge 25, 3) := by decide +kernel
theorem d_M_square_66 : decode b_M_square 66 = .ok (.aload_n 0, 1) := by decide +kernel
theorem d_M_square_67 : decode b_M_square 67 = .ok (.getfield 7, 3) := by decide +kernel
theorem d_M_square_70 : decode b_M_square 70 = .ok (.iload_n 3, 1) := by decide +kernel
theorem d_M_square_71 : decode b_M_square 71 = .ok (.aload_n 0, 1) := by decide +kernel
theorem d_M_square_72 : decode b_M_square 72 = .ok (.getfield 7, 3) := by decide +kernel
theorem d_M_square_75 : decode b_M_square 75 = .ok (.sipush 1624, 3) := by decide +kernel
theorem d_M_square_78 : decode b_M_square 78 = .ok (.iload_n 3, 1) := by decide +kernel
theorem d_M_square_79 : decode b_M_square 79 = .ok (.iadd, 1) := by decide +kernel
theorem d_M_square_80 : decode b_M_square 80 = .ok (.iaload, 1) := by decide +kernel
theorem d_M_square_81 : decode b_M_square 81 = .ok (.iastore, 1) := by decide +kernel
theorem d_M_square_82 : decode b_M_square 82 = .ok (.iinc 3 1, 3) := by decide +kernel
theorem d_M_square_85 : decode b_M_square 85 = .ok (.goto (-26), 3) := by decide +kernel
theorem d_M_square_88 : decode b_M_square 88 = .ok (.iconst 0, 1) := by decide +kernel
theorem d_M_square_89 : decode b_M_square 89 = .ok (.istore_n 3, 1) := by decide +kernel
theorem d_M_square_90 : decode b_M_square 90 = .ok (.iload_n 3, 1) := by decide +kernel
theorem d_M_square_91 : decode b_M_square 91 = .ok (.bipush 6, 2) := by decide +kernel
theorem d_M_square_93 : decode b_M_square 93 = .ok (.if_icmp .ge 24, 3) := by decide +kernel
theorem d_M_square_96 : decode b_M_square 96 = .ok (.aload_n 0, 1) := by decide +kernel
theorem d_M_square_97 : decode b_M_square 97 = .ok (.getfield 13, 3) := by decide +kernel
theorem d_M_square_100 : decode b_M_square 100 = .ok (.iload_n 3, 1) := by decide +kernel
theorem d_M_square_101 : decode b_M_square 101 = .ok (.aload_n 0, 1) := by decide +kernel
theorem d_M_square_102 : decode b_M_square 102 = .ok (.getfield 13, 3) := by decide +kernel
theorem d_M_square_105 : decode b_M_square 105 = .ok (.bipush 24, 2) := by decide +kernel
theorem d_M_square_107 : decode b_M_square 107 = .ok (.iload_n 3, 1) := by decide +kernel
theorem d_M_square_108 : decode b_M_square 108 = .ok (.iadd, 1) := by decide +kernel
theorem d_M_square_109 : decode b_M_square 109 = .ok (.laload, 1) := by decide +kernel
theorem d_M_square_110 : decode b_M_square 110 = .ok (.lastore, 1) := by decide +kernel
theorem d_M_square_111 : decode b_M_square 111 = .ok (.iinc 3 1, 3) := by decide +kernel
theorem d_M_square_114 : decode b_M_square 114 = .ok (.goto (-24), 3) := by decide +kernel
theorem d_M_square_117 : decode b_M_square 117 = .ok (.aload_n 0, 1) := by decide +kernel
theorem d_M_square_118 : decode b_M_square 118 = .ok (.aload_n 0, 1) := by decide +kernel
theorem d_M_square_119 : decode b_M_square 119 = .ok (.getfield 7, 3) := by decide +kernel
theorem d_M_square_122 : decode b_M_square 122 = .ok (.iconst 3, 1) := by decide +kernel
theorem d_M_square_123 : decode b_M_square 123 = .ok (.iaload, 1) := by decide +kernel
theorem d_M_square_124 : decode b_M_square 124 = .ok (.invokevirtual 279, 3) := by decide +kernel
theorem d_M_square_127 : decode b_M_square 127 = .ok (.ireturn, 1) := by decide +kernel
theorem d_M_begins_0 : decode b_M_begins 0 = .ok (.iload_n 1, 1) := by decide +kernel
theorem d_M_begins_1 : decode b_M_begins 1 = .ok (.ifCond .lt 16, 3) := by decide +kernel
theorem d_M_begins_4 : decode b_M_begins 4 = .ok (.iload_n 1, 1) := by decide +kernel
theorem d_M_begins_5 : decode b_M_begins 5 = .ok (.aload_n 0, 1) := by decide +kernel
theorem d_M_begins_6 : decode b_M_begins 6 = .ok (.getfield 145, 3) := by decide +kernel
theorem d_M_begins_9 : decode b_M_begins 9 = .ok (.if_icmp .gt 8, 3) := by decide +kernel
theorem d_M_begins_12 : decode b_M_begins 12 = .ok (.iload_n 1, 1) := by decide +kernel
theorem d_M_begins_13 : decode b_M_begins 13 = .ok (.iload_n 2, 1) := by decide +kernel
theorem d_M_begins_14 : decode b_M_begins 14 = .ok (.if_icmp .le 5, 3) := by decide +kernel
theorem d_M_begins_17 : decode b_M_begins 17 = .ok (.iconst 0, 1) := by decide +kernel
theorem d_M_begins_18 : decode b_M_begins 18 = .ok (.ireturn, 1) := by decide +kernel
theorem d_M_begins_19 : decode b_M_begins 19 = .ok (.aload_n 0, 1) := by decide +kernel
theorem d_M_begins_20 : decode b_M_begins 20 = .ok (.iload_n 1, 1) := by decide +kernel
theorem d_M_begins_21 : decode b_M_begins 21 = .ok (.putfield 151, 3) := by decide +kernel
theorem d_M_begins_24 : decode b_M_begins 24 = .ok (.iconst 0, 1) := by decide +kernel
theorem d_M_begins_25 : decode b_M_begins 25 = .ok (.istore_n 3, 1) := by decide +kernel
theorem d_M_begins_26 : decode b_M_begins 26 = .ok (.iload_n 3, 1) := by decide +kernel
theorem d_M_begins_27 : decode b_M_begins 27 = .ok (.iload_n 1, 1) := by decide +kernel
theorem d_M_begins_28 : decode b_M_begins 28 = .ok (.if_icmp .ge 21, 3) := by decide +kernel
theorem d_M_begins_31 : decode b_M_begins 31 = .ok (.aload_n 0, 1) := by decide +kernel
theorem d_M_begins_32 : decode b_M_begins 32 = .ok (.getfield 34, 3) := by decide +kernel
theorem d_M_begins_35 : decode b_M_begins 35 = .ok (.iload_n 3, 1) := by decide +kernel
theorem d_M_begins_36 : decode b_M_begins 36 = .ok (.aload_n 0, 1) := by decide +kernel
theorem d_M_begins_37 : decode b_M_begins 37 = .ok (.getfield 30, 3) := by decide +kernel
theorem d_M_begins_40 : decode b_M_begins 40 = .ok (.iload_n 3, 1) := by decide +kernel
theorem d_M_begins_41 : decode b_M_begins 41 = .ok (.baload, 1) := by decide +kernel
theorem d_M_begins_42 : decode b_M_begins 42 = .ok (.bastore, 1) := by decide +kernel
theorem d_M_begins_43 : decode b_M_begins 43 = .ok (.iinc 3 1, 3) := by decide +kernel
theorem d_M_begins_46 : decode b_M_begins 46 = .ok (.goto (-20), 3) := by decide +kernel
theorem d_M_begins_49 : decode b_M_begins 49 = .ok (.aload_n 0, 1) := by decide +kernel
theorem d_M_begins_50 : decode b_M_begins 50 = .ok (.iconst 0, 1) := by decide +kernel
theorem d_M_begins_51 : decode b_M_begins 51 = .ok (.putfield 145, 3) := by decide +kernel
theorem d_M_begins_54 : decode b_M_begins 54 = .ok (.aload_n 0, 1) := by decide +kernel
theorem d_M_begins_55 : decode b_M_begins 55 = .ok (.iconst 0, 1) := by decide +kernel
theorem d_M_begins_56 : decode b_M_begins 56 = .ok (.putfield 191, 3) := by decide +kernel
theorem d_M_begins_59 : decode b_M_begins 59 = .ok (.aload_n 0, 1) := by decide +kernel
theorem d_M_begins_60 : decode b_M_begins 60 = .ok (.iconst (-1), 1) := by decide +kernel
theorem d_M_begins_61 : decode b_M_begins 61 = .ok (.putfield 41, 3) := by decide +kernel
theorem d_M_begins_64 : decode b_M_begins 64 = .ok (.aload_n 0, 1) := by decide +kernel
theorem d_M_begins_65 : decode b_M_begins 65 = .ok (.iconst 0, 1) := by decide +kernel
theorem d_M_begins_66 : decode b_M_begins 66 = .ok (.putfield 154, 3) := by decide +kernel
theorem d_M_begins_69 : decode b_M_begins 69 = .ok (.aload_n 0, 1) := by decide +kernel
theorem d_M_begins_70 : decode b_M_begins 70 = .ok (.iconst 0, 1) := by decide +kernel
theorem d_M_begins_71 : decode b_M_begins 71 = .ok (.putfield 194, 3) := by decide +kernel
theorem d_M_begins_74 : decode b_M_begins 74 = .ok (.aload_n 0, 1) := by decide +kernel
theorem d_M_begins_75 : decode b_M_begins 75 = .ok (.invokevirtual 197, 3) := by decide +kernel
theorem d_M_begins_78 : decode b_M_begins 78 = .ok (.iconst 1, 1) := by decide +kernel
theorem d_M_begins_79 : decode b_M_begins 79 = .ok (.ireturn, 1) := by decide +kernel
theorem d_M_ahead_0 : decode b_M_ahead 0 = .ok (.aload_n 0, 1) := by decide +kernel
theorem d_M_ahead_1 : decode b_M_ahead 1 = .ok (.aload_n 0, 1) := by decide +kernel
theorem d_M_ahead_2 : decode b_M_ahead 2 = .ok (.getfield 154, 3) := by decide +kernel
theorem d_M_ahead_5 : decode b_M_ahead 5 = .ok (.invokevirtual 157, 3) := by decide +kernel
theorem d_M_ahead_8 : decode b_M_ahead 8 = .ok (.bipush 32, 2) := by decide +kernel
theorem d_M_ahead_10 : decode b_M_ahead 10 = .ok (.if_icmp .eq 16, 3) := by decide +kernel
theorem d_M_ahead_13 : decode b_M_ahead 13 = .ok (.aload_n 0, 1) := by decide +kernel
theorem d_M_ahead_14 : decode b_M_ahead 14 = .ok (.aload_n 0, 1) := by decide +kernel
theorem d_M_ahead_15 : decode b_M_ahead 15 = .ok (.getfield 154, 3) := by decide +kernel
theorem d_M_ahead_18 : decode b_M_ahead 18 = .ok (.invokevirtual 157, 3) := by decide +kernel
theorem d_M_ahead_21 : decode b_M_ahead 21 = .ok (.bipush 10, 2) := by decide +kernel
theorem d_M_ahead_23 : decode b_M_ahead 23 = .ok (.if_icmp .ne 16, 3) := by decide +kernel
theorem d_M_ahead_26 : decode b_M_ahead 26 = .ok (.aload_n 0, 1) := by decide +kernel
theorem d_M_ahead_27 : decode b_M_ahead 27 = .ok (.dup, 1) := by decide +kernel
theorem d_M_ahead_28 : decode b_M_ahead 28 = .ok (.getfield 154, 3) := by decide +kernel
theorem d_M_ahead_31 : decode b_M_ahead 31 = .ok (.iconst 1, 1) := by decide +kernel
theorem d_M_ahead_32 : decode b_M_ahead 32 = .ok (.iadd, 1) := by decide +kernel
theorem d_M_ahead_33 : decode b_M_ahead 33 = .ok (.putfield 154, 3) := by decide +kernel
theorem d_M_ahead_36 : decode b_M_ahead 36 = .ok (.goto (-36), 3) := by decide +kernel
theorem d_M_ahead_39 : decode b_M_ahead 39 = .ok (.aload_n 0, 1) := by decide +kernel
theorem d_M_ahead_40 : decode b_M_ahead 40 = .ok (.aload_n 0, 1) := by decide +kernel
theorem d_M_ahead_41 : decode b_M_ahead 41 = .ok (.getfield 154, 3) := by decide +kernel
theorem d_M_ahead_44 : decode b_M_ahead 44 = .ok (.putfield 160, 3) := by decide +kernel
theorem d_M_ahead_47 : decode b_M_ahead 47 = .ok (.aload_n 0, 1) := by decide +kernel
theorem d_M_ahead_48 : decode b_M_ahead 48 = .ok (.aload_n 0, 1) := by decide +kernel
theorem d_M_ahead_49 : decode b_M_ahead 49 = .ok (.getfield 154, 3) := by decide +kernel
theorem d_M_ahead_52 : decode b_M_ahead 52 = .ok (.invokevirtual 157, 3) := by decide +kernel
theorem d_M_ahead_55 : decode b_M_ahead 55 = .ok (.istore_n 1, 1) := by decide +kernel
theorem d_M_ahead_56 : decode b_M_ahead 56 = .ok (.aload_n 0, 1) := by decide +kernel
theorem d_M_ahead_57 : decode b_M_ahead 57 = .ok (.iload_n 1, 1) := by decide +kernel
theorem d_M_ahead_58 : decode b_M_ahead 58 = .ok (.putfield 163, 3) := by decide +kernel
theorem d_M_ahead_61 : decode b_M_ahead 61 = .ok (.iload_n 1, 1) := by decide +kernel
theorem d_M_ahead_62 : decode b_M_ahead 62 = .ok (.iconst (-1), 1) := by decide +kernel
theorem d_M_ahead_63 : decode b_M_ahead 63 = .ok (.if_icmp .ne 11, 3) := by decide +kernel
theorem d_M_ahead_66 : decode b_M_ahead 66 = .ok (.aload_n 0, 1) := by decide +kernel
theorem d_M_ahead_67 : decode b_M_ahead 67 = .ok (.iconst 0, 1) := by decide +kernel
theorem d_M_ahead_68 : decode b_M_ahead 68 = .ok (.putfield 166, 3) := by decide +kernel
theorem d_M_ahead_71 : decode b_M_ahead 71 = .ok (.goto 180, 3) := by decide +kernel
theorem d_M_ahead_74 : decode b_M_ahead 74 = .ok (.iload_n 1, 1) := by decide +kernel
theorem d_M_ahead_75 : decode b_M_ahead 75 = .ok (.invokestatic 169, 3) := by decide +kernel
theorem d_M_ahead_78 : decode b_M_ahead 78 = .ok (.ifCond .eq 38, 3) := by decide +kernel
theorem d_M_ahead_81 : decode b_M_ahead 81 = .ok (.aload_n 0, 1) := by decide +kernel
theorem d_M_ahead_82 : decode b_M_ahead 82 = .ok (.aload_n 0, 1) := by decide +kernel
theorem d_M_ahead_83 : decode b_M_ahead 83 = .ok (.getfield 154, 3) := by decide +kernel
theorem d_M_ahead_86 : decode b_M_ahead 86 = .ok (.invokevirtual 157, 3) := by decide +kernel
theorem d_M_ahead_89 : decode b_M_ahead 89 = .ok (.invokestatic 169, 3) := by decide +kernel
theorem d_M_ahead_92 : decode b_M_ahead 92 = .ok (.ifCond .eq 16, 3) := by decide +kernel
theorem d_M_ahead_95 : decode b_M_ahead 95 = .ok (.aload_n 0, 1) := by decide +kernel
theorem d_M_ahead_96 : decode b_M_ahead 96 = .ok (.dup, 1) := by decide +kernel
theorem d_M_ahead_97 : decode b_M_ahead 97 = .ok (.getfield 154, 3) := by decide +kernel
theorem d_M_ahead_100 : decode b_M_ahead 100 = .ok (.iconst 1, 1) := by decide +kernel
theorem d_M_ahead_101 : decode b_M_ahead 101 = .ok (.iadd, 1) := by decide +kernel
theorem d_M_ahead_102 : decode b_M_ahead 102 = .ok (.putfield 154, 3) := by decide +kernel
theorem d_M_ahead_105 : decode b_M_ahead 105 = .ok (.goto (-24), 3) := by decide +kernel
theorem d_M_ahead_108 : decode b_M_ahead 108 = .ok (.aload_n 0, 1) := by decide +kernel
theorem d_M_ahead_109 : decode b_M_ahead 109 = .ok (.iconst 2, 1) := by decide +kernel
theorem d_M_ahead_110 : decode b_M_ahead 110 = .ok (.putfield 166, 3) := by decide +kernel
theorem d_M_ahead_113 : decode b_M_ahead 113 = .ok (.goto 138, 3) := by decide +kernel
theorem d_M_ahead_116 : decode b_M_ahead 116 = .ok (.iload_n 1, 1) := by decide +kernel
theorem d_M_ahead_117 : decode b_M_ahead 117 = .ok (.invokestatic 172, 3) := by decide +kernel
theorem d_M_ahead_120 : decode b_M_ahead 120 = .ok (.ifCond .eq 88, 3) := by decide +kernel
theorem d_M_ahead_123 : decode b_M_ahead 123 = .ok (.aload_n 0, 1) := by decide +kernel
theorem d_M_ahead_124 : decode b_M_ahead 124 = .ok (.iconst 0, 1) := by decide +kernel
theorem d_M_ahead_125 : decode b_M_ahead 125 = .ok (.putfield 163, 3) := by decide +kernel
theorem d_M_ahead_128 : decode b_M_ahead 128 = .ok (.aload_n 0, 1) := by decide +kernel
theorem d_M_ahead_129 : decode b_M_ahead 129 = .ok (.aload_n 0, 1) := by decide +kernel
theorem d_M_ahead_130 : decode b_M_ahead 130 = .ok (.getfield 154, 3) := by decide +kernel
theorem d_M_ahead_133 : decode b_M_ahead 133 = .ok (.invokevirtual 157, 3) := by decide +kernel
theorem d_M_ahead_136 : decode b_M_ahead 136 = .ok (.invokestatic 172, 3) := by decide +kernel
theorem d_M_ahead_139 : decode b_M_ahead 139 = .ok (.ifCond .eq 44, 3) := by decide +kernel
theorem d_M_ahead_142 : decode b_M_ahead 142 = .ok (.aload_n 0, 1) := by decide +kernel
theorem d_M_ahead_143 : decode b_M_ahead 143 = .ok (.ldc 175, 2) := by decide +kernel
theorem d_M_ahead_145 : decode b_M_ahead 145 = .ok (.bipush 10, 2) := by decide +kernel
theorem d_M_ahead_147 : decode b_M_ahead 147 = .ok (.aload_n 0, 1) := by decide +kernel
theorem d_M_ahead_148 : decode b_M_ahead 148 = .ok (.getfield 163, 3) := by decide +kernel
theorem d_M_ahead_151 : decode b_M_ahead 151 = .ok (.imul, 1) := by decide +kernel
theorem d_M_ahead_152 : decode b_M_ahead 152 = .ok (.aload_n 0, 1) := by decide +kernel
theorem d_M_ahead_153 : decode b_M_ahead 153 = .ok (.aload_n 0, 1) := by decide +kernel
theorem d_M_ahead_154 : decode b_M_ahead 154 = .ok (.getfield 154, 3) := by decide +kernel
theorem d_M_ahead_157 : decode b_M_ahead 157 = .ok (.invokevirtual 157, 3) := by decide +kernel
theorem d_M_ahead_160 : decode b_M_ahead 160 = .ok (.iadd, 1) := by decide +kernel
theorem d_M_ahead_161 : decode b_M_ahead 161 = .ok (.bipush 48, 2) := by decide +kernel
theorem d_M_ahead_163 : decode b_M_ahead 163 = .ok (.isub, 1) := by decide +kernel
theorem d_M_ahead_164 : decode b_M_ahead 164 = .ok (.invokestatic 176, 3) := by decide +kernel
theorem d_M_ahead_167 : decode b_M_ahead 167 = .ok (.putfield 163, 3) := by decide +kernel
theorem d_M_ahead_170 : decode b_M_ahead 170 = .ok (.aload_n 0, 1) := by decide +kernel
theorem d_M_ahead_171 : decode b_M_ahead 171 = .ok (.dup, 1) := by decide +kernel
theorem d_M_ahead_172 : decode b_M_ahead 172 = .ok (.getfield 154, 3) := by decide +kernel
theorem d_M_ahead_175 : decode b_M_ahead 175 = .ok (.iconst 1, 1) := by decide +kernel
theorem d_M_ahead_176 : decode b_M_ahead 176 = .ok (.iadd, 1) := by decide +kernel
theorem d_M_ahead_177 : decode b_M_ahead 177 = .ok (.putfield 154, 3) := by decide +kernel
theorem d_M_ahead_180 : decode b_M_ahead 180 = .ok (.goto (-52), 3) := by decide +kernel
theorem d_M_ahead_183 : decode b_M_ahead 183 = .ok (.aload_n 0, 1) := by decide +kernel
theorem d_M_ahead_184 : decode b_M_ahead 184 = .ok (.aload_n 0, 1) := by decide +kernel
theorem d_M_ahead_185 : decode b_M_ahead 185 = .ok (.getfield 154, 3) := by decide +kernel
theorem d_M_ahead_188 : decode b_M_ahead 188 = .ok (.aload_n 0, 1) := by decide +kernel
theorem d_M_ahead_189 : decode b_M_ahead 189 = .ok (.getfield 160, 3) := by decide +kernel
theorem d_M_ahead_192 : decode b_M_ahead 192 = .ok (.isub, 1) := by decide +kernel
theorem d_M_ahead_193 : decode b_M_ahead 193 = .ok (.iconst 4, 1) := by decide +kernel
theorem d_M_ahead_194 : decode b_M_ahead 194 = .ok (.if_icmp .le 7, 3) := by decide +kernel
theorem d_M_ahead_197 : decode b_M_ahead 197 = .ok (.iconst 1, 1) := by decide +kernel
theorem d_M_ahead_198 : decode b_M_ahead 198 = .ok (.goto 4, 3) := by decide +kernel
theorem d_M_ahead_201 : decode b_M_ahead 201 = .ok (.iconst 3, 1) := by decide +kernel
theorem d_M_ahead_202 : decode b_M_ahead 202 = .ok (.putfield 166, 3) := by decide +kernel
theorem d_M_ahead_205 : decode b_M_ahead 205 = .ok (.goto 46, 3) := by decide +kernel
theorem d_M_ahead_208 : decode b_M_ahead 208 = .ok (.aload_n 0, 1) := by decide +kernel
theorem d_M_ahead_209 : decode b_M_ahead 209 = .ok (.dup, 1) := by decide +kernel
theorem d_M_ahead_210 : decode b_M_ahead 210 = .ok (.getfield 154, 3) := by decide +kernel
theorem d_M_ahead_213 : decode b_M_ahead 213 = .ok (.iconst 1, 1) := by decide +kernel
theorem d_M_ahead_214 : decode b_M_ahead 214 = .ok (.iadd, 1) := by decide +kernel
theorem d_M_ahead_215 : decode b_M_ahead 215 = .ok (.putfield 154, 3) := by decide +kernel
theorem d_M_ahead_218 : decode b_M_ahead 218 = .ok (.aload_n 0, 1) := by decide +kernel
theorem d_M_ahead_219 : decode b_M_ahead 219 = .ok (.iload_n 1, 1) := by decide +kernel
theorem d_M_ahead_220 : decode b_M_ahead 220 = .ok (.bipush 59, 2) := by decide +kernel
theorem d_M_ahead_222 : decode b_M_ahead 222 = .ok (.if_icmp .eq 21, 3) := by decide +kernel
theorem d_M_ahead_225 : decode b_M_ahead 225 = .ok (.iload_n 1, 1) := by decide +kernel
theorem d_M_ahead_226 : decode b_M_ahead 226 = .ok (.bipush 60, 2) := by decide +kernel
theorem d_M_ahead_228 : decode b_M_ahead 228 = .ok (.if_icmp .eq 15, 3) := by decide +kernel
theorem d_M_ahead_231 : decode b_M_ahead 231 = .ok (.iload_n 1, 1) := by decide +kernel
theorem d_M_ahead_232 : decode b_M_ahead 232 = .ok (.bipush 62, 2) := by decide +kernel
theorem d_M_ahead_234 : decode b_M_ahead 234 = .ok (.if_icmp .eq 9, 3) := by decide +kernel
theorem d_M_ahead_237 : decode b_M_ahead 237 = .ok (.iload_n 1, 1) := by decide +kernel
theorem d_M_ahead_238 : decode b_M_ahead 238 = .ok (.bipush 61, 2) := by decide +kernel
theorem d_M_ahead_240 : decode b_M_ahead 240 = .ok (.if_icmp .ne 7, 3) := by decide +kernel
theorem d_M_ahead_243 : decode b_M_ahead 243 = .ok (.iconst 4, 1) := by decide +kernel
theorem d_M_ahead_244 : decode b_M_ahead 244 = .ok (.goto 4, 3) := by decide +kernel
theorem d_M_ahead_247 : decode b_M_ahead 247 = .ok (.iconst 1, 1) := by decide +kernel
theorem d_M_ahead_248 : decode b_M_ahead 248 = .ok (.putfield 166, 3) := by decide +kernel
theorem d_M_ahead_251 : decode b_M_ahead 251 = .ok (.return_, 1) := by decide +kernel
theorem d_M_byteAt_0 : decode b_M_byteAt 0 = .ok (.iload_n 1, 1) := by decide +kernel
theorem d_M_byteAt_1 : decode b_M_byteAt 1 = .ok (.aload_n 0, 1) := by decide +kernel
theorem d_M_byteAt_2 : decode b_M_byteAt 2 = .ok (.getfield 151, 3) := by decide +kernel
theorem d_M_byteAt_5 : decode b_M_byteAt 5 = .ok (.if_icmp .ge 16, 3) := by decide +kernel
theorem d_M_byteAt_8 : decode b_M_byteAt 8 = .ok (.aload_n 0, 1) := by decide +kernel
theorem d_M_byteAt_9 : decode b_M_byteAt 9 = .ok (.getfield 34, 3) := by decide +kernel
theorem d_M_byteAt_12 : decode b_M_byteAt 12 = .ok (.iload_n 1, 1) := by decide +kernel
theorem d_M_byteAt_13 : decode b_M_byteAt 13 = .ok (.baload, 1) := by decide +kernel
theorem d_M_byteAt_14 : decode b_M_byteAt 14 = .ok (.sipush 255, 3) := by decide +kernel
theorem d_M_byteAt_17 : decode b_M_byteAt 17 = .ok (.iand, 1) := by decide +kernel
theorem d_M_byteAt_18 : decode b_M_byteAt 18 = .ok (.goto 4, 3) := by decide +kernel
theorem d_M_byteAt_21 : decode b_M_byteAt 21 = .ok (.iconst (-1), 1) := by decide +kernel
theorem d_M_byteAt_22 : decode b_M_byteAt 22 = .ok (.ireturn, 1) := by decide +kernel
theorem d_M_isSmall_0 : decode b_M_isSmall 0 = .ok (.iload_n 0, 1) := by decide +kernel
theorem d_M_isSmall_1 : decode b_M_isSmall 1 = .ok (.bipush 97, 2) := by decide +kernel
theorem d_M_isSmall_3 : decode b_M_isSmall 3 = .ok (.if_icmp .lt 13, 3) := by decide +kernel
theorem d_M_isSmall_6 : decode b_M_isSmall 6 = .ok (.iload_n 0, 1) := by decide +kernel
theorem d_M_isSmall_7 : decode b_M_isSmall 7 = .ok (.bipush 122, 2) := by decide +kernel
theorem d_M_isSmall_9 : decode b_M_isSmall 9 = .ok (.if_icmp .gt 7, 3) := by decide +kernel
theorem d_M_isSmall_12 : decode b_M_isSmall 12 = .ok (.iconst 1, 1) := by decide +kernel
theorem d_M_isSmall_13 : decode b_M_isSmall 13 = .ok (.goto 4, 3) := by decide +kernel
theorem d_M_isSmall_16 : decode b_M_isSmall 16 = .ok (.iconst 0, 1) := by decide +kernel
theorem d_M_isSmall_17 : decode b_M_isSmall 17 = .ok (.ireturn, 1) := by decide +kernel
theorem d_M_isDigit_0 : decode b_M_isDigit 0 = .ok (.iload_n 0, 1) := by decide +kernel
theorem d_M_isDigit_1 : decode b_M_isDigit 1 = .ok (.bipush 48, 2) := by decide +kernel
theorem d_M_isDigit_3 : decode b_M_isDigit 3 = .ok (.if_icmp .lt 13, 3) := by decide +kernel
theorem d_M_isDigit_6 : decode b_M_isDigit 6 = .ok (.iload_n 0, 1) := by decide +kernel
theorem d_M_isDigit_7 : decode b_M_isDigit 7 = .ok (.bipush 57, 2) := by decide +kernel
theorem d_M_isDigit_9 : decode b_M_isDigit 9 = .ok (.if_icmp .gt 7, 3) := by decide +kernel
theorem d_M_isDigit_12 : decode b_M_isDigit 12 = .ok (.iconst 1, 1) := by decide +kernel
theorem d_M_isDigit_13 : decode b_M_isDigit 13 = .ok (.goto 4, 3) := by decide +kernel
theorem d_M_isDigit_16 : decode b_M_isDigit 16 = .ok (.iconst 0, 1) := by decide +kernel
theorem d_M_isDigit_17 : decode b_M_isDigit 17 = .ok (.ireturn, 1) := by decide +kernel
theorem d_M_refuse_0 : decode b_M_refuse 0 = .ok (.aload_n 0, 1) := by decide +kernel
theorem d_M_refuse_1 : decode b_M_refuse 1 = .ok (.iload_n 1, 1) := by decide +kernel
theorem d_M_refuse_2 : decode b_M_refuse 2 = .ok (.putfield 115, 3) := by decide +kernel
theorem d_M_refuse_5 : decode b_M_refuse 5 = .ok (.iconst (-1), 1) := by decide +kernel
theorem d_M_refuse_6 : decode b_M_refuse 6 = .ok (.ireturn, 1) := by decide +kernel
theorem d_M_squarePart_0 : decode b_M_squarePart 0 = .ok (.aload_n 0, 1) := by decide +kernel
theorem d_M_squarePart_1 : decode b_M_squarePart 1 = .ok (.ldc 214, 2) := by decide +kernel
theorem d_M_squarePart_3 : decode b_M_squarePart 3 = .ok (.invokevirtual 206, 3) := by decide +kernel
theorem d_M_squarePart_6 : decode b_M_squarePart 6 = .ok (.istore_n 1, 1) := by decide +kernel
theorem d_M_squarePart_7 : decode b_M_squarePart 7 = .ok (.iload_n 1, 1) := by decide +kernel
theorem d_M_squarePart_8 : decode b_M_squarePart 8 = .ok (.ifCond .lt 8, 3) := by decide +kernel
theorem d_M_squarePart_11 : decode b_M_squarePart 11 = .ok (.iload_n 1, 1) := by decide +kernel
theorem d_M_squarePart_12 : decode b_M_squarePart 12 = .ok (.iconst 5, 1) := by decide +kernel
theorem d_M_squarePart_13 : decode b_M_squarePart 13 = .ok (.if_icmp .le 9, 3) := by decide +kernel
theorem d_M_squarePart_16 : decode b_M_squarePart 16 = .ok (.aload_n 0, 1) := by decide +kernel
theorem d_M_squarePart_17 : decode b_M_squarePart 17 = .ok (.iconst 2, 1) := by decide +kernel
theorem d_M_squarePart_18 : decode b_M_squarePart 18 = .ok (.invokevirtual 203, 3) := by decide +kernel
theorem d_M_squarePart_21 : decode b_M_squarePart 21 = .ok (.ireturn, 1) := by decide +kernel
theorem d_M_squarePart_22 : decode b_M_squarePart 22 = .ok (.iload_n 1, 1) := by decide +kernel
theorem d_M_squarePart_23 : decode b_M_squarePart 23 = .ok (.iconst 2, 1) := by decide +kernel
theorem d_M_squarePart_24 : decode b_M_squarePart 24 = .ok (.if_icmp .gt 21, 3) := by decide +kernel
theorem d_M_squarePart_27 : decode b_M_squarePart 27 = .ok (.aload_n 0, 1) := by decide +kernel
theorem d_M_squarePart_28 : decode b_M_squarePart 28 = .ok (.getfield 254, 3) := by decide +kernel
theorem d_M_squarePart_31 : decode b_M_squarePart 31 = .ok (.iload_n 1, 1) := by decide +kernel
theorem d_M_squarePart_32 : decode b_M_squarePart 32 = .ok (.ishr, 1) := by decide +kernel
theorem d_M_squarePart_33 : decode b_M_squarePart 33 = .ok (.iconst 1, 1) := by decide +kernel
theorem d_M_squarePart_34 : decode b_M_squarePart 34 = .ok (.iand, 1) := by decide +kernel
theorem d_M_squarePart_35 : decode b_M_squarePart 35 = .ok (.iconst 1, 1) := by decide +kernel
theorem d_M_squarePart_36 : decode b_M_squarePart 36 = .ok (.if_icmp .ne 9, 3) := by decide +kernel
theorem d_M_squarePart_39 : decode b_M_squarePart 39 = .ok (.aload_n 0, 1) := by decide +kernel
theorem d_M_squarePart_40 : decode b_M_squarePart 40 = .ok (.iconst 5, 1) := by decide +kernel
theorem d_M_squarePart_41 : decode b_M_squarePart 41 = .ok (.invokevirtual 203, 3) := by decide +kernel
theorem d_M_squarePart_44 : decode b_M_squarePart 44 = .ok (.ireturn, 1) := by decide +kernel
theorem d_M_squarePart_45 : decode b_M_squarePart 45 = .ok (.aload_n 0, 1) := by decide +kernel
theorem d_M_squarePart_46 : decode b_M_squarePart 46 = .ok (.dup, 1) := by decide +kernel
theorem d_M_squarePart_47 : decode b_M_squarePart 47 = .ok (.getfield 254, 3) := by decide +kernel
theorem d_M_squarePart_50 : decode b_M_squarePart 50 = .ok (.iconst 1, 1) := by decide +kernel
theorem d_M_squarePart_51 : decode b_M_squarePart 51 = .ok (.iload_n 1, 1) := by decide +kernel
theorem d_M_squarePart_52 : decode b_M_squarePart 52 = .ok (.ishl, 1) := by decide +kernel
theorem d_M_squarePart_53 : decode b_M_squarePart 53 = .ok (.iload_n 1, 1) := by decide +kernel
theorem d_M_squarePart_54 : decode b_M_squarePart 54 = .ok (.iconst 2, 1) := by decide +kernel
theorem d_M_squarePart_55 : decode b_M_squarePart 55 = .ok (.if_icmp .eq 8, 3) := by decide +kernel
theorem d_M_squarePart_58 : decode b_M_squarePart 58 = .ok (.iload_n 1, 1) := by decide +kernel
theorem d_M_squarePart_59 : decode b_M_squarePart 59 = .ok (.iconst 4, 1) := by decide +kernel
theorem d_M_squarePart_60 : decode b_M_squarePart 60 = .ok (.if_icmp .lt 7, 3) := by decide +kernel
theorem d_M_squarePart_63 : decode b_M_squarePart 63 = .ok (.iconst 1, 1) := by decide +kernel
theorem d_M_squarePart_64 : decode b_M_squarePart 64 = .ok (.goto 4, 3) := by decide +kernel
theorem d_M_squarePart_67 : decode b_M_squarePart 67 = .ok (.iconst 0, 1) := by decide +kernel
theorem d_M_squarePart_68 : decode b_M_squarePart 68 = .ok (.ior, 1) := by decide +kernel
theorem d_M_squarePart_69 : decode b_M_squarePart 69 = .ok (.ior, 1) := by decide +kernel
theorem d_M_squarePart_70 : decode b_M_squarePart 70 = .ok (.putfield 254, 3) := by decide +kernel
theorem d_M_squarePart_73 : decode b_M_squarePart 73 = .ok (.iload_n 1, 1) := by decide +kernel
theorem d_M_squarePart_74 : decode b_M_squarePart 74 = .ok (.iconst 2, 1) := by decide +kernel
theorem d_M_squarePart_75 : decode b_M_squarePart 75 = .ok (.if_icmp .gt 7, 3) := by decide +kernel
theorem d_M_squarePart_78 : decode b_M_squarePart 78 = .ok (.aload_n 0, 1) := by decide +kernel
theorem d_M_squarePart_79 : decode b_M_squarePart 79 = .ok (.invokevirtual 197, 3) := by decide +kernel
theorem d_M_squarePart_82 : decode b_M_squarePart 82 = .ok (.iload_n 1, 1) := by decide +kernel
theorem d_M_squarePart_83 : decode b_M_squarePart 83 = .ok (.tableswitch 82 0 4 #[33, 41, 55, 66, 74], 33) := by decide +kernel
theorem d_M_squarePart_116 : decode b_M_squarePart 116 = .ok (.aload_n 0, 1) := by decide +kernel
theorem d_M_squarePart_117 : decode b_M_squarePart 117 = .ok (.invokevirtual 257, 3) := by decide +kernel
theorem d_M_squarePart_120 : decode b_M_squarePart 120 = .ok (.istore_n 2, 1) := by decide +kernel
theorem d_M_squarePart_121 : decode b_M_squarePart 121 = .ok (.goto 49, 3) := by decide +kernel
theorem d_M_squarePart_124 : decode b_M_squarePart 124 = .ok (.aload_n 0, 1) := by decide +kernel
theorem d_M_squarePart_125 : decode b_M_squarePart 125 = .ok (.sipush 1629, 3) := by decide +kernel
theorem d_M_squarePart_128 : decode b_M_squarePart 128 = .ok (.iconst 0, 1) := by decide +kernel
theorem d_M_squarePart_129 : decode b_M_squarePart 129 = .ok (.bipush 16, 2) := by decide +kernel
theorem d_M_squarePart_131 : decode b_M_squarePart 131 = .ok (.invokevirtual 219, 3) := by decide +kernel
theorem d_M_squarePart_134 : decode b_M_squarePart 134 = .ok (.istore_n 2, 1) := by decide +kernel
theorem d_M_squarePart_135 : decode b_M_squarePart 135 = .ok (.goto 35, 3) := by decide +kernel
theorem d_M_squarePart_138 : decode b_M_squarePart 138 = .ok (.aload_n 0, 1) := by decide +kernel
theorem d_M_squarePart_139 : decode b_M_squarePart 139 = .ok (.sipush 1630, 3) := by decide +kernel
theorem d_M_squarePart_142 : decode b_M_squarePart 142 = .ok (.invokevirtual 244, 3) := by decide +kernel
theorem d_M_squarePart_145 : decode b_M_squarePart 145 = .ok (.istore_n 2, 1) := by decide +kernel
theorem d_M_squarePart_146 : decode b_M_squarePart 146 = .ok (.goto 24, 3) := by decide +kernel
theorem d_M_squarePart_149 : decode b_M_squarePart 149 = .ok (.aload_n 0, 1) := by decide +kernel
theorem d_M_squarePart_150 : decode b_M_squarePart 150 = .ok (.invokevirtual 261, 3) := by decide +kernel
theorem d_M_squarePart_153 : decode b_M_squarePart 153 = .ok (.istore_n 2, 1) := by decide +kernel
theorem d_M_squarePart_154 : decode b_M_squarePart 154 = .ok (.goto 16, 3) := by decide +kernel
theorem d_M_squarePart_157 : decode b_M_squarePart 157 = .ok (.aload_n 0, 1) := by decide +kernel
theorem d_M_squarePart_158 : decode b_M_squarePart 158 = .ok (.invokevirtual 264, 3) := by decide +kernel
theorem d_M_squarePart_161 : decode b_M_squarePart 161 = .ok (.istore_n 2, 1) := by decide +kernel
theorem d_M_squarePart_162 : decode b_M_squarePart 162 = .ok (.goto 8, 3) := by decide +kernel
theorem d_M_squarePart_165 : decode b_M_squarePart 165 = .ok (.aload_n 0, 1) := by decide +kernel
theorem d_M_squarePart_166 : decode b_M_squarePart 166 = .ok (.invokevirtual 267, 3) := by decide +kernel
theorem d_M_squarePart_169 : decode b_M_squarePart 169 = .ok (.istore_n 2, 1) := by decide +kernel
theorem d_M_squarePart_170 : decode b_M_squarePart 170 = .ok (.iload_n 2, 1) := by decide +kernel
theorem d_M_squarePart_171 : decode b_M_squarePart 171 = .ok (.ifCond .eq 16, 3) := by decide +kernel
theorem d_M_squarePart_174 : decode b_M_squarePart 174 = .ok (.aload_n 0, 1) := by decide +kernel
theorem d_M_squarePart_175 : decode b_M_squarePart 175 = .ok (.bipush 59, 2) := by decide +kernel
theorem d_M_squarePart_177 : decode b_M_squarePart 177 = .ok (.invokevirtual 270, 3) := by decide +kernel
theorem d_M_squarePart_180 : decode b_M_squarePart 180 = .ok (.ifCond .eq 7, 3) := by decide +kernel
theorem d_M_squarePart_183 : decode b_M_squarePart 183 = .ok (.iconst 1, 1) := by decide +kernel
theorem d_M_squarePart_184 : decode b_M_squarePart 184 = .ok (.goto 4, 3) := by decide +kernel
theorem d_M_squarePart_187 : decode b_M_squarePart 187 = .ok (.iconst 0, 1) := by decide +kernel
theorem d_M_squarePart_188 : decode b_M_squarePart 188 = .ok (.ireturn, 1) := by decide +kernel
theorem d_M_inWords_0 : decode b_M_inWords 0 = .ok (.aload_n 0, 1) := by decide +kernel
theorem d_M_inWords_1 : decode b_M_inWords 1 = .ok (.getfield 166, 3) := by decide +kernel
theorem d_M_inWords_4 : decode b_M_inWords 4 = .ok (.iconst 2, 1) := by decide +kernel
theorem d_M_inWords_5 : decode b_M_inWords 5 = .ok (.if_icmp .eq 5, 3) := by decide +kernel
theorem d_M_inWords_8 : decode b_M_inWords 8 = .ok (.iconst (-1), 1) := by decide +kernel
theorem d_M_inWords_9 : decode b_M_inWords 9 = .ok (.ireturn, 1) := by decide +kernel
theorem d_M_inWords_10 : decode b_M_inWords 10 = .ok (.iconst 0, 1) := by decide +kernel
theorem d_M_inWords_11 : decode b_M_inWords 11 = .ok (.istore_n 2, 1) := by decide +kernel
theorem d_M_inWords_12 : decode b_M_inWords 12 = .ok (.iconst 1, 1) := by decide +kernel
theorem d_M_inWords_13 : decode b_M_inWords 13 = .ok (.istore_n 3, 1) := by decide +kernel
theorem d_M_inWords_14 : decode b_M_inWords 14 = .ok (.iload_n 3, 1) := by decide +kernel
theorem d_M_inWords_15 : decode b_M_inWords 15 = .ok (.aload_n 1, 1) := by decide +kernel
theorem d_M_inWords_16 : decode b_M_inWords 16 = .ok (.invokevirtual 181, 3) := by decide +kernel
theorem d_M_inWords_19 : decode b_M_inWords 19 = .ok (.if_icmp .ge 114, 3) := by decide +kernel
theorem d_M_inWords_22 : decode b_M_inWords 22 = .ok (.iload_n 3, 1) := by decide +kernel
theorem d_M_inWords_23 : decode b_M_inWords 23 = .ok (.istore 4, 2) := by decide +kernel
theorem d_M_inWords_25 : decode b_M_inWords 25 = .ok (.aload_n 1, 1) := by decide +kernel
theorem d_M_inWords_26 : decode b_M_inWords 26 = .ok (.iload 4, 2) := by decide +kernel
theorem d_M_inWords_28 : decode b_M_inWords 28 = .ok (.invokevirtual 187, 3) := by decide +kernel
theorem d_M_inWords_31 : decode b_M_inWords 31 = .ok (.bipush 32, 2) := by decide +kernel
theorem d_M_inWords_33 : decode b_M_inWords 33 = .ok (.if_icmp .eq 9, 3) := by decide +kernel
theorem d_M_inWords_36 : decode b_M_inWords 36 = .ok (.iinc 4 1, 3) := by decide +kernel
theorem d_M_inWords_39 : decode b_M_inWords 39 = .ok (.goto (-14), 3) := by decide +kernel
theorem d_M_inWords_42 : decode b_M_inWords 42 = .ok (.iload 4, 2) := by decide +kernel
theorem d_M_inWords_44 : decode b_M_inWords 44 = .ok (.iload_n 3, 1) := by decide +kernel
theorem d_M_inWords_45 : decode b_M_inWords 45 = .ok (.isub, 1) := by decide +kernel
theorem d_M_inWords_46 : decode b_M_inWords 46 = .ok (.aload_n 0, 1) := by decide +kernel
theorem d_M_inWords_47 : decode b_M_inWords 47 = .ok (.getfield 154, 3) := by decide +kernel
theorem d_M_inWords_50 : decode b_M_inWords 50 = .ok (.aload_n 0, 1) := by decide +kernel
theorem d_M_inWords_51 : decode b_M_inWords 51 = .ok (.getfield 160, 3) := by decide +kernel
theorem d_M_inWords_54 : decode b_M_inWords 54 = .ok (.isub, 1) := by decide +kernel
theorem d_M_inWords_55 : decode b_M_inWords 55 = .ok (.if_icmp .ne 7, 3) := by decide +kernel
theorem d_M_inWords_58 : decode b_M_inWords 58 = .ok (.iconst 1, 1) := by decide +kernel
theorem d_M_inWords_59 : decode b_M_inWords 59 = .ok (.goto 4, 3) := by decide +kernel
theorem d_M_inWords_62 : decode b_M_inWords 62 = .ok (.iconst 0, 1) := by decide +kernel
theorem d_M_inWords_63 : decode b_M_inWords 63 = .ok (.istore 5, 2) := by decide +kernel
theorem d_M_inWords_65 : decode b_M_inWords 65 = .ok (.iload_n 3, 1) := by decide +kernel
theorem d_M_inWords_66 : decode b_M_inWords 66 = .ok (.istore 6, 2) := by decide +kernel
theorem d_M_inWords_68 : decode b_M_inWords 68 = .ok (.iload 6, 2) := by decide +kernel
theorem d_M_inWords_70 : decode b_M_inWords 70 = .ok (.iload 4, 2) := by decide +kernel
theorem d_M_inWords_72 : decode b_M_inWords 72 = .ok (.if_icmp .ge 43, 3) := by decide +kernel
theorem d_M_inWords_75 : decode b_M_inWords 75 = .ok (.iload 5, 2) := by decide +kernel
theorem d_M_inWords_77 : decode b_M_inWords 77 = .ok (.ifCond .eq 38, 3) := by decide +kernel
theorem d_M_inWords_80 : decode b_M_inWords 80 = .ok (.aload_n 1, 1) := by decide +kernel
theorem d_M_inWords_81 : decode b_M_inWords 81 = .ok (.iload 6, 2) := by decide +kernel
theorem d_M_inWords_83 : decode b_M_inWords 83 = .ok (.invokevirtual 187, 3) := by decide +kernel
theorem d_M_inWords_86 : decode b_M_inWords 86 = .ok (.aload_n 0, 1) := by decide +kernel
theorem d_M_inWords_87 : decode b_M_inWords 87 = .ok (.aload_n 0, 1) := by decide +kernel
theorem d_M_inWords_88 : decode b_M_inWords 88 = .ok (.getfield 160, 3) := by decide +kernel
theorem d_M_inWords_91 : decode b_M_inWords 91 = .ok (.iload 6, 2) := by decide +kernel
theorem d_M_inWords_93 : decode b_M_inWords 93 = .ok (.iadd, 1) := by decide +kernel
theorem d_M_inWords_94 : decode b_M_inWords 94 = .ok (.iload_n 3, 1) := by decide +kernel
theorem d_M_inWords_95 : decode b_M_inWords 95 = .ok (.isub, 1) := by decide +kernel
theorem d_M_inWords_96 : decode b_M_inWords 96 = .ok (.invokevirtual 157, 3) := by decide +kernel
theorem d_M_inWords_99 : decode b_M_inWords 99 = .ok (.if_icmp .ne 7, 3) := by decide +kernel
theorem d_M_inWords_102 : decode b_M_inWords 102 = .ok (.iconst 1, 1) := by decide +kernel
theorem d_M_inWords_103 : decode b_M_inWords 103 = .ok (.goto 4, 3) := by decide +kernel
theorem d_M_inWords_106 : decode b_M_inWords 106 = .ok (.iconst 0, 1) := by decide +kernel
theorem d_M_inWords_107 : decode b_M_inWords 107 = .ok (.istore 5, 2) := by decide +kernel
theorem d_M_inWords_109 : decode b_M_inWords 109 = .ok (.iinc 6 1, 3) := by decide +kernel
theorem d_M_inWords_112 : decode b_M_inWords 112 = .ok (.goto (-44), 3) := by decide +kernel
theorem d_M_inWords_115 : decode b_M_inWords 115 = .ok (.iload 5, 2) := by decide +kernel
theorem d_M_inWords_117 : decode b_M_inWords 117 = .ok (.ifCond .eq 5, 3) := by decide +kernel
theorem d_M_inWords_120 : decode b_M_inWords 120 = .ok (.iload_n 2, 1) := by decide +kernel
theorem d_M_inWords_121 : decode b_M_inWords 121 = .ok (.ireturn, 1) := by decide +kernel
theorem d_M_inWords_122 : decode b_M_inWords 122 = .ok (.iinc 2 1, 3) := by decide +kernel
theorem d_M_inWords_125 : decode b_M_inWords 125 = .ok (.iload 4, 2) := by decide +kernel
theorem d_M_inWords_127 : decode b_M_inWords 127 = .ok (.iconst 1, 1) := by decide +kernel
theorem d_M_inWords_128 : decode b_M_inWords 128 = .ok (.iadd, 1) := by decide +kernel
theorem d_M_inWords_129 : decode b_M_inWords 129 = .ok (.istore_n 3, 1) := by decide +kernel
theorem d_M_inWords_130 : decode b_M_inWords 130 = .ok (.goto (-116), 3) := by decide +kernel
theorem d_M_inWords_133 : decode b_M_inWords 133 = .ok (.iconst (-1), 1) := by decide +kernel
theorem d_M_inWords_134 : decode b_M_inWords 134 = .ok (.ireturn, 1) := by decide +kernel
theorem d_M_fails_0 : decode b_M_fails 0 = .ok (.aload_n 0, 1) := by decide +kernel
theorem d_M_fails_1 : decode b_M_fails 1 = .ok (.getfield 191, 3) := by decide +kernel
theorem d_M_fails_4 : decode b_M_fails 4 = .ok (.ifCond .ne 28, 3) := by decide +kernel
theorem d_M_fails_7 : decode b_M_fails 7 = .ok (.aload_n 0, 1) := by decide +kernel
theorem d_M_fails_8 : decode b_M_fails 8 = .ok (.aload_n 0, 1) := by decide +kernel
theorem d_M_fails_9 : decode b_M_fails 9 = .ok (.getfield 166, 3) := by decide +kernel
theorem d_M_fails_12 : decode b_M_fails 12 = .ok (.iconst 1, 1) := by decide +kernel
theorem d_M_fails_13 : decode b_M_fails 13 = .ok (.if_icmp .ne 7, 3) := by decide +kernel
theorem d_M_fails_16 : decode b_M_fails 16 = .ok (.iconst 1, 1) := by decide +kernel
theorem d_M_fails_17 : decode b_M_fails 17 = .ok (.goto 4, 3) := by decide +kernel
theorem d_M_fails_20 : decode b_M_fails 20 = .ok (.iload_n 1, 1) := by decide +kernel
theorem d_M_fails_21 : decode b_M_fails 21 = .ok (.putfield 191, 3) := by decide +kernel
theorem d_M_fails_24 : decode b_M_fails 24 = .ok (.aload_n 0, 1) := by decide +kernel
theorem d_M_fails_25 : decode b_M_fails 25 = .ok (.aload_n 0, 1) := by decide +kernel
theorem d_M_fails_26 : decode b_M_fails 26 = .ok (.getfield 160, 3) := by decide +kernel
theorem d_M_fails_29 : decode b_M_fails 29 = .ok (.putfield 41, 3) := by decide +kernel
theorem d_M_fails_32 : decode b_M_fails 32 = .ok (.iconst 0, 1) := by decide +kernel
theorem d_M_fails_33 : decode b_M_fails 33 = .ok (.ireturn, 1) := by decide +kernel
theorem d_M_aSquare_0 : decode b_M_aSquare 0 = .ok (.aload_n 0, 1) := by decide +kernel
theorem d_M_aSquare_1 : decode b_M_aSquare 1 = .ok (.sipush 1624, 3) := by decide +kernel
theorem d_M_aSquare_4 : decode b_M_aSquare 4 = .ok (.iconst 1, 1) := by decide +kernel
theorem d_M_aSquare_5 : decode b_M_aSquare 5 = .ok (.iconst 5, 1) := by decide +kernel
theorem d_M_aSquare_6 : decode b_M_aSquare 6 = .ok (.invokevirtual 219, 3) := by decide +kernel
theorem d_M_aSquare_9 : decode b_M_aSquare 9 = .ok (.ifCond .eq 30, 3) := by decide +kernel
theorem d_M_aSquare_12 : decode b_M_aSquare 12 = .ok (.aload_n 0, 1) := by decide +kernel
theorem d_M_aSquare_13 : decode b_M_aSquare 13 = .ok (.ldc 214, 2) := by decide +kernel
theorem d_M_aSquare_15 : decode b_M_aSquare 15 = .ok (.bipush 6, 2) := by decide +kernel
theorem d_M_aSquare_17 : decode b_M_aSquare 17 = .ok (.invokevirtual 226, 3) := by decide +kernel
theorem d_M_aSquare_20 : decode b_M_aSquare 20 = .ok (.ifCond .eq 19, 3) := by decide +kernel
theorem d_M_aSquare_23 : decode b_M_aSquare 23 = .ok (.aload_n 0, 1) := by decide +kernel
theorem d_M_aSquare_24 : decode b_M_aSquare 24 = .ok (.sipush 1625, 3) := by decide +kernel
theorem d_M_aSquare_27 : decode b_M_aSquare 27 = .ok (.iconst 1, 1) := by decide +kernel
theorem d_M_aSquare_28 : decode b_M_aSquare 28 = .ok (.iconst 5, 1) := by decide +kernel
theorem d_M_aSquare_29 : decode b_M_aSquare 29 = .ok (.invokevirtual 219, 3) := by decide +kernel
theorem d_M_aSquare_32 : decode b_M_aSquare 32 = .ok (.ifCond .eq 7, 3) := by decide +kernel
theorem d_M_aSquare_35 : decode b_M_aSquare 35 = .ok (.iconst 1, 1) := by decide +kernel
theorem d_M_aSquare_36 : decode b_M_aSquare 36 = .ok (.goto 4, 3) := by decide +kernel
theorem d_M_aSquare_39 : decode b_M_aSquare 39 = .ok (.iconst 0, 1) := by decide +kernel
theorem d_M_aSquare_40 : decode b_M_aSquare 40 = .ok (.ireturn, 1) := by decide +kernel
theorem d_M_number_0 : decode b_M_number 0 = .ok (.aload_n 0, 1) := by decide +kernel
theorem d_M_number_1 : decode b_M_number 1 = .ok (.getfield 166, 3) := by decide +kernel
theorem d_M_number_4 : decode b_M_number 4 = .ok (.iconst 3, 1) := by decide +kernel
theorem d_M_number_5 : decode b_M_number 5 = .ok (.if_icmp .eq 9, 3) := by decide +kernel
theorem d_M_number_8 : decode b_M_number 8 = .ok (.aload_n 0, 1) := by decide +kernel
theorem d_M_number_9 : decode b_M_number 9 = .ok (.iconst 2, 1) := by decide +kernel
theorem d_M_number_10 : decode b_M_number 10 = .ok (.invokevirtual 203, 3) := by decide +kernel
theorem d_M_number_13 : decode b_M_number 13 = .ok (.ireturn, 1) := by decide +kernel
theorem d_M_number_14 : decode b_M_number 14 = .ok (.aload_n 0, 1) := by decide +kernel
theorem d_M_number_15 : decode b_M_number 15 = .ok (.getfield 163, 3) := by decide +kernel
theorem d_M_number_18 : decode b_M_number 18 = .ok (.iload_n 2, 1) := by decide +kernel
theorem d_M_number_19 : decode b_M_number 19 = .ok (.if_icmp .lt 11, 3) := by decide +kernel
theorem d_M_number_22 : decode b_M_number 22 = .ok (.aload_n 0, 1) := by decide +kernel
theorem d_M_number_23 : decode b_M_number 23 = .ok (.getfield 163, 3) := by decide +kernel
theorem d_M_number_26 : decode b_M_number 26 = .ok (.iload_n 3, 1) := by decide +kernel
theorem d_M_number_27 : decode b_M_number 27 = .ok (.if_icmp .le 9, 3) := by decide +kernel
theorem d_M_number_30 : decode b_M_number 30 = .ok (.aload_n 0, 1) := by decide +kernel
theorem d_M_number_31 : decode b_M_number 31 = .ok (.iconst 4, 1) := by decide +kernel
theorem d_M_number_32 : decode b_M_number 32 = .ok (.invokevirtual 203, 3) := by decide +kernel
theorem d_M_number_35 : decode b_M_number 35 = .ok (.ireturn, 1) := by decide +kernel
theorem d_M_number_36 : decode b_M_number 36 = .ok (.aload_n 0, 1) := by decide +kernel
theorem d_M_number_37 : decode b_M_number 37 = .ok (.getfield 7, 3) := by decide +kernel
theorem d_M_number_40 : decode b_M_number 40 = .ok (.iload_n 1, 1) := by decide +kernel
theorem d_M_number_41 : decode b_M_number 41 = .ok (.aload_n 0, 1) := by decide +kernel
theorem d_M_number_42 : decode b_M_number 42 = .ok (.getfield 163, 3) := by decide +kernel
theorem d_M_number_45 : decode b_M_number 45 = .ok (.iastore, 1) := by decide +kernel
theorem d_M_number_46 : decode b_M_number 46 = .ok (.aload_n 0, 1) := by decide +kernel
theorem d_M_number_47 : decode b_M_number 47 = .ok (.invokevirtual 197, 3) := by decide +kernel
theorem d_M_number_50 : decode b_M_number 50 = .ok (.iconst 1, 1) := by decide +kernel
theorem d_M_number_51 : decode b_M_number 51 = .ok (.ireturn, 1) := by decide +kernel
theorem d_M_wantWord_0 : decode b_M_wantWord 0 = .ok (.aload_n 0, 1) := by decide +kernel
theorem d_M_wantWord_1 : decode b_M_wantWord 1 = .ok (.aload_n 1, 1) := by decide +kernel
theorem d_M_wantWord_2 : decode b_M_wantWord 2 = .ok (.invokevirtual 206, 3) := by decide +kernel
theorem d_M_wantWord_5 : decode b_M_wantWord 5 = .ok (.iload_n 2, 1) := by decide +kernel
theorem d_M_wantWord_6 : decode b_M_wantWord 6 = .ok (.if_icmp .eq 9, 3) := by decide +kernel
theorem d_M_wantWord_9 : decode b_M_wantWord 9 = .ok (.aload_n 0, 1) := by decide +kernel
theorem d_M_wantWord_10 : decode b_M_wantWord 10 = .ok (.iconst 2, 1) := by decide +kernel
theorem d_M_wantWord_11 : decode b_M_wantWord 11 = .ok (.invokevirtual 203, 3) := by decide +kernel
theorem d_M_wantWord_14 : decode b_M_wantWord 14 = .ok (.ireturn, 1) := by decide +kernel
theorem d_M_wantWord_15 : decode b_M_wantWord 15 = .ok (.aload_n 0, 1) := by decide +kernel
theorem d_M_wantWord_16 : decode b_M_wantWord 16 = .ok (.invokevirtual 197, 3) := by decide +kernel
theorem d_M_wantWord_19 : decode b_M_wantWord 19 = .ok (.iconst 1, 1) := by decide +kernel
theorem d_M_wantWord_20 : decode b_M_wantWord 20 = .ok (.ireturn, 1) := by decide +kernel
theorem d_M_newCellTo_0 : decode b_M_newCellTo 0 = .ok (.aload_n 0, 1) := by decide +kernel
theorem d_M_newCellTo_1 : decode b_M_newCellTo 1 = .ok (.iload_n 1, 1) := by decide +kernel
theorem d_M_newCellTo_2 : decode b_M_newCellTo 2 = .ok (.iconst 0, 1) := by decide +kernel
theorem d_M_newCellTo_3 : decode b_M_newCellTo 3 = .ok (.aload_n 0, 1) := by decide +kernel
theorem d_M_newCellTo_4 : decode b_M_newCellTo 4 = .ok (.sipush 1624, 3) := by decide +kernel
theorem d_M_newCellTo_7 : decode b_M_newCellTo 7 = .ok (.invokevirtual 223, 3) := by decide +kernel
theorem d_M_newCellTo_10 : decode b_M_newCellTo 10 = .ok (.iconst 1, 1) := by decide +kernel
theorem d_M_newCellTo_11 : decode b_M_newCellTo 11 = .ok (.isub, 1) := by decide +kernel
theorem d_M_newCellTo_12 : decode b_M_newCellTo 12 = .ok (.invokevirtual 219, 3) := by decide +kernel
theorem d_M_newCellTo_15 : decode b_M_newCellTo 15 = .ok (.ireturn, 1) := by decide +kernel
theorem d_M_cellsOf_0 : decode b_M_cellsOf 0 = .ok (.aload_n 0, 1) := by decide +kernel
theorem d_M_cellsOf_1 : decode b_M_cellsOf 1 = .ok (.getfield 7, 3) := by decide +kernel
theorem d_M_cellsOf_4 : decode b_M_cellsOf 4 = .ok (.iload_n 1, 1) := by decide +kernel
theorem d_M_cellsOf_5 : decode b_M_cellsOf 5 = .ok (.iconst 0, 1) := by decide +kernel
theorem d_M_cellsOf_6 : decode b_M_cellsOf 6 = .ok (.iadd, 1) := by decide +kernel
theorem d_M_cellsOf_7 : decode b_M_cellsOf 7 = .ok (.iaload, 1) := by decide +kernel
theorem d_M_cellsOf_8 : decode b_M_cellsOf 8 = .ok (.aload_n 0, 1) := by decide +kernel
theorem d_M_cellsOf_9 : decode b_M_cellsOf 9 = .ok (.getfield 7, 3) := by decide +kernel
theorem d_M_cellsOf_12 : decode b_M_cellsOf 12 = .ok (.iload_n 1, 1) := by decide +kernel
theorem d_M_cellsOf_13 : decode b_M_cellsOf 13 = .ok (.iconst 1, 1) := by decide +kernel
theorem d_M_cellsOf_14 : decode b_M_cellsOf 14 = .ok (.iadd, 1) := by decide +kernel
theorem d_M_cellsOf_15 : decode b_M_cellsOf 15 = .ok (.iaload, 1) := by decide +kernel
theorem d_M_cellsOf_16 : decode b_M_cellsOf 16 = .ok (.imul, 1) := by decide +kernel
theorem d_M_cellsOf_17 : decode b_M_cellsOf 17 = .ok (.ireturn, 1) := by decide +kernel
theorem d_M_aTune_0 : decode b_M_aTune 0 = .ok (.aload_n 0, 1) := by decide +kernel
theorem d_M_aTune_1 : decode b_M_aTune 1 = .ok (.getfield 7, 3) := by decide +kernel
theorem d_M_aTune_4 : decode b_M_aTune 4 = .ok (.sipush 1626, 3) := by decide +kernel
theorem d_M_aTune_7 : decode b_M_aTune 7 = .ok (.iaload, 1) := by decide +kernel
theorem d_M_aTune_8 : decode b_M_aTune 8 = .ok (.istore_n 1, 1) := by decide +kernel
theorem d_M_aTune_9 : decode b_M_aTune 9 = .ok (.aload_n 0, 1) := by decide +kernel
theorem d_M_aTune_10 : decode b_M_aTune 10 = .ok (.iconst 2, 1) := by decide +kernel
theorem d_M_aTune_11 : decode b_M_aTune 11 = .ok (.bipush 6, 2) := by decide +kernel
theorem d_M_aTune_13 : decode b_M_aTune 13 = .ok (.invokevirtual 230, 3) := by decide +kernel
theorem d_M_aTune_16 : decode b_M_aTune 16 = .ok (.ifCond .eq 10, 3) := by decide +kernel
theorem d_M_aTune_19 : decode b_M_aTune 19 = .ok (.aload_n 0, 1) := by decide +kernel
theorem d_M_aTune_20 : decode b_M_aTune 20 = .ok (.bipush 6, 2) := by decide +kernel
theorem d_M_aTune_22 : decode b_M_aTune 22 = .ok (.invokevirtual 203, 3) := by decide +kernel
theorem d_M_aTune_25 : decode b_M_aTune 25 = .ok (.ireturn, 1) := by decide +kernel
theorem d_M_aTune_26 : decode b_M_aTune 26 = .ok (.aload_n 0, 1) := by decide +kernel
theorem d_M_aTune_27 : decode b_M_aTune 27 = .ok (.invokevirtual 197, 3) := by decide +kernel
theorem d_M_aTune_30 : decode b_M_aTune 30 = .ok (.aload_n 0, 1) := by decide +kernel
theorem d_M_aTune_31 : decode b_M_aTune 31 = .ok (.ldc 214, 2) := by decide +kernel
theorem d_M_aTune_33 : decode b_M_aTune 33 = .ok (.invokevirtual 234, 3) := by decide +kernel
theorem d_M_aTune_36 : decode b_M_aTune 36 = .ok (.ifCond .ne 9, 3) := by decide +kernel
theorem d_M_aTune_39 : decode b_M_aTune 39 = .ok (.aload_n 0, 1) := by decide +kernel
theorem d_M_aTune_40 : decode b_M_aTune 40 = .ok (.iconst 2, 1) := by decide +kernel
theorem d_M_aTune_41 : decode b_M_aTune 41 = .ok (.invokevirtual 203, 3) := by decide +kernel
theorem d_M_aTune_44 : decode b_M_aTune 44 = .ok (.ireturn, 1) := by decide +kernel
theorem d_M_aTune_45 : decode b_M_aTune 45 = .ok (.aload_n 0, 1) := by decide +kernel
theorem d_M_aTune_46 : decode b_M_aTune 46 = .ok (.bipush 24, 2) := by decide +kernel
theorem d_M_aTune_48 : decode b_M_aTune 48 = .ok (.iload_n 1, 1) := by decide +kernel
theorem d_M_aTune_49 : decode b_M_aTune 49 = .ok (.invokevirtual 238, 3) := by decide +kernel
theorem d_M_aTune_52 : decode b_M_aTune 52 = .ok (.iconst (-1), 1) := by decide +kernel
theorem d_M_aTune_53 : decode b_M_aTune 53 = .ok (.if_icmp .eq 9, 3) := by decide +kernel
theorem d_M_aTune_56 : decode b_M_aTune 56 = .ok (.aload_n 0, 1) := by decide +kernel
theorem d_M_aTune_57 : decode b_M_aTune 57 = .ok (.iconst 3, 1) := by decide +kernel
theorem d_M_aTune_58 : decode b_M_aTune 58 = .ok (.invokevirtual 203, 3) := by decide +kernel
theorem d_M_aTune_61 : decode b_M_aTune 61 = .ok (.ireturn, 1) := by decide +kernel
theorem d_M_aTune_62 : decode b_M_aTune 62 = .ok (.aload_n 0, 1) := by decide +kernel
theorem d_M_aTune_63 : decode b_M_aTune 63 = .ok (.getfield 13, 3) := by decide +kernel
theorem d_M_aTune_66 : decode b_M_aTune 66 = .ok (.bipush 24, 2) := by decide +kernel
theorem d_M_aTune_68 : decode b_M_aTune 68 = .ok (.iload_n 1, 1) := by decide +kernel
theorem d_M_aTune_69 : decode b_M_aTune 69 = .ok (.iadd, 1) := by decide +kernel
theorem d_M_aTune_70 : decode b_M_aTune 70 = .ok (.aload_n 0, 1) := by decide +kernel
theorem d_M_aTune_71 : decode b_M_aTune 71 = .ok (.invokevirtual 210, 3) := by decide +kernel
theorem d_M_aTune_74 : decode b_M_aTune 74 = .ok (.lastore, 1) := by decide +kernel
theorem d_M_aTune_75 : decode b_M_aTune 75 = .ok (.aload_n 0, 1) := by decide +kernel
theorem d_M_aTune_76 : decode b_M_aTune 76 = .ok (.getfield 7, 3) := by decide +kernel
theorem d_M_aTune_79 : decode b_M_aTune 79 = .ok (.sipush 1626, 3) := by decide +kernel
theorem d_M_aTune_82 : decode b_M_aTune 82 = .ok (.dup2, 1) := by decide +kernel
theorem d_M_aTune_83 : decode b_M_aTune 83 = .ok (.iaload, 1) := by decide +kernel
theorem d_M_aTune_84 : decode b_M_aTune 84 = .ok (.iconst 1, 1) := by decide +kernel
theorem d_M_aTune_85 : decode b_M_aTune 85 = .ok (.iadd, 1) := by decide +kernel
theorem d_M_aTune_86 : decode b_M_aTune 86 = .ok (.iastore, 1) := by decide +kernel
theorem d_M_aTune_87 : decode b_M_aTune 87 = .ok (.aload_n 0, 1) := by decide +kernel
theorem d_M_aTune_88 : decode b_M_aTune 88 = .ok (.invokevirtual 197, 3) := by decide +kernel
theorem d_M_aTune_91 : decode b_M_aTune 91 = .ok (.iconst 1, 1) := by decide +kernel
theorem d_M_aTune_92 : decode b_M_aTune 92 = .ok (.ireturn, 1) := by decide +kernel
theorem d_M_isFull_0 : decode b_M_isFull 0 = .ok (.aload_n 0, 1) := by decide +kernel
theorem d_M_isFull_1 : decode b_M_isFull 1 = .ok (.getfield 7, 3) := by decide +kernel
theorem d_M_isFull_4 : decode b_M_isFull 4 = .ok (.sipush 1624, 3) := by decide +kernel
theorem d_M_isFull_7 : decode b_M_isFull 7 = .ok (.iload_n 1, 1) := by decide +kernel
theorem d_M_isFull_8 : decode b_M_isFull 8 = .ok (.iadd, 1) := by decide +kernel
theorem d_M_isFull_9 : decode b_M_isFull 9 = .ok (.iaload, 1) := by decide +kernel
theorem d_M_isFull_10 : decode b_M_isFull 10 = .ok (.iload_n 2, 1) := by decide +kernel
theorem d_M_isFull_11 : decode b_M_isFull 11 = .ok (.if_icmp .ne 7, 3) := by decide +kernel
theorem d_M_isFull_14 : decode b_M_isFull 14 = .ok (.iconst 1, 1) := by decide +kernel
theorem d_M_isFull_15 : decode b_M_isFull 15 = .ok (.goto 4, 3) := by decide +kernel
theorem d_M_isFull_18 : decode b_M_isFull 18 = .ok (.iconst 0, 1) := by decide +kernel
theorem d_M_isFull_19 : decode b_M_isFull 19 = .ok (.ireturn, 1) := by decide +kernel
theorem d_M_isName_0 : decode b_M_isName 0 = .ok (.aload_n 0, 1) := by decide +kernel
theorem d_M_isName_1 : decode b_M_isName 1 = .ok (.getfield 166, 3) := by decide +kernel
theorem d_M_isName_4 : decode b_M_isName 4 = .ok (.iconst 2, 1) := by decide +kernel
theorem d_M_isName_5 : decode b_M_isName 5 = .ok (.if_icmp .ne 30, 3) := by decide +kernel
theorem d_M_isName_8 : decode b_M_isName 8 = .ok (.aload_n 0, 1) := by decide +kernel
theorem d_M_isName_9 : decode b_M_isName 9 = .ok (.getfield 154, 3) := by decide +kernel
theorem d_M_isName_12 : decode b_M_isName 12 = .ok (.aload_n 0, 1) := by decide +kernel
theorem d_M_isName_13 : decode b_M_isName 13 = .ok (.getfield 160, 3) := by decide +kernel
theorem d_M_isName_16 : decode b_M_isName 16 = .ok (.isub, 1) := by decide +kernel
theorem d_M_isName_17 : decode b_M_isName 17 = .ok (.bipush 8, 2) := by decide +kernel
theorem d_M_isName_19 : decode b_M_isName 19 = .ok (.if_icmp .gt 16, 3) := by decide +kernel
theorem d_M_isName_22 : decode b_M_isName 22 = .ok (.aload_n 0, 1) := by decide +kernel
theorem d_M_isName_23 : decode b_M_isName 23 = .ok (.aload_n 1, 1) := by decide +kernel
theorem d_M_isName_24 : decode b_M_isName 24 = .ok (.invokevirtual 206, 3) := by decide +kernel
theorem d_M_isName_27 : decode b_M_isName 27 = .ok (.iconst (-1), 1) := by decide +kernel
theorem d_M_isName_28 : decode b_M_isName 28 = .ok (.if_icmp .ne 7, 3) := by decide +kernel
theorem d_M_isName_31 : decode b_M_isName 31 = .ok (.iconst 1, 1) := by decide +kernel
theorem d_M_isName_32 : decode b_M_isName 32 = .ok (.goto 4, 3) := by decide +kernel
theorem d_M_isName_35 : decode b_M_isName 35 = .ok (.iconst 0, 1) := by decide +kernel
theorem d_M_isName_36 : decode b_M_isName 36 = .ok (.ireturn, 1) := by decide +kernel
theorem d_M_findHere_0 : decode b_M_findHere 0 = .ok (.iconst 0, 1) := by decide +kernel
theorem d_M_findHere_1 : decode b_M_findHere 1 = .ok (.istore_n 3, 1) := by decide +kernel
theorem d_M_findHere_2 : decode b_M_findHere 2 = .ok (.iload_n 3, 1) := by decide +kernel
theorem d_M_findHere_3 : decode b_M_findHere 3 = .ok (.iload_n 2, 1) := by decide +kernel
theorem d_M_findHere_4 : decode b_M_findHere 4 = .ok (.if_icmp .ge 27, 3) := by decide +kernel
theorem d_M_findHere_7 : decode b_M_findHere 7 = .ok (.aload_n 0, 1) := by decide +kernel
theorem d_M_findHere_8 : decode b_M_findHere 8 = .ok (.getfield 13, 3) := by decide +kernel
theorem d_M_findHere_11 : decode b_M_findHere 11 = .ok (.iload_n 1, 1) := by decide +kernel
theorem d_M_findHere_12 : decode b_M_findHere 12 = .ok (.iload_n 3, 1) := by decide +kernel
theorem d_M_findHere_13 : decode b_M_findHere 13 = .ok (.iadd, 1) := by decide +kernel
theorem d_M_findHere_14 : decode b_M_findHere 14 = .ok (.laload, 1) := by decide +kernel
theorem d_M_findHere_15 : decode b_M_findHere 15 = .ok (.aload_n 0, 1) := by decide +kernel
theorem d_M_findHere_16 : decode b_M_findHere 16 = .ok (.invokevirtual 210, 3) := by decide +kernel
theorem d_M_findHere_19 : decode b_M_findHere 19 = .ok (.lcmp, 1) := by decide +kernel
theorem d_M_findHere_20 : decode b_M_findHere 20 = .ok (.ifCond .ne 5, 3) := by decide +kernel
theorem d_M_findHere_23 : decode b_M_findHere 23 = .ok (.iload_n 3, 1) := by decide +kernel
theorem d_M_findHere_24 : decode b_M_findHere 24 = .ok (.ireturn, 1) := by decide +kernel
theorem d_M_findHere_25 : decode b_M_findHere 25 = .ok (.iinc 3 1, 3) := by decide +kernel
theorem d_M_findHere_28 : decode b_M_findHere 28 = .ok (.goto (-26), 3) := by decide +kernel
theorem d_M_findHere_31 : decode b_M_findHere 31 = .ok (.iconst (-1), 1) := by decide +kernel
theorem d_M_findHere_32 : decode b_M_findHere 32 = .ok (.ireturn, 1) := by decide +kernel
theorem d_M_nameHere_0 : decode b_M_nameHere 0 = .ok (.lconst 0, 1) := by decide +kernel
theorem d_M_nameHere_1 : decode b_M_nameHere 1 = .ok (.lstore_n 1, 1) := by decide +kernel
theorem d_M_nameHere_2 : decode b_M_nameHere 2 = .ok (.aload_n 0, 1) := by decide +kernel
theorem d_M_nameHere_3 : decode b_M_nameHere 3 = .ok (.getfield 160, 3) := by decide +kernel
theorem d_M_nameHere_6 : decode b_M_nameHere 6 = .ok (.istore_n 3, 1) := by decide +kernel
theorem d_M_nameHere_7 : decode b_M_nameHere 7 = .ok (.iload_n 3, 1) := by decide +kernel
theorem d_M_nameHere_8 : decode b_M_nameHere 8 = .ok (.aload_n 0, 1) := by decide +kernel
theorem d_M_nameHere_9 : decode b_M_nameHere 9 = .ok (.getfield 154, 3) := by decide +kernel
theorem d_M_nameHere_12 : decode b_M_nameHere 12 = .ok (.if_icmp .ge 21, 3) := by decide +kernel
theorem d_M_nameHere_15 : decode b_M_nameHere 15 = .ok (.lload_n 1, 1) := by decide +kernel
theorem d_M_nameHere_16 : decode b_M_nameHere 16 = .ok (.bipush 8, 2) := by decide +kernel
theorem d_M_nameHere_18 : decode b_M_nameHere 18 = .ok (.lshl, 1) := by decide +kernel
theorem d_M_nameHere_19 : decode b_M_nameHere 19 = .ok (.aload_n 0, 1) := by decide +kernel
theorem d_M_nameHere_20 : decode b_M_nameHere 20 = .ok (.iload_n 3, 1) := by decide +kernel
theorem d_M_nameHere_21 : decode b_M_nameHere 21 = .ok (.invokevirtual 157, 3) := by decide +kernel
theorem d_M_nameHere_24 : decode b_M_nameHere 24 = .ok (.i2l, 1) := by decide +kernel
theorem d_M_nameHere_25 : decode b_M_nameHere 25 = .ok (.lor, 1) := by decide +kernel
theorem d_M_nameHere_26 : decode b_M_nameHere 26 = .ok (.lstore_n 1, 1) := by decide +kernel
theorem d_M_nameHere_27 : decode b_M_nameHere 27 = .ok (.iinc 3 1, 3) := by decide +kernel
theorem d_M_nameHere_30 : decode b_M_nameHere 30 = .ok (.goto (-23), 3) := by decide +kernel
theorem d_M_nameHere_33 : decode b_M_nameHere 33 = .ok (.lload_n 1, 1) := by decide +kernel
theorem d_M_nameHere_34 : decode b_M_nameHere 34 = .ok (.lreturn, 1) := by decide +kernel
theorem d_M_aHearer_0 : decode b_M_aHearer 0 = .ok (.aload_n 0, 1) := by decide +kernel
theorem d_M_aHearer_1 : decode b_M_aHearer 1 = .ok (.iconst 3, 1) := by decide +kernel
theorem d_M_aHearer_2 : decode b_M_aHearer 2 = .ok (.bipush 6, 2) := by decide +kernel
theorem d_M_aHearer_4 : decode b_M_aHearer 4 = .ok (.invokevirtual 230, 3) := by decide +kernel
theorem d_M_aHearer_7 : decode b_M_aHearer 7 = .ok (.ifCond .eq 10, 3) := by decide +kernel
theorem d_M_aHearer_10 : decode b_M_aHearer 10 = .ok (.aload_n 0, 1) := by decide +kernel
theorem d_M_aHearer_11 : decode b_M_aHearer 11 = .ok (.bipush 6, 2) := by decide +kernel
theorem d_M_aHearer_13 : decode b_M_aHearer 13 = .ok (.invokevirtual 203, 3) := by decide +kernel
theorem d_M_aHearer_16 : decode b_M_aHearer 16 = .ok (.ireturn, 1) := by decide +kernel
theorem d_M_aHearer_17 : decode b_M_aHearer 17 = .ok (.sipush 1624, 3) := by decide +kernel
theorem d_M_aHearer_20 : decode b_M_aHearer 20 = .ok (.aload_n 0, 1) := by decide +kernel
theorem d_M_aHearer_21 : decode b_M_aHearer 21 = .ok (.getfield 7, 3) := by decide +kernel
theorem d_M_aHearer_24 : decode b_M_aHearer 24 = .ok (.sipush 1627, 3) := by decide +kernel
theorem d_M_aHearer_27 : decode b_M_aHearer 27 = .ok (.iaload, 1) := by decide +kernel
theorem d_M_aHearer_28 : decode b_M_aHearer 28 = .ok (.invokestatic 241, 3) := by decide +kernel
theorem d_M_aHearer_31 : decode b_M_aHearer 31 = .ok (.iadd, 1) := by decide +kernel
theorem d_M_aHearer_32 : decode b_M_aHearer 32 = .ok (.istore_n 1, 1) := by decide +kernel
theorem d_M_aHearer_33 : decode b_M_aHearer 33 = .ok (.aload_n 0, 1) := by decide +kernel
theorem d_M_aHearer_34 : decode b_M_aHearer 34 = .ok (.invokevirtual 197, 3) := by decide +kernel
theorem d_M_aHearer_37 : decode b_M_aHearer 37 = .ok (.aload_n 0, 1) := by decide +kernel
theorem d_M_aHearer_38 : decode b_M_aHearer 38 = .ok (.ldc 214, 2) := by decide +kernel
theorem d_M_aHearer_40 : decode b_M_aHearer 40 = .ok (.bipush 7, 2) := by decide +kernel
theorem d_M_aHearer_42 : decode b_M_aHearer 42 = .ok (.invokevirtual 226, 3) := by decide +kernel
theorem d_M_aHearer_45 : decode b_M_aHearer 45 = .ok (.ifCond .eq 27, 3) := by decide +kernel
theorem d_M_aHearer_48 : decode b_M_aHearer 48 = .ok (.aload_n 0, 1) := by decide +kernel
theorem d_M_aHearer_49 : decode b_M_aHearer 49 = .ok (.iload_n 1, 1) := by decide +kernel
theorem d_M_aHearer_50 : decode b_M_aHearer 50 = .ok (.invokevirtual 244, 3) := by decide +kernel
theorem d_M_aHearer_53 : decode b_M_aHearer 53 = .ok (.ifCond .eq 19, 3) := by decide +kernel
theorem d_M_aHearer_56 : decode b_M_aHearer 56 = .ok (.aload_n 0, 1) := by decide +kernel
theorem d_M_aHearer_57 : decode b_M_aHearer 57 = .ok (.bipush 8, 2) := by decide +kernel
theorem d_M_aHearer_59 : decode b_M_aHearer 59 = .ok (.iload_n 1, 1) := by decide +kernel
theorem d_M_aHearer_60 : decode b_M_aHearer 60 = .ok (.iconst 2, 1) := by decide +kernel
theorem d_M_aHearer_61 : decode b_M_aHearer 61 = .ok (.iadd, 1) := by decide +kernel
theorem d_M_aHearer_62 : decode b_M_aHearer 62 = .ok (.iconst 0, 1) := by decide +kernel
theorem d_M_aHearer_63 : decode b_M_aHearer 63 = .ok (.bipush 99, 2) := by decide +kernel
theorem d_M_aHearer_65 : decode b_M_aHearer 65 = .ok (.iconst 3, 1) := by decide +kernel
theorem d_M_aHearer_66 : decode b_M_aHearer 66 = .ok (.invokevirtual 247, 3) := by decide +kernel
theorem d_M_aHearer_69 : decode b_M_aHearer 69 = .ok (.ifCond .ne 5, 3) := by decide +kernel
theorem d_M_aHearer_72 : decode b_M_aHearer 72 = .ok (.iconst 0, 1) := by decide +kernel
theorem d_M_aHearer_73 : decode b_M_aHearer 73 = .ok (.ireturn, 1) := by decide +kernel
theorem d_M_aHearer_74 : decode b_M_aHearer 74 = .ok (.aload_n 0, 1) := by decide +kernel
theorem d_M_aHearer_75 : decode b_M_aHearer 75 = .ok (.getfield 7, 3) := by decide +kernel
theorem d_M_aHearer_78 : decode b_M_aHearer 78 = .ok (.iload_n 1, 1) := by decide +kernel
theorem d_M_aHearer_79 : decode b_M_aHearer 79 = .ok (.iconst 1, 1) := by decide +kernel
theorem d_M_aHearer_80 : decode b_M_aHearer 80 = .ok (.iadd, 1) := by decide +kernel
theorem d_M_aHearer_81 : decode b_M_aHearer 81 = .ok (.iconst 0, 1) := by decide +kernel
theorem d_M_aHearer_82 : decode b_M_aHearer 82 = .ok (.iastore, 1) := by decide +kernel
theorem d_M_aHearer_83 : decode b_M_aHearer 83 = .ok (.aload_n 0, 1) := by decide +kernel
theorem d_M_aHearer_84 : decode b_M_aHearer 84 = .ok (.getfield 7, 3) := by decide +kernel
theorem d_M_aHearer_87 : decode b_M_aHearer 87 = .ok (.iload_n 1, 1) := by decide +kernel
theorem d_M_aHearer_88 : decode b_M_aHearer 88 = .ok (.iconst 3, 1) := by decide +kernel
theorem d_M_aHearer_89 : decode b_M_aHearer 89 = .ok (.iadd, 1) := by decide +kernel
theorem d_M_aHearer_90 : decode b_M_aHearer 90 = .ok (.iconst 0, 1) := by decide +kernel
theorem d_M_aHearer_91 : decode b_M_aHearer 91 = .ok (.iastore, 1) := by decide +kernel
theorem d_M_aHearer_92 : decode b_M_aHearer 92 = .ok (.aload_n 0, 1) := by decide +kernel
theorem d_M_aHearer_93 : decode b_M_aHearer 93 = .ok (.bipush 9, 2) := by decide +kernel
theorem d_M_aHearer_95 : decode b_M_aHearer 95 = .ok (.invokevirtual 216, 3) := by decide +kernel
theorem d_M_aHearer_98 : decode b_M_aHearer 98 = .ok (.istore_n 2, 1) := by decide +kernel
theorem d_M_aHearer_99 : decode b_M_aHearer 99 = .ok (.iload_n 2, 1) := by decide +kernel
theorem d_M_aHearer_100 : decode b_M_aHearer 100 = .ok (.ifCond .eq 81, 3) := by decide +kernel
theorem d_M_aHearer_103 : decode b_M_aHearer 103 = .ok (.aload_n 0, 1) := by decide +kernel
theorem d_M_aHearer_104 : decode b_M_aHearer 104 = .ok (.ldc 214, 2) := by decide +kernel
theorem d_M_aHearer_106 : decode b_M_aHearer 106 = .ok (.invokevirtual 234, 3) := by decide +kernel
theorem d_M_aHearer_109 : decode b_M_aHearer 109 = .ok (.ifCond .eq 72, 3) := by decide +kernel
theorem d_M_aHearer_112 : decode b_M_aHearer 112 = .ok (.aload_n 0, 1) := by decide +kernel
theorem d_M_aHearer_113 : decode b_M_aHearer 113 = .ok (.bipush 24, 2) := by decide +kernel
theorem d_M_aHearer_115 : decode b_M_aHearer 115 = .ok (.aload_n 0, 1) := by decide +kernel
theorem d_M_aHearer_116 : decode b_M_aHearer 116 = .ok (.getfield 7, 3) := by decide +kernel
theorem d_M_aHearer_119 : decode b_M_aHearer 119 = .ok (.sipush 1626, 3) := by decide +kernel
theorem d_M_aHearer_122 : decode b_M_aHearer 122 = .ok (.iaload, 1) := by decide +kernel
theorem d_M_aHearer_123 : decode b_M_aHearer 123 = .ok (.invokevirtual 238, 3) := by decide +kernel
theorem d_M_aHearer_126 : decode b_M_aHearer 126 = .ok (.istore_n 3, 1) := by decide +kernel
theorem d_M_aHearer_127 : decode b_M_aHearer 127 = .ok (.iload_n 3, 1) := by decide +kernel
theorem d_M_aHearer_128 : decode b_M_aHearer 128 = .ok (.iconst (-1), 1) := by decide +kernel
theorem d_M_aHearer_129 : decode b_M_aHearer 129 = .ok (.if_icmp .ne 9, 3) := by decide +kernel
theorem d_M_aHearer_132 : decode b_M_aHearer 132 = .ok (.aload_n 0, 1) := by decide +kernel
theorem d_M_aHearer_133 : decode b_M_aHearer 133 = .ok (.iconst 3, 1) := by decide +kernel
theorem d_M_aHearer_134 : decode b_M_aHearer 134 = .ok (.invokevirtual 203, 3) := by decide +kernel
theorem d_M_aHearer_137 : decode b_M_aHearer 137 = .ok (.ireturn, 1) := by decide +kernel
theorem d_M_aHearer_138 : decode b_M_aHearer 138 = .ok (.aload_n 0, 1) := by decide +kernel
theorem d_M_aHearer_139 : decode b_M_aHearer 139 = .ok (.aload_n 0, 1) := by decide +kernel
theorem d_M_aHearer_140 : decode b_M_aHearer 140 = .ok (.getfield 7, 3) := by decide +kernel
theorem d_M_aHearer_143 : decode b_M_aHearer 143 = .ok (.iload_n 1, 1) := by decide +kernel
theorem d_M_aHearer_144 : decode b_M_aHearer 144 = .ok (.iconst 1, 1) := by decide +kernel
theorem d_M_aHearer_145 : decode b_M_aHearer 145 = .ok (.iadd, 1) := by decide +kernel
theorem d_M_aHearer_146 : decode b_M_aHearer 146 = .ok (.iaload, 1) := by decide +kernel
theorem d_M_aHearer_147 : decode b_M_aHearer 147 = .ok (.iload_n 3, 1) := by decide +kernel
theorem d_M_aHearer_148 : decode b_M_aHearer 148 = .ok (.invokevirtual 251, 3) := by decide +kernel
theorem d_M_aHearer_151 : decode b_M_aHearer 151 = .ok (.ifCond .eq 9, 3) := by decide +kernel
theorem d_M_aHearer_154 : decode b_M_aHearer 154 = .ok (.aload_n 0, 1) := by decide +kernel
theorem d_M_aHearer_155 : decode b_M_aHearer 155 = .ok (.iconst 5, 1) := by decide +kernel
theorem d_M_aHearer_156 : decode b_M_aHearer 156 = .ok (.invokevirtual 203, 3) := by decide +kernel
theorem d_M_aHearer_159 : decode b_M_aHearer 159 = .ok (.ireturn, 1) := by decide +kernel
theorem d_M_aHearer_160 : decode b_M_aHearer 160 = .ok (.aload_n 0, 1) := by decide +kernel
theorem d_M_aHearer_161 : decode b_M_aHearer 161 = .ok (.getfield 7, 3) := by decide +kernel
theorem d_M_aHearer_164 : decode b_M_aHearer 164 = .ok (.iload_n 1, 1) := by decide +kernel
theorem d_M_aHearer_165 : decode b_M_aHearer 165 = .ok (.iconst 1, 1) := by decide +kernel
theorem d_M_aHearer_166 : decode b_M_aHearer 166 = .ok (.iadd, 1) := by decide +kernel
theorem d_M_aHearer_167 : decode b_M_aHearer 167 = .ok (.dup2, 1) := by decide +kernel
theorem d_M_aHearer_168 : decode b_M_aHearer 168 = .ok (.iaload, 1) := by decide +kernel
theorem d_M_aHearer_169 : decode b_M_aHearer 169 = .ok (.iconst 1, 1) := by decide +kernel
theorem d_M_aHearer_170 : decode b_M_aHearer 170 = .ok (.iload_n 3, 1) := by decide +kernel
theorem d_M_aHearer_171 : decode b_M_aHearer 171 = .ok (.ishl, 1) := by decide +kernel
theorem d_M_aHearer_172 : decode b_M_aHearer 172 = .ok (.ior, 1) := by decide +kernel
theorem d_M_aHearer_173 : decode b_M_aHearer 173 = .ok (.iastore, 1) := by decide +kernel
theorem d_M_aHearer_174 : decode b_M_aHearer 174 = .ok (.aload_n 0, 1) := by decide +kernel
theorem d_M_aHearer_175 : decode b_M_aHearer 175 = .ok (.invokevirtual 197, 3) := by decide +kernel
theorem d_M_aHearer_178 : decode b_M_aHearer 178 = .ok (.goto (-79), 3) := by decide +kernel
theorem d_M_aHearer_181 : decode b_M_aHearer 181 = .ok (.aload_n 0, 1) := by decide +kernel
theorem d_M_aHearer_182 : decode b_M_aHearer 182 = .ok (.getfield 7, 3) := by decide +kernel
theorem d_M_aHearer_185 : decode b_M_aHearer 185 = .ok (.sipush 1627, 3) := by decide +kernel
theorem d_M_aHearer_188 : decode b_M_aHearer 188 = .ok (.dup2, 1) := by decide +kernel
theorem d_M_aHearer_189 : decode b_M_aHearer 189 = .ok (.iaload, 1) := by decide +kernel
theorem d_M_aHearer_190 : decode b_M_aHearer 190 = .ok (.iconst 1, 1) := by decide +kernel
theorem d_M_aHearer_191 : decode b_M_aHearer 191 = .ok (.iadd, 1) := by decide +kernel
theorem d_M_aHearer_192 : decode b_M_aHearer 192 = .ok (.iastore, 1) := by decide +kernel
theorem d_M_aHearer_193 : decode b_M_aHearer 193 = .ok (.iconst 1, 1) := by decide +kernel
theorem d_M_aHearer_194 : decode b_M_aHearer 194 = .ok (.ireturn, 1) := by decide +kernel
theorem d_M_hearerRow_0 : decode b_M_hearerRow 0 = .ok (.bipush 10, 2) := by decide +kernel
theorem d_M_hearerRow_2 : decode b_M_hearerRow 2 = .ok (.iconst 4, 1) := by decide +kernel
theorem d_M_hearerRow_3 : decode b_M_hearerRow 3 = .ok (.iload_n 0, 1) := by decide +kernel
theorem d_M_hearerRow_4 : decode b_M_hearerRow 4 = .ok (.imul, 1) := by decide +kernel
theorem d_M_hearerRow_5 : decode b_M_hearerRow 5 = .ok (.iadd, 1) := by decide +kernel
theorem d_M_hearerRow_6 : decode b_M_hearerRow 6 = .ok (.ireturn, 1) := by decide +kernel
theorem d_M_perhaps_0 : decode b_M_perhaps 0 = .ok (.aload_n 0, 1) := by decide +kernel
theorem d_M_perhaps_1 : decode b_M_perhaps 1 = .ok (.iload_n 1, 1) := by decide +kernel
theorem d_M_perhaps_2 : decode b_M_perhaps 2 = .ok (.invokevirtual 216, 3) := by decide +kernel
theorem d_M_perhaps_5 : decode b_M_perhaps 5 = .ok (.ifCond .eq 12, 3) := by decide +kernel
theorem d_M_perhaps_8 : decode b_M_perhaps 8 = .ok (.aload_n 0, 1) := by decide +kernel
theorem d_M_perhaps_9 : decode b_M_perhaps 9 = .ok (.iload_n 2, 1) := by decide +kernel
theorem d_M_perhaps_10 : decode b_M_perhaps 10 = .ok (.iload_n 3, 1) := by decide +kernel
theorem d_M_perhaps_11 : decode b_M_perhaps 11 = .ok (.iload 4, 2) := by decide +kernel
theorem d_M_perhaps_13 : decode b_M_perhaps 13 = .ok (.invokevirtual 219, 3) := by decide +kernel
theorem d_M_perhaps_16 : decode b_M_perhaps 16 = .ok (.ireturn, 1) := by decide +kernel
theorem d_M_perhaps_17 : decode b_M_perhaps 17 = .ok (.aload_n 0, 1) := by decide +kernel
theorem d_M_perhaps_18 : decode b_M_perhaps 18 = .ok (.getfield 7, 3) := by decide +kernel
theorem d_M_perhaps_21 : decode b_M_perhaps 21 = .ok (.iload_n 2, 1) := by decide +kernel
theorem d_M_perhaps_22 : decode b_M_perhaps 22 = .ok (.iload 5, 2) := by decide +kernel
theorem d_M_perhaps_24 : decode b_M_perhaps 24 = .ok (.iastore, 1) := by decide +kernel
theorem d_M_perhaps_25 : decode b_M_perhaps 25 = .ok (.iconst 1, 1) := by decide +kernel
theorem d_M_perhaps_26 : decode b_M_perhaps 26 = .ok (.ireturn, 1) := by decide +kernel
theorem d_M_isThere_0 : decode b_M_isThere 0 = .ok (.aload_n 0, 1) := by decide +kernel
theorem d_M_isThere_1 : decode b_M_isThere 1 = .ok (.ldc 214, 2) := by decide +kernel
theorem d_M_isThere_3 : decode b_M_isThere 3 = .ok (.invokevirtual 206, 3) := by decide +kernel
theorem d_M_isThere_6 : decode b_M_isThere 6 = .ok (.iload_n 1, 1) := by decide +kernel
theorem d_M_isThere_7 : decode b_M_isThere 7 = .ok (.if_icmp .eq 5, 3) := by decide +kernel
theorem d_M_isThere_10 : decode b_M_isThere 10 = .ok (.iconst 0, 1) := by decide +kernel
theorem d_M_isThere_11 : decode b_M_isThere 11 = .ok (.ireturn, 1) := by decide +kernel
theorem d_M_isThere_12 : decode b_M_isThere 12 = .ok (.aload_n 0, 1) := by decide +kernel
theorem d_M_isThere_13 : decode b_M_isThere 13 = .ok (.invokevirtual 197, 3) := by decide +kernel
theorem d_M_isThere_16 : decode b_M_isThere 16 = .ok (.iconst 1, 1) := by decide +kernel
theorem d_M_isThere_17 : decode b_M_isThere 17 = .ok (.ireturn, 1) := by decide +kernel
theorem d_M_isIn_0 : decode b_M_isIn 0 = .ok (.iload_n 1, 1) := by decide +kernel
theorem d_M_isIn_1 : decode b_M_isIn 1 = .ok (.iload_n 2, 1) := by decide +kernel
theorem d_M_isIn_2 : decode b_M_isIn 2 = .ok (.ishr, 1) := by decide +kernel
theorem d_M_isIn_3 : decode b_M_isIn 3 = .ok (.iconst 1, 1) := by decide +kernel
theorem d_M_isIn_4 : decode b_M_isIn 4 = .ok (.iand, 1) := by decide +kernel
theorem d_M_isIn_5 : decode b_M_isIn 5 = .ok (.iconst 1, 1) := by decide +kernel
theorem d_M_isIn_6 : decode b_M_isIn 6 = .ok (.if_icmp .ne 7, 3) := by decide +kernel
theorem d_M_isIn_9 : decode b_M_isIn 9 = .ok (.iconst 1, 1) := by decide +kernel
theorem d_M_isIn_10 : decode b_M_isIn 10 = .ok (.goto 4, 3) := by decide +kernel
theorem d_M_isIn_13 : decode b_M_isIn 13 = .ok (.iconst 0, 1) := by decide +kernel
theorem d_M_isIn_14 : decode b_M_isIn 14 = .ok (.ireturn, 1) := by decide +kernel
theorem d_M_aDog_0 : decode b_M_aDog 0 = .ok (.aload_n 0, 1) := by decide +kernel
theorem d_M_aDog_1 : decode b_M_aDog 1 = .ok (.iconst 4, 1) := by decide +kernel
theorem d_M_aDog_2 : decode b_M_aDog 2 = .ok (.iconst 4, 1) := by decide +kernel
theorem d_M_aDog_3 : decode b_M_aDog 3 = .ok (.invokevirtual 230, 3) := by decide +kernel
theorem d_M_aDog_6 : decode b_M_aDog 6 = .ok (.ifCond .eq 10, 3) := by decide +kernel
theorem d_M_aDog_9 : decode b_M_aDog 9 = .ok (.aload_n 0, 1) := by decide +kernel
theorem d_M_aDog_10 : decode b_M_aDog 10 = .ok (.bipush 6, 2) := by decide +kernel
theorem d_M_aDog_12 : decode b_M_aDog 12 = .ok (.invokevirtual 203, 3) := by decide +kernel
theorem d_M_aDog_15 : decode b_M_aDog 15 = .ok (.ireturn, 1) := by decide +kernel
theorem d_M_aDog_16 : decode b_M_aDog 16 = .ok (.aload_n 0, 1) := by decide +kernel
theorem d_M_aDog_17 : decode b_M_aDog 17 = .ok (.invokevirtual 197, 3) := by decide +kernel
theorem d_M_aDog_20 : decode b_M_aDog 20 = .ok (.aload_n 0, 1) := by decide +kernel
theorem d_M_aDog_21 : decode b_M_aDog 21 = .ok (.ldc 214, 2) := by decide +kernel
theorem d_M_aDog_23 : decode b_M_aDog 23 = .ok (.bipush 7, 2) := by decide +kernel
theorem d_M_aDog_25 : decode b_M_aDog 25 = .ok (.invokevirtual 226, 3) := by decide +kernel
theorem d_M_aDog_28 : decode b_M_aDog 28 = .ok (.ifCond .eq 22, 3) := by decide +kernel
theorem d_M_aDog_31 : decode b_M_aDog 31 = .ok (.aload_n 0, 1) := by decide +kernel
theorem d_M_aDog_32 : decode b_M_aDog 32 = .ok (.sipush 1658, 3) := by decide +kernel
theorem d_M_aDog_35 : decode b_M_aDog 35 = .ok (.aload_n 0, 1) := by decide +kernel
theorem d_M_aDog_36 : decode b_M_aDog 36 = .ok (.getfield 7, 3) := by decide +kernel
theorem d_M_aDog_39 : decode b_M_aDog 39 = .ok (.sipush 1628, 3) := by decide +kernel
theorem d_M_aDog_42 : decode b_M_aDog 42 = .ok (.iaload, 1) := by decide +kernel
theorem d_M_aDog_43 : decode b_M_aDog 43 = .ok (.iadd, 1) := by decide +kernel
theorem d_M_aDog_44 : decode b_M_aDog 44 = .ok (.invokevirtual 244, 3) := by decide +kernel
theorem d_M_aDog_47 : decode b_M_aDog 47 = .ok (.ifCond .ne 5, 3) := by decide +kernel
theorem d_M_aDog_50 : decode b_M_aDog 50 = .ok (.iconst 0, 1) := by decide +kernel
theorem d_M_aDog_51 : decode b_M_aDog 51 = .ok (.ireturn, 1) := by decide +kernel
theorem d_M_aDog_52 : decode b_M_aDog 52 = .ok (.aload_n 0, 1) := by decide +kernel
theorem d_M_aDog_53 : decode b_M_aDog 53 = .ok (.getfield 7, 3) := by decide +kernel
theorem d_M_aDog_56 : decode b_M_aDog 56 = .ok (.sipush 1628, 3) := by decide +kernel
theorem d_M_aDog_59 : decode b_M_aDog 59 = .ok (.dup2, 1) := by decide +kernel
theorem d_M_aDog_60 : decode b_M_aDog 60 = .ok (.iaload, 1) := by decide +kernel
theorem d_M_aDog_61 : decode b_M_aDog 61 = .ok (.iconst 1, 1) := by decide +kernel
theorem d_M_aDog_62 : decode b_M_aDog 62 = .ok (.iadd, 1) := by decide +kernel
theorem d_M_aDog_63 : decode b_M_aDog 63 = .ok (.iastore, 1) := by decide +kernel
theorem d_M_aDog_64 : decode b_M_aDog 64 = .ok (.iconst 1, 1) := by decide +kernel
theorem d_M_aDog_65 : decode b_M_aDog 65 = .ok (.ireturn, 1) := by decide +kernel
theorem d_M_wantSign_0 : decode b_M_wantSign 0 = .ok (.aload_n 0, 1) := by decide +kernel
theorem d_M_wantSign_1 : decode b_M_wantSign 1 = .ok (.iload_n 1, 1) := by decide +kernel
theorem d_M_wantSign_2 : decode b_M_wantSign 2 = .ok (.invokevirtual 200, 3) := by decide +kernel
theorem d_M_wantSign_5 : decode b_M_wantSign 5 = .ok (.ifCond .ne 9, 3) := by decide +kernel
theorem d_M_wantSign_8 : decode b_M_wantSign 8 = .ok (.aload_n 0, 1) := by decide +kernel
theorem d_M_wantSign_9 : decode b_M_wantSign 9 = .ok (.iconst 2, 1) := by decide +kernel
theorem d_M_wantSign_10 : decode b_M_wantSign 10 = .ok (.invokevirtual 203, 3) := by decide +kernel
theorem d_M_wantSign_13 : decode b_M_wantSign 13 = .ok (.ireturn, 1) := by decide +kernel
theorem d_M_wantSign_14 : decode b_M_wantSign 14 = .ok (.aload_n 0, 1) := by decide +kernel
theorem d_M_wantSign_15 : decode b_M_wantSign 15 = .ok (.invokevirtual 197, 3) := by decide +kernel
theorem d_M_wantSign_18 : decode b_M_wantSign 18 = .ok (.iconst 1, 1) := by decide +kernel
theorem d_M_wantSign_19 : decode b_M_wantSign 19 = .ok (.ireturn, 1) := by decide +kernel
theorem d_M_isSign_0 : decode b_M_isSign 0 = .ok (.aload_n 0, 1) := by decide +kernel
theorem d_M_isSign_1 : decode b_M_isSign 1 = .ok (.getfield 166, 3) := by decide +kernel
theorem d_M_isSign_4 : decode b_M_isSign 4 = .ok (.iconst 4, 1) := by decide +kernel
theorem d_M_isSign_5 : decode b_M_isSign 5 = .ok (.if_icmp .ne 15, 3) := by decide +kernel
theorem d_M_isSign_8 : decode b_M_isSign 8 = .ok (.aload_n 0, 1) := by decide +kernel
theorem d_M_isSign_9 : decode b_M_isSign 9 = .ok (.getfield 163, 3) := by decide +kernel
theorem d_M_isSign_12 : decode b_M_isSign 12 = .ok (.iload_n 1, 1) := by decide +kernel
theorem d_M_isSign_13 : decode b_M_isSign 13 = .ok (.if_icmp .ne 7, 3) := by decide +kernel
theorem d_M_isSign_16 : decode b_M_isSign 16 = .ok (.iconst 1, 1) := by decide +kernel
theorem d_M_isSign_17 : decode b_M_isSign 17 = .ok (.goto 4, 3) := by decide +kernel
theorem d_M_isSign_20 : decode b_M_isSign 20 = .ok (.iconst 0, 1) := by decide +kernel
theorem d_M_isSign_21 : decode b_M_isSign 21 = .ok (.ireturn, 1) := by decide +kernel
theorem d_M_taken_0 : decode b_M_taken 0 = .ok (.aload_n 0, 1) := by decide +kernel
theorem d_M_taken_1 : decode b_M_taken 1 = .ok (.aload_n 0, 1) := by decide +kernel
theorem d_M_taken_2 : decode b_M_taken 2 = .ok (.getfield 191, 3) := by decide +kernel
theorem d_M_taken_5 : decode b_M_taken 5 = .ok (.putfield 37, 3) := by decide +kernel
theorem d_M_taken_8 : decode b_M_taken 8 = .ok (.aload_n 0, 1) := by decide +kernel
theorem d_M_taken_9 : decode b_M_taken 9 = .ok (.getfield 191, 3) := by decide +kernel
theorem d_M_taken_12 : decode b_M_taken 12 = .ok (.ifCond .le 12, 3) := by decide +kernel
theorem d_M_taken_15 : decode b_M_taken 15 = .ok (.aload_n 0, 1) := by decide +kernel
theorem d_M_taken_16 : decode b_M_taken 16 = .ok (.bipush 9, 2) := by decide +kernel
theorem d_M_taken_18 : decode b_M_taken 18 = .ok (.invokevirtual 121, 3) := by decide +kernel
theorem d_M_taken_21 : decode b_M_taken 21 = .ok (.goto 8, 3) := by decide +kernel
theorem d_M_taken_24 : decode b_M_taken 24 = .ok (.aload_n 0, 1) := by decide +kernel
theorem d_M_taken_25 : decode b_M_taken 25 = .ok (.iload_n 1, 1) := by decide +kernel
theorem d_M_taken_26 : decode b_M_taken 26 = .ok (.invokevirtual 125, 3) := by decide +kernel
theorem d_M_taken_29 : decode b_M_taken 29 = .ok (.ireturn, 1) := by decide +kernel
theorem d_M_gives_0 : decode b_M_gives 0 = .ok (.aload_n 0, 1) := by decide +kernel
theorem d_M_gives_1 : decode b_M_gives 1 = .ok (.iconst 0, 1) := by decide +kernel
theorem d_M_gives_2 : decode b_M_gives 2 = .ok (.putfield 115, 3) := by decide +kernel
theorem d_M_gives_5 : decode b_M_gives 5 = .ok (.iload_n 1, 1) := by decide +kernel
theorem d_M_gives_6 : decode b_M_gives 6 = .ok (.ireturn, 1) := by decide +kernel
theorem d_M_days_0 : decode b_M_days 0 = .ok (.aload_n 0, 1) := by decide +kernel
theorem d_M_days_1 : decode b_M_days 1 = .ok (.iload_n 1, 1) := by decide +kernel
theorem d_M_days_2 : decode b_M_days 2 = .ok (.sipush 300, 3) := by decide +kernel
theorem d_M_days_5 : decode b_M_days 5 = .ok (.invokevirtual 273, 3) := by decide +kernel
theorem d_M_days_8 : decode b_M_days 8 = .ok (.ifCond .ne 9, 3) := by decide +kernel
theorem d_M_days_11 : decode b_M_days 11 = .ok (.aload_n 0, 1) := by decide +kernel
theorem d_M_days_12 : decode b_M_days 12 = .ok (.iconst 1, 1) := by decide +kernel
theorem d_M_days_13 : decode b_M_days 13 = .ok (.invokevirtual 121, 3) := by decide +kernel
theorem d_M_days_16 : decode b_M_days 16 = .ok (.ireturn, 1) := by decide +kernel
theorem d_M_days_17 : decode b_M_days 17 = .ok (.aload_n 0, 1) := by decide +kernel
theorem d_M_days_18 : decode b_M_days 18 = .ok (.getfield 7, 3) := by decide +kernel
theorem d_M_days_21 : decode b_M_days 21 = .ok (.sipush 1631, 3) := by decide +kernel
theorem d_M_days_24 : decode b_M_days 24 = .ok (.iconst 0, 1) := by decide +kernel
theorem d_M_days_25 : decode b_M_days 25 = .ok (.iastore, 1) := by decide +kernel
theorem d_M_days_26 : decode b_M_days 26 = .ok (.aload_n 0, 1) := by decide +kernel
theorem d_M_days_27 : decode b_M_days 27 = .ok (.iconst 0, 1) := by decide +kernel
theorem d_M_days_28 : decode b_M_days 28 = .ok (.putfield 294, 3) := by decide +kernel
theorem d_M_days_31 : decode b_M_days 31 = .ok (.aload_n 0, 1) := by decide +kernel
theorem d_M_days_32 : decode b_M_days 32 = .ok (.iconst 0, 1) := by decide +kernel
theorem d_M_days_33 : decode b_M_days 33 = .ok (.putfield 297, 3) := by decide +kernel
theorem d_M_days_36 : decode b_M_days 36 = .ok (.iconst 1, 1) := by decide +kernel
theorem d_M_days_37 : decode b_M_days 37 = .ok (.istore_n 2, 1) := by decide +kernel
theorem d_M_days_38 : decode b_M_days 38 = .ok (.iload_n 2, 1) := by decide +kernel
theorem d_M_days_39 : decode b_M_days 39 = .ok (.ifCond .eq 18, 3) := by decide +kernel
theorem d_M_days_42 : decode b_M_days 42 = .ok (.aload_n 0, 1) := by decide +kernel
theorem d_M_days_43 : decode b_M_days 43 = .ok (.getfield 166, 3) := by decide +kernel
theorem d_M_days_46 : decode b_M_days 46 = .ok (.ifCond .eq 11, 3) := by decide +kernel
theorem d_M_days_49 : decode b_M_days 49 = .ok (.aload_n 0, 1) := by decide +kernel
theorem d_M_days_50 : decode b_M_days 50 = .ok (.invokevirtual 303, 3) := by decide +kernel
theorem d_M_days_53 : decode b_M_days 53 = .ok (.istore_n 2, 1) := by decide +kernel
theorem d_M_days_54 : decode b_M_days 54 = .ok (.goto (-16), 3) := by decide +kernel
theorem d_M_days_57 : decode b_M_days 57 = .ok (.aload_n 0, 1) := by decide +kernel
theorem d_M_days_58 : decode b_M_days 58 = .ok (.getfield 191, 3) := by decide +kernel
theorem d_M_days_61 : decode b_M_days 61 = .ok (.ifCond .ne 16, 3) := by decide +kernel
theorem d_M_days_64 : decode b_M_days 64 = .ok (.aload_n 0, 1) := by decide +kernel
theorem d_M_days_65 : decode b_M_days 65 = .ok (.getfield 294, 3) := by decide +kernel
theorem d_M_days_68 : decode b_M_days 68 = .ok (.ifCond .le 9, 3) := by decide +kernel
theorem d_M_days_71 : decode b_M_days 71 = .ok (.aload_n 0, 1) := by decide +kernel
theorem d_M_days_72 : decode b_M_days 72 = .ok (.iconst 2, 1) := by decide +kernel
theorem d_M_days_73 : decode b_M_days 73 = .ok (.invokevirtual 203, 3) := by decide +kernel
theorem d_M_days_76 : decode b_M_days 76 = .ok (.pop, 1) := by decide +kernel
theorem d_M_days_77 : decode b_M_days 77 = .ok (.aload_n 0, 1) := by decide +kernel
theorem d_M_days_78 : decode b_M_days 78 = .ok (.getfield 191, 3) := by decide +kernel
theorem d_M_days_81 : decode b_M_days 81 = .ok (.ifCond .ne 50, 3) := by decide +kernel
theorem d_M_days_84 : decode b_M_days 84 = .ok (.aload_n 0, 1) := by decide +kernel
theorem d_M_days_85 : decode b_M_days 85 = .ok (.getfield 7, 3) := by decide +kernel
theorem d_M_days_88 : decode b_M_days 88 = .ok (.bipush 7, 2) := by decide +kernel
theorem d_M_days_90 : decode b_M_days 90 = .ok (.aload_n 0, 1) := by decide +kernel
theorem d_M_days_91 : decode b_M_days 91 = .ok (.getfield 7, 3) := by decide +kernel
theorem d_M_days_94 : decode b_M_days 94 = .ok (.sipush 1631, 3) := by decide +kernel
theorem d_M_days_97 : decode b_M_days 97 = .ok (.iaload, 1) := by decide +kernel
theorem d_M_days_98 : decode b_M_days 98 = .ok (.iastore, 1) := by decide +kernel
theorem d_M_days_99 : decode b_M_days 99 = .ok (.bipush 38, 2) := by decide +kernel
theorem d_M_days_101 : decode b_M_days 101 = .ok (.istore_n 3, 1) := by decide +kernel
theorem d_M_days_102 : decode b_M_days 102 = .ok (.iload_n 3, 1) := by decide +kernel
theorem d_M_days_103 : decode b_M_days 103 = .ok (.sipush 398, 3) := by decide +kernel
theorem d_M_days_106 : decode b_M_days 106 = .ok (.if_icmp .ge 25, 3) := by decide +kernel
theorem d_M_days_109 : decode b_M_days 109 = .ok (.aload_n 0, 1) := by decide +kernel
theorem d_M_days_110 : decode b_M_days 110 = .ok (.getfield 7, 3) := by decide +kernel
theorem d_M_days_113 : decode b_M_days 113 = .ok (.iload_n 3, 1) := by decide +kernel
theorem d_M_days_114 : decode b_M_days 114 = .ok (.aload_n 0, 1) := by decide +kernel
theorem d_M_days_115 : decode b_M_days 115 = .ok (.getfield 7, 3) := by decide +kernel
theorem d_M_days_118 : decode b_M_days 118 = .ok (.sipush 1624, 3) := by decide +kernel
theorem d_M_days_121 : decode b_M_days 121 = .ok (.iload_n 3, 1) := by decide +kernel
theorem d_M_days_122 : decode b_M_days 122 = .ok (.iadd, 1) := by decide +kernel
theorem d_M_days_123 : decode b_M_days 123 = .ok (.iaload, 1) := by decide +kernel
theorem d_M_days_124 : decode b_M_days 124 = .ok (.iastore, 1) := by decide +kernel
theorem d_M_days_125 : decode b_M_days 125 = .ok (.iinc 3 1, 3) := by decide +kernel
theorem d_M_days_128 : decode b_M_days 128 = .ok (.goto (-26), 3) := by decide +kernel
theorem d_M_days_131 : decode b_M_days 131 = .ok (.aload_n 0, 1) := by decide +kernel
theorem d_M_days_132 : decode b_M_days 132 = .ok (.aload_n 0, 1) := by decide +kernel
theorem d_M_days_133 : decode b_M_days 133 = .ok (.getfield 297, 3) := by decide +kernel
theorem d_M_days_136 : decode b_M_days 136 = .ok (.invokevirtual 279, 3) := by decide +kernel
theorem d_M_days_139 : decode b_M_days 139 = .ok (.ireturn, 1) := by decide +kernel
theorem d_M_dayStep_0 : decode b_M_dayStep 0 = .ok (.aload_n 0, 1) := by decide +kernel
theorem d_M_dayStep_1 : decode b_M_dayStep 1 = .ok (.ldc 214, 2) := by decide +kernel
theorem d_M_dayStep_3 : decode b_M_dayStep 3 = .ok (.invokevirtual 206, 3) := by decide +kernel
theorem d_M_dayStep_6 : decode b_M_dayStep 6 = .ok (.istore_n 1, 1) := by decide +kernel
theorem d_M_dayStep_7 : decode b_M_dayStep 7 = .ok (.aload_n 0, 1) := by decide +kernel
theorem d_M_dayStep_8 : decode b_M_dayStep 8 = .ok (.getfield 7, 3) := by decide +kernel
theorem d_M_dayStep_11 : decode b_M_dayStep 11 = .ok (.sipush 1631, 3) := by decide +kernel
theorem d_M_dayStep_14 : decode b_M_dayStep 14 = .ok (.iaload, 1) := by decide +kernel
theorem d_M_dayStep_15 : decode b_M_dayStep 15 = .ok (.istore_n 2, 1) := by decide +kernel
theorem d_M_dayStep_16 : decode b_M_dayStep 16 = .ok (.sipush 1662, 3) := by decide +kernel
theorem d_M_dayStep_19 : decode b_M_dayStep 19 = .ok (.bipush 6, 2) := by decide +kernel
theorem d_M_dayStep_21 : decode b_M_dayStep 21 = .ok (.iload_n 2, 1) := by decide +kernel
theorem d_M_dayStep_22 : decode b_M_dayStep 22 = .ok (.imul, 1) := by decide +kernel
theorem d_M_dayStep_23 : decode b_M_dayStep 23 = .ok (.iadd, 1) := by decide +kernel
theorem d_M_dayStep_24 : decode b_M_dayStep 24 = .ok (.istore_n 3, 1) := by decide +kernel
theorem d_M_dayStep_25 : decode b_M_dayStep 25 = .ok (.iload_n 1, 1) := by decide +kernel
theorem d_M_dayStep_26 : decode b_M_dayStep 26 = .ok (.bipush 17, 2) := by decide +kernel
theorem d_M_dayStep_28 : decode b_M_dayStep 28 = .ok (.if_icmp .eq 9, 3) := by decide +kernel
theorem d_M_dayStep_31 : decode b_M_dayStep 31 = .ok (.iload_n 1, 1) := by decide +kernel
theorem d_M_dayStep_32 : decode b_M_dayStep 32 = .ok (.bipush 18, 2) := by decide +kernel
theorem d_M_dayStep_34 : decode b_M_dayStep 34 = .ok (.if_icmp .ne 7, 3) := by decide +kernel
theorem d_M_dayStep_37 : decode b_M_dayStep 37 = .ok (.iconst 1, 1) := by decide +kernel
theorem d_M_dayStep_38 : decode b_M_dayStep 38 = .ok (.goto 4, 3) := by decide +kernel
theorem d_M_dayStep_41 : decode b_M_dayStep 41 = .ok (.iconst 0, 1) := by decide +kernel
theorem d_M_dayStep_42 : decode b_M_dayStep 42 = .ok (.istore 4, 2) := by decide +kernel
theorem d_M_dayStep_44 : decode b_M_dayStep 44 = .ok (.iload_n 1, 1) := by decide +kernel
theorem d_M_dayStep_45 : decode b_M_dayStep 45 = .ok (.bipush 10, 2) := by decide +kernel
theorem d_M_dayStep_47 : decode b_M_dayStep 47 = .ok (.if_icmp .lt 22, 3) := by decide +kernel
theorem d_M_dayStep_50 : decode b_M_dayStep 50 = .ok (.iload_n 1, 1) := by decide +kernel
theorem d_M_dayStep_51 : decode b_M_dayStep 51 = .ok (.bipush 20, 2) := by decide +kernel
theorem d_M_dayStep_53 : decode b_M_dayStep 53 = .ok (.if_icmp .gt 16, 3) := by decide +kernel
theorem d_M_dayStep_56 : decode b_M_dayStep 56 = .ok (.iload_n 1, 1) := by decide +kernel
theorem d_M_dayStep_57 : decode b_M_dayStep 57 = .ok (.bipush 19, 2) := by decide +kernel
theorem d_M_dayStep_59 : decode b_M_dayStep 59 = .ok (.if_icmp .ne 16, 3) := by decide +kernel
theorem d_M_dayStep_62 : decode b_M_dayStep 62 = .ok (.aload_n 0, 1) := by decide +kernel
theorem d_M_dayStep_63 : decode b_M_dayStep 63 = .ok (.getfield 294, 3) := by decide +kernel
theorem d_M_dayStep_66 : decode b_M_dayStep 66 = .ok (.ifCond .ne 9, 3) := by decide +kernel
theorem d_M_dayStep_69 : decode b_M_dayStep 69 = .ok (.aload_n 0, 1) := by decide +kernel
theorem d_M_dayStep_70 : decode b_M_dayStep 70 = .ok (.iconst 2, 1) := by decide +kernel
theorem d_M_dayStep_71 : decode b_M_dayStep 71 = .ok (.invokevirtual 203, 3) := by decide +kernel
theorem d_M_dayStep_74 : decode b_M_dayStep 74 = .ok (.ireturn, 1) := by decide +kernel
theorem d_M_dayStep_75 : decode b_M_dayStep 75 = .ok (.iload_n 1, 1) := by decide +kernel
theorem d_M_dayStep_76 : decode b_M_dayStep 76 = .ok (.bipush 19, 2) := by decide +kernel
theorem d_M_dayStep_78 : decode b_M_dayStep 78 = .ok (.if_icmp .eq 19, 3) := by decide +kernel
theorem d_M_dayStep_81 : decode b_M_dayStep 81 = .ok (.aload_n 0, 1) := by decide +kernel
theorem d_M_dayStep_82 : decode b_M_dayStep 82 = .ok (.getfield 297, 3) := by decide +kernel
theorem d_M_dayStep_85 : decode b_M_dayStep 85 = .ok (.bipush 30, 2) := by decide +kernel
theorem d_M_dayStep_87 : decode b_M_dayStep 87 = .ok (.if_icmp .ne 10, 3) := by decide +kernel
theorem d_M_dayStep_90 : decode b_M_dayStep 90 = .ok (.aload_n 0, 1) := by decide +kernel
theorem d_M_dayStep_91 : decode b_M_dayStep 91 = .ok (.bipush 6, 2) := by decide +kernel
theorem d_M_dayStep_93 : decode b_M_dayStep 93 = .ok (.invokevirtual 203, 3) := by decide +kernel
theorem d_M_dayStep_96 : decode b_M_dayStep 96 = .ok (.ireturn, 1) := by decide +kernel
theorem d_M_dayStep_97 : decode b_M_dayStep 97 = .ok (.iload 4, 2) := by decide +kernel
theorem d_M_dayStep_99 : decode b_M_dayStep 99 = .ok (.ifCond .eq 18, 3) := by decide +kernel
theorem d_M_dayStep_102 : decode b_M_dayStep 102 = .ok (.aload_n 0, 1) := by decide +kernel
theorem d_M_dayStep_103 : decode b_M_dayStep 103 = .ok (.getfield 294, 3) := by decide +kernel
theorem d_M_dayStep_106 : decode b_M_dayStep 106 = .ok (.iconst 3, 1) := by decide +kernel
theorem d_M_dayStep_107 : decode b_M_dayStep 107 = .ok (.if_icmp .ne 10, 3) := by decide +kernel
theorem d_M_dayStep_110 : decode b_M_dayStep 110 = .ok (.aload_n 0, 1) := by decide +kernel
theorem d_M_dayStep_111 : decode b_M_dayStep 111 = .ok (.bipush 7, 2) := by decide +kernel
theorem d_M_dayStep_113 : decode b_M_dayStep 113 = .ok (.invokevirtual 203, 3) := by decide +kernel
theorem d_M_dayStep_116 : decode b_M_dayStep 116 = .ok (.ireturn, 1) := by decide +kernel
theorem d_M_dayStep_117 : decode b_M_dayStep 117 = .ok (.aload_n 0, 1) := by decide +kernel
theorem d_M_dayStep_118 : decode b_M_dayStep 118 = .ok (.dup, 1) := by decide +kernel
theorem d_M_dayStep_119 : decode b_M_dayStep 119 = .ok (.getfield 297, 3) := by decide +kernel
theorem d_M_dayStep_122 : decode b_M_dayStep 122 = .ok (.iload_n 1, 1) := by decide +kernel
theorem d_M_dayStep_123 : decode b_M_dayStep 123 = .ok (.bipush 19, 2) := by decide +kernel
theorem d_M_dayStep_125 : decode b_M_dayStep 125 = .ok (.if_icmp .ne 7, 3) := by decide +kernel
theorem d_M_dayStep_128 : decode b_M_dayStep 128 = .ok (.iconst 0, 1) := by decide +kernel
theorem d_M_dayStep_129 : decode b_M_dayStep 129 = .ok (.goto 4, 3) := by decide +kernel
theorem d_M_dayStep_132 : decode b_M_dayStep 132 = .ok (.iconst 1, 1) := by decide +kernel
theorem d_M_dayStep_133 : decode b_M_dayStep 133 = .ok (.iadd, 1) := by decide +kernel
theorem d_M_dayStep_134 : decode b_M_dayStep 134 = .ok (.putfield 297, 3) := by decide +kernel
theorem d_M_dayStep_137 : decode b_M_dayStep 137 = .ok (.aload_n 0, 1) := by decide +kernel
theorem d_M_dayStep_138 : decode b_M_dayStep 138 = .ok (.getfield 7, 3) := by decide +kernel
theorem d_M_dayStep_141 : decode b_M_dayStep 141 = .ok (.iload_n 3, 1) := by decide +kernel
theorem d_M_dayStep_142 : decode b_M_dayStep 142 = .ok (.iload_n 1, 1) := by decide +kernel
theorem d_M_dayStep_143 : decode b_M_dayStep 143 = .ok (.iastore, 1) := by decide +kernel
theorem d_M_dayStep_144 : decode b_M_dayStep 144 = .ok (.iconst 1, 1) := by decide +kernel
theorem d_M_dayStep_145 : decode b_M_dayStep 145 = .ok (.istore 5, 2) := by decide +kernel
theorem d_M_dayStep_147 : decode b_M_dayStep 147 = .ok (.iload 5, 2) := by decide +kernel
theorem d_M_dayStep_149 : decode b_M_dayStep 149 = .ok (.bipush 6, 2) := by decide +kernel
theorem d_M_dayStep_151 : decode b_M_dayStep 151 = .ok (.if_icmp .ge 19, 3) := by decide +kernel
theorem d_M_dayStep_154 : decode b_M_dayStep 154 = .ok (.aload_n 0, 1) := by decide +kernel
theorem d_M_dayStep_155 : decode b_M_dayStep 155 = .ok (.getfield 7, 3) := by decide +kernel
theorem d_M_dayStep_158 : decode b_M_dayStep 158 = .ok (.iload_n 3, 1) := by decide +kernel
theorem d_M_dayStep_159 : decode b_M_dayStep 159 = .ok (.iload 5, 2) := by decide +kernel
theorem d_M_dayStep_161 : decode b_M_dayStep 161 = .ok (.iadd, 1) := by decide +kernel
theorem d_M_dayStep_162 : decode b_M_dayStep 162 = .ok (.iconst 0, 1) := by decide +kernel
theorem d_M_dayStep_163 : decode b_M_dayStep 163 = .ok (.iastore, 1) := by decide +kernel
theorem d_M_dayStep_164 : decode b_M_dayStep 164 = .ok (.iinc 5 1, 3) := by decide +kernel
theorem d_M_dayStep_167 : decode b_M_dayStep 167 = .ok (.goto (-20), 3) := by decide +kernel
theorem d_M_dayStep_170 : decode b_M_dayStep 170 = .ok (.aload_n 0, 1) := by decide +kernel
theorem d_M_dayStep_171 : decode b_M_dayStep 171 = .ok (.getfield 7, 3) := by decide +kernel
theorem d_M_dayStep_174 : decode b_M_dayStep 174 = .ok (.sipush 1631, 3) := by decide +kernel
theorem d_M_dayStep_177 : decode b_M_dayStep 177 = .ok (.dup2, 1) := by decide +kernel
theorem d_M_dayStep_178 : decode b_M_dayStep 178 = .ok (.iaload, 1) := by decide +kernel
theorem d_M_dayStep_179 : decode b_M_dayStep 179 = .ok (.iconst 1, 1) := by decide +kernel
theorem d_M_dayStep_180 : decode b_M_dayStep 180 = .ok (.iadd, 1) := by decide +kernel
theorem d_M_dayStep_181 : decode b_M_dayStep 181 = .ok (.iastore, 1) := by decide +kernel
theorem d_M_dayStep_182 : decode b_M_dayStep 182 = .ok (.aload_n 0, 1) := by decide +kernel
theorem d_M_dayStep_183 : decode b_M_dayStep 183 = .ok (.invokevirtual 197, 3) := by decide +kernel
theorem d_M_dayStep_186 : decode b_M_dayStep 186 = .ok (.aload_n 0, 1) := by decide +kernel
theorem d_M_dayStep_187 : decode b_M_dayStep 187 = .ok (.iload_n 1, 1) := by decide +kernel
theorem d_M_dayStep_188 : decode b_M_dayStep 188 = .ok (.iload_n 3, 1) := by decide +kernel
theorem d_M_dayStep_189 : decode b_M_dayStep 189 = .ok (.invokevirtual 300, 3) := by decide +kernel
theorem d_M_dayStep_192 : decode b_M_dayStep 192 = .ok (.ifCond .ne 5, 3) := by decide +kernel
theorem d_M_dayStep_195 : decode b_M_dayStep 195 = .ok (.iconst 0, 1) := by decide +kernel
theorem d_M_dayStep_196 : decode b_M_dayStep 196 = .ok (.ireturn, 1) := by decide +kernel
theorem d_M_dayStep_197 : decode b_M_dayStep 197 = .ok (.iload 4, 2) := by decide +kernel
theorem d_M_dayStep_199 : decode b_M_dayStep 199 = .ok (.ifCond .eq 23, 3) := by decide +kernel
theorem d_M_dayStep_202 : decode b_M_dayStep 202 = .ok (.aload_n 0, 1) := by decide +kernel
theorem d_M_dayStep_203 : decode b_M_dayStep 203 = .ok (.getfield 44, 3) := by decide +kernel
theorem d_M_dayStep_206 : decode b_M_dayStep 206 = .ok (.aload_n 0, 1) := by decide +kernel
theorem d_M_dayStep_207 : decode b_M_dayStep 207 = .ok (.getfield 294, 3) := by decide +kernel
theorem d_M_dayStep_210 : decode b_M_dayStep 210 = .ok (.iload_n 2, 1) := by decide +kernel
theorem d_M_dayStep_211 : decode b_M_dayStep 211 = .ok (.iastore, 1) := by decide +kernel
theorem d_M_dayStep_212 : decode b_M_dayStep 212 = .ok (.aload_n 0, 1) := by decide +kernel
theorem d_M_dayStep_213 : decode b_M_dayStep 213 = .ok (.dup, 1) := by decide +kernel
theorem d_M_dayStep_214 : decode b_M_dayStep 214 = .ok (.getfield 294, 3) := by decide +kernel
theorem d_M_dayStep_217 : decode b_M_dayStep 217 = .ok (.iconst 1, 1) := by decide +kernel
theorem d_M_dayStep_218 : decode b_M_dayStep 218 = .ok (.iadd, 1) := by decide +kernel
theorem d_M_dayStep_219 : decode b_M_dayStep 219 = .ok (.putfield 294, 3) := by decide +kernel
theorem d_M_dayStep_222 : decode b_M_dayStep 222 = .ok (.iload_n 1, 1) := by decide +kernel
theorem d_M_dayStep_223 : decode b_M_dayStep 223 = .ok (.bipush 19, 2) := by decide +kernel
theorem d_M_dayStep_225 : decode b_M_dayStep 225 = .ok (.if_icmp .ne 54, 3) := by decide +kernel
theorem d_M_dayStep_228 : decode b_M_dayStep 228 = .ok (.aload_n 0, 1) := by decide +kernel
theorem d_M_dayStep_229 : decode b_M_dayStep 229 = .ok (.dup, 1) := by decide +kernel
theorem d_M_dayStep_230 : decode b_M_dayStep 230 = .ok (.getfield 294, 3) := by decide +kernel
theorem d_M_dayStep_233 : decode b_M_dayStep 233 = .ok (.iconst 1, 1) := by decide +kernel
theorem d_M_dayStep_234 : decode b_M_dayStep 234 = .ok (.isub, 1) := by decide +kernel
theorem d_M_dayStep_235 : decode b_M_dayStep 235 = .ok (.putfield 294, 3) := by decide +kernel
theorem d_M_dayStep_238 : decode b_M_dayStep 238 = .ok (.aload_n 0, 1) := by decide +kernel
theorem d_M_dayStep_239 : decode b_M_dayStep 239 = .ok (.getfield 7, 3) := by decide +kernel
theorem d_M_dayStep_242 : decode b_M_dayStep 242 = .ok (.iload_n 3, 1) := by decide +kernel
theorem d_M_dayStep_243 : decode b_M_dayStep 243 = .ok (.iconst 4, 1) := by decide +kernel
theorem d_M_dayStep_244 : decode b_M_dayStep 244 = .ok (.iadd, 1) := by decide +kernel
theorem d_M_dayStep_245 : decode b_M_dayStep 245 = .ok (.aload_n 0, 1) := by decide +kernel
theorem d_M_dayStep_246 : decode b_M_dayStep 246 = .ok (.getfield 44, 3) := by decide +kernel
theorem d_M_dayStep_249 : decode b_M_dayStep 249 = .ok (.aload_n 0, 1) := by decide +kernel
theorem d_M_dayStep_250 : decode b_M_dayStep 250 = .ok (.getfield 294, 3) := by decide +kernel
theorem d_M_dayStep_253 : decode b_M_dayStep 253 = .ok (.iaload, 1) := by decide +kernel
theorem d_M_dayStep_254 : decode b_M_dayStep 254 = .ok (.iastore, 1) := by decide +kernel
theorem d_M_dayStep_255 : decode b_M_dayStep 255 = .ok (.aload_n 0, 1) := by decide +kernel
theorem d_M_dayStep_256 : decode b_M_dayStep 256 = .ok (.getfield 7, 3) := by decide +kernel
theorem d_M_dayStep_259 : decode b_M_dayStep 259 = .ok (.sipush 1662, 3) := by decide +kernel
theorem d_M_dayStep_262 : decode b_M_dayStep 262 = .ok (.bipush 6, 2) := by decide +kernel
theorem d_M_dayStep_264 : decode b_M_dayStep 264 = .ok (.aload_n 0, 1) := by decide +kernel
theorem d_M_dayStep_265 : decode b_M_dayStep 265 = .ok (.getfield 44, 3) := by decide +kernel
theorem d_M_dayStep_268 : decode b_M_dayStep 268 = .ok (.aload_n 0, 1) := by decide +kernel
theorem d_M_dayStep_269 : decode b_M_dayStep 269 = .ok (.getfield 294, 3) := by decide +kernel
theorem d_M_dayStep_272 : decode b_M_dayStep 272 = .ok (.iaload, 1) := by decide +kernel
theorem d_M_dayStep_273 : decode b_M_dayStep 273 = .ok (.imul, 1) := by decide +kernel
theorem d_M_dayStep_274 : decode b_M_dayStep 274 = .ok (.iadd, 1) := by decide +kernel
theorem d_M_dayStep_275 : decode b_M_dayStep 275 = .ok (.iconst 4, 1) := by decide +kernel
theorem d_M_dayStep_276 : decode b_M_dayStep 276 = .ok (.iadd, 1) := by decide +kernel
theorem d_M_dayStep_277 : decode b_M_dayStep 277 = .ok (.iload_n 2, 1) := by decide +kernel
theorem d_M_dayStep_278 : decode b_M_dayStep 278 = .ok (.iastore, 1) := by decide +kernel
theorem d_M_dayStep_279 : decode b_M_dayStep 279 = .ok (.aload_n 0, 1) := by decide +kernel
theorem d_M_dayStep_280 : decode b_M_dayStep 280 = .ok (.bipush 59, 2) := by decide +kernel
theorem d_M_dayStep_282 : decode b_M_dayStep 282 = .ok (.invokevirtual 270, 3) := by decide +kernel
theorem d_M_dayStep_285 : decode b_M_dayStep 285 = .ok (.ireturn, 1) := by decide +kernel
theorem d_M_dayOrder_0 : decode b_M_dayOrder 0 = .ok (.iload_n 1, 1) := by decide +kernel
theorem d_M_dayOrder_1 : decode b_M_dayOrder 1 = .ok (.tableswitch 110 10 18 #[51, 59, 59, 110, 67, 110, 110, 104, 93], 51) := by decide +kernel
theorem d_M_dayOrder_52 : decode b_M_dayOrder 52 = .ok (.aload_n 0, 1) := by decide +kernel
theorem d_M_dayOrder_53 : decode b_M_dayOrder 53 = .ok (.iload_n 2, 1) := by decide +kernel
theorem d_M_dayOrder_54 : decode b_M_dayOrder 54 = .ok (.iconst 1, 1) := by decide +kernel
theorem d_M_dayOrder_55 : decode b_M_dayOrder 55 = .ok (.iadd, 1) := by decide +kernel
theorem d_M_dayOrder_56 : decode b_M_dayOrder 56 = .ok (.invokevirtual 285, 3) := by decide +kernel
theorem d_M_dayOrder_59 : decode b_M_dayOrder 59 = .ok (.ireturn, 1) := by decide +kernel
theorem d_M_dayOrder_60 : decode b_M_dayOrder 60 = .ok (.aload_n 0, 1) := by decide +kernel
theorem d_M_dayOrder_61 : decode b_M_dayOrder 61 = .ok (.iload_n 2, 1) := by decide +kernel
theorem d_M_dayOrder_62 : decode b_M_dayOrder 62 = .ok (.iconst 1, 1) := by decide +kernel
theorem d_M_dayOrder_63 : decode b_M_dayOrder 63 = .ok (.iadd, 1) := by decide +kernel
theorem d_M_dayOrder_64 : decode b_M_dayOrder 64 = .ok (.invokevirtual 288, 3) := by decide +kernel
theorem d_M_dayOrder_67 : decode b_M_dayOrder 67 = .ok (.ireturn, 1) := by decide +kernel
theorem d_M_dayOrder_68 : decode b_M_dayOrder 68 = .ok (.aload_n 0, 1) := by decide +kernel
theorem d_M_dayOrder_69 : decode b_M_dayOrder 69 = .ok (.iload_n 2, 1) := by decide +kernel
theorem d_M_dayOrder_70 : decode b_M_dayOrder 70 = .ok (.iconst 1, 1) := by decide +kernel
theorem d_M_dayOrder_71 : decode b_M_dayOrder 71 = .ok (.iadd, 1) := by decide +kernel
theorem d_M_dayOrder_72 : decode b_M_dayOrder 72 = .ok (.invokevirtual 282, 3) := by decide +kernel
theorem d_M_dayOrder_75 : decode b_M_dayOrder 75 = .ok (.ifCond .eq 17, 3) := by decide +kernel
theorem d_M_dayOrder_78 : decode b_M_dayOrder 78 = .ok (.aload_n 0, 1) := by decide +kernel
theorem d_M_dayOrder_79 : decode b_M_dayOrder 79 = .ok (.iload_n 2, 1) := by decide +kernel
theorem d_M_dayOrder_80 : decode b_M_dayOrder 80 = .ok (.iconst 2, 1) := by decide +kernel
theorem d_M_dayOrder_81 : decode b_M_dayOrder 81 = .ok (.iadd, 1) := by decide +kernel
theorem d_M_dayOrder_82 : decode b_M_dayOrder 82 = .ok (.invokevirtual 288, 3) := by decide +kernel
theorem d_M_dayOrder_85 : decode b_M_dayOrder 85 = .ok (.ifCond .eq 7, 3) := by decide +kernel
theorem d_M_dayOrder_88 : decode b_M_dayOrder 88 = .ok (.iconst 1, 1) := by decide +kernel
theorem d_M_dayOrder_89 : decode b_M_dayOrder 89 = .ok (.goto 4, 3) := by decide +kernel
theorem d_M_dayOrder_92 : decode b_M_dayOrder 92 = .ok (.iconst 0, 1) := by decide +kernel
theorem d_M_dayOrder_93 : decode b_M_dayOrder 93 = .ok (.ireturn, 1) := by decide +kernel
theorem d_M_dayOrder_94 : decode b_M_dayOrder 94 = .ok (.aload_n 0, 1) := by decide +kernel
theorem d_M_dayOrder_95 : decode b_M_dayOrder 95 = .ok (.iload_n 2, 1) := by decide +kernel
theorem d_M_dayOrder_96 : decode b_M_dayOrder 96 = .ok (.iconst 1, 1) := by decide +kernel
theorem d_M_dayOrder_97 : decode b_M_dayOrder 97 = .ok (.iadd, 1) := by decide +kernel
theorem d_M_dayOrder_98 : decode b_M_dayOrder 98 = .ok (.iconst 1, 1) := by decide +kernel
theorem d_M_dayOrder_99 : decode b_M_dayOrder 99 = .ok (.bipush 99, 2) := by decide +kernel
theorem d_M_dayOrder_101 : decode b_M_dayOrder 101 = .ok (.invokevirtual 219, 3) := by decide +kernel
theorem d_M_dayOrder_104 : decode b_M_dayOrder 104 = .ok (.ireturn, 1) := by decide +kernel
theorem d_M_dayOrder_105 : decode b_M_dayOrder 105 = .ok (.aload_n 0, 1) := by decide +kernel
theorem d_M_dayOrder_106 : decode b_M_dayOrder 106 = .ok (.iload_n 2, 1) := by decide +kernel
theorem d_M_dayOrder_107 : decode b_M_dayOrder 107 = .ok (.invokevirtual 291, 3) := by decide +kernel
theorem d_M_dayOrder_110 : decode b_M_dayOrder 110 = .ok (.ireturn, 1) := by decide +kernel
theorem d_M_dayOrder_111 : decode b_M_dayOrder 111 = .ok (.iconst 1, 1) := by decide +kernel
theorem d_M_dayOrder_112 : decode b_M_dayOrder 112 = .ok (.ireturn, 1) := by decide +kernel
theorem d_M_tuneTo_0 : decode b_M_tuneTo 0 = .ok (.aload_n 0, 1) := by decide +kernel
theorem d_M_tuneTo_1 : decode b_M_tuneTo 1 = .ok (.ldc 214, 2) := by decide +kernel
theorem d_M_tuneTo_3 : decode b_M_tuneTo 3 = .ok (.invokevirtual 234, 3) := by decide +kernel
theorem d_M_tuneTo_6 : decode b_M_tuneTo 6 = .ok (.ifCond .ne 9, 3) := by decide +kernel
theorem d_M_tuneTo_9 : decode b_M_tuneTo 9 = .ok (.aload_n 0, 1) := by decide +kernel
theorem d_M_tuneTo_10 : decode b_M_tuneTo 10 = .ok (.iconst 2, 1) := by decide +kernel
theorem d_M_tuneTo_11 : decode b_M_tuneTo 11 = .ok (.invokevirtual 203, 3) := by decide +kernel
theorem d_M_tuneTo_14 : decode b_M_tuneTo 14 = .ok (.ireturn, 1) := by decide +kernel
theorem d_M_tuneTo_15 : decode b_M_tuneTo 15 = .ok (.aload_n 0, 1) := by decide +kernel
theorem d_M_tuneTo_16 : decode b_M_tuneTo 16 = .ok (.getfield 7, 3) := by decide +kernel
theorem d_M_tuneTo_19 : decode b_M_tuneTo 19 = .ok (.iload_n 1, 1) := by decide +kernel
theorem d_M_tuneTo_20 : decode b_M_tuneTo 20 = .ok (.aload_n 0, 1) := by decide +kernel
theorem d_M_tuneTo_21 : decode b_M_tuneTo 21 = .ok (.iconst 0, 1) := by decide +kernel
theorem d_M_tuneTo_22 : decode b_M_tuneTo 22 = .ok (.aload_n 0, 1) := by decide +kernel
theorem d_M_tuneTo_23 : decode b_M_tuneTo 23 = .ok (.getfield 7, 3) := by decide +kernel
theorem d_M_tuneTo_26 : decode b_M_tuneTo 26 = .ok (.iconst 2, 1) := by decide +kernel
theorem d_M_tuneTo_27 : decode b_M_tuneTo 27 = .ok (.iaload, 1) := by decide +kernel
theorem d_M_tuneTo_28 : decode b_M_tuneTo 28 = .ok (.invokevirtual 238, 3) := by decide +kernel
theorem d_M_tuneTo_31 : decode b_M_tuneTo 31 = .ok (.iastore, 1) := by decide +kernel
theorem d_M_tuneTo_32 : decode b_M_tuneTo 32 = .ok (.aload_n 0, 1) := by decide +kernel
theorem d_M_tuneTo_33 : decode b_M_tuneTo 33 = .ok (.getfield 7, 3) := by decide +kernel
theorem d_M_tuneTo_36 : decode b_M_tuneTo 36 = .ok (.iload_n 1, 1) := by decide +kernel
theorem d_M_tuneTo_37 : decode b_M_tuneTo 37 = .ok (.iaload, 1) := by decide +kernel
theorem d_M_tuneTo_38 : decode b_M_tuneTo 38 = .ok (.iconst (-1), 1) := by decide +kernel
theorem d_M_tuneTo_39 : decode b_M_tuneTo 39 = .ok (.if_icmp .ne 9, 3) := by decide +kernel
theorem d_M_tuneTo_42 : decode b_M_tuneTo 42 = .ok (.aload_n 0, 1) := by decide +kernel
theorem d_M_tuneTo_43 : decode b_M_tuneTo 43 = .ok (.iconst 3, 1) := by decide +kernel
theorem d_M_tuneTo_44 : decode b_M_tuneTo 44 = .ok (.invokevirtual 203, 3) := by decide +kernel
theorem d_M_tuneTo_47 : decode b_M_tuneTo 47 = .ok (.ireturn, 1) := by decide +kernel
theorem d_M_tuneTo_48 : decode b_M_tuneTo 48 = .ok (.aload_n 0, 1) := by decide +kernel
theorem d_M_tuneTo_49 : decode b_M_tuneTo 49 = .ok (.invokevirtual 197, 3) := by decide +kernel
theorem d_M_tuneTo_52 : decode b_M_tuneTo 52 = .ok (.iconst 1, 1) := by decide +kernel
theorem d_M_tuneTo_53 : decode b_M_tuneTo 53 = .ok (.ireturn, 1) := by decide +kernel
theorem d_M_cellTo_0 : decode b_M_cellTo 0 = .ok (.aload_n 0, 1) := by decide +kernel
theorem d_M_cellTo_1 : decode b_M_cellTo 1 = .ok (.iload_n 1, 1) := by decide +kernel
theorem d_M_cellTo_2 : decode b_M_cellTo 2 = .ok (.iconst 0, 1) := by decide +kernel
theorem d_M_cellTo_3 : decode b_M_cellTo 3 = .ok (.aload_n 0, 1) := by decide +kernel
theorem d_M_cellTo_4 : decode b_M_cellTo 4 = .ok (.iconst 0, 1) := by decide +kernel
theorem d_M_cellTo_5 : decode b_M_cellTo 5 = .ok (.invokevirtual 223, 3) := by decide +kernel
theorem d_M_cellTo_8 : decode b_M_cellTo 8 = .ok (.iconst 1, 1) := by decide +kernel
theorem d_M_cellTo_9 : decode b_M_cellTo 9 = .ok (.isub, 1) := by decide +kernel
theorem d_M_cellTo_10 : decode b_M_cellTo 10 = .ok (.invokevirtual 219, 3) := by decide +kernel
theorem d_M_cellTo_13 : decode b_M_cellTo 13 = .ok (.ireturn, 1) := by decide +kernel
theorem d_M_hearerTo_0 : decode b_M_hearerTo 0 = .ok (.aload_n 0, 1) := by decide +kernel
theorem d_M_hearerTo_1 : decode b_M_hearerTo 1 = .ok (.iload_n 1, 1) := by decide +kernel
theorem d_M_hearerTo_2 : decode b_M_hearerTo 2 = .ok (.iconst 0, 1) := by decide +kernel
theorem d_M_hearerTo_3 : decode b_M_hearerTo 3 = .ok (.aload_n 0, 1) := by decide +kernel
theorem d_M_hearerTo_4 : decode b_M_hearerTo 4 = .ok (.getfield 7, 3) := by decide +kernel
theorem d_M_hearerTo_7 : decode b_M_hearerTo 7 = .ok (.iconst 3, 1) := by decide +kernel
theorem d_M_hearerTo_8 : decode b_M_hearerTo 8 = .ok (.iaload, 1) := by decide +kernel
theorem d_M_hearerTo_9 : decode b_M_hearerTo 9 = .ok (.iconst 1, 1) := by decide +kernel
theorem d_M_hearerTo_10 : decode b_M_hearerTo 10 = .ok (.isub, 1) := by decide +kernel
theorem d_M_hearerTo_11 : decode b_M_hearerTo 11 = .ok (.invokevirtual 219, 3) := by decide +kernel
theorem d_M_hearerTo_14 : decode b_M_hearerTo 14 = .ok (.ireturn, 1) := by decide +kernel
theorem d_M_test_0 : decode b_M_test 0 = .ok (.aload_n 0, 1) := by decide +kernel
theorem d_M_test_1 : decode b_M_test 1 = .ok (.ldc 214, 2) := by decide +kernel
theorem d_M_test_3 : decode b_M_test 3 = .ok (.invokevirtual 206, 3) := by decide +kernel
theorem d_M_test_6 : decode b_M_test 6 = .ok (.istore_n 2, 1) := by decide +kernel
theorem d_M_test_7 : decode b_M_test 7 = .ok (.iload_n 2, 1) := by decide +kernel
theorem d_M_test_8 : decode b_M_test 8 = .ok (.bipush 21, 2) := by decide +kernel
theorem d_M_test_10 : decode b_M_test 10 = .ok (.if_icmp .ge 9, 3) := by decide +kernel
theorem d_M_test_13 : decode b_M_test 13 = .ok (.aload_n 0, 1) := by decide +kernel
theorem d_M_test_14 : decode b_M_test 14 = .ok (.iconst 2, 1) := by decide +kernel
theorem d_M_test_15 : decode b_M_test 15 = .ok (.invokevirtual 203, 3) := by decide +kernel
theorem d_M_test_18 : decode b_M_test 18 = .ok (.ireturn, 1) := by decide +kernel
theorem d_M_test_19 : decode b_M_test 19 = .ok (.aload_n 0, 1) := by decide +kernel
theorem d_M_test_20 : decode b_M_test 20 = .ok (.getfield 7, 3) := by decide +kernel
theorem d_M_test_23 : decode b_M_test 23 = .ok (.iload_n 1, 1) := by decide +kernel
theorem d_M_test_24 : decode b_M_test 24 = .ok (.sipush 1700, 3) := by decide +kernel
theorem d_M_test_27 : decode b_M_test 27 = .ok (.iload_n 2, 1) := by decide +kernel
theorem d_M_test_28 : decode b_M_test 28 = .ok (.iadd, 1) := by decide +kernel
theorem d_M_test_29 : decode b_M_test 29 = .ok (.iastore, 1) := by decide +kernel
theorem d_M_test_30 : decode b_M_test 30 = .ok (.aload_n 0, 1) := by decide +kernel
theorem d_M_test_31 : decode b_M_test 31 = .ok (.invokevirtual 197, 3) := by decide +kernel
theorem d_M_test_34 : decode b_M_test 34 = .ok (.iload_n 2, 1) := by decide +kernel
theorem d_M_test_35 : decode b_M_test 35 = .ok (.bipush 21, 2) := by decide +kernel
theorem d_M_test_37 : decode b_M_test 37 = .ok (.if_icmp .ne 20, 3) := by decide +kernel
theorem d_M_test_40 : decode b_M_test 40 = .ok (.aload_n 0, 1) := by decide +kernel
theorem d_M_test_41 : decode b_M_test 41 = .ok (.iload_n 1, 1) := by decide +kernel
theorem d_M_test_42 : decode b_M_test 42 = .ok (.iconst 1, 1) := by decide +kernel
theorem d_M_test_43 : decode b_M_test 43 = .ok (.iadd, 1) := by decide +kernel
theorem d_M_test_44 : decode b_M_test 44 = .ok (.iconst 0, 1) := by decide +kernel
theorem d_M_test_45 : decode b_M_test 45 = .ok (.aload_n 0, 1) := by decide +kernel
theorem d_M_test_46 : decode b_M_test 46 = .ok (.getfield 7, 3) := by decide +kernel
theorem d_M_test_49 : decode b_M_test 49 = .ok (.iconst 4, 1) := by decide +kernel
theorem d_M_test_50 : decode b_M_test 50 = .ok (.iaload, 1) := by decide +kernel
theorem d_M_test_51 : decode b_M_test 51 = .ok (.iconst 1, 1) := by decide +kernel
theorem d_M_test_52 : decode b_M_test 52 = .ok (.isub, 1) := by decide +kernel
theorem d_M_test_53 : decode b_M_test 53 = .ok (.invokevirtual 219, 3) := by decide +kernel
theorem d_M_test_56 : decode b_M_test 56 = .ok (.ireturn, 1) := by decide +kernel
theorem d_M_test_57 : decode b_M_test 57 = .ok (.iload_n 2, 1) := by decide +kernel
theorem d_M_test_58 : decode b_M_test 58 = .ok (.bipush 23, 2) := by decide +kernel
theorem d_M_test_60 : decode b_M_test 60 = .ok (.if_icmp .eq 15, 3) := by decide +kernel
theorem d_M_test_63 : decode b_M_test 63 = .ok (.aload_n 0, 1) := by decide +kernel
theorem d_M_test_64 : decode b_M_test 64 = .ok (.iload_n 1, 1) := by decide +kernel
theorem d_M_test_65 : decode b_M_test 65 = .ok (.iconst 1, 1) := by decide +kernel
theorem d_M_test_66 : decode b_M_test 66 = .ok (.iadd, 1) := by decide +kernel
theorem d_M_test_67 : decode b_M_test 67 = .ok (.invokevirtual 282, 3) := by decide +kernel
theorem d_M_test_70 : decode b_M_test 70 = .ok (.ifCond .ne 5, 3) := by decide +kernel
theorem d_M_test_73 : decode b_M_test 73 = .ok (.iconst 0, 1) := by decide +kernel
theorem d_M_test_74 : decode b_M_test 74 = .ok (.ireturn, 1) := by decide +kernel
theorem d_M_test_75 : decode b_M_test 75 = .ok (.iload_n 2, 1) := by decide +kernel
theorem d_M_test_76 : decode b_M_test 76 = .ok (.bipush 22, 2) := by decide +kernel
theorem d_M_test_78 : decode b_M_test 78 = .ok (.if_icmp .ne 5, 3) := by decide +kernel
theorem d_M_test_81 : decode b_M_test 81 = .ok (.iconst 1, 1) := by decide +kernel
theorem d_M_test_82 : decode b_M_test 82 = .ok (.ireturn, 1) := by decide +kernel
theorem d_M_test_83 : decode b_M_test 83 = .ok (.aload_n 0, 1) := by decide +kernel
theorem d_M_test_84 : decode b_M_test 84 = .ok (.bipush 60, 2) := by decide +kernel
theorem d_M_test_86 : decode b_M_test 86 = .ok (.invokevirtual 200, 3) := by decide +kernel
theorem d_M_test_89 : decode b_M_test 89 = .ok (.ifCond .ne 27, 3) := by decide +kernel
theorem d_M_test_92 : decode b_M_test 92 = .ok (.aload_n 0, 1) := by decide +kernel
theorem d_M_test_93 : decode b_M_test 93 = .ok (.bipush 62, 2) := by decide +kernel
theorem d_M_test_95 : decode b_M_test 95 = .ok (.invokevirtual 200, 3) := by decide +kernel
theorem d_M_test_98 : decode b_M_test 98 = .ok (.ifCond .ne 18, 3) := by decide +kernel
theorem d_M_test_101 : decode b_M_test 101 = .ok (.aload_n 0, 1) := by decide +kernel
theorem d_M_test_102 : decode b_M_test 102 = .ok (.bipush 61, 2) := by decide +kernel
theorem d_M_test_104 : decode b_M_test 104 = .ok (.invokevirtual 200, 3) := by decide +kernel
theorem d_M_test_107 : decode b_M_test 107 = .ok (.ifCond .ne 9, 3) := by decide +kernel
theorem d_M_test_110 : decode b_M_test 110 = .ok (.aload_n 0, 1) := by decide +kernel
theorem d_M_test_111 : decode b_M_test 111 = .ok (.iconst 2, 1) := by decide +kernel
theorem d_M_test_112 : decode b_M_test 112 = .ok (.invokevirtual 203, 3) := by decide +kernel
theorem d_M_test_115 : decode b_M_test 115 = .ok (.ireturn, 1) := by decide +kernel
theorem d_M_test_116 : decode b_M_test 116 = .ok (.aload_n 0, 1) := by decide +kernel
theorem d_M_test_117 : decode b_M_test 117 = .ok (.getfield 7, 3) := by decide +kernel
theorem d_M_test_120 : decode b_M_test 120 = .ok (.iload_n 1, 1) := by decide +kernel
theorem d_M_test_121 : decode b_M_test 121 = .ok (.iconst 5, 1) := by decide +kernel
theorem d_M_test_122 : decode b_M_test 122 = .ok (.iadd, 1) := by decide +kernel
theorem d_M_test_123 : decode b_M_test 123 = .ok (.aload_n 0, 1) := by decide +kernel
theorem d_M_test_124 : decode b_M_test 124 = .ok (.getfield 163, 3) := by decide +kernel
theorem d_M_test_127 : decode b_M_test 127 = .ok (.iastore, 1) := by decide +kernel
theorem d_M_test_128 : decode b_M_test 128 = .ok (.aload_n 0, 1) := by decide +kernel
theorem d_M_test_129 : decode b_M_test 129 = .ok (.invokevirtual 197, 3) := by decide +kernel
theorem d_M_test_132 : decode b_M_test 132 = .ok (.aload_n 0, 1) := by decide +kernel
theorem d_M_test_133 : decode b_M_test 133 = .ok (.iload_n 1, 1) := by decide +kernel
theorem d_M_test_134 : decode b_M_test 134 = .ok (.iconst 2, 1) := by decide +kernel
theorem d_M_test_135 : decode b_M_test 135 = .ok (.iadd, 1) := by decide +kernel
theorem d_M_test_136 : decode b_M_test 136 = .ok (.iconst 0, 1) := by decide +kernel
theorem d_M_test_137 : decode b_M_test 137 = .ok (.iload_n 2, 1) := by decide +kernel
theorem d_M_test_138 : decode b_M_test 138 = .ok (.bipush 23, 2) := by decide +kernel
theorem d_M_test_140 : decode b_M_test 140 = .ok (.if_icmp .ne 9, 3) := by decide +kernel
theorem d_M_test_143 : decode b_M_test 143 = .ok (.sipush 9999, 3) := by decide +kernel
theorem d_M_test_146 : decode b_M_test 146 = .ok (.goto 5, 3) := by decide +kernel
theorem d_M_test_149 : decode b_M_test 149 = .ok (.bipush 8, 2) := by decide +kernel
theorem d_M_test_151 : decode b_M_test 151 = .ok (.invokevirtual 219, 3) := by decide +kernel
theorem d_M_test_154 : decode b_M_test 154 = .ok (.ireturn, 1) := by decide +kernel
theorem d_M_told_0 : decode b_M_told 0 = .ok (.iload_n 1, 1) := by decide +kernel
theorem d_M_told_1 : decode b_M_told 1 = .ok (.tableswitch 101 0 10 #[59, 59, 59, 59, 59, 59, 59, 70, 70, 83, 92], 59) := by decide +kernel
theorem d_M_told_60 : decode b_M_told 60 = .ok (.aload_n 0, 1) := by decide +kernel
theorem d_M_told_61 : decode b_M_told 61 = .ok (.aload_n 0, 1) := by decide +kernel
theorem d_M_told_62 : decode b_M_told 62 = .ok (.getfield 7, 3) := by decide +kernel
theorem d_M_told_65 : decode b_M_told 65 = .ok (.iload_n 1, 1) := by decide +kernel
theorem d_M_told_66 : decode b_M_told 66 = .ok (.iaload, 1) := by decide +kernel
theorem d_M_told_67 : decode b_M_told 67 = .ok (.invokevirtual 125, 3) := by decide +kernel
theorem d_M_told_70 : decode b_M_told 70 = .ok (.ireturn, 1) := by decide +kernel
theorem d_M_told_71 : decode b_M_told 71 = .ok (.aload_n 0, 1) := by decide +kernel
theorem d_M_told_72 : decode b_M_told 72 = .ok (.aload_n 0, 1) := by decide +kernel
theorem d_M_told_73 : decode b_M_told 73 = .ok (.getfield 7, 3) := by decide +kernel
theorem d_M_told_76 : decode b_M_told 76 = .ok (.iload_n 1, 1) := by decide +kernel
theorem d_M_told_77 : decode b_M_told 77 = .ok (.iconst 1, 1) := by decide +kernel
theorem d_M_told_78 : decode b_M_told 78 = .ok (.iadd, 1) := by decide +kernel
theorem d_M_told_79 : decode b_M_told 79 = .ok (.iaload, 1) := by decide +kernel
theorem d_M_told_80 : decode b_M_told 80 = .ok (.invokevirtual 125, 3) := by decide +kernel
theorem d_M_told_83 : decode b_M_told 83 = .ok (.ireturn, 1) := by decide +kernel
theorem d_M_told_84 : decode b_M_told 84 = .ok (.aload_n 0, 1) := by decide +kernel
theorem d_M_told_85 : decode b_M_told 85 = .ok (.aload_n 0, 1) := by decide +kernel
theorem d_M_told_86 : decode b_M_told 86 = .ok (.invokevirtual 322, 3) := by decide +kernel
theorem d_M_told_89 : decode b_M_told 89 = .ok (.invokevirtual 125, 3) := by decide +kernel
theorem d_M_told_92 : decode b_M_told 92 = .ok (.ireturn, 1) := by decide +kernel
theorem d_M_told_93 : decode b_M_told 93 = .ok (.aload_n 0, 1) := by decide +kernel
theorem d_M_told_94 : decode b_M_told 94 = .ok (.aload_n 0, 1) := by decide +kernel
theorem d_M_told_95 : decode b_M_told 95 = .ok (.invokevirtual 325, 3) := by decide +kernel
theorem d_M_told_98 : decode b_M_told 98 = .ok (.invokevirtual 125, 3) := by decide +kernel
theorem d_M_told_101 : decode b_M_told 101 = .ok (.ireturn, 1) := by decide +kernel
theorem d_M_told_102 : decode b_M_told 102 = .ok (.aload_n 0, 1) := by decide +kernel
theorem d_M_told_103 : decode b_M_told 103 = .ok (.iconst 1, 1) := by decide +kernel
theorem d_M_told_104 : decode b_M_told 104 = .ok (.invokevirtual 121, 3) := by decide +kernel
theorem d_M_told_107 : decode b_M_told 107 = .ok (.ireturn, 1) := by decide +kernel
theorem d_M_areSeen_0 : decode b_M_areSeen 0 = .ok (.iconst 0, 1) := by decide +kernel
theorem d_M_areSeen_1 : decode b_M_areSeen 1 = .ok (.istore_n 1, 1) := by decide +kernel
theorem d_M_areSeen_2 : decode b_M_areSeen 2 = .ok (.iconst 0, 1) := by decide +kernel
theorem d_M_areSeen_3 : decode b_M_areSeen 3 = .ok (.istore_n 2, 1) := by decide +kernel
theorem d_M_areSeen_4 : decode b_M_areSeen 4 = .ok (.iload_n 2, 1) := by decide +kernel
theorem d_M_areSeen_5 : decode b_M_areSeen 5 = .ok (.aload_n 0, 1) := by decide +kernel
theorem d_M_areSeen_6 : decode b_M_areSeen 6 = .ok (.getfield 7, 3) := by decide +kernel
theorem d_M_areSeen_9 : decode b_M_areSeen 9 = .ok (.iconst 3, 1) := by decide +kernel
theorem d_M_areSeen_10 : decode b_M_areSeen 10 = .ok (.iaload, 1) := by decide +kernel
theorem d_M_areSeen_11 : decode b_M_areSeen 11 = .ok (.if_icmp .ge 20, 3) := by decide +kernel
theorem d_M_areSeen_14 : decode b_M_areSeen 14 = .ok (.iload_n 1, 1) := by decide +kernel
theorem d_M_areSeen_15 : decode b_M_areSeen 15 = .ok (.aload_n 0, 1) := by decide +kernel
theorem d_M_areSeen_16 : decode b_M_areSeen 16 = .ok (.iload_n 2, 1) := by decide +kernel
theorem d_M_areSeen_17 : decode b_M_areSeen 17 = .ok (.iconst 3, 1) := by decide +kernel
theorem d_M_areSeen_18 : decode b_M_areSeen 18 = .ok (.invokevirtual 313, 3) := by decide +kernel
theorem d_M_areSeen_21 : decode b_M_areSeen 21 = .ok (.iload_n 2, 1) := by decide +kernel
theorem d_M_areSeen_22 : decode b_M_areSeen 22 = .ok (.ishl, 1) := by decide +kernel
theorem d_M_areSeen_23 : decode b_M_areSeen 23 = .ok (.ior, 1) := by decide +kernel
theorem d_M_areSeen_24 : decode b_M_areSeen 24 = .ok (.istore_n 1, 1) := by decide +kernel
theorem d_M_areSeen_25 : decode b_M_areSeen 25 = .ok (.iinc 2 1, 3) := by decide +kernel
theorem d_M_areSeen_28 : decode b_M_areSeen 28 = .ok (.goto (-24), 3) := by decide +kernel
theorem d_M_areSeen_31 : decode b_M_areSeen 31 = .ok (.iload_n 1, 1) := by decide +kernel
theorem d_M_areSeen_32 : decode b_M_areSeen 32 = .ok (.ireturn, 1) := by decide +kernel
theorem d_M_hearerOf_0 : decode b_M_hearerOf 0 = .ok (.aload_n 0, 1) := by decide +kernel
theorem d_M_hearerOf_1 : decode b_M_hearerOf 1 = .ok (.getfield 7, 3) := by decide +kernel
theorem d_M_hearerOf_4 : decode b_M_hearerOf 4 = .ok (.iload_n 1, 1) := by decide +kernel
theorem d_M_hearerOf_5 : decode b_M_hearerOf 5 = .ok (.invokestatic 241, 3) := by decide +kernel
theorem d_M_hearerOf_8 : decode b_M_hearerOf 8 = .ok (.iload_n 2, 1) := by decide +kernel
theorem d_M_hearerOf_9 : decode b_M_hearerOf 9 = .ok (.iadd, 1) := by decide +kernel
theorem d_M_hearerOf_10 : decode b_M_hearerOf 10 = .ok (.iaload, 1) := by decide +kernel
theorem d_M_hearerOf_11 : decode b_M_hearerOf 11 = .ok (.ireturn, 1) := by decide +kernel
theorem d_M_dogsUp_0 : decode b_M_dogsUp 0 = .ok (.iconst 0, 1) := by decide +kernel
theorem d_M_dogsUp_1 : decode b_M_dogsUp 1 = .ok (.istore_n 1, 1) := by decide +kernel
theorem d_M_dogsUp_2 : decode b_M_dogsUp 2 = .ok (.iconst 0, 1) := by decide +kernel
theorem d_M_dogsUp_3 : decode b_M_dogsUp 3 = .ok (.istore_n 2, 1) := by decide +kernel
theorem d_M_dogsUp_4 : decode b_M_dogsUp 4 = .ok (.iload_n 2, 1) := by decide +kernel
theorem d_M_dogsUp_5 : decode b_M_dogsUp 5 = .ok (.aload_n 0, 1) := by decide +kernel
theorem d_M_dogsUp_6 : decode b_M_dogsUp 6 = .ok (.getfield 7, 3) := by decide +kernel
theorem d_M_dogsUp_9 : decode b_M_dogsUp 9 = .ok (.iconst 3, 1) := by decide +kernel
theorem d_M_dogsUp_10 : decode b_M_dogsUp 10 = .ok (.iaload, 1) := by decide +kernel
theorem d_M_dogsUp_11 : decode b_M_dogsUp 11 = .ok (.if_icmp .ge 22, 3) := by decide +kernel
theorem d_M_dogsUp_14 : decode b_M_dogsUp 14 = .ok (.iload_n 1, 1) := by decide +kernel
theorem d_M_dogsUp_15 : decode b_M_dogsUp 15 = .ok (.aload_n 0, 1) := by decide +kernel
theorem d_M_dogsUp_16 : decode b_M_dogsUp 16 = .ok (.aload_n 0, 1) := by decide +kernel
theorem d_M_dogsUp_17 : decode b_M_dogsUp 17 = .ok (.iload_n 2, 1) := by decide +kernel
theorem d_M_dogsUp_18 : decode b_M_dogsUp 18 = .ok (.iconst 0, 1) := by decide +kernel
theorem d_M_dogsUp_19 : decode b_M_dogsUp 19 = .ok (.invokevirtual 313, 3) := by decide +kernel
theorem d_M_dogsUp_22 : decode b_M_dogsUp 22 = .ok (.invokevirtual 319, 3) := by decide +kernel
theorem d_M_dogsUp_25 : decode b_M_dogsUp 25 = .ok (.ior, 1) := by decide +kernel
theorem d_M_dogsUp_26 : decode b_M_dogsUp 26 = .ok (.istore_n 1, 1) := by decide +kernel
theorem d_M_dogsUp_27 : decode b_M_dogsUp 27 = .ok (.iinc 2 1, 3) := by decide +kernel
theorem d_M_dogsUp_30 : decode b_M_dogsUp 30 = .ok (.goto (-26), 3) := by decide +kernel
theorem d_M_dogsUp_33 : decode b_M_dogsUp 33 = .ok (.iload_n 1, 1) := by decide +kernel
theorem d_M_dogsUp_34 : decode b_M_dogsUp 34 = .ok (.ireturn, 1) := by decide +kernel
theorem d_M_dogsBy_0 : decode b_M_dogsBy 0 = .ok (.iconst 0, 1) := by decide +kernel
theorem d_M_dogsBy_1 : decode b_M_dogsBy 1 = .ok (.istore_n 2, 1) := by decide +kernel
theorem d_M_dogsBy_2 : decode b_M_dogsBy 2 = .ok (.iconst 0, 1) := by decide +kernel
theorem d_M_dogsBy_3 : decode b_M_dogsBy 3 = .ok (.istore_n 3, 1) := by decide +kernel
theorem d_M_dogsBy_4 : decode b_M_dogsBy 4 = .ok (.iload_n 3, 1) := by decide +kernel
theorem d_M_dogsBy_5 : decode b_M_dogsBy 5 = .ok (.aload_n 0, 1) := by decide +kernel
theorem d_M_dogsBy_6 : decode b_M_dogsBy 6 = .ok (.getfield 7, 3) := by decide +kernel
theorem d_M_dogsBy_9 : decode b_M_dogsBy 9 = .ok (.iconst 4, 1) := by decide +kernel
theorem d_M_dogsBy_10 : decode b_M_dogsBy 10 = .ok (.iaload, 1) := by decide +kernel
theorem d_M_dogsBy_11 : decode b_M_dogsBy 11 = .ok (.if_icmp .ge 37, 3) := by decide +kernel
theorem d_M_dogsBy_14 : decode b_M_dogsBy 14 = .ok (.iload_n 2, 1) := by decide +kernel
theorem d_M_dogsBy_15 : decode b_M_dogsBy 15 = .ok (.aload_n 0, 1) := by decide +kernel
theorem d_M_dogsBy_16 : decode b_M_dogsBy 16 = .ok (.aload_n 0, 1) := by decide +kernel
theorem d_M_dogsBy_17 : decode b_M_dogsBy 17 = .ok (.getfield 7, 3) := by decide +kernel
theorem d_M_dogsBy_20 : decode b_M_dogsBy 20 = .ok (.bipush 34, 2) := by decide +kernel
theorem d_M_dogsBy_22 : decode b_M_dogsBy 22 = .ok (.iload_n 3, 1) := by decide +kernel
theorem d_M_dogsBy_23 : decode b_M_dogsBy 23 = .ok (.iadd, 1) := by decide +kernel
theorem d_M_dogsBy_24 : decode b_M_dogsBy 24 = .ok (.iaload, 1) := by decide +kernel
theorem d_M_dogsBy_25 : decode b_M_dogsBy 25 = .ok (.iload_n 1, 1) := by decide +kernel
theorem d_M_dogsBy_26 : decode b_M_dogsBy 26 = .ok (.invokevirtual 316, 3) := by decide +kernel
theorem d_M_dogsBy_29 : decode b_M_dogsBy 29 = .ok (.iconst 2, 1) := by decide +kernel
theorem d_M_dogsBy_30 : decode b_M_dogsBy 30 = .ok (.if_icmp .ge 9, 3) := by decide +kernel
theorem d_M_dogsBy_33 : decode b_M_dogsBy 33 = .ok (.iconst 1, 1) := by decide +kernel
theorem d_M_dogsBy_34 : decode b_M_dogsBy 34 = .ok (.iload_n 3, 1) := by decide +kernel
theorem d_M_dogsBy_35 : decode b_M_dogsBy 35 = .ok (.ishl, 1) := by decide +kernel
theorem d_M_dogsBy_36 : decode b_M_dogsBy 36 = .ok (.goto 4, 3) := by decide +kernel
theorem d_M_dogsBy_39 : decode b_M_dogsBy 39 = .ok (.iconst 0, 1) := by decide +kernel
theorem d_M_dogsBy_40 : decode b_M_dogsBy 40 = .ok (.ior, 1) := by decide +kernel
theorem d_M_dogsBy_41 : decode b_M_dogsBy 41 = .ok (.istore_n 2, 1) := by decide +kernel
theorem d_M_dogsBy_42 : decode b_M_dogsBy 42 = .ok (.iinc 3 1, 3) := by decide +kernel
theorem d_M_dogsBy_45 : decode b_M_dogsBy 45 = .ok (.goto (-41), 3) := by decide +kernel
theorem d_M_dogsBy_48 : decode b_M_dogsBy 48 = .ok (.iload_n 2, 1) := by decide +kernel
theorem d_M_dogsBy_49 : decode b_M_dogsBy 49 = .ok (.ireturn, 1) := by decide +kernel
theorem d_M_farBetween_0 : decode b_M_farBetween 0 = .ok (.aload_n 0, 1) := by decide +kernel
theorem d_M_farBetween_1 : decode b_M_farBetween 1 = .ok (.getfield 7, 3) := by decide +kernel
theorem d_M_farBetween_4 : decode b_M_farBetween 4 = .ok (.iconst 0, 1) := by decide +kernel
theorem d_M_farBetween_5 : decode b_M_farBetween 5 = .ok (.iaload, 1) := by decide +kernel
theorem d_M_farBetween_6 : decode b_M_farBetween 6 = .ok (.istore_n 3, 1) := by decide +kernel
theorem d_M_farBetween_7 : decode b_M_farBetween 7 = .ok (.iload_n 1, 1) := by decide +kernel
theorem d_M_farBetween_8 : decode b_M_farBetween 8 = .ok (.iload_n 3, 1) := by decide +kernel
theorem d_M_farBetween_9 : decode b_M_farBetween 9 = .ok (.irem, 1) := by decide +kernel
theorem d_M_farBetween_10 : decode b_M_farBetween 10 = .ok (.iload_n 2, 1) := by decide +kernel
theorem d_M_farBetween_11 : decode b_M_farBetween 11 = .ok (.iload_n 3, 1) := by decide +kernel
theorem d_M_farBetween_12 : decode b_M_farBetween 12 = .ok (.irem, 1) := by decide +kernel
theorem d_M_farBetween_13 : decode b_M_farBetween 13 = .ok (.isub, 1) := by decide +kernel
theorem d_M_farBetween_14 : decode b_M_farBetween 14 = .ok (.istore 4, 2) := by decide +kernel
theorem d_M_farBetween_16 : decode b_M_farBetween 16 = .ok (.iload_n 1, 1) := by decide +kernel
theorem d_M_farBetween_17 : decode b_M_farBetween 17 = .ok (.iload_n 3, 1) := by decide +kernel
theorem d_M_farBetween_18 : decode b_M_farBetween 18 = .ok (.idiv, 1) := by decide +kernel
theorem d_M_farBetween_19 : decode b_M_farBetween 19 = .ok (.iload_n 2, 1) := by decide +kernel
theorem d_M_farBetween_20 : decode b_M_farBetween 20 = .ok (.iload_n 3, 1) := by decide +kernel
theorem d_M_farBetween_21 : decode b_M_farBetween 21 = .ok (.idiv, 1) := by decide +kernel
theorem d_M_farBetween_22 : decode b_M_farBetween 22 = .ok (.isub, 1) := by decide +kernel
theorem d_M_farBetween_23 : decode b_M_farBetween 23 = .ok (.istore 5, 2) := by decide +kernel
theorem d_M_farBetween_25 : decode b_M_farBetween 25 = .ok (.iload 4, 2) := by decide +kernel
theorem d_M_farBetween_27 : decode b_M_farBetween 27 = .ok (.iload 4, 2) := by decide +kernel
theorem d_M_farBetween_29 : decode b_M_farBetween 29 = .ok (.ineg, 1) := by decide +kernel
theorem d_M_farBetween_30 : decode b_M_farBetween 30 = .ok (.invokestatic 310, 3) := by decide +kernel
theorem d_M_farBetween_33 : decode b_M_farBetween 33 = .ok (.iload 5, 2) := by decide +kernel
theorem d_M_farBetween_35 : decode b_M_farBetween 35 = .ok (.iload 5, 2) := by decide +kernel
theorem d_M_farBetween_37 : decode b_M_farBetween 37 = .ok (.ineg, 1) := by decide +kernel
theorem d_M_farBetween_38 : decode b_M_farBetween 38 = .ok (.invokestatic 310, 3) := by decide +kernel
theorem d_M_farBetween_41 : decode b_M_farBetween 41 = .ok (.iadd, 1) := by decide +kernel
theorem d_M_farBetween_42 : decode b_M_farBetween 42 = .ok (.ireturn, 1) := by decide +kernel
theorem d_M_hearer_0 : decode b_M_hearer 0 = .ok (.aload_n 0, 1) := by decide +kernel
theorem d_M_hearer_1 : decode b_M_hearer 1 = .ok (.iload_n 1, 1) := by decide +kernel
theorem d_M_hearer_2 : decode b_M_hearer 2 = .ok (.invokevirtual 328, 3) := by decide +kernel
theorem d_M_hearer_5 : decode b_M_hearer 5 = .ok (.ifCond .ne 9, 3) := by decide +kernel
theorem d_M_hearer_8 : decode b_M_hearer 8 = .ok (.aload_n 0, 1) := by decide +kernel
theorem d_M_hearer_9 : decode b_M_hearer 9 = .ok (.iconst 1, 1) := by decide +kernel
theorem d_M_hearer_10 : decode b_M_hearer 10 = .ok (.invokevirtual 121, 3) := by decide +kernel
theorem d_M_hearer_13 : decode b_M_hearer 13 = .ok (.ireturn, 1) := by decide +kernel
theorem d_M_hearer_14 : decode b_M_hearer 14 = .ok (.iload_n 2, 1) := by decide +kernel
theorem d_M_hearer_15 : decode b_M_hearer 15 = .ok (.tableswitch 65 0 4 #[33, 33, 33, 44, 54], 33) := by decide +kernel
theorem d_M_hearer_48 : decode b_M_hearer 48 = .ok (.aload_n 0, 1) := by decide +kernel
theorem d_M_hearer_49 : decode b_M_hearer 49 = .ok (.aload_n 0, 1) := by decide +kernel
theorem d_M_hearer_50 : decode b_M_hearer 50 = .ok (.iload_n 1, 1) := by decide +kernel
theorem d_M_hearer_51 : decode b_M_hearer 51 = .ok (.iload_n 2, 1) := by decide +kernel
theorem d_M_hearer_52 : decode b_M_hearer 52 = .ok (.invokevirtual 313, 3) := by decide +kernel
theorem d_M_hearer_55 : decode b_M_hearer 55 = .ok (.invokevirtual 125, 3) := by decide +kernel
theorem d_M_hearer_58 : decode b_M_hearer 58 = .ok (.ireturn, 1) := by decide +kernel
theorem d_M_hearer_59 : decode b_M_hearer 59 = .ok (.aload_n 0, 1) := by decide +kernel
theorem d_M_hearer_60 : decode b_M_hearer 60 = .ok (.aload_n 0, 1) := by decide +kernel
theorem d_M_hearer_61 : decode b_M_hearer 61 = .ok (.iload_n 1, 1) := by decide +kernel
theorem d_M_hearer_62 : decode b_M_hearer 62 = .ok (.invokevirtual 331, 3) := by decide +kernel
theorem d_M_hearer_65 : decode b_M_hearer 65 = .ok (.invokevirtual 125, 3) := by decide +kernel
theorem d_M_hearer_68 : decode b_M_hearer 68 = .ok (.ireturn, 1) := by decide +kernel
theorem d_M_hearer_69 : decode b_M_hearer 69 = .ok (.aload_n 0, 1) := by decide +kernel
theorem d_M_hearer_70 : decode b_M_hearer 70 = .ok (.aload_n 0, 1) := by decide +kernel
theorem d_M_hearer_71 : decode b_M_hearer 71 = .ok (.iload_n 1, 1) := by decide +kernel
theorem d_M_hearer_72 : decode b_M_hearer 72 = .ok (.iconst 3, 1) := by decide +kernel
theorem d_M_hearer_73 : decode b_M_hearer 73 = .ok (.invokevirtual 313, 3) := by decide +kernel
theorem d_M_hearer_76 : decode b_M_hearer 76 = .ok (.invokevirtual 125, 3) := by decide +kernel
theorem d_M_hearer_79 : decode b_M_hearer 79 = .ok (.ireturn, 1) := by decide +kernel
theorem d_M_hearer_80 : decode b_M_hearer 80 = .ok (.aload_n 0, 1) := by decide +kernel
theorem d_M_hearer_81 : decode b_M_hearer 81 = .ok (.iconst 1, 1) := by decide +kernel
theorem d_M_hearer_82 : decode b_M_hearer 82 = .ok (.invokevirtual 121, 3) := by decide +kernel
theorem d_M_hearer_85 : decode b_M_hearer 85 = .ok (.ireturn, 1) := by decide +kernel
theorem d_M_isHearer_0 : decode b_M_isHearer 0 = .ok (.iload_n 1, 1) := by decide +kernel
theorem d_M_isHearer_1 : decode b_M_isHearer 1 = .ok (.ifCond .lt 17, 3) := by decide +kernel
theorem d_M_isHearer_4 : decode b_M_isHearer 4 = .ok (.iload_n 1, 1) := by decide +kernel
theorem d_M_isHearer_5 : decode b_M_isHearer 5 = .ok (.aload_n 0, 1) := by decide +kernel
theorem d_M_isHearer_6 : decode b_M_isHearer 6 = .ok (.getfield 7, 3) := by decide +kernel
theorem d_M_isHearer_9 : decode b_M_isHearer 9 = .ok (.iconst 3, 1) := by decide +kernel
theorem d_M_isHearer_10 : decode b_M_isHearer 10 = .ok (.iaload, 1) := by decide +kernel
theorem d_M_isHearer_11 : decode b_M_isHearer 11 = .ok (.if_icmp .ge 7, 3) := by decide +kernel
theorem d_M_isHearer_14 : decode b_M_isHearer 14 = .ok (.iconst 1, 1) := by decide +kernel
theorem d_M_isHearer_15 : decode b_M_isHearer 15 = .ok (.goto 4, 3) := by decide +kernel
theorem d_M_isHearer_18 : decode b_M_isHearer 18 = .ok (.iconst 0, 1) := by decide +kernel
theorem d_M_isHearer_19 : decode b_M_isHearer 19 = .ok (.ireturn, 1) := by decide +kernel
theorem d_M_farOf_0 : decode b_M_farOf 0 = .ok (.aload_n 0, 1) := by decide +kernel
theorem d_M_farOf_1 : decode b_M_farOf 1 = .ok (.aload_n 0, 1) := by decide +kernel
theorem d_M_farOf_2 : decode b_M_farOf 2 = .ok (.iload_n 1, 1) := by decide +kernel
theorem d_M_farOf_3 : decode b_M_farOf 3 = .ok (.iconst 0, 1) := by decide +kernel
theorem d_M_farOf_4 : decode b_M_farOf 4 = .ok (.invokevirtual 313, 3) := by decide +kernel
theorem d_M_farOf_7 : decode b_M_farOf 7 = .ok (.aload_n 0, 1) := by decide +kernel
theorem d_M_farOf_8 : decode b_M_farOf 8 = .ok (.getfield 7, 3) := by decide +kernel
theorem d_M_farOf_11 : decode b_M_farOf 11 = .ok (.bipush 6, 2) := by decide +kernel
theorem d_M_farOf_13 : decode b_M_farOf 13 = .ok (.iaload, 1) := by decide +kernel
theorem d_M_farOf_14 : decode b_M_farOf 14 = .ok (.invokevirtual 316, 3) := by decide +kernel
theorem d_M_farOf_17 : decode b_M_farOf 17 = .ok (.ireturn, 1) := by decide +kernel
theorem d_M_dog_0 : decode b_M_dog 0 = .ok (.iload_n 1, 1) := by decide +kernel
theorem d_M_dog_1 : decode b_M_dog 1 = .ok (.ifCond .lt 22, 3) := by decide +kernel
theorem d_M_dog_4 : decode b_M_dog 4 = .ok (.iload_n 1, 1) := by decide +kernel
theorem d_M_dog_5 : decode b_M_dog 5 = .ok (.aload_n 0, 1) := by decide +kernel
theorem d_M_dog_6 : decode b_M_dog 6 = .ok (.getfield 7, 3) := by decide +kernel
theorem d_M_dog_9 : decode b_M_dog 9 = .ok (.iconst 4, 1) := by decide +kernel
theorem d_M_dog_10 : decode b_M_dog 10 = .ok (.iaload, 1) := by decide +kernel
theorem d_M_dog_11 : decode b_M_dog 11 = .ok (.if_icmp .ge 12, 3) := by decide +kernel
theorem d_M_dog_14 : decode b_M_dog 14 = .ok (.iload_n 2, 1) := by decide +kernel
theorem d_M_dog_15 : decode b_M_dog 15 = .ok (.ifCond .lt 8, 3) := by decide +kernel
theorem d_M_dog_18 : decode b_M_dog 18 = .ok (.iload_n 2, 1) := by decide +kernel
theorem d_M_dog_19 : decode b_M_dog 19 = .ok (.iconst 1, 1) := by decide +kernel
theorem d_M_dog_20 : decode b_M_dog 20 = .ok (.if_icmp .le 9, 3) := by decide +kernel
theorem d_M_dog_23 : decode b_M_dog 23 = .ok (.aload_n 0, 1) := by decide +kernel
theorem d_M_dog_24 : decode b_M_dog 24 = .ok (.iconst 1, 1) := by decide +kernel
theorem d_M_dog_25 : decode b_M_dog 25 = .ok (.invokevirtual 121, 3) := by decide +kernel
theorem d_M_dog_28 : decode b_M_dog 28 = .ok (.ireturn, 1) := by decide +kernel
theorem d_M_dog_29 : decode b_M_dog 29 = .ok (.aload_n 0, 1) := by decide +kernel
theorem d_M_dog_30 : decode b_M_dog 30 = .ok (.iload_n 2, 1) := by decide +kernel
theorem d_M_dog_31 : decode b_M_dog 31 = .ok (.ifCond .ne 15, 3) := by decide +kernel
theorem d_M_dog_34 : decode b_M_dog 34 = .ok (.aload_n 0, 1) := by decide +kernel
theorem d_M_dog_35 : decode b_M_dog 35 = .ok (.getfield 7, 3) := by decide +kernel
theorem d_M_dog_38 : decode b_M_dog 38 = .ok (.bipush 34, 2) := by decide +kernel
theorem d_M_dog_40 : decode b_M_dog 40 = .ok (.iload_n 1, 1) := by decide +kernel
theorem d_M_dog_41 : decode b_M_dog 41 = .ok (.iadd, 1) := by decide +kernel
theorem d_M_dog_42 : decode b_M_dog 42 = .ok (.iaload, 1) := by decide +kernel
theorem d_M_dog_43 : decode b_M_dog 43 = .ok (.goto 11, 3) := by decide +kernel
theorem d_M_dog_46 : decode b_M_dog 46 = .ok (.aload_n 0, 1) := by decide +kernel
theorem d_M_dog_47 : decode b_M_dog 47 = .ok (.invokevirtual 325, 3) := by decide +kernel
theorem d_M_dog_50 : decode b_M_dog 50 = .ok (.iload_n 1, 1) := by decide +kernel
theorem d_M_dog_51 : decode b_M_dog 51 = .ok (.ishr, 1) := by decide +kernel
theorem d_M_dog_52 : decode b_M_dog 52 = .ok (.iconst 1, 1) := by decide +kernel
theorem d_M_dog_53 : decode b_M_dog 53 = .ok (.iand, 1) := by decide +kernel
theorem d_M_dog_54 : decode b_M_dog 54 = .ok (.invokevirtual 125, 3) := by decide +kernel
theorem d_M_dog_57 : decode b_M_dog 57 = .ok (.ireturn, 1) := by decide +kernel
theorem d_M_cell_0 : decode b_M_cell 0 = .ok (.aload_n 0, 1) := by decide +kernel
theorem d_M_cell_1 : decode b_M_cell 1 = .ok (.iload_n 1, 1) := by decide +kernel
theorem d_M_cell_2 : decode b_M_cell 2 = .ok (.invokevirtual 334, 3) := by decide +kernel
theorem d_M_cell_5 : decode b_M_cell 5 = .ok (.ifCond .eq 12, 3) := by decide +kernel
theorem d_M_cell_8 : decode b_M_cell 8 = .ok (.iload_n 2, 1) := by decide +kernel
theorem d_M_cell_9 : decode b_M_cell 9 = .ok (.ifCond .lt 8, 3) := by decide +kernel
theorem d_M_cell_12 : decode b_M_cell 12 = .ok (.iload_n 2, 1) := by decide +kernel
theorem d_M_cell_13 : decode b_M_cell 13 = .ok (.iconst 2, 1) := by decide +kernel
theorem d_M_cell_14 : decode b_M_cell 14 = .ok (.if_icmp .le 9, 3) := by decide +kernel
theorem d_M_cell_17 : decode b_M_cell 17 = .ok (.aload_n 0, 1) := by decide +kernel
theorem d_M_cell_18 : decode b_M_cell 18 = .ok (.iconst 1, 1) := by decide +kernel
theorem d_M_cell_19 : decode b_M_cell 19 = .ok (.invokevirtual 121, 3) := by decide +kernel
theorem d_M_cell_22 : decode b_M_cell 22 = .ok (.ireturn, 1) := by decide +kernel
theorem d_M_cell_23 : decode b_M_cell 23 = .ok (.aload_n 0, 1) := by decide +kernel
theorem d_M_cell_24 : decode b_M_cell 24 = .ok (.iload_n 2, 1) := by decide +kernel
theorem d_M_cell_25 : decode b_M_cell 25 = .ok (.ifCond .ne 12, 3) := by decide +kernel
theorem d_M_cell_28 : decode b_M_cell 28 = .ok (.aload_n 0, 1) := by decide +kernel
theorem d_M_cell_29 : decode b_M_cell 29 = .ok (.iload_n 1, 1) := by decide +kernel
theorem d_M_cell_30 : decode b_M_cell 30 = .ok (.iconst 0, 1) := by decide +kernel
theorem d_M_cell_31 : decode b_M_cell 31 = .ok (.invokevirtual 337, 3) := by decide +kernel
theorem d_M_cell_34 : decode b_M_cell 34 = .ok (.goto 28, 3) := by decide +kernel
theorem d_M_cell_37 : decode b_M_cell 37 = .ok (.iload_n 2, 1) := by decide +kernel
theorem d_M_cell_38 : decode b_M_cell 38 = .ok (.iconst 1, 1) := by decide +kernel
theorem d_M_cell_39 : decode b_M_cell 39 = .ok (.if_icmp .ne 18, 3) := by decide +kernel
theorem d_M_cell_42 : decode b_M_cell 42 = .ok (.aload_n 0, 1) := by decide +kernel
theorem d_M_cell_43 : decode b_M_cell 43 = .ok (.iload_n 1, 1) := by decide +kernel
theorem d_M_cell_44 : decode b_M_cell 44 = .ok (.aload_n 0, 1) := by decide +kernel
theorem d_M_cell_45 : decode b_M_cell 45 = .ok (.getfield 7, 3) := by decide +kernel
theorem d_M_cell_48 : decode b_M_cell 48 = .ok (.bipush 6, 2) := by decide +kernel
theorem d_M_cell_50 : decode b_M_cell 50 = .ok (.iaload, 1) := by decide +kernel
theorem d_M_cell_51 : decode b_M_cell 51 = .ok (.invokevirtual 316, 3) := by decide +kernel
theorem d_M_cell_54 : decode b_M_cell 54 = .ok (.goto 8, 3) := by decide +kernel
theorem d_M_cell_57 : decode b_M_cell 57 = .ok (.aload_n 0, 1) := by decide +kernel
theorem d_M_cell_58 : decode b_M_cell 58 = .ok (.iload_n 1, 1) := by decide +kernel
theorem d_M_cell_59 : decode b_M_cell 59 = .ok (.invokevirtual 319, 3) := by decide +kernel
theorem d_M_cell_62 : decode b_M_cell 62 = .ok (.invokevirtual 125, 3) := by decide +kernel
theorem d_M_cell_65 : decode b_M_cell 65 = .ok (.ireturn, 1) := by decide +kernel
theorem d_M_isCell_0 : decode b_M_isCell 0 = .ok (.iload_n 1, 1) := by decide +kernel
theorem d_M_isCell_1 : decode b_M_isCell 1 = .ok (.ifCond .lt 16, 3) := by decide +kernel
theorem d_M_isCell_4 : decode b_M_isCell 4 = .ok (.iload_n 1, 1) := by decide +kernel
theorem d_M_isCell_5 : decode b_M_isCell 5 = .ok (.aload_n 0, 1) := by decide +kernel
theorem d_M_isCell_6 : decode b_M_isCell 6 = .ok (.iconst 0, 1) := by decide +kernel
theorem d_M_isCell_7 : decode b_M_isCell 7 = .ok (.invokevirtual 223, 3) := by decide +kernel
theorem d_M_isCell_10 : decode b_M_isCell 10 = .ok (.if_icmp .ge 7, 3) := by decide +kernel
theorem d_M_isCell_13 : decode b_M_isCell 13 = .ok (.iconst 1, 1) := by decide +kernel
theorem d_M_isCell_14 : decode b_M_isCell 14 = .ok (.goto 4, 3) := by decide +kernel
theorem d_M_isCell_17 : decode b_M_isCell 17 = .ok (.iconst 0, 1) := by decide +kernel
theorem d_M_isCell_18 : decode b_M_isCell 18 = .ok (.ireturn, 1) := by decide +kernel
theorem d_M_hearersBy_0 : decode b_M_hearersBy 0 = .ok (.iconst 0, 1) := by decide +kernel
theorem d_M_hearersBy_1 : decode b_M_hearersBy 1 = .ok (.istore_n 3, 1) := by decide +kernel
theorem d_M_hearersBy_2 : decode b_M_hearersBy 2 = .ok (.iconst 0, 1) := by decide +kernel
theorem d_M_hearersBy_3 : decode b_M_hearersBy 3 = .ok (.istore 4, 2) := by decide +kernel
theorem d_M_hearersBy_5 : decode b_M_hearersBy 5 = .ok (.iload 4, 2) := by decide +kernel
theorem d_M_hearersBy_7 : decode b_M_hearersBy 7 = .ok (.aload_n 0, 1) := by decide +kernel
theorem d_M_hearersBy_8 : decode b_M_hearersBy 8 = .ok (.getfield 7, 3) := by decide +kernel
theorem d_M_hearersBy_11 : decode b_M_hearersBy 11 = .ok (.iconst 3, 1) := by decide +kernel
theorem d_M_hearersBy_12 : decode b_M_hearersBy 12 = .ok (.iaload, 1) := by decide +kernel
theorem d_M_hearersBy_13 : decode b_M_hearersBy 13 = .ok (.if_icmp .ge 36, 3) := by decide +kernel
theorem d_M_hearersBy_16 : decode b_M_hearersBy 16 = .ok (.iload_n 3, 1) := by decide +kernel
theorem d_M_hearersBy_17 : decode b_M_hearersBy 17 = .ok (.aload_n 0, 1) := by decide +kernel
theorem d_M_hearersBy_18 : decode b_M_hearersBy 18 = .ok (.aload_n 0, 1) := by decide +kernel
theorem d_M_hearersBy_19 : decode b_M_hearersBy 19 = .ok (.iload 4, 2) := by decide +kernel
theorem d_M_hearersBy_21 : decode b_M_hearersBy 21 = .ok (.iconst 0, 1) := by decide +kernel
theorem d_M_hearersBy_22 : decode b_M_hearersBy 22 = .ok (.invokevirtual 313, 3) := by decide +kernel
theorem d_M_hearersBy_25 : decode b_M_hearersBy 25 = .ok (.iload_n 1, 1) := by decide +kernel
theorem d_M_hearersBy_26 : decode b_M_hearersBy 26 = .ok (.invokevirtual 316, 3) := by decide +kernel
theorem d_M_hearersBy_29 : decode b_M_hearersBy 29 = .ok (.iload_n 2, 1) := by decide +kernel
theorem d_M_hearersBy_30 : decode b_M_hearersBy 30 = .ok (.if_icmp .gt 10, 3) := by decide +kernel
theorem d_M_hearersBy_33 : decode b_M_hearersBy 33 = .ok (.iconst 1, 1) := by decide +kernel
theorem d_M_hearersBy_34 : decode b_M_hearersBy 34 = .ok (.iload 4, 2) := by decide +kernel
theorem d_M_hearersBy_36 : decode b_M_hearersBy 36 = .ok (.ishl, 1) := by decide +kernel
theorem d_M_hearersBy_37 : decode b_M_hearersBy 37 = .ok (.goto 4, 3) := by decide +kernel
theorem d_M_hearersBy_40 : decode b_M_hearersBy 40 = .ok (.iconst 0, 1) := by decide +kernel
theorem d_M_hearersBy_41 : decode b_M_hearersBy 41 = .ok (.ior, 1) := by decide +kernel
theorem d_M_hearersBy_42 : decode b_M_hearersBy 42 = .ok (.istore_n 3, 1) := by decide +kernel
theorem d_M_hearersBy_43 : decode b_M_hearersBy 43 = .ok (.iinc 4 1, 3) := by decide +kernel
theorem d_M_hearersBy_46 : decode b_M_hearersBy 46 = .ok (.goto (-41), 3) := by decide +kernel
theorem d_M_hearersBy_49 : decode b_M_hearersBy 49 = .ok (.iload_n 3, 1) := by decide +kernel
theorem d_M_hearersBy_50 : decode b_M_hearersBy 50 = .ok (.ireturn, 1) := by decide +kernel
theorem d_M_likers_0 : decode b_M_likers 0 = .ok (.aload_n 0, 1) := by decide +kernel
theorem d_M_likers_1 : decode b_M_likers 1 = .ok (.iload_n 1, 1) := by decide +kernel
theorem d_M_likers_2 : decode b_M_likers 2 = .ok (.invokevirtual 340, 3) := by decide +kernel
theorem d_M_likers_5 : decode b_M_likers 5 = .ok (.ifCond .eq 15, 3) := by decide +kernel
theorem d_M_likers_8 : decode b_M_likers 8 = .ok (.aload_n 0, 1) := by decide +kernel
theorem d_M_likers_9 : decode b_M_likers 9 = .ok (.aload_n 0, 1) := by decide +kernel
theorem d_M_likers_10 : decode b_M_likers 10 = .ok (.iload_n 1, 1) := by decide +kernel
theorem d_M_likers_11 : decode b_M_likers 11 = .ok (.invokevirtual 343, 3) := by decide +kernel
theorem d_M_likers_14 : decode b_M_likers 14 = .ok (.invokevirtual 125, 3) := by decide +kernel
theorem d_M_likers_17 : decode b_M_likers 17 = .ok (.goto 8, 3) := by decide +kernel
theorem d_M_likers_20 : decode b_M_likers 20 = .ok (.aload_n 0, 1) := by decide +kernel
theorem d_M_likers_21 : decode b_M_likers 21 = .ok (.iconst 1, 1) := by decide +kernel
theorem d_M_likers_22 : decode b_M_likers 22 = .ok (.invokevirtual 121, 3) := by decide +kernel
theorem d_M_likers_25 : decode b_M_likers 25 = .ok (.ireturn, 1) := by decide +kernel
theorem d_M_isTune_0 : decode b_M_isTune 0 = .ok (.iload_n 1, 1) := by decide +kernel
theorem d_M_isTune_1 : decode b_M_isTune 1 = .ok (.ifCond .lt 17, 3) := by decide +kernel
theorem d_M_isTune_4 : decode b_M_isTune 4 = .ok (.iload_n 1, 1) := by decide +kernel
theorem d_M_isTune_5 : decode b_M_isTune 5 = .ok (.aload_n 0, 1) := by decide +kernel
theorem d_M_isTune_6 : decode b_M_isTune 6 = .ok (.getfield 7, 3) := by decide +kernel
theorem d_M_isTune_9 : decode b_M_isTune 9 = .ok (.iconst 2, 1) := by decide +kernel
theorem d_M_isTune_10 : decode b_M_isTune 10 = .ok (.iaload, 1) := by decide +kernel
theorem d_M_isTune_11 : decode b_M_isTune 11 = .ok (.if_icmp .ge 7, 3) := by decide +kernel
theorem d_M_isTune_14 : decode b_M_isTune 14 = .ok (.iconst 1, 1) := by decide +kernel
theorem d_M_isTune_15 : decode b_M_isTune 15 = .ok (.goto 4, 3) := by decide +kernel
theorem d_M_isTune_18 : decode b_M_isTune 18 = .ok (.iconst 0, 1) := by decide +kernel
theorem d_M_isTune_19 : decode b_M_isTune 19 = .ok (.ireturn, 1) := by decide +kernel
theorem d_M_likersOf_0 : decode b_M_likersOf 0 = .ok (.iconst 0, 1) := by decide +kernel
theorem d_M_likersOf_1 : decode b_M_likersOf 1 = .ok (.istore_n 2, 1) := by decide +kernel
theorem d_M_likersOf_2 : decode b_M_likersOf 2 = .ok (.iconst 0, 1) := by decide +kernel
theorem d_M_likersOf_3 : decode b_M_likersOf 3 = .ok (.istore_n 3, 1) := by decide +kernel
theorem d_M_likersOf_4 : decode b_M_likersOf 4 = .ok (.iload_n 3, 1) := by decide +kernel
theorem d_M_likersOf_5 : decode b_M_likersOf 5 = .ok (.aload_n 0, 1) := by decide +kernel
theorem d_M_likersOf_6 : decode b_M_likersOf 6 = .ok (.getfield 7, 3) := by decide +kernel
theorem d_M_likersOf_9 : decode b_M_likersOf 9 = .ok (.iconst 3, 1) := by decide +kernel
theorem d_M_likersOf_10 : decode b_M_likersOf 10 = .ok (.iaload, 1) := by decide +kernel
theorem d_M_likersOf_11 : decode b_M_likersOf 11 = .ok (.if_icmp .ge 33, 3) := by decide +kernel
theorem d_M_likersOf_14 : decode b_M_likersOf 14 = .ok (.iload_n 2, 1) := by decide +kernel
theorem d_M_likersOf_15 : decode b_M_likersOf 15 = .ok (.aload_n 0, 1) := by decide +kernel
theorem d_M_likersOf_16 : decode b_M_likersOf 16 = .ok (.aload_n 0, 1) := by decide +kernel
theorem d_M_likersOf_17 : decode b_M_likersOf 17 = .ok (.iload_n 3, 1) := by decide +kernel
theorem d_M_likersOf_18 : decode b_M_likersOf 18 = .ok (.iconst 1, 1) := by decide +kernel
theorem d_M_likersOf_19 : decode b_M_likersOf 19 = .ok (.invokevirtual 313, 3) := by decide +kernel
theorem d_M_likersOf_22 : decode b_M_likersOf 22 = .ok (.iload_n 1, 1) := by decide +kernel
theorem d_M_likersOf_23 : decode b_M_likersOf 23 = .ok (.invokevirtual 251, 3) := by decide +kernel
theorem d_M_likersOf_26 : decode b_M_likersOf 26 = .ok (.ifCond .eq 9, 3) := by decide +kernel
theorem d_M_likersOf_29 : decode b_M_likersOf 29 = .ok (.iconst 1, 1) := by decide +kernel
theorem d_M_likersOf_30 : decode b_M_likersOf 30 = .ok (.iload_n 3, 1) := by decide +kernel
theorem d_M_likersOf_31 : decode b_M_likersOf 31 = .ok (.ishl, 1) := by decide +kernel
theorem d_M_likersOf_32 : decode b_M_likersOf 32 = .ok (.goto 4, 3) := by decide +kernel
theorem d_M_likersOf_35 : decode b_M_likersOf 35 = .ok (.iconst 0, 1) := by decide +kernel
theorem d_M_likersOf_36 : decode b_M_likersOf 36 = .ok (.ior, 1) := by decide +kernel
theorem d_M_likersOf_37 : decode b_M_likersOf 37 = .ok (.istore_n 2, 1) := by decide +kernel
theorem d_M_likersOf_38 : decode b_M_likersOf 38 = .ok (.iinc 3 1, 3) := by decide +kernel
theorem d_M_likersOf_41 : decode b_M_likersOf 41 = .ok (.goto (-37), 3) := by decide +kernel
theorem d_M_likersOf_44 : decode b_M_likersOf 44 = .ok (.iload_n 2, 1) := by decide +kernel
theorem d_M_likersOf_45 : decode b_M_likersOf 45 = .ok (.ireturn, 1) := by decide +kernel
theorem d_M_play_0 : decode b_M_play 0 = .ok (.aload_n 0, 1) := by decide +kernel
theorem d_M_play_1 : decode b_M_play 1 = .ok (.iload_n 1, 1) := by decide +kernel
theorem d_M_play_2 : decode b_M_play 2 = .ok (.invokevirtual 340, 3) := by decide +kernel
theorem d_M_play_5 : decode b_M_play 5 = .ok (.ifCond .ne 9, 3) := by decide +kernel
theorem d_M_play_8 : decode b_M_play 8 = .ok (.aload_n 0, 1) := by decide +kernel
theorem d_M_play_9 : decode b_M_play 9 = .ok (.iconst 1, 1) := by decide +kernel
theorem d_M_play_10 : decode b_M_play 10 = .ok (.invokevirtual 121, 3) := by decide +kernel
theorem d_M_play_13 : decode b_M_play 13 = .ok (.ireturn, 1) := by decide +kernel
theorem d_M_play_14 : decode b_M_play 14 = .ok (.aload_n 0, 1) := by decide +kernel
theorem d_M_play_15 : decode b_M_play 15 = .ok (.iload_n 1, 1) := by decide +kernel
theorem d_M_play_16 : decode b_M_play 16 = .ok (.invokevirtual 343, 3) := by decide +kernel
theorem d_M_play_19 : decode b_M_play 19 = .ok (.ifCond .ne 12, 3) := by decide +kernel
theorem d_M_play_22 : decode b_M_play 22 = .ok (.aload_n 0, 1) := by decide +kernel
theorem d_M_play_23 : decode b_M_play 23 = .ok (.bipush 7, 2) := by decide +kernel
theorem d_M_play_25 : decode b_M_play 25 = .ok (.invokevirtual 121, 3) := by decide +kernel
theorem d_M_play_28 : decode b_M_play 28 = .ok (.goto 12, 3) := by decide +kernel
theorem d_M_play_31 : decode b_M_play 31 = .ok (.aload_n 0, 1) := by decide +kernel
theorem d_M_play_32 : decode b_M_play 32 = .ok (.aload_n 0, 1) := by decide +kernel
theorem d_M_play_33 : decode b_M_play 33 = .ok (.iload_n 1, 1) := by decide +kernel
theorem d_M_play_34 : decode b_M_play 34 = .ok (.invokevirtual 349, 3) := by decide +kernel
theorem d_M_play_37 : decode b_M_play 37 = .ok (.invokevirtual 125, 3) := by decide +kernel
theorem d_M_play_40 : decode b_M_play 40 = .ok (.ireturn, 1) := by decide +kernel
theorem d_M_plays_0 : decode b_M_plays 0 = .ok (.iconst 0, 1) := by decide +kernel
theorem d_M_plays_1 : decode b_M_plays 1 = .ok (.istore_n 2, 1) := by decide +kernel
theorem d_M_plays_2 : decode b_M_plays 2 = .ok (.iconst 0, 1) := by decide +kernel
theorem d_M_plays_3 : decode b_M_plays 3 = .ok (.istore_n 3, 1) := by decide +kernel
theorem d_M_plays_4 : decode b_M_plays 4 = .ok (.iload_n 3, 1) := by decide +kernel
theorem d_M_plays_5 : decode b_M_plays 5 = .ok (.aload_n 0, 1) := by decide +kernel
theorem d_M_plays_6 : decode b_M_plays 6 = .ok (.getfield 7, 3) := by decide +kernel
theorem d_M_plays_9 : decode b_M_plays 9 = .ok (.iconst 3, 1) := by decide +kernel
theorem d_M_plays_10 : decode b_M_plays 10 = .ok (.iaload, 1) := by decide +kernel
theorem d_M_plays_11 : decode b_M_plays 11 = .ok (.if_icmp .ge 101, 3) := by decide +kernel
theorem d_M_plays_14 : decode b_M_plays 14 = .ok (.iload_n 3, 1) := by decide +kernel
theorem d_M_plays_15 : decode b_M_plays 15 = .ok (.invokestatic 241, 3) := by decide +kernel
theorem d_M_plays_18 : decode b_M_plays 18 = .ok (.istore 4, 2) := by decide +kernel
theorem d_M_plays_20 : decode b_M_plays 20 = .ok (.aload_n 0, 1) := by decide +kernel
theorem d_M_plays_21 : decode b_M_plays 21 = .ok (.aload_n 0, 1) := by decide +kernel
theorem d_M_plays_22 : decode b_M_plays 22 = .ok (.getfield 7, 3) := by decide +kernel
theorem d_M_plays_25 : decode b_M_plays 25 = .ok (.iload 4, 2) := by decide +kernel
theorem d_M_plays_27 : decode b_M_plays 27 = .ok (.iconst 1, 1) := by decide +kernel
theorem d_M_plays_28 : decode b_M_plays 28 = .ok (.iadd, 1) := by decide +kernel
theorem d_M_plays_29 : decode b_M_plays 29 = .ok (.iaload, 1) := by decide +kernel
theorem d_M_plays_30 : decode b_M_plays 30 = .ok (.iload_n 1, 1) := by decide +kernel
theorem d_M_plays_31 : decode b_M_plays 31 = .ok (.invokevirtual 251, 3) := by decide +kernel
theorem d_M_plays_34 : decode b_M_plays 34 = .ok (.ifCond .ne 6, 3) := by decide +kernel
theorem d_M_plays_37 : decode b_M_plays 37 = .ok (.goto 69, 3) := by decide +kernel
theorem d_M_plays_40 : decode b_M_plays 40 = .ok (.aload_n 0, 1) := by decide +kernel
theorem d_M_plays_41 : decode b_M_plays 41 = .ok (.getfield 7, 3) := by decide +kernel
theorem d_M_plays_44 : decode b_M_plays 44 = .ok (.iload 4, 2) := by decide +kernel
theorem d_M_plays_46 : decode b_M_plays 46 = .ok (.iaload, 1) := by decide +kernel
theorem d_M_plays_47 : decode b_M_plays 47 = .ok (.aload_n 0, 1) := by decide +kernel
theorem d_M_plays_48 : decode b_M_plays 48 = .ok (.getfield 7, 3) := by decide +kernel
theorem d_M_plays_51 : decode b_M_plays 51 = .ok (.bipush 6, 2) := by decide +kernel
theorem d_M_plays_53 : decode b_M_plays 53 = .ok (.iaload, 1) := by decide +kernel
theorem d_M_plays_54 : decode b_M_plays 54 = .ok (.if_icmp .eq 24, 3) := by decide +kernel
theorem d_M_plays_57 : decode b_M_plays 57 = .ok (.aload_n 0, 1) := by decide +kernel
theorem d_M_plays_58 : decode b_M_plays 58 = .ok (.getfield 7, 3) := by decide +kernel
theorem d_M_plays_61 : decode b_M_plays 61 = .ok (.iload 4, 2) := by decide +kernel
theorem d_M_plays_63 : decode b_M_plays 63 = .ok (.aload_n 0, 1) := by decide +kernel
theorem d_M_plays_64 : decode b_M_plays 64 = .ok (.aload_n 0, 1) := by decide +kernel
theorem d_M_plays_65 : decode b_M_plays 65 = .ok (.getfield 7, 3) := by decide +kernel
theorem d_M_plays_68 : decode b_M_plays 68 = .ok (.iload 4, 2) := by decide +kernel
theorem d_M_plays_70 : decode b_M_plays 70 = .ok (.iaload, 1) := by decide +kernel
theorem d_M_plays_71 : decode b_M_plays 71 = .ok (.invokevirtual 346, 3) := by decide +kernel
theorem d_M_plays_74 : decode b_M_plays 74 = .ok (.iastore, 1) := by decide +kernel
theorem d_M_plays_75 : decode b_M_plays 75 = .ok (.goto 31, 3) := by decide +kernel
theorem d_M_plays_78 : decode b_M_plays 78 = .ok (.aload_n 0, 1) := by decide +kernel
theorem d_M_plays_79 : decode b_M_plays 79 = .ok (.getfield 7, 3) := by decide +kernel
theorem d_M_plays_82 : decode b_M_plays 82 = .ok (.iload 4, 2) := by decide +kernel
theorem d_M_plays_84 : decode b_M_plays 84 = .ok (.iconst 2, 1) := by decide +kernel
theorem d_M_plays_85 : decode b_M_plays 85 = .ok (.iadd, 1) := by decide +kernel
theorem d_M_plays_86 : decode b_M_plays 86 = .ok (.iaload, 1) := by decide +kernel
theorem d_M_plays_87 : decode b_M_plays 87 = .ok (.ifCond .le 19, 3) := by decide +kernel
theorem d_M_plays_90 : decode b_M_plays 90 = .ok (.aload_n 0, 1) := by decide +kernel
theorem d_M_plays_91 : decode b_M_plays 91 = .ok (.getfield 7, 3) := by decide +kernel
theorem d_M_plays_94 : decode b_M_plays 94 = .ok (.iload 4, 2) := by decide +kernel
theorem d_M_plays_96 : decode b_M_plays 96 = .ok (.iconst 2, 1) := by decide +kernel
theorem d_M_plays_97 : decode b_M_plays 97 = .ok (.iadd, 1) := by decide +kernel
theorem d_M_plays_98 : decode b_M_plays 98 = .ok (.dup2, 1) := by decide +kernel
theorem d_M_plays_99 : decode b_M_plays 99 = .ok (.iaload, 1) := by decide +kernel
theorem d_M_plays_100 : decode b_M_plays 100 = .ok (.iconst 1, 1) := by decide +kernel
theorem d_M_plays_101 : decode b_M_plays 101 = .ok (.isub, 1) := by decide +kernel
theorem d_M_plays_102 : decode b_M_plays 102 = .ok (.iastore, 1) := by decide +kernel
theorem d_M_plays_103 : decode b_M_plays 103 = .ok (.iinc 2 1, 3) := by decide +kernel
theorem d_M_plays_106 : decode b_M_plays 106 = .ok (.iinc 3 1, 3) := by decide +kernel
theorem d_M_plays_109 : decode b_M_plays 109 = .ok (.goto (-105), 3) := by decide +kernel
theorem d_M_plays_112 : decode b_M_plays 112 = .ok (.aload_n 0, 1) := by decide +kernel
theorem d_M_plays_113 : decode b_M_plays 113 = .ok (.getfield 7, 3) := by decide +kernel
theorem d_M_plays_116 : decode b_M_plays 116 = .ok (.bipush 8, 2) := by decide +kernel
theorem d_M_plays_118 : decode b_M_plays 118 = .ok (.sipush 9999, 3) := by decide +kernel
theorem d_M_plays_121 : decode b_M_plays 121 = .ok (.aload_n 0, 1) := by decide +kernel
theorem d_M_plays_122 : decode b_M_plays 122 = .ok (.getfield 7, 3) := by decide +kernel
theorem d_M_plays_125 : decode b_M_plays 125 = .ok (.bipush 8, 2) := by decide +kernel
theorem d_M_plays_127 : decode b_M_plays 127 = .ok (.iaload, 1) := by decide +kernel
theorem d_M_plays_128 : decode b_M_plays 128 = .ok (.iload_n 2, 1) := by decide +kernel
theorem d_M_plays_129 : decode b_M_plays 129 = .ok (.iadd, 1) := by decide +kernel
theorem d_M_plays_130 : decode b_M_plays 130 = .ok (.invokestatic 176, 3) := by decide +kernel
theorem d_M_plays_133 : decode b_M_plays 133 = .ok (.iastore, 1) := by decide +kernel
theorem d_M_plays_134 : decode b_M_plays 134 = .ok (.aload_n 0, 1) := by decide +kernel
theorem d_M_plays_135 : decode b_M_plays 135 = .ok (.getfield 7, 3) := by decide +kernel
theorem d_M_plays_138 : decode b_M_plays 138 = .ok (.bipush 9, 2) := by decide +kernel
theorem d_M_plays_140 : decode b_M_plays 140 = .ok (.dup2, 1) := by decide +kernel
theorem d_M_plays_141 : decode b_M_plays 141 = .ok (.iaload, 1) := by decide +kernel
theorem d_M_plays_142 : decode b_M_plays 142 = .ok (.iconst 1, 1) := by decide +kernel
theorem d_M_plays_143 : decode b_M_plays 143 = .ok (.iadd, 1) := by decide +kernel
theorem d_M_plays_144 : decode b_M_plays 144 = .ok (.iastore, 1) := by decide +kernel
theorem d_M_plays_145 : decode b_M_plays 145 = .ok (.iload_n 2, 1) := by decide +kernel
theorem d_M_plays_146 : decode b_M_plays 146 = .ok (.ireturn, 1) := by decide +kernel
theorem d_M_nearer_0 : decode b_M_nearer 0 = .ok (.aload_n 0, 1) := by decide +kernel
theorem d_M_nearer_1 : decode b_M_nearer 1 = .ok (.getfield 7, 3) := by decide +kernel
theorem d_M_nearer_4 : decode b_M_nearer 4 = .ok (.iconst 0, 1) := by decide +kernel
theorem d_M_nearer_5 : decode b_M_nearer 5 = .ok (.iaload, 1) := by decide +kernel
theorem d_M_nearer_6 : decode b_M_nearer 6 = .ok (.istore_n 2, 1) := by decide +kernel
theorem d_M_nearer_7 : decode b_M_nearer 7 = .ok (.aload_n 0, 1) := by decide +kernel
theorem d_M_nearer_8 : decode b_M_nearer 8 = .ok (.getfield 7, 3) := by decide +kernel
theorem d_M_nearer_11 : decode b_M_nearer 11 = .ok (.bipush 6, 2) := by decide +kernel
theorem d_M_nearer_13 : decode b_M_nearer 13 = .ok (.iaload, 1) := by decide +kernel
theorem d_M_nearer_14 : decode b_M_nearer 14 = .ok (.iload_n 2, 1) := by decide +kernel
theorem d_M_nearer_15 : decode b_M_nearer 15 = .ok (.irem, 1) := by decide +kernel
theorem d_M_nearer_16 : decode b_M_nearer 16 = .ok (.iload_n 1, 1) := by decide +kernel
theorem d_M_nearer_17 : decode b_M_nearer 17 = .ok (.iload_n 2, 1) := by decide +kernel
theorem d_M_nearer_18 : decode b_M_nearer 18 = .ok (.irem, 1) := by decide +kernel
theorem d_M_nearer_19 : decode b_M_nearer 19 = .ok (.isub, 1) := by decide +kernel
theorem d_M_nearer_20 : decode b_M_nearer 20 = .ok (.istore_n 3, 1) := by decide +kernel
theorem d_M_nearer_21 : decode b_M_nearer 21 = .ok (.aload_n 0, 1) := by decide +kernel
theorem d_M_nearer_22 : decode b_M_nearer 22 = .ok (.getfield 7, 3) := by decide +kernel
theorem d_M_nearer_25 : decode b_M_nearer 25 = .ok (.bipush 6, 2) := by decide +kernel
theorem d_M_nearer_27 : decode b_M_nearer 27 = .ok (.iaload, 1) := by decide +kernel
theorem d_M_nearer_28 : decode b_M_nearer 28 = .ok (.iload_n 2, 1) := by decide +kernel
theorem d_M_nearer_29 : decode b_M_nearer 29 = .ok (.idiv, 1) := by decide +kernel
theorem d_M_nearer_30 : decode b_M_nearer 30 = .ok (.iload_n 1, 1) := by decide +kernel
theorem d_M_nearer_31 : decode b_M_nearer 31 = .ok (.iload_n 2, 1) := by decide +kernel
theorem d_M_nearer_32 : decode b_M_nearer 32 = .ok (.idiv, 1) := by decide +kernel
theorem d_M_nearer_33 : decode b_M_nearer 33 = .ok (.isub, 1) := by decide +kernel
theorem d_M_nearer_34 : decode b_M_nearer 34 = .ok (.istore 4, 2) := by decide +kernel
theorem d_M_nearer_36 : decode b_M_nearer 36 = .ok (.iload_n 3, 1) := by decide +kernel
theorem d_M_nearer_37 : decode b_M_nearer 37 = .ok (.ifCond .ne 10, 3) := by decide +kernel
theorem d_M_nearer_40 : decode b_M_nearer 40 = .ok (.iload 4, 2) := by decide +kernel
theorem d_M_nearer_42 : decode b_M_nearer 42 = .ok (.ifCond .ne 5, 3) := by decide +kernel
theorem d_M_nearer_45 : decode b_M_nearer 45 = .ok (.iload_n 1, 1) := by decide +kernel
theorem d_M_nearer_46 : decode b_M_nearer 46 = .ok (.ireturn, 1) := by decide +kernel
theorem d_M_nearer_47 : decode b_M_nearer 47 = .ok (.iload_n 3, 1) := by decide +kernel
theorem d_M_nearer_48 : decode b_M_nearer 48 = .ok (.iload_n 3, 1) := by decide +kernel
theorem d_M_nearer_49 : decode b_M_nearer 49 = .ok (.imul, 1) := by decide +kernel
theorem d_M_nearer_50 : decode b_M_nearer 50 = .ok (.iload 4, 2) := by decide +kernel
theorem d_M_nearer_52 : decode b_M_nearer 52 = .ok (.iload 4, 2) := by decide +kernel
theorem d_M_nearer_54 : decode b_M_nearer 54 = .ok (.imul, 1) := by decide +kernel
theorem d_M_nearer_55 : decode b_M_nearer 55 = .ok (.if_icmp .lt 17, 3) := by decide +kernel
theorem d_M_nearer_58 : decode b_M_nearer 58 = .ok (.iload_n 3, 1) := by decide +kernel
theorem d_M_nearer_59 : decode b_M_nearer 59 = .ok (.ifCond .le 9, 3) := by decide +kernel
theorem d_M_nearer_62 : decode b_M_nearer 62 = .ok (.iload_n 1, 1) := by decide +kernel
theorem d_M_nearer_63 : decode b_M_nearer 63 = .ok (.iconst 1, 1) := by decide +kernel
theorem d_M_nearer_64 : decode b_M_nearer 64 = .ok (.iadd, 1) := by decide +kernel
theorem d_M_nearer_65 : decode b_M_nearer 65 = .ok (.goto 6, 3) := by decide +kernel
theorem d_M_nearer_68 : decode b_M_nearer 68 = .ok (.iload_n 1, 1) := by decide +kernel
theorem d_M_nearer_69 : decode b_M_nearer 69 = .ok (.iconst 1, 1) := by decide +kernel
theorem d_M_nearer_70 : decode b_M_nearer 70 = .ok (.isub, 1) := by decide +kernel
theorem d_M_nearer_71 : decode b_M_nearer 71 = .ok (.ireturn, 1) := by decide +kernel
theorem d_M_nearer_72 : decode b_M_nearer 72 = .ok (.iload 4, 2) := by decide +kernel
theorem d_M_nearer_74 : decode b_M_nearer 74 = .ok (.ifCond .le 9, 3) := by decide +kernel
theorem d_M_nearer_77 : decode b_M_nearer 77 = .ok (.iload_n 1, 1) := by decide +kernel
theorem d_M_nearer_78 : decode b_M_nearer 78 = .ok (.iload_n 2, 1) := by decide +kernel
theorem d_M_nearer_79 : decode b_M_nearer 79 = .ok (.iadd, 1) := by decide +kernel
theorem d_M_nearer_80 : decode b_M_nearer 80 = .ok (.goto 6, 3) := by decide +kernel
theorem d_M_nearer_83 : decode b_M_nearer 83 = .ok (.iload_n 1, 1) := by decide +kernel
theorem d_M_nearer_84 : decode b_M_nearer 84 = .ok (.iload_n 2, 1) := by decide +kernel
theorem d_M_nearer_85 : decode b_M_nearer 85 = .ok (.isub, 1) := by decide +kernel
theorem d_M_nearer_86 : decode b_M_nearer 86 = .ok (.ireturn, 1) := by decide +kernel
theorem d_M_grind_0 : decode b_M_grind 0 = .ok (.aload_n 0, 1) := by decide +kernel
theorem d_M_grind_1 : decode b_M_grind 1 = .ok (.iload_n 1, 1) := by decide +kernel
theorem d_M_grind_2 : decode b_M_grind 2 = .ok (.invokevirtual 334, 3) := by decide +kernel
theorem d_M_grind_5 : decode b_M_grind 5 = .ok (.ifCond .ne 9, 3) := by decide +kernel
theorem d_M_grind_8 : decode b_M_grind 8 = .ok (.aload_n 0, 1) := by decide +kernel
theorem d_M_grind_9 : decode b_M_grind 9 = .ok (.iconst 1, 1) := by decide +kernel
theorem d_M_grind_10 : decode b_M_grind 10 = .ok (.invokevirtual 121, 3) := by decide +kernel
theorem d_M_grind_13 : decode b_M_grind 13 = .ok (.ireturn, 1) := by decide +kernel
theorem d_M_grind_14 : decode b_M_grind 14 = .ok (.aload_n 0, 1) := by decide +kernel
theorem d_M_grind_15 : decode b_M_grind 15 = .ok (.iload_n 1, 1) := by decide +kernel
theorem d_M_grind_16 : decode b_M_grind 16 = .ok (.aload_n 0, 1) := by decide +kernel
theorem d_M_grind_17 : decode b_M_grind 17 = .ok (.getfield 7, 3) := by decide +kernel
theorem d_M_grind_20 : decode b_M_grind 20 = .ok (.bipush 6, 2) := by decide +kernel
theorem d_M_grind_22 : decode b_M_grind 22 = .ok (.iaload, 1) := by decide +kernel
theorem d_M_grind_23 : decode b_M_grind 23 = .ok (.invokevirtual 316, 3) := by decide +kernel
theorem d_M_grind_26 : decode b_M_grind 26 = .ok (.istore_n 2, 1) := by decide +kernel
theorem d_M_grind_27 : decode b_M_grind 27 = .ok (.aload_n 0, 1) := by decide +kernel
theorem d_M_grind_28 : decode b_M_grind 28 = .ok (.iload_n 1, 1) := by decide +kernel
theorem d_M_grind_29 : decode b_M_grind 29 = .ok (.invokevirtual 352, 3) := by decide +kernel
theorem d_M_grind_32 : decode b_M_grind 32 = .ok (.ifCond .eq 11, 3) := by decide +kernel
theorem d_M_grind_35 : decode b_M_grind 35 = .ok (.aload_n 0, 1) := by decide +kernel
theorem d_M_grind_36 : decode b_M_grind 36 = .ok (.iload_n 2, 1) := by decide +kernel
theorem d_M_grind_37 : decode b_M_grind 37 = .ok (.invokevirtual 125, 3) := by decide +kernel
theorem d_M_grind_40 : decode b_M_grind 40 = .ok (.goto 9, 3) := by decide +kernel
theorem d_M_grind_43 : decode b_M_grind 43 = .ok (.aload_n 0, 1) := by decide +kernel
theorem d_M_grind_44 : decode b_M_grind 44 = .ok (.bipush 7, 2) := by decide +kernel
theorem d_M_grind_46 : decode b_M_grind 46 = .ok (.invokevirtual 121, 3) := by decide +kernel
theorem d_M_grind_49 : decode b_M_grind 49 = .ok (.ireturn, 1) := by decide +kernel
theorem d_M_grinds_0 : decode b_M_grinds 0 = .ok (.aload_n 0, 1) := by decide +kernel
theorem d_M_grinds_1 : decode b_M_grinds 1 = .ok (.getfield 7, 3) := by decide +kernel
theorem d_M_grinds_4 : decode b_M_grinds 4 = .ok (.bipush 6, 2) := by decide +kernel
theorem d_M_grinds_6 : decode b_M_grinds 6 = .ok (.iaload, 1) := by decide +kernel
theorem d_M_grinds_7 : decode b_M_grinds 7 = .ok (.iload_n 1, 1) := by decide +kernel
theorem d_M_grinds_8 : decode b_M_grinds 8 = .ok (.if_icmp .eq 7, 3) := by decide +kernel
theorem d_M_grinds_11 : decode b_M_grinds 11 = .ok (.iconst 1, 1) := by decide +kernel
theorem d_M_grinds_12 : decode b_M_grinds 12 = .ok (.goto 4, 3) := by decide +kernel
theorem d_M_grinds_15 : decode b_M_grinds 15 = .ok (.iconst 0, 1) := by decide +kernel
theorem d_M_grinds_16 : decode b_M_grinds 16 = .ok (.istore_n 2, 1) := by decide +kernel
theorem d_M_grinds_17 : decode b_M_grinds 17 = .ok (.aload_n 0, 1) := by decide +kernel
theorem d_M_grinds_18 : decode b_M_grinds 18 = .ok (.getfield 7, 3) := by decide +kernel
theorem d_M_grinds_21 : decode b_M_grinds 21 = .ok (.bipush 6, 2) := by decide +kernel
theorem d_M_grinds_23 : decode b_M_grinds 23 = .ok (.iload_n 1, 1) := by decide +kernel
theorem d_M_grinds_24 : decode b_M_grinds 24 = .ok (.iastore, 1) := by decide +kernel
theorem d_M_grinds_25 : decode b_M_grinds 25 = .ok (.iload_n 2, 1) := by decide +kernel
theorem d_M_grinds_26 : decode b_M_grinds 26 = .ok (.ireturn, 1) := by decide +kernel
theorem d_M_throwAt_0 : decode b_M_throwAt 0 = .ok (.aload_n 0, 1) := by decide +kernel
theorem d_M_throwAt_1 : decode b_M_throwAt 1 = .ok (.iload_n 1, 1) := by decide +kernel
theorem d_M_throwAt_2 : decode b_M_throwAt 2 = .ok (.invokevirtual 334, 3) := by decide +kernel
theorem d_M_throwAt_5 : decode b_M_throwAt 5 = .ok (.ifCond .ne 9, 3) := by decide +kernel
theorem d_M_throwAt_8 : decode b_M_throwAt 8 = .ok (.aload_n 0, 1) := by decide +kernel
theorem d_M_throwAt_9 : decode b_M_throwAt 9 = .ok (.iconst 1, 1) := by decide +kernel
theorem d_M_throwAt_10 : decode b_M_throwAt 10 = .ok (.invokevirtual 121, 3) := by decide +kernel
theorem d_M_throwAt_13 : decode b_M_throwAt 13 = .ok (.ireturn, 1) := by decide +kernel
theorem d_M_throwAt_14 : decode b_M_throwAt 14 = .ok (.aload_n 0, 1) := by decide +kernel
theorem d_M_throwAt_15 : decode b_M_throwAt 15 = .ok (.iload_n 1, 1) := by decide +kernel
theorem d_M_throwAt_16 : decode b_M_throwAt 16 = .ok (.invokevirtual 355, 3) := by decide +kernel
theorem d_M_throwAt_19 : decode b_M_throwAt 19 = .ok (.istore_n 2, 1) := by decide +kernel
theorem d_M_throwAt_20 : decode b_M_throwAt 20 = .ok (.iload_n 2, 1) := by decide +kernel
theorem d_M_throwAt_21 : decode b_M_throwAt 21 = .ok (.ifCond .ne 12, 3) := by decide +kernel
theorem d_M_throwAt_24 : decode b_M_throwAt 24 = .ok (.aload_n 0, 1) := by decide +kernel
theorem d_M_throwAt_25 : decode b_M_throwAt 25 = .ok (.bipush 7, 2) := by decide +kernel
theorem d_M_throwAt_27 : decode b_M_throwAt 27 = .ok (.invokevirtual 121, 3) := by decide +kernel
theorem d_M_throwAt_30 : decode b_M_throwAt 30 = .ok (.goto 8, 3) := by decide +kernel
theorem d_M_throwAt_33 : decode b_M_throwAt 33 = .ok (.aload_n 0, 1) := by decide +kernel
theorem d_M_throwAt_34 : decode b_M_throwAt 34 = .ok (.iload_n 2, 1) := by decide +kernel
theorem d_M_throwAt_35 : decode b_M_throwAt 35 = .ok (.invokevirtual 125, 3) := by decide +kernel
theorem d_M_throwAt_38 : decode b_M_throwAt 38 = .ok (.ireturn, 1) := by decide +kernel
theorem d_M_hits_0 : decode b_M_hits 0 = .ok (.aload_n 0, 1) := by decide +kernel
theorem d_M_hits_1 : decode b_M_hits 1 = .ok (.iload_n 1, 1) := by decide +kernel
theorem d_M_hits_2 : decode b_M_hits 2 = .ok (.iconst 1, 1) := by decide +kernel
theorem d_M_hits_3 : decode b_M_hits 3 = .ok (.invokevirtual 337, 3) := by decide +kernel
theorem d_M_hits_6 : decode b_M_hits 6 = .ok (.istore_n 2, 1) := by decide +kernel
theorem d_M_hits_7 : decode b_M_hits 7 = .ok (.iconst 0, 1) := by decide +kernel
theorem d_M_hits_8 : decode b_M_hits 8 = .ok (.istore_n 3, 1) := by decide +kernel
theorem d_M_hits_9 : decode b_M_hits 9 = .ok (.iload_n 3, 1) := by decide +kernel
theorem d_M_hits_10 : decode b_M_hits 10 = .ok (.aload_n 0, 1) := by decide +kernel
theorem d_M_hits_11 : decode b_M_hits 11 = .ok (.getfield 7, 3) := by decide +kernel
theorem d_M_hits_14 : decode b_M_hits 14 = .ok (.iconst 3, 1) := by decide +kernel
theorem d_M_hits_15 : decode b_M_hits 15 = .ok (.iaload, 1) := by decide +kernel
theorem d_M_hits_16 : decode b_M_hits 16 = .ok (.if_icmp .ge 30, 3) := by decide +kernel
theorem d_M_hits_19 : decode b_M_hits 19 = .ok (.aload_n 0, 1) := by decide +kernel
theorem d_M_hits_20 : decode b_M_hits 20 = .ok (.iload_n 2, 1) := by decide +kernel
theorem d_M_hits_21 : decode b_M_hits 21 = .ok (.iload_n 3, 1) := by decide +kernel
theorem d_M_hits_22 : decode b_M_hits 22 = .ok (.invokevirtual 251, 3) := by decide +kernel
theorem d_M_hits_25 : decode b_M_hits 25 = .ok (.ifCond .eq 15, 3) := by decide +kernel
theorem d_M_hits_28 : decode b_M_hits 28 = .ok (.aload_n 0, 1) := by decide +kernel
theorem d_M_hits_29 : decode b_M_hits 29 = .ok (.getfield 7, 3) := by decide +kernel
theorem d_M_hits_32 : decode b_M_hits 32 = .ok (.iload_n 3, 1) := by decide +kernel
theorem d_M_hits_33 : decode b_M_hits 33 = .ok (.invokestatic 241, 3) := by decide +kernel
theorem d_M_hits_36 : decode b_M_hits 36 = .ok (.iconst 3, 1) := by decide +kernel
theorem d_M_hits_37 : decode b_M_hits 37 = .ok (.iadd, 1) := by decide +kernel
theorem d_M_hits_38 : decode b_M_hits 38 = .ok (.iconst 1, 1) := by decide +kernel
theorem d_M_hits_39 : decode b_M_hits 39 = .ok (.iastore, 1) := by decide +kernel
theorem d_M_hits_40 : decode b_M_hits 40 = .ok (.iinc 3 1, 3) := by decide +kernel
theorem d_M_hits_43 : decode b_M_hits 43 = .ok (.goto (-34), 3) := by decide +kernel
theorem d_M_hits_46 : decode b_M_hits 46 = .ok (.iload_n 2, 1) := by decide +kernel
theorem d_M_hits_47 : decode b_M_hits 47 = .ok (.ireturn, 1) := by decide +kernel
