theorem d_Tokens_init_0 : decode b_Tokens_init 0 = .ok (.aload_n 0, 1) := by decide +kernel
theorem d_Tokens_init_1 : decode b_Tokens_init 1 = .ok (.invokespecial 3, 3) := by decide +kernel
theorem d_Tokens_init_4 : decode b_Tokens_init 4 = .ok (.aload_n 0, 1) := by decide +kernel
theorem d_Tokens_init_5 : decode b_Tokens_init 5 = .ok (.sipush 900, 3) := by decide +kernel
theorem d_Tokens_init_8 : decode b_Tokens_init 8 = .ok (.newarray .byte, 2) := by decide +kernel
theorem d_Tokens_init_10 : decode b_Tokens_init 10 = .ok (.putfield 11, 3) := by decide +kernel
theorem d_Tokens_init_13 : decode b_Tokens_init 13 = .ok (.aload_n 0, 1) := by decide +kernel
theorem d_Tokens_init_14 : decode b_Tokens_init 14 = .ok (.bipush 25, 2) := by decide +kernel
theorem d_Tokens_init_16 : decode b_Tokens_init 16 = .ok (.newarray .long, 2) := by decide +kernel
theorem d_Tokens_init_18 : decode b_Tokens_init 18 = .ok (.putfield 15, 3) := by decide +kernel
theorem d_Tokens_init_21 : decode b_Tokens_init 21 = .ok (.aload_n 0, 1) := by decide +kernel
theorem d_Tokens_init_22 : decode b_Tokens_init 22 = .ok (.sipush 901, 3) := by decide +kernel
theorem d_Tokens_init_25 : decode b_Tokens_init 25 = .ok (.newarray .int, 2) := by decide +kernel
theorem d_Tokens_init_27 : decode b_Tokens_init 27 = .ok (.putfield 19, 3) := by decide +kernel
theorem d_Tokens_init_30 : decode b_Tokens_init 30 = .ok (.aload_n 0, 1) := by decide +kernel
theorem d_Tokens_init_31 : decode b_Tokens_init 31 = .ok (.sipush 901, 3) := by decide +kernel
theorem d_Tokens_init_34 : decode b_Tokens_init 34 = .ok (.newarray .int, 2) := by decide +kernel
theorem d_Tokens_init_36 : decode b_Tokens_init 36 = .ok (.putfield 23, 3) := by decide +kernel
theorem d_Tokens_init_39 : decode b_Tokens_init 39 = .ok (.aload_n 0, 1) := by decide +kernel
theorem d_Tokens_init_40 : decode b_Tokens_init 40 = .ok (.sipush 901, 3) := by decide +kernel
theorem d_Tokens_init_43 : decode b_Tokens_init 43 = .ok (.newarray .long, 2) := by decide +kernel
theorem d_Tokens_init_45 : decode b_Tokens_init 45 = .ok (.putfield 26, 3) := by decide +kernel
theorem d_Tokens_init_48 : decode b_Tokens_init 48 = .ok (.aload_n 0, 1) := by decide +kernel
theorem d_Tokens_init_49 : decode b_Tokens_init 49 = .ok (.iconst 0, 1) := by decide +kernel
theorem d_Tokens_init_50 : decode b_Tokens_init 50 = .ok (.putfield 29, 3) := by decide +kernel
theorem d_Tokens_init_53 : decode b_Tokens_init 53 = .ok (.aload_n 0, 1) := by decide +kernel
theorem d_Tokens_init_54 : decode b_Tokens_init 54 = .ok (.iconst 0, 1) := by decide +kernel
theorem d_Tokens_init_55 : decode b_Tokens_init 55 = .ok (.putfield 33, 3) := by decide +kernel
theorem d_Tokens_init_58 : decode b_Tokens_init 58 = .ok (.aload_n 0, 1) := by decide +kernel
theorem d_Tokens_init_59 : decode b_Tokens_init 59 = .ok (.iconst 0, 1) := by decide +kernel
theorem d_Tokens_init_60 : decode b_Tokens_init 60 = .ok (.putfield 36, 3) := by decide +kernel
theorem d_Tokens_init_63 : decode b_Tokens_init 63 = .ok (.aload_n 0, 1) := by decide +kernel
theorem d_Tokens_init_64 : decode b_Tokens_init 64 = .ok (.iconst 0, 1) := by decide +kernel
theorem d_Tokens_init_65 : decode b_Tokens_init 65 = .ok (.putfield 39, 3) := by decide +kernel
theorem d_Tokens_init_68 : decode b_Tokens_init 68 = .ok (.aload_n 0, 1) := by decide +kernel
theorem d_Tokens_init_69 : decode b_Tokens_init 69 = .ok (.iconst (-1), 1) := by decide +kernel
theorem d_Tokens_init_70 : decode b_Tokens_init 70 = .ok (.putfield 42, 3) := by decide +kernel
theorem d_Tokens_init_73 : decode b_Tokens_init 73 = .ok (.aload_n 0, 1) := by decide +kernel
theorem d_Tokens_init_74 : decode b_Tokens_init 74 = .ok (.iconst (-1), 1) := by decide +kernel
theorem d_Tokens_init_75 : decode b_Tokens_init 75 = .ok (.putfield 45, 3) := by decide +kernel
theorem d_Tokens_init_78 : decode b_Tokens_init 78 = .ok (.aload_n 0, 1) := by decide +kernel
theorem d_Tokens_init_79 : decode b_Tokens_init 79 = .ok (.iconst (-1), 1) := by decide +kernel
theorem d_Tokens_init_80 : decode b_Tokens_init 80 = .ok (.putfield 48, 3) := by decide +kernel
theorem d_Tokens_init_83 : decode b_Tokens_init 83 = .ok (.iconst 0, 1) := by decide +kernel
theorem d_Tokens_init_84 : decode b_Tokens_init 84 = .ok (.istore_n 1, 1) := by decide +kernel
theorem d_Tokens_init_85 : decode b_Tokens_init 85 = .ok (.lconst 0, 1) := by decide +kernel
theorem d_Tokens_init_86 : decode b_Tokens_init 86 = .ok (.lstore_n 2, 1) := by decide +kernel
theorem d_Tokens_init_87 : decode b_Tokens_init 87 = .ok (.iconst 0, 1) := by decide +kernel
theorem d_Tokens_init_88 : decode b_Tokens_init 88 = .ok (.istore 4, 2) := by decide +kernel
theorem d_Tokens_init_90 : decode b_Tokens_init 90 = .ok (.iload 4, 2) := by decide +kernel
theorem d_Tokens_init_92 : decode b_Tokens_init 92 = .ok (.ldc 51, 2) := by decide +kernel
theorem d_Tokens_init_94 : decode b_Tokens_init 94 = .ok (.invokevirtual 53, 3) := by decide +kernel
theorem d_Tokens_init_97 : decode b_Tokens_init 97 = .ok (.if_icmp .ge 53, 3) := by decide +kernel
theorem d_Tokens_init_100 : decode b_Tokens_init 100 = .ok (.ldc 51, 2) := by decide +kernel
theorem d_Tokens_init_102 : decode b_Tokens_init 102 = .ok (.iload 4, 2) := by decide +kernel
theorem d_Tokens_init_104 : decode b_Tokens_init 104 = .ok (.invokevirtual 58, 3) := by decide +kernel
theorem d_Tokens_init_107 : decode b_Tokens_init 107 = .ok (.istore 5, 2) := by decide +kernel
theorem d_Tokens_init_109 : decode b_Tokens_init 109 = .ok (.iload 5, 2) := by decide +kernel
theorem d_Tokens_init_111 : decode b_Tokens_init 111 = .ok (.bipush 32, 2) := by decide +kernel
theorem d_Tokens_init_113 : decode b_Tokens_init 113 = .ok (.if_icmp .eq 13, 3) := by decide +kernel
theorem d_Tokens_init_116 : decode b_Tokens_init 116 = .ok (.lload_n 2, 1) := by decide +kernel
theorem d_Tokens_init_117 : decode b_Tokens_init 117 = .ok (.iload 5, 2) := by decide +kernel
theorem d_Tokens_init_119 : decode b_Tokens_init 119 = .ok (.invokestatic 62, 3) := by decide +kernel
theorem d_Tokens_init_122 : decode b_Tokens_init 122 = .ok (.lstore_n 2, 1) := by decide +kernel
theorem d_Tokens_init_123 : decode b_Tokens_init 123 = .ok (.goto 21, 3) := by decide +kernel
theorem d_Tokens_init_126 : decode b_Tokens_init 126 = .ok (.iload_n 1, 1) := by decide +kernel
theorem d_Tokens_init_127 : decode b_Tokens_init 127 = .ok (.bipush 25, 2) := by decide +kernel
theorem d_Tokens_init_129 : decode b_Tokens_init 129 = .ok (.if_icmp .ge 15, 3) := by decide +kernel
theorem d_Tokens_init_132 : decode b_Tokens_init 132 = .ok (.aload_n 0, 1) := by decide +kernel
theorem d_Tokens_init_133 : decode b_Tokens_init 133 = .ok (.getfield 15, 3) := by decide +kernel
theorem d_Tokens_init_136 : decode b_Tokens_init 136 = .ok (.iload_n 1, 1) := by decide +kernel
theorem d_Tokens_init_137 : decode b_Tokens_init 137 = .ok (.lload_n 2, 1) := by decide +kernel
theorem d_Tokens_init_138 : decode b_Tokens_init 138 = .ok (.lastore, 1) := by decide +kernel
theorem d_Tokens_init_139 : decode b_Tokens_init 139 = .ok (.iinc 1 1, 3) := by decide +kernel
theorem d_Tokens_init_142 : decode b_Tokens_init 142 = .ok (.lconst 0, 1) := by decide +kernel
theorem d_Tokens_init_143 : decode b_Tokens_init 143 = .ok (.lstore_n 2, 1) := by decide +kernel
theorem d_Tokens_init_144 : decode b_Tokens_init 144 = .ok (.iinc 4 1, 3) := by decide +kernel
theorem d_Tokens_init_147 : decode b_Tokens_init 147 = .ok (.goto (-57), 3) := by decide +kernel
theorem d_Tokens_init_150 : decode b_Tokens_init 150 = .ok (.return_, 1) := by decide +kernel
theorem d_String_length_0 : decode b_String_length 0 = .ok (.aload_n 0, 1) := by decide +kernel
theorem d_String_length_1 : decode b_String_length 1 = .ok (.getfield 9, 3) := by decide +kernel
theorem d_String_length_4 : decode b_String_length 4 = .ok (.arraylength, 1) := by decide +kernel
theorem d_String_length_5 : decode b_String_length 5 = .ok (.aload_n 0, 1) := by decide +kernel
theorem d_String_length_6 : decode b_String_length 6 = .ok (.invokevirtual 335, 3) := by decide +kernel
theorem d_String_length_9 : decode b_String_length 9 = .ok (.ishr, 1) := by decide +kernel
theorem d_String_length_10 : decode b_String_length 10 = .ok (.ireturn, 1) := by decide +kernel
theorem d_String_coder_0 : decode b_String_coder 0 = .ok (.getstatic 38, 3) := by decide +kernel
theorem d_String_coder_3 : decode b_String_coder 3 = .ok (.ifCond .eq 10, 3) := by decide +kernel
theorem d_String_coder_6 : decode b_String_coder 6 = .ok (.aload_n 0, 1) := by decide +kernel
theorem d_String_coder_7 : decode b_String_coder 7 = .ok (.getfield 15, 3) := by decide +kernel
theorem d_String_coder_10 : decode b_String_coder 10 = .ok (.goto 4, 3) := by decide +kernel
theorem d_String_coder_13 : decode b_String_coder 13 = .ok (.iconst 1, 1) := by decide +kernel
theorem d_String_coder_14 : decode b_String_coder 14 = .ok (.ireturn, 1) := by decide +kernel
theorem d_String_charAt_0 : decode b_String_charAt 0 = .ok (.aload_n 0, 1) := by decide +kernel
theorem d_String_charAt_1 : decode b_String_charAt 1 = .ok (.invokevirtual 492, 3) := by decide +kernel
theorem d_String_charAt_4 : decode b_String_charAt 4 = .ok (.ifCond .eq 12, 3) := by decide +kernel
theorem d_String_charAt_7 : decode b_String_charAt 7 = .ok (.aload_n 0, 1) := by decide +kernel
theorem d_String_charAt_8 : decode b_String_charAt 8 = .ok (.getfield 9, 3) := by decide +kernel
theorem d_String_charAt_11 : decode b_String_charAt 11 = .ok (.iload_n 1, 1) := by decide +kernel
theorem d_String_charAt_12 : decode b_String_charAt 12 = .ok (.invokestatic 495, 3) := by decide +kernel
theorem d_String_charAt_15 : decode b_String_charAt 15 = .ok (.ireturn, 1) := by decide +kernel
theorem d_String_charAt_16 : decode b_String_charAt 16 = .ok (.aload_n 0, 1) := by decide +kernel
theorem d_String_charAt_17 : decode b_String_charAt 17 = .ok (.getfield 9, 3) := by decide +kernel
theorem d_String_charAt_20 : decode b_String_charAt 20 = .ok (.iload_n 1, 1) := by decide +kernel
theorem d_String_charAt_21 : decode b_String_charAt 21 = .ok (.invokestatic 498, 3) := by decide +kernel
theorem d_String_charAt_24 : decode b_String_charAt 24 = .ok (.ireturn, 1) := by decide +kernel
theorem d_String_isLatin1_0 : decode b_String_isLatin1 0 = .ok (.getstatic 38, 3) := by decide +kernel
theorem d_String_isLatin1_3 : decode b_String_isLatin1 3 = .ok (.ifCond .eq 14, 3) := by decide +kernel
theorem d_String_isLatin1_6 : decode b_String_isLatin1 6 = .ok (.aload_n 0, 1) := by decide +kernel
theorem d_String_isLatin1_7 : decode b_String_isLatin1 7 = .ok (.getfield 15, 3) := by decide +kernel
theorem d_String_isLatin1_10 : decode b_String_isLatin1 10 = .ok (.ifCond .ne 7, 3) := by decide +kernel
theorem d_String_isLatin1_13 : decode b_String_isLatin1 13 = .ok (.iconst 1, 1) := by decide +kernel
theorem d_String_isLatin1_14 : decode b_String_isLatin1 14 = .ok (.goto 4, 3) := by decide +kernel
theorem d_String_isLatin1_17 : decode b_String_isLatin1 17 = .ok (.iconst 0, 1) := by decide +kernel
theorem d_String_isLatin1_18 : decode b_String_isLatin1 18 = .ok (.ireturn, 1) := by decide +kernel
theorem d_StringLatin1_charAt_0 : decode b_StringLatin1_charAt 0 = .ok (.iload_n 1, 1) := by decide +kernel
theorem d_StringLatin1_charAt_1 : decode b_StringLatin1_charAt 1 = .ok (.aload_n 0, 1) := by decide +kernel
theorem d_StringLatin1_charAt_2 : decode b_StringLatin1_charAt 2 = .ok (.arraylength, 1) := by decide +kernel
theorem d_StringLatin1_charAt_3 : decode b_StringLatin1_charAt 3 = .ok (.invokestatic 9, 3) := by decide +kernel
theorem d_StringLatin1_charAt_6 : decode b_StringLatin1_charAt 6 = .ok (.aload_n 0, 1) := by decide +kernel
theorem d_StringLatin1_charAt_7 : decode b_StringLatin1_charAt 7 = .ok (.iload_n 1, 1) := by decide +kernel
theorem d_StringLatin1_charAt_8 : decode b_StringLatin1_charAt 8 = .ok (.baload, 1) := by decide +kernel
theorem d_StringLatin1_charAt_9 : decode b_StringLatin1_charAt 9 = .ok (.sipush 255, 3) := by decide +kernel
theorem d_StringLatin1_charAt_12 : decode b_StringLatin1_charAt 12 = .ok (.iand, 1) := by decide +kernel
theorem d_StringLatin1_charAt_13 : decode b_StringLatin1_charAt 13 = .ok (.i2c, 1) := by decide +kernel
theorem d_StringLatin1_charAt_14 : decode b_StringLatin1_charAt 14 = .ok (.ireturn, 1) := by decide +kernel
theorem d_String_checkIndex_0 : decode b_String_checkIndex 0 = .ok (.iload_n 0, 1) := by decide +kernel
theorem d_String_checkIndex_1 : decode b_String_checkIndex 1 = .ok (.iload_n 1, 1) := by decide +kernel
theorem d_String_checkIndex_2 : decode b_String_checkIndex 2 = .ok (.getstatic 1053, 3) := by decide +kernel
theorem d_String_checkIndex_5 : decode b_String_checkIndex 5 = .ok (.invokestatic 1059, 3) := by decide +kernel
theorem d_String_checkIndex_8 : decode b_String_checkIndex 8 = .ok (.pop, 1) := by decide +kernel
theorem d_String_checkIndex_9 : decode b_String_checkIndex 9 = .ok (.return_, 1) := by decide +kernel
theorem d_Preconditions_checkIndex_0 : decode b_Preconditions_checkIndex 0 = .ok (.iload_n 0, 1) := by decide +kernel
theorem d_Preconditions_checkIndex_1 : decode b_Preconditions_checkIndex 1 = .ok (.ifCond .lt 8, 3) := by decide +kernel
theorem d_Preconditions_checkIndex_4 : decode b_Preconditions_checkIndex 4 = .ok (.iload_n 0, 1) := by decide +kernel
theorem d_Preconditions_checkIndex_5 : decode b_Preconditions_checkIndex 5 = .ok (.iload_n 1, 1) := by decide +kernel
theorem d_Preconditions_checkIndex_6 : decode b_Preconditions_checkIndex 6 = .ok (.if_icmp .lt 10, 3) := by decide +kernel
theorem d_Preconditions_checkIndex_9 : decode b_Preconditions_checkIndex 9 = .ok (.aload_n 2, 1) := by decide +kernel
theorem d_Preconditions_checkIndex_10 : decode b_Preconditions_checkIndex 10 = .ok (.iload_n 0, 1) := by decide +kernel
theorem d_Preconditions_checkIndex_11 : decode b_Preconditions_checkIndex 11 = .ok (.iload_n 1, 1) := by decide +kernel
theorem d_Preconditions_checkIndex_12 : decode b_Preconditions_checkIndex 12 = .ok (.invokestatic 95, 3) := by decide +kernel
theorem d_Preconditions_checkIndex_15 : decode b_Preconditions_checkIndex 15 = .ok (.athrow, 1) := by decide +kernel
theorem d_Preconditions_checkIndex_16 : decode b_Preconditions_checkIndex 16 = .ok (.iload_n 0, 1) := by decide +kernel
theorem d_Preconditions_checkIndex_17 : decode b_Preconditions_checkIndex 17 = .ok (.ireturn, 1) := by decide +kernel
theorem d_StringUTF16_charAt_0 : decode b_StringUTF16_charAt 0 = .ok (.iload_n 1, 1) := by decide +kernel
theorem d_StringUTF16_charAt_1 : decode b_StringUTF16_charAt 1 = .ok (.aload_n 0, 1) := by decide +kernel
theorem d_StringUTF16_charAt_2 : decode b_StringUTF16_charAt 2 = .ok (.invokestatic 67, 3) := by decide +kernel
theorem d_StringUTF16_charAt_5 : decode b_StringUTF16_charAt 5 = .ok (.aload_n 0, 1) := by decide +kernel
theorem d_StringUTF16_charAt_6 : decode b_StringUTF16_charAt 6 = .ok (.iload_n 1, 1) := by decide +kernel
theorem d_StringUTF16_charAt_7 : decode b_StringUTF16_charAt 7 = .ok (.invokestatic 71, 3) := by decide +kernel
theorem d_StringUTF16_charAt_10 : decode b_StringUTF16_charAt 10 = .ok (.ireturn, 1) := by decide +kernel
theorem d_StringUTF16_checkIndex_0 : decode b_StringUTF16_checkIndex 0 = .ok (.iload_n 0, 1) := by decide +kernel
theorem d_StringUTF16_checkIndex_1 : decode b_StringUTF16_checkIndex 1 = .ok (.aload_n 1, 1) := by decide +kernel
theorem d_StringUTF16_checkIndex_2 : decode b_StringUTF16_checkIndex 2 = .ok (.invokestatic 48, 3) := by decide +kernel
theorem d_StringUTF16_checkIndex_5 : decode b_StringUTF16_checkIndex 5 = .ok (.invokestatic 414, 3) := by decide +kernel
theorem d_StringUTF16_checkIndex_8 : decode b_StringUTF16_checkIndex 8 = .ok (.return_, 1) := by decide +kernel
theorem d_StringUTF16_length_0 : decode b_StringUTF16_length 0 = .ok (.aload_n 0, 1) := by decide +kernel
theorem d_StringUTF16_length_1 : decode b_StringUTF16_length 1 = .ok (.arraylength, 1) := by decide +kernel
theorem d_StringUTF16_length_2 : decode b_StringUTF16_length 2 = .ok (.iconst 1, 1) := by decide +kernel
theorem d_StringUTF16_length_3 : decode b_StringUTF16_length 3 = .ok (.ishr, 1) := by decide +kernel
theorem d_StringUTF16_length_4 : decode b_StringUTF16_length 4 = .ok (.ireturn, 1) := by decide +kernel
theorem d_StringUTF16_getChar_0 : decode b_StringUTF16_getChar 0 = .ok (.getstatic 44, 3) := by decide +kernel
theorem d_StringUTF16_getChar_3 : decode b_StringUTF16_getChar 3 = .ok (.ifCond .ne 25, 3) := by decide +kernel
theorem d_StringUTF16_getChar_6 : decode b_StringUTF16_getChar 6 = .ok (.iload_n 1, 1) := by decide +kernel
theorem d_StringUTF16_getChar_7 : decode b_StringUTF16_getChar 7 = .ok (.ifCond .lt 11, 3) := by decide +kernel
theorem d_StringUTF16_getChar_10 : decode b_StringUTF16_getChar 10 = .ok (.iload_n 1, 1) := by decide +kernel
theorem d_StringUTF16_getChar_11 : decode b_StringUTF16_getChar 11 = .ok (.aload_n 0, 1) := by decide +kernel
theorem d_StringUTF16_getChar_12 : decode b_StringUTF16_getChar 12 = .ok (.invokestatic 48, 3) := by decide +kernel
theorem d_StringUTF16_getChar_15 : decode b_StringUTF16_getChar 15 = .ok (.if_icmp .lt 13, 3) := by decide +kernel
theorem d_StringUTF16_getChar_18 : decode b_StringUTF16_getChar 18 = .ok (.new 52, 3) := by decide +kernel
theorem d_StringUTF16_getChar_21 : decode b_StringUTF16_getChar 21 = .ok (.dup, 1) := by decide +kernel
theorem d_StringUTF16_getChar_22 : decode b_StringUTF16_getChar 22 = .ok (.ldc 54, 2) := by decide +kernel
theorem d_StringUTF16_getChar_24 : decode b_StringUTF16_getChar 24 = .ok (.invokespecial 56, 3) := by decide +kernel
theorem d_StringUTF16_getChar_27 : decode b_StringUTF16_getChar 27 = .ok (.athrow, 1) := by decide +kernel
theorem d_StringUTF16_getChar_28 : decode b_StringUTF16_getChar 28 = .ok (.iload_n 1, 1) := by decide +kernel
theorem d_StringUTF16_getChar_29 : decode b_StringUTF16_getChar 29 = .ok (.iconst 1, 1) := by decide +kernel
theorem d_StringUTF16_getChar_30 : decode b_StringUTF16_getChar 30 = .ok (.ishl, 1) := by decide +kernel
theorem d_StringUTF16_getChar_31 : decode b_StringUTF16_getChar 31 = .ok (.istore_n 1, 1) := by decide +kernel
theorem d_StringUTF16_getChar_32 : decode b_StringUTF16_getChar 32 = .ok (.aload_n 0, 1) := by decide +kernel
theorem d_StringUTF16_getChar_33 : decode b_StringUTF16_getChar 33 = .ok (.iload_n 1, 1) := by decide +kernel
theorem d_StringUTF16_getChar_34 : decode b_StringUTF16_getChar 34 = .ok (.iinc 1 1, 3) := by decide +kernel
theorem d_StringUTF16_getChar_37 : decode b_StringUTF16_getChar 37 = .ok (.baload, 1) := by decide +kernel
theorem d_StringUTF16_getChar_38 : decode b_StringUTF16_getChar 38 = .ok (.sipush 255, 3) := by decide +kernel
theorem d_StringUTF16_getChar_41 : decode b_StringUTF16_getChar 41 = .ok (.iand, 1) := by decide +kernel
theorem d_StringUTF16_getChar_42 : decode b_StringUTF16_getChar 42 = .ok (.getstatic 59, 3) := by decide +kernel
theorem d_StringUTF16_getChar_45 : decode b_StringUTF16_getChar 45 = .ok (.ishl, 1) := by decide +kernel
theorem d_StringUTF16_getChar_46 : decode b_StringUTF16_getChar 46 = .ok (.aload_n 0, 1) := by decide +kernel
theorem d_StringUTF16_getChar_47 : decode b_StringUTF16_getChar 47 = .ok (.iload_n 1, 1) := by decide +kernel
theorem d_StringUTF16_getChar_48 : decode b_StringUTF16_getChar 48 = .ok (.baload, 1) := by decide +kernel
theorem d_StringUTF16_getChar_49 : decode b_StringUTF16_getChar 49 = .ok (.sipush 255, 3) := by decide +kernel
theorem d_StringUTF16_getChar_52 : decode b_StringUTF16_getChar 52 = .ok (.iand, 1) := by decide +kernel
theorem d_StringUTF16_getChar_53 : decode b_StringUTF16_getChar 53 = .ok (.getstatic 63, 3) := by decide +kernel
theorem d_StringUTF16_getChar_56 : decode b_StringUTF16_getChar 56 = .ok (.ishl, 1) := by decide +kernel
theorem d_StringUTF16_getChar_57 : decode b_StringUTF16_getChar 57 = .ok (.ior, 1) := by decide +kernel
theorem d_StringUTF16_getChar_58 : decode b_StringUTF16_getChar 58 = .ok (.i2c, 1) := by decide +kernel
theorem d_StringUTF16_getChar_59 : decode b_StringUTF16_getChar 59 = .ok (.ireturn, 1) := by decide +kernel
theorem d_Tokens_withLetter_0 : decode b_Tokens_withLetter 0 = .ok (.lload_n 0, 1) := by decide +kernel
theorem d_Tokens_withLetter_1 : decode b_Tokens_withLetter 1 = .ok (.ldc2_w 113, 3) := by decide +kernel
theorem d_Tokens_withLetter_4 : decode b_Tokens_withLetter 4 = .ok (.lmul, 1) := by decide +kernel
theorem d_Tokens_withLetter_5 : decode b_Tokens_withLetter 5 = .ok (.iload_n 2, 1) := by decide +kernel
theorem d_Tokens_withLetter_6 : decode b_Tokens_withLetter 6 = .ok (.bipush 97, 2) := by decide +kernel
theorem d_Tokens_withLetter_8 : decode b_Tokens_withLetter 8 = .ok (.isub, 1) := by decide +kernel
theorem d_Tokens_withLetter_9 : decode b_Tokens_withLetter 9 = .ok (.iconst 1, 1) := by decide +kernel
theorem d_Tokens_withLetter_10 : decode b_Tokens_withLetter 10 = .ok (.iadd, 1) := by decide +kernel
theorem d_Tokens_withLetter_11 : decode b_Tokens_withLetter 11 = .ok (.i2l, 1) := by decide +kernel
theorem d_Tokens_withLetter_12 : decode b_Tokens_withLetter 12 = .ok (.ladd, 1) := by decide +kernel
theorem d_Tokens_withLetter_13 : decode b_Tokens_withLetter 13 = .ok (.lreturn, 1) := by decide +kernel
theorem d_SquareReader_init_0 : decode b_SquareReader_init 0 = .ok (.aload_n 0, 1) := by decide +kernel
theorem d_SquareReader_init_1 : decode b_SquareReader_init 1 = .ok (.invokespecial 3, 3) := by decide +kernel
theorem d_SquareReader_init_4 : decode b_SquareReader_init 4 = .ok (.aload_n 0, 1) := by decide +kernel
theorem d_SquareReader_init_5 : decode b_SquareReader_init 5 = .ok (.iconst 0, 1) := by decide +kernel
theorem d_SquareReader_init_6 : decode b_SquareReader_init 6 = .ok (.putfield 9, 3) := by decide +kernel
theorem d_SquareReader_init_9 : decode b_SquareReader_init 9 = .ok (.aload_n 0, 1) := by decide +kernel
theorem d_SquareReader_init_10 : decode b_SquareReader_init 10 = .ok (.iconst 0, 1) := by decide +kernel
theorem d_SquareReader_init_11 : decode b_SquareReader_init 11 = .ok (.putfield 15, 3) := by decide +kernel
theorem d_SquareReader_init_14 : decode b_SquareReader_init 14 = .ok (.aload_n 0, 1) := by decide +kernel
theorem d_SquareReader_init_15 : decode b_SquareReader_init 15 = .ok (.iconst 0, 1) := by decide +kernel
theorem d_SquareReader_init_16 : decode b_SquareReader_init 16 = .ok (.putfield 18, 3) := by decide +kernel
theorem d_SquareReader_init_19 : decode b_SquareReader_init 19 = .ok (.return_, 1) := by decide +kernel
theorem d_DaysReader_init_0 : decode b_DaysReader_init 0 = .ok (.aload_n 0, 1) := by decide +kernel
theorem d_DaysReader_init_1 : decode b_DaysReader_init 1 = .ok (.invokespecial 3, 3) := by decide +kernel
theorem d_DaysReader_init_4 : decode b_DaysReader_init 4 = .ok (.aload_n 0, 1) := by decide +kernel
theorem d_DaysReader_init_5 : decode b_DaysReader_init 5 = .ok (.iconst 3, 1) := by decide +kernel
theorem d_DaysReader_init_6 : decode b_DaysReader_init 6 = .ok (.newarray .int, 2) := by decide +kernel
theorem d_DaysReader_init_8 : decode b_DaysReader_init 8 = .ok (.putfield 11, 3) := by decide +kernel
theorem d_DaysReader_init_11 : decode b_DaysReader_init 11 = .ok (.aload_n 0, 1) := by decide +kernel
theorem d_DaysReader_init_12 : decode b_DaysReader_init 12 = .ok (.iconst 0, 1) := by decide +kernel
theorem d_DaysReader_init_13 : decode b_DaysReader_init 13 = .ok (.putfield 15, 3) := by decide +kernel
theorem d_DaysReader_init_16 : decode b_DaysReader_init 16 = .ok (.return_, 1) := by decide +kernel
theorem d_Life_init_0 : decode b_Life_init 0 = .ok (.aload_n 0, 1) := by decide +kernel
theorem d_Life_init_1 : decode b_Life_init 1 = .ok (.invokespecial 3, 3) := by decide +kernel
theorem d_Life_init_4 : decode b_Life_init 4 = .ok (.aload_n 0, 1) := by decide +kernel
theorem d_Life_init_5 : decode b_Life_init 5 = .ok (.bipush 60, 2) := by decide +kernel
theorem d_Life_init_7 : decode b_Life_init 7 = .ok (.newarray .int, 2) := by decide +kernel
theorem d_Life_init_9 : decode b_Life_init 9 = .ok (.putfield 11, 3) := by decide +kernel
theorem d_Life_init_12 : decode b_Life_init 12 = .ok (.aload_n 0, 1) := by decide +kernel
theorem d_Life_init_13 : decode b_Life_init 13 = .ok (.iconst 0, 1) := by decide +kernel
theorem d_Life_init_14 : decode b_Life_init 14 = .ok (.putfield 17, 3) := by decide +kernel
theorem d_Life_init_17 : decode b_Life_init 17 = .ok (.aload_n 0, 1) := by decide +kernel
theorem d_Life_init_18 : decode b_Life_init 18 = .ok (.iconst 0, 1) := by decide +kernel
theorem d_Life_init_19 : decode b_Life_init 19 = .ok (.putfield 21, 3) := by decide +kernel
theorem d_Life_init_22 : decode b_Life_init 22 = .ok (.aload_n 0, 1) := by decide +kernel
theorem d_Life_init_23 : decode b_Life_init 23 = .ok (.iconst 0, 1) := by decide +kernel
theorem d_Life_init_24 : decode b_Life_init 24 = .ok (.putfield 24, 3) := by decide +kernel
theorem d_Life_init_27 : decode b_Life_init 27 = .ok (.aload_n 0, 1) := by decide +kernel
theorem d_Life_init_28 : decode b_Life_init 28 = .ok (.iconst 0, 1) := by decide +kernel
theorem d_Life_init_29 : decode b_Life_init 29 = .ok (.putfield 27, 3) := by decide +kernel
theorem d_Life_init_32 : decode b_Life_init 32 = .ok (.aload_n 0, 1) := by decide +kernel
theorem d_Life_init_33 : decode b_Life_init 33 = .ok (.iconst 0, 1) := by decide +kernel
theorem d_Life_init_34 : decode b_Life_init 34 = .ok (.putfield 31, 3) := by decide +kernel
theorem d_Life_init_37 : decode b_Life_init 37 = .ok (.aload_n 0, 1) := by decide +kernel
theorem d_Life_init_38 : decode b_Life_init 38 = .ok (.iconst 0, 1) := by decide +kernel
theorem d_Life_init_39 : decode b_Life_init 39 = .ok (.putfield 34, 3) := by decide +kernel
theorem d_Life_init_42 : decode b_Life_init 42 = .ok (.aload_n 0, 1) := by decide +kernel
theorem d_Life_init_43 : decode b_Life_init 43 = .ok (.iconst 0, 1) := by decide +kernel
theorem d_Life_init_44 : decode b_Life_init 44 = .ok (.putfield 37, 3) := by decide +kernel
theorem d_Life_init_47 : decode b_Life_init 47 = .ok (.aload_n 0, 1) := by decide +kernel
theorem d_Life_init_48 : decode b_Life_init 48 = .ok (.iconst 0, 1) := by decide +kernel
theorem d_Life_init_49 : decode b_Life_init 49 = .ok (.putfield 40, 3) := by decide +kernel
theorem d_Life_init_52 : decode b_Life_init 52 = .ok (.aload_n 0, 1) := by decide +kernel
theorem d_Life_init_53 : decode b_Life_init 53 = .ok (.iconst 0, 1) := by decide +kernel
theorem d_Life_init_54 : decode b_Life_init 54 = .ok (.putfield 43, 3) := by decide +kernel
theorem d_Life_init_57 : decode b_Life_init 57 = .ok (.aload_n 0, 1) := by decide +kernel
theorem d_Life_init_58 : decode b_Life_init 58 = .ok (.iconst 0, 1) := by decide +kernel
theorem d_Life_init_59 : decode b_Life_init 59 = .ok (.putfield 46, 3) := by decide +kernel
theorem d_Life_init_62 : decode b_Life_init 62 = .ok (.aload_n 0, 1) := by decide +kernel
theorem d_Life_init_63 : decode b_Life_init 63 = .ok (.iconst 0, 1) := by decide +kernel
theorem d_Life_init_64 : decode b_Life_init 64 = .ok (.putfield 49, 3) := by decide +kernel
theorem d_Life_init_67 : decode b_Life_init 67 = .ok (.return_, 1) := by decide +kernel
theorem d_Rows_init_0 : decode b_Rows_init 0 = .ok (.aload_n 0, 1) := by decide +kernel
theorem d_Rows_init_1 : decode b_Rows_init 1 = .ok (.invokespecial 3, 3) := by decide +kernel
theorem d_Rows_init_4 : decode b_Rows_init 4 = .ok (.aload_n 0, 1) := by decide +kernel
theorem d_Rows_init_5 : decode b_Rows_init 5 = .ok (.sipush 729, 3) := by decide +kernel
theorem d_Rows_init_8 : decode b_Rows_init 8 = .ok (.newarray .int, 2) := by decide +kernel
theorem d_Rows_init_10 : decode b_Rows_init 10 = .ok (.putfield 11, 3) := by decide +kernel
theorem d_Rows_init_13 : decode b_Rows_init 13 = .ok (.aload_n 0, 1) := by decide +kernel
theorem d_Rows_init_14 : decode b_Rows_init 14 = .ok (.bipush 6, 2) := by decide +kernel
theorem d_Rows_init_16 : decode b_Rows_init 16 = .ok (.newarray .int, 2) := by decide +kernel
theorem d_Rows_init_18 : decode b_Rows_init 18 = .ok (.putfield 15, 3) := by decide +kernel
theorem d_Rows_init_21 : decode b_Rows_init 21 = .ok (.aload_n 0, 1) := by decide +kernel
theorem d_Rows_init_22 : decode b_Rows_init 22 = .ok (.bipush 6, 2) := by decide +kernel
theorem d_Rows_init_24 : decode b_Rows_init 24 = .ok (.newarray .int, 2) := by decide +kernel
theorem d_Rows_init_26 : decode b_Rows_init 26 = .ok (.putfield 18, 3) := by decide +kernel
theorem d_Rows_init_29 : decode b_Rows_init 29 = .ok (.aload_n 0, 1) := by decide +kernel
theorem d_Rows_init_30 : decode b_Rows_init 30 = .ok (.bipush 6, 2) := by decide +kernel
theorem d_Rows_init_32 : decode b_Rows_init 32 = .ok (.newarray .int, 2) := by decide +kernel
theorem d_Rows_init_34 : decode b_Rows_init 34 = .ok (.putfield 21, 3) := by decide +kernel
theorem d_Rows_init_37 : decode b_Rows_init 37 = .ok (.aload_n 0, 1) := by decide +kernel
theorem d_Rows_init_38 : decode b_Rows_init 38 = .ok (.aconst_null, 1) := by decide +kernel
theorem d_Rows_init_39 : decode b_Rows_init 39 = .ok (.putfield 24, 3) := by decide +kernel
theorem d_Rows_init_42 : decode b_Rows_init 42 = .ok (.aload_n 0, 1) := by decide +kernel
theorem d_Rows_init_43 : decode b_Rows_init 43 = .ok (.iconst 0, 1) := by decide +kernel
theorem d_Rows_init_44 : decode b_Rows_init 44 = .ok (.putfield 28, 3) := by decide +kernel
theorem d_Rows_init_47 : decode b_Rows_init 47 = .ok (.return_, 1) := by decide +kernel
theorem d_Placings_init_0 : decode b_Placings_init 0 = .ok (.aload_n 0, 1) := by decide +kernel
theorem d_Placings_init_1 : decode b_Placings_init 1 = .ok (.invokespecial 3, 3) := by decide +kernel
theorem d_Placings_init_4 : decode b_Placings_init 4 = .ok (.aload_n 0, 1) := by decide +kernel
theorem d_Placings_init_5 : decode b_Placings_init 5 = .ok (.bipush 25, 2) := by decide +kernel
theorem d_Placings_init_7 : decode b_Placings_init 7 = .ok (.newarray .int, 2) := by decide +kernel
theorem d_Placings_init_9 : decode b_Placings_init 9 = .ok (.putfield 9, 3) := by decide +kernel
theorem d_Placings_init_12 : decode b_Placings_init 12 = .ok (.aload_n 0, 1) := by decide +kernel
theorem d_Placings_init_13 : decode b_Placings_init 13 = .ok (.bipush 16, 2) := by decide +kernel
theorem d_Placings_init_15 : decode b_Placings_init 15 = .ok (.newarray .int, 2) := by decide +kernel
theorem d_Placings_init_17 : decode b_Placings_init 17 = .ok (.putfield 15, 3) := by decide +kernel
theorem d_Placings_init_20 : decode b_Placings_init 20 = .ok (.aload_n 0, 1) := by decide +kernel
theorem d_Placings_init_21 : decode b_Placings_init 21 = .ok (.iconst 0, 1) := by decide +kernel
theorem d_Placings_init_22 : decode b_Placings_init 22 = .ok (.putfield 18, 3) := by decide +kernel
theorem d_Placings_init_25 : decode b_Placings_init 25 = .ok (.return_, 1) := by decide +kernel
theorem d_Covering_init_0 : decode b_Covering_init 0 = .ok (.aload_n 0, 1) := by decide +kernel
theorem d_Covering_init_1 : decode b_Covering_init 1 = .ok (.invokespecial 3, 3) := by decide +kernel
theorem d_Covering_init_4 : decode b_Covering_init 4 = .ok (.aload_n 0, 1) := by decide +kernel
theorem d_Covering_init_5 : decode b_Covering_init 5 = .ok (.bipush 25, 2) := by decide +kernel
theorem d_Covering_init_7 : decode b_Covering_init 7 = .ok (.newarray .int, 2) := by decide +kernel
theorem d_Covering_init_9 : decode b_Covering_init 9 = .ok (.putfield 9, 3) := by decide +kernel
theorem d_Covering_init_12 : decode b_Covering_init 12 = .ok (.aload_n 0, 1) := by decide +kernel
theorem d_Covering_init_13 : decode b_Covering_init 13 = .ok (.sipush 256, 3) := by decide +kernel
theorem d_Covering_init_16 : decode b_Covering_init 16 = .ok (.newarray .int, 2) := by decide +kernel
theorem d_Covering_init_18 : decode b_Covering_init 18 = .ok (.putfield 15, 3) := by decide +kernel
theorem d_Covering_init_21 : decode b_Covering_init 21 = .ok (.aload_n 0, 1) := by decide +kernel
theorem d_Covering_init_22 : decode b_Covering_init 22 = .ok (.iconst 0, 1) := by decide +kernel
theorem d_Covering_init_23 : decode b_Covering_init 23 = .ok (.putfield 18, 3) := by decide +kernel
theorem d_Covering_init_26 : decode b_Covering_init 26 = .ok (.aload_n 0, 1) := by decide +kernel
theorem d_Covering_init_27 : decode b_Covering_init 27 = .ok (.iconst 0, 1) := by decide +kernel
theorem d_Covering_init_28 : decode b_Covering_init 28 = .ok (.putfield 22, 3) := by decide +kernel
theorem d_Covering_init_31 : decode b_Covering_init 31 = .ok (.return_, 1) := by decide +kernel
theorem d_Knowing_init_0 : decode b_Knowing_init 0 = .ok (.aload_n 0, 1) := by decide +kernel
theorem d_Knowing_init_1 : decode b_Knowing_init 1 = .ok (.invokespecial 3, 3) := by decide +kernel
theorem d_Knowing_init_4 : decode b_Knowing_init 4 = .ok (.aload_n 0, 1) := by decide +kernel
theorem d_Knowing_init_5 : decode b_Knowing_init 5 = .ok (.bipush 6, 2) := by decide +kernel
theorem d_Knowing_init_7 : decode b_Knowing_init 7 = .ok (.newarray .int, 2) := by decide +kernel
theorem d_Knowing_init_9 : decode b_Knowing_init 9 = .ok (.putfield 9, 3) := by decide +kernel
theorem d_Knowing_init_12 : decode b_Knowing_init 12 = .ok (.aload_n 0, 1) := by decide +kernel
theorem d_Knowing_init_13 : decode b_Knowing_init 13 = .ok (.iconst 0, 1) := by decide +kernel
theorem d_Knowing_init_14 : decode b_Knowing_init 14 = .ok (.putfield 15, 3) := by decide +kernel
theorem d_Knowing_init_17 : decode b_Knowing_init 17 = .ok (.aload_n 0, 1) := by decide +kernel
theorem d_Knowing_init_18 : decode b_Knowing_init 18 = .ok (.lconst 0, 1) := by decide +kernel
theorem d_Knowing_init_19 : decode b_Knowing_init 19 = .ok (.putfield 19, 3) := by decide +kernel
theorem d_Knowing_init_22 : decode b_Knowing_init 22 = .ok (.return_, 1) := by decide +kernel
theorem d_Square_init_0 : decode b_Square_init 0 = .ok (.aload_n 0, 1) := by decide +kernel
theorem d_Square_init_1 : decode b_Square_init 1 = .ok (.invokespecial 3, 3) := by decide +kernel
theorem d_Square_init_4 : decode b_Square_init 4 = .ok (.aload_n 0, 1) := by decide +kernel
theorem d_Square_init_5 : decode b_Square_init 5 = .ok (.bipush 6, 2) := by decide +kernel
theorem d_Square_init_7 : decode b_Square_init 7 = .ok (.newarray .long, 2) := by decide +kernel
theorem d_Square_init_9 : decode b_Square_init 9 = .ok (.putfield 9, 3) := by decide +kernel
theorem d_Square_init_12 : decode b_Square_init 12 = .ok (.aload_n 0, 1) := by decide +kernel
theorem d_Square_init_13 : decode b_Square_init 13 = .ok (.bipush 6, 2) := by decide +kernel
theorem d_Square_init_15 : decode b_Square_init 15 = .ok (.newarray .int, 2) := by decide +kernel
theorem d_Square_init_17 : decode b_Square_init 17 = .ok (.putfield 15, 3) := by decide +kernel
theorem d_Square_init_20 : decode b_Square_init 20 = .ok (.aload_n 0, 1) := by decide +kernel
theorem d_Square_init_21 : decode b_Square_init 21 = .ok (.bipush 6, 2) := by decide +kernel
theorem d_Square_init_23 : decode b_Square_init 23 = .ok (.newarray .int, 2) := by decide +kernel
theorem d_Square_init_25 : decode b_Square_init 25 = .ok (.putfield 19, 3) := by decide +kernel
theorem d_Square_init_28 : decode b_Square_init 28 = .ok (.aload_n 0, 1) := by decide +kernel
theorem d_Square_init_29 : decode b_Square_init 29 = .ok (.bipush 6, 2) := by decide +kernel
theorem d_Square_init_31 : decode b_Square_init 31 = .ok (.newarray .int, 2) := by decide +kernel
theorem d_Square_init_33 : decode b_Square_init 33 = .ok (.putfield 22, 3) := by decide +kernel
theorem d_Square_init_36 : decode b_Square_init 36 = .ok (.aload_n 0, 1) := by decide +kernel
theorem d_Square_init_37 : decode b_Square_init 37 = .ok (.iconst 4, 1) := by decide +kernel
theorem d_Square_init_38 : decode b_Square_init 38 = .ok (.newarray .int, 2) := by decide +kernel
theorem d_Square_init_40 : decode b_Square_init 40 = .ok (.putfield 25, 3) := by decide +kernel
theorem d_Square_init_43 : decode b_Square_init 43 = .ok (.aload_n 0, 1) := by decide +kernel
theorem d_Square_init_44 : decode b_Square_init 44 = .ok (.new 28, 3) := by decide +kernel
theorem d_Square_init_47 : decode b_Square_init 47 = .ok (.dup, 1) := by decide +kernel
theorem d_Square_init_48 : decode b_Square_init 48 = .ok (.invokespecial 30, 3) := by decide +kernel
theorem d_Square_init_51 : decode b_Square_init 51 = .ok (.putfield 31, 3) := by decide +kernel
theorem d_Square_init_54 : decode b_Square_init 54 = .ok (.aload_n 0, 1) := by decide +kernel
theorem d_Square_init_55 : decode b_Square_init 55 = .ok (.iconst 4, 1) := by decide +kernel
theorem d_Square_init_56 : decode b_Square_init 56 = .ok (.putfield 35, 3) := by decide +kernel
theorem d_Square_init_59 : decode b_Square_init 59 = .ok (.aload_n 0, 1) := by decide +kernel
theorem d_Square_init_60 : decode b_Square_init 60 = .ok (.iconst 4, 1) := by decide +kernel
theorem d_Square_init_61 : decode b_Square_init 61 = .ok (.putfield 39, 3) := by decide +kernel
theorem d_Square_init_64 : decode b_Square_init 64 = .ok (.aload_n 0, 1) := by decide +kernel
theorem d_Square_init_65 : decode b_Square_init 65 = .ok (.bipush 8, 2) := by decide +kernel
theorem d_Square_init_67 : decode b_Square_init 67 = .ok (.putfield 42, 3) := by decide +kernel
theorem d_Square_init_70 : decode b_Square_init 70 = .ok (.aload_n 0, 1) := by decide +kernel
theorem d_Square_init_71 : decode b_Square_init 71 = .ok (.iconst 0, 1) := by decide +kernel
theorem d_Square_init_72 : decode b_Square_init 72 = .ok (.putfield 45, 3) := by decide +kernel
theorem d_Square_init_75 : decode b_Square_init 75 = .ok (.aload_n 0, 1) := by decide +kernel
theorem d_Square_init_76 : decode b_Square_init 76 = .ok (.iconst 0, 1) := by decide +kernel
theorem d_Square_init_77 : decode b_Square_init 77 = .ok (.putfield 48, 3) := by decide +kernel
theorem d_Square_init_80 : decode b_Square_init 80 = .ok (.aload_n 0, 1) := by decide +kernel
theorem d_Square_init_81 : decode b_Square_init 81 = .ok (.iconst 0, 1) := by decide +kernel
theorem d_Square_init_82 : decode b_Square_init 82 = .ok (.putfield 51, 3) := by decide +kernel
theorem d_Square_init_85 : decode b_Square_init 85 = .ok (.aload_n 0, 1) := by decide +kernel
theorem d_Square_init_86 : decode b_Square_init 86 = .ok (.iconst 0, 1) := by decide +kernel
theorem d_Square_init_87 : decode b_Square_init 87 = .ok (.putfield 54, 3) := by decide +kernel
theorem d_Square_init_90 : decode b_Square_init 90 = .ok (.aload_n 0, 1) := by decide +kernel
theorem d_Square_init_91 : decode b_Square_init 91 = .ok (.iconst 0, 1) := by decide +kernel
theorem d_Square_init_92 : decode b_Square_init 92 = .ok (.putfield 57, 3) := by decide +kernel
theorem d_Square_init_95 : decode b_Square_init 95 = .ok (.aload_n 0, 1) := by decide +kernel
theorem d_Square_init_96 : decode b_Square_init 96 = .ok (.iconst 0, 1) := by decide +kernel
theorem d_Square_init_97 : decode b_Square_init 97 = .ok (.putfield 60, 3) := by decide +kernel
theorem d_Square_init_100 : decode b_Square_init 100 = .ok (.aload_n 0, 1) := by decide +kernel
theorem d_Square_init_101 : decode b_Square_init 101 = .ok (.iconst 0, 1) := by decide +kernel
theorem d_Square_init_102 : decode b_Square_init 102 = .ok (.putfield 63, 3) := by decide +kernel
theorem d_Square_init_105 : decode b_Square_init 105 = .ok (.return_, 1) := by decide +kernel
theorem d_Days_init_0 : decode b_Days_init 0 = .ok (.aload_n 0, 1) := by decide +kernel
theorem d_Days_init_1 : decode b_Days_init 1 = .ok (.invokespecial 3, 3) := by decide +kernel
theorem d_Days_init_4 : decode b_Days_init 4 = .ok (.aload_n 0, 1) := by decide +kernel
theorem d_Days_init_5 : decode b_Days_init 5 = .ok (.bipush 60, 2) := by decide +kernel
theorem d_Days_init_7 : decode b_Days_init 7 = .ok (.newarray .int, 2) := by decide +kernel
theorem d_Days_init_9 : decode b_Days_init 9 = .ok (.putfield 9, 3) := by decide +kernel
theorem d_Days_init_12 : decode b_Days_init 12 = .ok (.aload_n 0, 1) := by decide +kernel
theorem d_Days_init_13 : decode b_Days_init 13 = .ok (.bipush 60, 2) := by decide +kernel
theorem d_Days_init_15 : decode b_Days_init 15 = .ok (.newarray .int, 2) := by decide +kernel
theorem d_Days_init_17 : decode b_Days_init 17 = .ok (.putfield 13, 3) := by decide +kernel
theorem d_Days_init_20 : decode b_Days_init 20 = .ok (.aload_n 0, 1) := by decide +kernel
theorem d_Days_init_21 : decode b_Days_init 21 = .ok (.bipush 60, 2) := by decide +kernel
theorem d_Days_init_23 : decode b_Days_init 23 = .ok (.newarray .int, 2) := by decide +kernel
theorem d_Days_init_25 : decode b_Days_init 25 = .ok (.putfield 16, 3) := by decide +kernel
theorem d_Days_init_28 : decode b_Days_init 28 = .ok (.aload_n 0, 1) := by decide +kernel
theorem d_Days_init_29 : decode b_Days_init 29 = .ok (.bipush 60, 2) := by decide +kernel
theorem d_Days_init_31 : decode b_Days_init 31 = .ok (.newarray .int, 2) := by decide +kernel
theorem d_Days_init_33 : decode b_Days_init 33 = .ok (.putfield 19, 3) := by decide +kernel
theorem d_Days_init_36 : decode b_Days_init 36 = .ok (.aload_n 0, 1) := by decide +kernel
theorem d_Days_init_37 : decode b_Days_init 37 = .ok (.bipush 60, 2) := by decide +kernel
theorem d_Days_init_39 : decode b_Days_init 39 = .ok (.newarray .int, 2) := by decide +kernel
theorem d_Days_init_41 : decode b_Days_init 41 = .ok (.putfield 22, 3) := by decide +kernel
theorem d_Days_init_44 : decode b_Days_init 44 = .ok (.aload_n 0, 1) := by decide +kernel
theorem d_Days_init_45 : decode b_Days_init 45 = .ok (.iconst 0, 1) := by decide +kernel
theorem d_Days_init_46 : decode b_Days_init 46 = .ok (.putfield 25, 3) := by decide +kernel
theorem d_Days_init_49 : decode b_Days_init 49 = .ok (.aload_n 0, 1) := by decide +kernel
theorem d_Days_init_50 : decode b_Days_init 50 = .ok (.iconst 0, 1) := by decide +kernel
theorem d_Days_init_51 : decode b_Days_init 51 = .ok (.putfield 29, 3) := by decide +kernel
theorem d_Days_init_54 : decode b_Days_init 54 = .ok (.aload_n 0, 1) := by decide +kernel
theorem d_Days_init_55 : decode b_Days_init 55 = .ok (.iconst 0, 1) := by decide +kernel
theorem d_Days_init_56 : decode b_Days_init 56 = .ok (.putfield 33, 3) := by decide +kernel
theorem d_Days_init_59 : decode b_Days_init 59 = .ok (.return_, 1) := by decide +kernel
theorem d_Tray_init_0 : decode b_Tray_init 0 = .ok (.aload_n 0, 1) := by decide +kernel
theorem d_Tray_init_1 : decode b_Tray_init 1 = .ok (.invokespecial 3, 3) := by decide +kernel
theorem d_Tray_init_4 : decode b_Tray_init 4 = .ok (.aload_n 0, 1) := by decide +kernel
theorem d_Tray_init_5 : decode b_Tray_init 5 = .ok (.bipush 60, 2) := by decide +kernel
theorem d_Tray_init_7 : decode b_Tray_init 7 = .ok (.newarray .long, 2) := by decide +kernel
theorem d_Tray_init_9 : decode b_Tray_init 9 = .ok (.putfield 9, 3) := by decide +kernel
theorem d_Tray_init_12 : decode b_Tray_init 12 = .ok (.aload_n 0, 1) := by decide +kernel
theorem d_Tray_init_13 : decode b_Tray_init 13 = .ok (.iconst (-1), 1) := by decide +kernel
theorem d_Tray_init_14 : decode b_Tray_init 14 = .ok (.putfield 15, 3) := by decide +kernel
theorem d_Tray_init_17 : decode b_Tray_init 17 = .ok (.aload_n 0, 1) := by decide +kernel
theorem d_Tray_init_18 : decode b_Tray_init 18 = .ok (.iconst 0, 1) := by decide +kernel
theorem d_Tray_init_19 : decode b_Tray_init 19 = .ok (.putfield 19, 3) := by decide +kernel
theorem d_Tray_init_22 : decode b_Tray_init 22 = .ok (.return_, 1) := by decide +kernel
theorem d_Tray_lay_0 : decode b_Tray_lay 0 = .ok (.aload_n 0, 1) := by decide +kernel
theorem d_Tray_lay_1 : decode b_Tray_lay 1 = .ok (.iload_n 1, 1) := by decide +kernel
theorem d_Tray_lay_2 : decode b_Tray_lay 2 = .ok (.putfield 15, 3) := by decide +kernel
theorem d_Tray_lay_5 : decode b_Tray_lay 5 = .ok (.aload_n 0, 1) := by decide +kernel
theorem d_Tray_lay_6 : decode b_Tray_lay 6 = .ok (.iload_n 2, 1) := by decide +kernel
theorem d_Tray_lay_7 : decode b_Tray_lay 7 = .ok (.putfield 19, 3) := by decide +kernel
theorem d_Tray_lay_10 : decode b_Tray_lay 10 = .ok (.aload_n 0, 1) := by decide +kernel
theorem d_Tray_lay_11 : decode b_Tray_lay 11 = .ok (.getfield 9, 3) := by decide +kernel
theorem d_Tray_lay_14 : decode b_Tray_lay 14 = .ok (.lconst 0, 1) := by decide +kernel
theorem d_Tray_lay_15 : decode b_Tray_lay 15 = .ok (.invokestatic 22, 3) := by decide +kernel
theorem d_Tray_lay_18 : decode b_Tray_lay 18 = .ok (.return_, 1) := by decide +kernel
theorem d_Arrays_fillJ_0 : decode b_Arrays_fillJ 0 = .ok (.iconst 0, 1) := by decide +kernel
theorem d_Arrays_fillJ_1 : decode b_Arrays_fillJ 1 = .ok (.istore_n 3, 1) := by decide +kernel
theorem d_Arrays_fillJ_2 : decode b_Arrays_fillJ 2 = .ok (.aload_n 0, 1) := by decide +kernel
theorem d_Arrays_fillJ_3 : decode b_Arrays_fillJ 3 = .ok (.arraylength, 1) := by decide +kernel
theorem d_Arrays_fillJ_4 : decode b_Arrays_fillJ 4 = .ok (.istore 4, 2) := by decide +kernel
theorem d_Arrays_fillJ_6 : decode b_Arrays_fillJ 6 = .ok (.iload_n 3, 1) := by decide +kernel
theorem d_Arrays_fillJ_7 : decode b_Arrays_fillJ 7 = .ok (.iload 4, 2) := by decide +kernel
theorem d_Arrays_fillJ_9 : decode b_Arrays_fillJ 9 = .ok (.if_icmp .ge 13, 3) := by decide +kernel
theorem d_Arrays_fillJ_12 : decode b_Arrays_fillJ 12 = .ok (.aload_n 0, 1) := by decide +kernel
theorem d_Arrays_fillJ_13 : decode b_Arrays_fillJ 13 = .ok (.iload_n 3, 1) := by decide +kernel
theorem d_Arrays_fillJ_14 : decode b_Arrays_fillJ 14 = .ok (.lload_n 1, 1) := by decide +kernel
theorem d_Arrays_fillJ_15 : decode b_Arrays_fillJ 15 = .ok (.lastore, 1) := by decide +kernel
theorem d_Arrays_fillJ_16 : decode b_Arrays_fillJ 16 = .ok (.iinc 3 1, 3) := by decide +kernel
theorem d_Arrays_fillJ_19 : decode b_Arrays_fillJ 19 = .ok (.goto (-13), 3) := by decide +kernel
theorem d_Arrays_fillJ_22 : decode b_Arrays_fillJ 22 = .ok (.return_, 1) := by decide +kernel
theorem d_Tray_isMissing_0 : decode b_Tray_isMissing 0 = .ok (.aload_n 0, 1) := by decide +kernel
theorem d_Tray_isMissing_1 : decode b_Tray_isMissing 1 = .ok (.getfield 15, 3) := by decide +kernel
theorem d_Tray_isMissing_4 : decode b_Tray_isMissing 4 = .ok (.iconst (-1), 1) := by decide +kernel
theorem d_Tray_isMissing_5 : decode b_Tray_isMissing 5 = .ok (.if_icmp .ne 7, 3) := by decide +kernel
theorem d_Tray_isMissing_8 : decode b_Tray_isMissing 8 = .ok (.iconst 1, 1) := by decide +kernel
theorem d_Tray_isMissing_9 : decode b_Tray_isMissing 9 = .ok (.goto 4, 3) := by decide +kernel
theorem d_Tray_isMissing_12 : decode b_Tray_isMissing 12 = .ok (.iconst 0, 1) := by decide +kernel
theorem d_Tray_isMissing_13 : decode b_Tray_isMissing 13 = .ok (.ireturn, 1) := by decide +kernel
theorem d_Tray_put_0 : decode b_Tray_put 0 = .ok (.iload_n 1, 1) := by decide +kernel
theorem d_Tray_put_1 : decode b_Tray_put 1 = .ok (.iconst 0, 1) := by decide +kernel
theorem d_Tray_put_2 : decode b_Tray_put 2 = .ok (.bipush 59, 2) := by decide +kernel
theorem d_Tray_put_4 : decode b_Tray_put 4 = .ok (.invokestatic 28, 3) := by decide +kernel
theorem d_Tray_put_7 : decode b_Tray_put 7 = .ok (.ifCond .eq 14, 3) := by decide +kernel
theorem d_Tray_put_10 : decode b_Tray_put 10 = .ok (.aload_n 0, 1) := by decide +kernel
theorem d_Tray_put_11 : decode b_Tray_put 11 = .ok (.getfield 9, 3) := by decide +kernel
theorem d_Tray_put_14 : decode b_Tray_put 14 = .ok (.iload_n 1, 1) := by decide +kernel
theorem d_Tray_put_15 : decode b_Tray_put 15 = .ok (.aload_n 0, 1) := by decide +kernel
theorem d_Tray_put_16 : decode b_Tray_put 16 = .ok (.lload_n 2, 1) := by decide +kernel
theorem d_Tray_put_17 : decode b_Tray_put 17 = .ok (.invokevirtual 32, 3) := by decide +kernel
theorem d_Tray_put_20 : decode b_Tray_put 20 = .ok (.lastore, 1) := by decide +kernel
theorem d_Tray_put_21 : decode b_Tray_put 21 = .ok (.return_, 1) := by decide +kernel
theorem d_Tray_cut_0 : decode b_Tray_cut 0 = .ok (.aload_n 0, 1) := by decide +kernel
theorem d_Tray_cut_1 : decode b_Tray_cut 1 = .ok (.getfield 15, 3) := by decide +kernel
theorem d_Tray_cut_4 : decode b_Tray_cut 4 = .ok (.tableswitch 42 0 2 #[28, 33, 38], 28) := by decide +kernel
theorem d_Tray_cut_32 : decode b_Tray_cut 32 = .ok (.lload_n 1, 1) := by decide +kernel
theorem d_Tray_cut_33 : decode b_Tray_cut 33 = .ok (.l2i, 1) := by decide +kernel
theorem d_Tray_cut_34 : decode b_Tray_cut 34 = .ok (.i2b, 1) := by decide +kernel
theorem d_Tray_cut_35 : decode b_Tray_cut 35 = .ok (.i2l, 1) := by decide +kernel
theorem d_Tray_cut_36 : decode b_Tray_cut 36 = .ok (.lreturn, 1) := by decide +kernel
theorem d_Tray_cut_37 : decode b_Tray_cut 37 = .ok (.lload_n 1, 1) := by decide +kernel
theorem d_Tray_cut_38 : decode b_Tray_cut 38 = .ok (.l2i, 1) := by decide +kernel
theorem d_Tray_cut_39 : decode b_Tray_cut 39 = .ok (.i2s, 1) := by decide +kernel
theorem d_Tray_cut_40 : decode b_Tray_cut 40 = .ok (.i2l, 1) := by decide +kernel
theorem d_Tray_cut_41 : decode b_Tray_cut 41 = .ok (.lreturn, 1) := by decide +kernel
theorem d_Tray_cut_42 : decode b_Tray_cut 42 = .ok (.lload_n 1, 1) := by decide +kernel
theorem d_Tray_cut_43 : decode b_Tray_cut 43 = .ok (.l2i, 1) := by decide +kernel
theorem d_Tray_cut_44 : decode b_Tray_cut 44 = .ok (.i2l, 1) := by decide +kernel
theorem d_Tray_cut_45 : decode b_Tray_cut 45 = .ok (.lreturn, 1) := by decide +kernel
theorem d_Tray_cut_46 : decode b_Tray_cut 46 = .ok (.lload_n 1, 1) := by decide +kernel
theorem d_Tray_cut_47 : decode b_Tray_cut 47 = .ok (.lreturn, 1) := by decide +kernel
theorem d_Tray_numberAt_0 : decode b_Tray_numberAt 0 = .ok (.iload_n 1, 1) := by decide +kernel
theorem d_Tray_numberAt_1 : decode b_Tray_numberAt 1 = .ok (.iconst 0, 1) := by decide +kernel
theorem d_Tray_numberAt_2 : decode b_Tray_numberAt 2 = .ok (.bipush 59, 2) := by decide +kernel
theorem d_Tray_numberAt_4 : decode b_Tray_numberAt 4 = .ok (.invokestatic 28, 3) := by decide +kernel
theorem d_Tray_numberAt_7 : decode b_Tray_numberAt 7 = .ok (.ifCond .eq 12, 3) := by decide +kernel
theorem d_Tray_numberAt_10 : decode b_Tray_numberAt 10 = .ok (.aload_n 0, 1) := by decide +kernel
theorem d_Tray_numberAt_11 : decode b_Tray_numberAt 11 = .ok (.getfield 9, 3) := by decide +kernel
theorem d_Tray_numberAt_14 : decode b_Tray_numberAt 14 = .ok (.iload_n 1, 1) := by decide +kernel
theorem d_Tray_numberAt_15 : decode b_Tray_numberAt 15 = .ok (.laload, 1) := by decide +kernel
theorem d_Tray_numberAt_16 : decode b_Tray_numberAt 16 = .ok (.goto 6, 3) := by decide +kernel
theorem d_Tray_numberAt_19 : decode b_Tray_numberAt 19 = .ok (.ldc2_w 36, 3) := by decide +kernel
theorem d_Tray_numberAt_22 : decode b_Tray_numberAt 22 = .ok (.lreturn, 1) := by decide +kernel
theorem d_Tokens_hasRoom_0 : decode b_Tokens_hasRoom 0 = .ok (.aload_n 0, 1) := by decide +kernel
theorem d_Tokens_hasRoom_1 : decode b_Tokens_hasRoom 1 = .ok (.getfield 36, 3) := by decide +kernel
theorem d_Tokens_hasRoom_4 : decode b_Tokens_hasRoom 4 = .ok (.sipush 880, 3) := by decide +kernel
theorem d_Tokens_hasRoom_7 : decode b_Tokens_hasRoom 7 = .ok (.if_icmp .gt 7, 3) := by decide +kernel
theorem d_Tokens_hasRoom_10 : decode b_Tokens_hasRoom 10 = .ok (.iconst 1, 1) := by decide +kernel
theorem d_Tokens_hasRoom_11 : decode b_Tokens_hasRoom 11 = .ok (.goto 4, 3) := by decide +kernel
theorem d_Tokens_hasRoom_14 : decode b_Tokens_hasRoom 14 = .ok (.iconst 0, 1) := by decide +kernel
theorem d_Tokens_hasRoom_15 : decode b_Tokens_hasRoom 15 = .ok (.ireturn, 1) := by decide +kernel
theorem d_Tokens_append_0 : decode b_Tokens_append 0 = .ok (.bipush 24, 2) := by decide +kernel
theorem d_Tokens_append_2 : decode b_Tokens_append 2 = .ok (.istore_n 2, 1) := by decide +kernel
theorem d_Tokens_append_3 : decode b_Tokens_append 3 = .ok (.iload_n 2, 1) := by decide +kernel
theorem d_Tokens_append_4 : decode b_Tokens_append 4 = .ok (.ifCond .lt 42, 3) := by decide +kernel
theorem d_Tokens_append_7 : decode b_Tokens_append 7 = .ok (.aload_n 0, 1) := by decide +kernel
theorem d_Tokens_append_8 : decode b_Tokens_append 8 = .ok (.getfield 36, 3) := by decide +kernel
theorem d_Tokens_append_11 : decode b_Tokens_append 11 = .ok (.sipush 900, 3) := by decide +kernel
theorem d_Tokens_append_14 : decode b_Tokens_append 14 = .ok (.if_icmp .ge 32, 3) := by decide +kernel
theorem d_Tokens_append_17 : decode b_Tokens_append 17 = .ok (.aload_n 0, 1) := by decide +kernel
theorem d_Tokens_append_18 : decode b_Tokens_append 18 = .ok (.getfield 11, 3) := by decide +kernel
theorem d_Tokens_append_21 : decode b_Tokens_append 21 = .ok (.aload_n 0, 1) := by decide +kernel
theorem d_Tokens_append_22 : decode b_Tokens_append 22 = .ok (.getfield 36, 3) := by decide +kernel
theorem d_Tokens_append_25 : decode b_Tokens_append 25 = .ok (.iload_n 1, 1) := by decide +kernel
theorem d_Tokens_append_26 : decode b_Tokens_append 26 = .ok (.iload_n 2, 1) := by decide +kernel
theorem d_Tokens_append_27 : decode b_Tokens_append 27 = .ok (.ishr, 1) := by decide +kernel
theorem d_Tokens_append_28 : decode b_Tokens_append 28 = .ok (.i2b, 1) := by decide +kernel
theorem d_Tokens_append_29 : decode b_Tokens_append 29 = .ok (.bastore, 1) := by decide +kernel
theorem d_Tokens_append_30 : decode b_Tokens_append 30 = .ok (.aload_n 0, 1) := by decide +kernel
theorem d_Tokens_append_31 : decode b_Tokens_append 31 = .ok (.dup, 1) := by decide +kernel
theorem d_Tokens_append_32 : decode b_Tokens_append 32 = .ok (.getfield 36, 3) := by decide +kernel
theorem d_Tokens_append_35 : decode b_Tokens_append 35 = .ok (.iconst 1, 1) := by decide +kernel
theorem d_Tokens_append_36 : decode b_Tokens_append 36 = .ok (.iadd, 1) := by decide +kernel
theorem d_Tokens_append_37 : decode b_Tokens_append 37 = .ok (.putfield 36, 3) := by decide +kernel
theorem d_Tokens_append_40 : decode b_Tokens_append 40 = .ok (.iinc 2 (-8), 3) := by decide +kernel
theorem d_Tokens_append_43 : decode b_Tokens_append 43 = .ok (.goto (-40), 3) := by decide +kernel
theorem d_Tokens_append_46 : decode b_Tokens_append 46 = .ok (.return_, 1) := by decide +kernel
theorem d_SquareReader_readText_0 : decode b_SquareReader_readText 0 = .ok (.aload_n 3, 1) := by decide +kernel
theorem d_SquareReader_readText_1 : decode b_SquareReader_readText 1 = .ok (.invokevirtual 21, 3) := by decide +kernel
theorem d_SquareReader_readText_4 : decode b_SquareReader_readText 4 = .ok (.aload_n 0, 1) := by decide +kernel
theorem d_SquareReader_readText_5 : decode b_SquareReader_readText 5 = .ok (.iconst 0, 1) := by decide +kernel
theorem d_SquareReader_readText_6 : decode b_SquareReader_readText 6 = .ok (.putfield 9, 3) := by decide +kernel
theorem d_SquareReader_readText_9 : decode b_SquareReader_readText 9 = .ok (.aload_n 0, 1) := by decide +kernel
theorem d_SquareReader_readText_10 : decode b_SquareReader_readText 10 = .ok (.iconst 0, 1) := by decide +kernel
theorem d_SquareReader_readText_11 : decode b_SquareReader_readText 11 = .ok (.putfield 15, 3) := by decide +kernel
theorem d_SquareReader_readText_14 : decode b_SquareReader_readText 14 = .ok (.aload_n 0, 1) := by decide +kernel
theorem d_SquareReader_readText_15 : decode b_SquareReader_readText 15 = .ok (.iconst 0, 1) := by decide +kernel
theorem d_SquareReader_readText_16 : decode b_SquareReader_readText 16 = .ok (.putfield 18, 3) := by decide +kernel
theorem d_SquareReader_readText_19 : decode b_SquareReader_readText 19 = .ok (.aload_n 1, 1) := by decide +kernel
theorem d_SquareReader_readText_20 : decode b_SquareReader_readText 20 = .ok (.iload_n 2, 1) := by decide +kernel
theorem d_SquareReader_readText_21 : decode b_SquareReader_readText 21 = .ok (.invokevirtual 26, 3) := by decide +kernel
theorem d_SquareReader_readText_24 : decode b_SquareReader_readText 24 = .ok (.iconst 0, 1) := by decide +kernel
theorem d_SquareReader_readText_25 : decode b_SquareReader_readText 25 = .ok (.istore 4, 2) := by decide +kernel
theorem d_SquareReader_readText_27 : decode b_SquareReader_readText 27 = .ok (.iload 4, 2) := by decide +kernel
theorem d_SquareReader_readText_29 : decode b_SquareReader_readText 29 = .ok (.sipush 900, 3) := by decide +kernel
theorem d_SquareReader_readText_32 : decode b_SquareReader_readText 32 = .ok (.if_icmp .ge 27, 3) := by decide +kernel
theorem d_SquareReader_readText_35 : decode b_SquareReader_readText 35 = .ok (.aload_n 1, 1) := by decide +kernel
theorem d_SquareReader_readText_36 : decode b_SquareReader_readText 36 = .ok (.getfield 32, 3) := by decide +kernel
theorem d_SquareReader_readText_39 : decode b_SquareReader_readText 39 = .ok (.ifCond .eq 20, 3) := by decide +kernel
theorem d_SquareReader_readText_42 : decode b_SquareReader_readText 42 = .ok (.aload_n 0, 1) := by decide +kernel
theorem d_SquareReader_readText_43 : decode b_SquareReader_readText 43 = .ok (.aload_n 1, 1) := by decide +kernel
theorem d_SquareReader_readText_44 : decode b_SquareReader_readText 44 = .ok (.aload_n 3, 1) := by decide +kernel
theorem d_SquareReader_readText_45 : decode b_SquareReader_readText 45 = .ok (.invokevirtual 36, 3) := by decide +kernel
theorem d_SquareReader_readText_48 : decode b_SquareReader_readText 48 = .ok (.ifCond .ne 5, 3) := by decide +kernel
theorem d_SquareReader_readText_51 : decode b_SquareReader_readText 51 = .ok (.iconst 0, 1) := by decide +kernel
theorem d_SquareReader_readText_52 : decode b_SquareReader_readText 52 = .ok (.ireturn, 1) := by decide +kernel
theorem d_SquareReader_readText_53 : decode b_SquareReader_readText 53 = .ok (.iinc 4 1, 3) := by decide +kernel
theorem d_SquareReader_readText_56 : decode b_SquareReader_readText 56 = .ok (.goto (-29), 3) := by decide +kernel
theorem d_SquareReader_readText_59 : decode b_SquareReader_readText 59 = .ok (.iconst 1, 1) := by decide +kernel
theorem d_SquareReader_readText_60 : decode b_SquareReader_readText 60 = .ok (.ireturn, 1) := by decide +kernel
theorem d_Square_reset_0 : decode b_Square_reset 0 = .ok (.aload_n 0, 1) := by decide +kernel
theorem d_Square_reset_1 : decode b_Square_reset 1 = .ok (.iconst 4, 1) := by decide +kernel
theorem d_Square_reset_2 : decode b_Square_reset 2 = .ok (.putfield 35, 3) := by decide +kernel
theorem d_Square_reset_5 : decode b_Square_reset 5 = .ok (.aload_n 0, 1) := by decide +kernel
theorem d_Square_reset_6 : decode b_Square_reset 6 = .ok (.iconst 4, 1) := by decide +kernel
theorem d_Square_reset_7 : decode b_Square_reset 7 = .ok (.putfield 39, 3) := by decide +kernel
theorem d_Square_reset_10 : decode b_Square_reset 10 = .ok (.aload_n 0, 1) := by decide +kernel
theorem d_Square_reset_11 : decode b_Square_reset 11 = .ok (.bipush 8, 2) := by decide +kernel
theorem d_Square_reset_13 : decode b_Square_reset 13 = .ok (.putfield 42, 3) := by decide +kernel
theorem d_Square_reset_16 : decode b_Square_reset 16 = .ok (.aload_n 0, 1) := by decide +kernel
theorem d_Square_reset_17 : decode b_Square_reset 17 = .ok (.iconst 0, 1) := by decide +kernel
theorem d_Square_reset_18 : decode b_Square_reset 18 = .ok (.putfield 45, 3) := by decide +kernel
theorem d_Square_reset_21 : decode b_Square_reset 21 = .ok (.aload_n 0, 1) := by decide +kernel
theorem d_Square_reset_22 : decode b_Square_reset 22 = .ok (.iconst 0, 1) := by decide +kernel
theorem d_Square_reset_23 : decode b_Square_reset 23 = .ok (.putfield 48, 3) := by decide +kernel
theorem d_Square_reset_26 : decode b_Square_reset 26 = .ok (.aload_n 0, 1) := by decide +kernel
theorem d_Square_reset_27 : decode b_Square_reset 27 = .ok (.iconst 0, 1) := by decide +kernel
theorem d_Square_reset_28 : decode b_Square_reset 28 = .ok (.putfield 51, 3) := by decide +kernel
theorem d_Square_reset_31 : decode b_Square_reset 31 = .ok (.aload_n 0, 1) := by decide +kernel
theorem d_Square_reset_32 : decode b_Square_reset 32 = .ok (.iconst 0, 1) := by decide +kernel
theorem d_Square_reset_33 : decode b_Square_reset 33 = .ok (.putfield 54, 3) := by decide +kernel
theorem d_Square_reset_36 : decode b_Square_reset 36 = .ok (.aload_n 0, 1) := by decide +kernel
theorem d_Square_reset_37 : decode b_Square_reset 37 = .ok (.iconst 0, 1) := by decide +kernel
theorem d_Square_reset_38 : decode b_Square_reset 38 = .ok (.putfield 57, 3) := by decide +kernel
theorem d_Square_reset_41 : decode b_Square_reset 41 = .ok (.aload_n 0, 1) := by decide +kernel
theorem d_Square_reset_42 : decode b_Square_reset 42 = .ok (.iconst 0, 1) := by decide +kernel
theorem d_Square_reset_43 : decode b_Square_reset 43 = .ok (.putfield 60, 3) := by decide +kernel
theorem d_Square_reset_46 : decode b_Square_reset 46 = .ok (.aload_n 0, 1) := by decide +kernel
theorem d_Square_reset_47 : decode b_Square_reset 47 = .ok (.iconst 0, 1) := by decide +kernel
theorem d_Square_reset_48 : decode b_Square_reset 48 = .ok (.putfield 63, 3) := by decide +kernel
theorem d_Square_reset_51 : decode b_Square_reset 51 = .ok (.aload_n 0, 1) := by decide +kernel
theorem d_Square_reset_52 : decode b_Square_reset 52 = .ok (.getfield 31, 3) := by decide +kernel
theorem d_Square_reset_55 : decode b_Square_reset 55 = .ok (.invokevirtual 66, 3) := by decide +kernel
theorem d_Square_reset_58 : decode b_Square_reset 58 = .ok (.return_, 1) := by decide +kernel
theorem d_Days_clear_0 : decode b_Days_clear 0 = .ok (.aload_n 0, 1) := by decide +kernel
theorem d_Days_clear_1 : decode b_Days_clear 1 = .ok (.iconst 0, 1) := by decide +kernel
theorem d_Days_clear_2 : decode b_Days_clear 2 = .ok (.putfield 25, 3) := by decide +kernel
theorem d_Days_clear_5 : decode b_Days_clear 5 = .ok (.aload_n 0, 1) := by decide +kernel
theorem d_Days_clear_6 : decode b_Days_clear 6 = .ok (.iconst 0, 1) := by decide +kernel
theorem d_Days_clear_7 : decode b_Days_clear 7 = .ok (.putfield 29, 3) := by decide +kernel
theorem d_Days_clear_10 : decode b_Days_clear 10 = .ok (.aload_n 0, 1) := by decide +kernel
theorem d_Days_clear_11 : decode b_Days_clear 11 = .ok (.iconst 0, 1) := by decide +kernel
theorem d_Days_clear_12 : decode b_Days_clear 12 = .ok (.putfield 33, 3) := by decide +kernel
theorem d_Days_clear_15 : decode b_Days_clear 15 = .ok (.return_, 1) := by decide +kernel
theorem d_Tokens_begin_0 : decode b_Tokens_begin 0 = .ok (.aload_n 0, 1) := by decide +kernel
theorem d_Tokens_begin_1 : decode b_Tokens_begin 1 = .ok (.iload_n 1, 1) := by decide +kernel
theorem d_Tokens_begin_2 : decode b_Tokens_begin 2 = .ok (.aload_n 0, 1) := by decide +kernel
theorem d_Tokens_begin_3 : decode b_Tokens_begin 3 = .ok (.getfield 36, 3) := by decide +kernel
theorem d_Tokens_begin_6 : decode b_Tokens_begin 6 = .ok (.invokestatic 66, 3) := by decide +kernel
theorem d_Tokens_begin_9 : decode b_Tokens_begin 9 = .ok (.invokevirtual 72, 3) := by decide +kernel
theorem d_Tokens_begin_12 : decode b_Tokens_begin 12 = .ok (.aload_n 0, 1) := by decide +kernel
theorem d_Tokens_begin_13 : decode b_Tokens_begin 13 = .ok (.iconst 0, 1) := by decide +kernel
theorem d_Tokens_begin_14 : decode b_Tokens_begin 14 = .ok (.putfield 45, 3) := by decide +kernel
theorem d_Tokens_begin_17 : decode b_Tokens_begin 17 = .ok (.aload_n 0, 1) := by decide +kernel
theorem d_Tokens_begin_18 : decode b_Tokens_begin 18 = .ok (.iconst (-1), 1) := by decide +kernel
theorem d_Tokens_begin_19 : decode b_Tokens_begin 19 = .ok (.putfield 48, 3) := by decide +kernel
theorem d_Tokens_begin_22 : decode b_Tokens_begin 22 = .ok (.aload_n 0, 1) := by decide +kernel
theorem d_Tokens_begin_23 : decode b_Tokens_begin 23 = .ok (.iconst (-1), 1) := by decide +kernel
theorem d_Tokens_begin_24 : decode b_Tokens_begin 24 = .ok (.putfield 33, 3) := by decide +kernel
theorem d_Tokens_begin_27 : decode b_Tokens_begin 27 = .ok (.aload_n 0, 1) := by decide +kernel
theorem d_Tokens_begin_28 : decode b_Tokens_begin 28 = .ok (.invokevirtual 76, 3) := by decide +kernel
theorem d_Tokens_begin_31 : decode b_Tokens_begin 31 = .ok (.return_, 1) := by decide +kernel
theorem d_Math_min_0 : decode b_Math_min 0 = .ok (.iload_n 0, 1) := by decide +kernel
theorem d_Math_min_1 : decode b_Math_min 1 = .ok (.iload_n 1, 1) := by decide +kernel
theorem d_Math_min_2 : decode b_Math_min 2 = .ok (.if_icmp .gt 7, 3) := by decide +kernel
theorem d_Math_min_5 : decode b_Math_min 5 = .ok (.iload_n 0, 1) := by decide +kernel
theorem d_Math_min_6 : decode b_Math_min 6 = .ok (.goto 4, 3) := by decide +kernel
theorem d_Math_min_9 : decode b_Math_min 9 = .ok (.iload_n 1, 1) := by decide +kernel
theorem d_Math_min_10 : decode b_Math_min 10 = .ok (.ireturn, 1) := by decide +kernel
theorem d_Tokens_scanAll_0 : decode b_Tokens_scanAll 0 = .ok (.aload_n 0, 1) := by decide +kernel
theorem d_Tokens_scanAll_1 : decode b_Tokens_scanAll 1 = .ok (.iconst 0, 1) := by decide +kernel
theorem d_Tokens_scanAll_2 : decode b_Tokens_scanAll 2 = .ok (.putfield 29, 3) := by decide +kernel
theorem d_Tokens_scanAll_5 : decode b_Tokens_scanAll 5 = .ok (.iconst 0, 1) := by decide +kernel
theorem d_Tokens_scanAll_6 : decode b_Tokens_scanAll 6 = .ok (.istore_n 2, 1) := by decide +kernel
theorem d_Tokens_scanAll_7 : decode b_Tokens_scanAll 7 = .ok (.iconst 0, 1) := by decide +kernel
theorem d_Tokens_scanAll_8 : decode b_Tokens_scanAll 8 = .ok (.istore_n 3, 1) := by decide +kernel
theorem d_Tokens_scanAll_9 : decode b_Tokens_scanAll 9 = .ok (.iload_n 3, 1) := by decide +kernel
theorem d_Tokens_scanAll_10 : decode b_Tokens_scanAll 10 = .ok (.sipush 900, 3) := by decide +kernel
theorem d_Tokens_scanAll_13 : decode b_Tokens_scanAll 13 = .ok (.if_icmp .ge 72, 3) := by decide +kernel
theorem d_Tokens_scanAll_16 : decode b_Tokens_scanAll 16 = .ok (.iload_n 2, 1) := by decide +kernel
theorem d_Tokens_scanAll_17 : decode b_Tokens_scanAll 17 = .ok (.iload_n 1, 1) := by decide +kernel
theorem d_Tokens_scanAll_18 : decode b_Tokens_scanAll 18 = .ok (.if_icmp .ge 67, 3) := by decide +kernel
theorem d_Tokens_scanAll_21 : decode b_Tokens_scanAll 21 = .ok (.aload_n 0, 1) := by decide +kernel
theorem d_Tokens_scanAll_22 : decode b_Tokens_scanAll 22 = .ok (.getfield 11, 3) := by decide +kernel
theorem d_Tokens_scanAll_25 : decode b_Tokens_scanAll 25 = .ok (.iload_n 2, 1) := by decide +kernel
theorem d_Tokens_scanAll_26 : decode b_Tokens_scanAll 26 = .ok (.baload, 1) := by decide +kernel
theorem d_Tokens_scanAll_27 : decode b_Tokens_scanAll 27 = .ok (.sipush 255, 3) := by decide +kernel
theorem d_Tokens_scanAll_30 : decode b_Tokens_scanAll 30 = .ok (.iand, 1) := by decide +kernel
theorem d_Tokens_scanAll_31 : decode b_Tokens_scanAll 31 = .ok (.istore 4, 2) := by decide +kernel
theorem d_Tokens_scanAll_33 : decode b_Tokens_scanAll 33 = .ok (.iload 4, 2) := by decide +kernel
theorem d_Tokens_scanAll_35 : decode b_Tokens_scanAll 35 = .ok (.invokestatic 89, 3) := by decide +kernel
theorem d_Tokens_scanAll_38 : decode b_Tokens_scanAll 38 = .ok (.ifCond .eq 13, 3) := by decide +kernel
theorem d_Tokens_scanAll_41 : decode b_Tokens_scanAll 41 = .ok (.aload_n 0, 1) := by decide +kernel
theorem d_Tokens_scanAll_42 : decode b_Tokens_scanAll 42 = .ok (.iload_n 2, 1) := by decide +kernel
theorem d_Tokens_scanAll_43 : decode b_Tokens_scanAll 43 = .ok (.iload_n 1, 1) := by decide +kernel
theorem d_Tokens_scanAll_44 : decode b_Tokens_scanAll 44 = .ok (.invokevirtual 92, 3) := by decide +kernel
theorem d_Tokens_scanAll_47 : decode b_Tokens_scanAll 47 = .ok (.istore_n 2, 1) := by decide +kernel
theorem d_Tokens_scanAll_48 : decode b_Tokens_scanAll 48 = .ok (.goto 31, 3) := by decide +kernel
theorem d_Tokens_scanAll_51 : decode b_Tokens_scanAll 51 = .ok (.iload 4, 2) := by decide +kernel
theorem d_Tokens_scanAll_53 : decode b_Tokens_scanAll 53 = .ok (.invokestatic 95, 3) := by decide +kernel
theorem d_Tokens_scanAll_56 : decode b_Tokens_scanAll 56 = .ok (.ifCond .eq 13, 3) := by decide +kernel
theorem d_Tokens_scanAll_59 : decode b_Tokens_scanAll 59 = .ok (.aload_n 0, 1) := by decide +kernel
theorem d_Tokens_scanAll_60 : decode b_Tokens_scanAll 60 = .ok (.iload_n 2, 1) := by decide +kernel
theorem d_Tokens_scanAll_61 : decode b_Tokens_scanAll 61 = .ok (.iload_n 1, 1) := by decide +kernel
theorem d_Tokens_scanAll_62 : decode b_Tokens_scanAll 62 = .ok (.invokevirtual 98, 3) := by decide +kernel
theorem d_Tokens_scanAll_65 : decode b_Tokens_scanAll 65 = .ok (.istore_n 2, 1) := by decide +kernel
theorem d_Tokens_scanAll_66 : decode b_Tokens_scanAll 66 = .ok (.goto 13, 3) := by decide +kernel
theorem d_Tokens_scanAll_69 : decode b_Tokens_scanAll 69 = .ok (.aload_n 0, 1) := by decide +kernel
theorem d_Tokens_scanAll_70 : decode b_Tokens_scanAll 70 = .ok (.iload_n 2, 1) := by decide +kernel
theorem d_Tokens_scanAll_71 : decode b_Tokens_scanAll 71 = .ok (.iload 4, 2) := by decide +kernel
theorem d_Tokens_scanAll_73 : decode b_Tokens_scanAll 73 = .ok (.invokevirtual 101, 3) := by decide +kernel
theorem d_Tokens_scanAll_76 : decode b_Tokens_scanAll 76 = .ok (.iinc 2 1, 3) := by decide +kernel
theorem d_Tokens_scanAll_79 : decode b_Tokens_scanAll 79 = .ok (.iinc 3 1, 3) := by decide +kernel
theorem d_Tokens_scanAll_82 : decode b_Tokens_scanAll 82 = .ok (.goto (-73), 3) := by decide +kernel
theorem d_Tokens_scanAll_85 : decode b_Tokens_scanAll 85 = .ok (.aload_n 0, 1) := by decide +kernel
theorem d_Tokens_scanAll_86 : decode b_Tokens_scanAll 86 = .ok (.iconst 0, 1) := by decide +kernel
theorem d_Tokens_scanAll_87 : decode b_Tokens_scanAll 87 = .ok (.iload_n 1, 1) := by decide +kernel
theorem d_Tokens_scanAll_88 : decode b_Tokens_scanAll 88 = .ok (.lconst 0, 1) := by decide +kernel
theorem d_Tokens_scanAll_89 : decode b_Tokens_scanAll 89 = .ok (.invokevirtual 105, 3) := by decide +kernel
theorem d_Tokens_scanAll_92 : decode b_Tokens_scanAll 92 = .ok (.return_, 1) := by decide +kernel
theorem d_Tokens_isLetter_0 : decode b_Tokens_isLetter 0 = .ok (.iload_n 0, 1) := by decide +kernel
theorem d_Tokens_isLetter_1 : decode b_Tokens_isLetter 1 = .ok (.bipush 97, 2) := by decide +kernel
theorem d_Tokens_isLetter_3 : decode b_Tokens_isLetter 3 = .ok (.if_icmp .lt 13, 3) := by decide +kernel
theorem d_Tokens_isLetter_6 : decode b_Tokens_isLetter 6 = .ok (.iload_n 0, 1) := by decide +kernel
theorem d_Tokens_isLetter_7 : decode b_Tokens_isLetter 7 = .ok (.bipush 122, 2) := by decide +kernel
theorem d_Tokens_isLetter_9 : decode b_Tokens_isLetter 9 = .ok (.if_icmp .gt 7, 3) := by decide +kernel
theorem d_Tokens_isLetter_12 : decode b_Tokens_isLetter 12 = .ok (.iconst 1, 1) := by decide +kernel
theorem d_Tokens_isLetter_13 : decode b_Tokens_isLetter 13 = .ok (.goto 4, 3) := by decide +kernel
theorem d_Tokens_isLetter_16 : decode b_Tokens_isLetter 16 = .ok (.iconst 0, 1) := by decide +kernel
theorem d_Tokens_isLetter_17 : decode b_Tokens_isLetter 17 = .ok (.ireturn, 1) := by decide +kernel
theorem d_Tokens_scanWord_0 : decode b_Tokens_scanWord 0 = .ok (.lconst 0, 1) := by decide +kernel
theorem d_Tokens_scanWord_1 : decode b_Tokens_scanWord 1 = .ok (.lstore_n 3, 1) := by decide +kernel
theorem d_Tokens_scanWord_2 : decode b_Tokens_scanWord 2 = .ok (.iload_n 1, 1) := by decide +kernel
theorem d_Tokens_scanWord_3 : decode b_Tokens_scanWord 3 = .ok (.istore 5, 2) := by decide +kernel
theorem d_Tokens_scanWord_5 : decode b_Tokens_scanWord 5 = .ok (.iload_n 1, 1) := by decide +kernel
theorem d_Tokens_scanWord_6 : decode b_Tokens_scanWord 6 = .ok (.istore 6, 2) := by decide +kernel
theorem d_Tokens_scanWord_8 : decode b_Tokens_scanWord 8 = .ok (.iload 6, 2) := by decide +kernel
theorem d_Tokens_scanWord_10 : decode b_Tokens_scanWord 10 = .ok (.iload_n 2, 1) := by decide +kernel
theorem d_Tokens_scanWord_11 : decode b_Tokens_scanWord 11 = .ok (.if_icmp .ge 48, 3) := by decide +kernel
theorem d_Tokens_scanWord_14 : decode b_Tokens_scanWord 14 = .ok (.aload_n 0, 1) := by decide +kernel
theorem d_Tokens_scanWord_15 : decode b_Tokens_scanWord 15 = .ok (.getfield 11, 3) := by decide +kernel
theorem d_Tokens_scanWord_18 : decode b_Tokens_scanWord 18 = .ok (.iload 6, 2) := by decide +kernel
theorem d_Tokens_scanWord_20 : decode b_Tokens_scanWord 20 = .ok (.baload, 1) := by decide +kernel
theorem d_Tokens_scanWord_21 : decode b_Tokens_scanWord 21 = .ok (.sipush 255, 3) := by decide +kernel
theorem d_Tokens_scanWord_24 : decode b_Tokens_scanWord 24 = .ok (.iand, 1) := by decide +kernel
theorem d_Tokens_scanWord_25 : decode b_Tokens_scanWord 25 = .ok (.invokestatic 89, 3) := by decide +kernel
theorem d_Tokens_scanWord_28 : decode b_Tokens_scanWord 28 = .ok (.ifCond .eq 31, 3) := by decide +kernel
theorem d_Tokens_scanWord_31 : decode b_Tokens_scanWord 31 = .ok (.lload_n 3, 1) := by decide +kernel
theorem d_Tokens_scanWord_32 : decode b_Tokens_scanWord 32 = .ok (.aload_n 0, 1) := by decide +kernel
theorem d_Tokens_scanWord_33 : decode b_Tokens_scanWord 33 = .ok (.getfield 11, 3) := by decide +kernel
theorem d_Tokens_scanWord_36 : decode b_Tokens_scanWord 36 = .ok (.iload 6, 2) := by decide +kernel
theorem d_Tokens_scanWord_38 : decode b_Tokens_scanWord 38 = .ok (.baload, 1) := by decide +kernel
theorem d_Tokens_scanWord_39 : decode b_Tokens_scanWord 39 = .ok (.sipush 255, 3) := by decide +kernel
theorem d_Tokens_scanWord_42 : decode b_Tokens_scanWord 42 = .ok (.iand, 1) := by decide +kernel
theorem d_Tokens_scanWord_43 : decode b_Tokens_scanWord 43 = .ok (.invokestatic 62, 3) := by decide +kernel
theorem d_Tokens_scanWord_46 : decode b_Tokens_scanWord 46 = .ok (.lstore_n 3, 1) := by decide +kernel
theorem d_Tokens_scanWord_47 : decode b_Tokens_scanWord 47 = .ok (.iload 6, 2) := by decide +kernel
theorem d_Tokens_scanWord_49 : decode b_Tokens_scanWord 49 = .ok (.iconst 1, 1) := by decide +kernel
theorem d_Tokens_scanWord_50 : decode b_Tokens_scanWord 50 = .ok (.iadd, 1) := by decide +kernel
theorem d_Tokens_scanWord_51 : decode b_Tokens_scanWord 51 = .ok (.istore 5, 2) := by decide +kernel
theorem d_Tokens_scanWord_53 : decode b_Tokens_scanWord 53 = .ok (.iinc 6 1, 3) := by decide +kernel
theorem d_Tokens_scanWord_56 : decode b_Tokens_scanWord 56 = .ok (.goto (-48), 3) := by decide +kernel
theorem d_Tokens_scanWord_59 : decode b_Tokens_scanWord 59 = .ok (.iload 5, 2) := by decide +kernel
theorem d_Tokens_scanWord_61 : decode b_Tokens_scanWord 61 = .ok (.iload_n 1, 1) := by decide +kernel
theorem d_Tokens_scanWord_62 : decode b_Tokens_scanWord 62 = .ok (.isub, 1) := by decide +kernel
theorem d_Tokens_scanWord_63 : decode b_Tokens_scanWord 63 = .ok (.bipush 8, 2) := by decide +kernel
theorem d_Tokens_scanWord_65 : decode b_Tokens_scanWord 65 = .ok (.if_icmp .le 13, 3) := by decide +kernel
theorem d_Tokens_scanWord_68 : decode b_Tokens_scanWord 68 = .ok (.aload_n 0, 1) := by decide +kernel
theorem d_Tokens_scanWord_69 : decode b_Tokens_scanWord 69 = .ok (.iconst 2, 1) := by decide +kernel
theorem d_Tokens_scanWord_70 : decode b_Tokens_scanWord 70 = .ok (.iload_n 1, 1) := by decide +kernel
theorem d_Tokens_scanWord_71 : decode b_Tokens_scanWord 71 = .ok (.lconst 0, 1) := by decide +kernel
theorem d_Tokens_scanWord_72 : decode b_Tokens_scanWord 72 = .ok (.invokevirtual 105, 3) := by decide +kernel
theorem d_Tokens_scanWord_75 : decode b_Tokens_scanWord 75 = .ok (.iload 5, 2) := by decide +kernel
theorem d_Tokens_scanWord_77 : decode b_Tokens_scanWord 77 = .ok (.ireturn, 1) := by decide +kernel
theorem d_Tokens_scanWord_78 : decode b_Tokens_scanWord 78 = .ok (.aload_n 0, 1) := by decide +kernel
theorem d_Tokens_scanWord_79 : decode b_Tokens_scanWord 79 = .ok (.lload_n 3, 1) := by decide +kernel
theorem d_Tokens_scanWord_80 : decode b_Tokens_scanWord 80 = .ok (.invokevirtual 109, 3) := by decide +kernel
theorem d_Tokens_scanWord_83 : decode b_Tokens_scanWord 83 = .ok (.istore 6, 2) := by decide +kernel
theorem d_Tokens_scanWord_85 : decode b_Tokens_scanWord 85 = .ok (.iload 6, 2) := by decide +kernel
theorem d_Tokens_scanWord_87 : decode b_Tokens_scanWord 87 = .ok (.iconst (-1), 1) := by decide +kernel
theorem d_Tokens_scanWord_88 : decode b_Tokens_scanWord 88 = .ok (.if_icmp .ne 13, 3) := by decide +kernel
theorem d_Tokens_scanWord_91 : decode b_Tokens_scanWord 91 = .ok (.aload_n 0, 1) := by decide +kernel
theorem d_Tokens_scanWord_92 : decode b_Tokens_scanWord 92 = .ok (.iconst 1, 1) := by decide +kernel
theorem d_Tokens_scanWord_93 : decode b_Tokens_scanWord 93 = .ok (.iload_n 1, 1) := by decide +kernel
theorem d_Tokens_scanWord_94 : decode b_Tokens_scanWord 94 = .ok (.lload_n 3, 1) := by decide +kernel
theorem d_Tokens_scanWord_95 : decode b_Tokens_scanWord 95 = .ok (.invokevirtual 105, 3) := by decide +kernel
theorem d_Tokens_scanWord_98 : decode b_Tokens_scanWord 98 = .ok (.goto 12, 3) := by decide +kernel
theorem d_Tokens_scanWord_101 : decode b_Tokens_scanWord 101 = .ok (.aload_n 0, 1) := by decide +kernel
theorem d_Tokens_scanWord_102 : decode b_Tokens_scanWord 102 = .ok (.iconst 3, 1) := by decide +kernel
theorem d_Tokens_scanWord_103 : decode b_Tokens_scanWord 103 = .ok (.iload_n 1, 1) := by decide +kernel
theorem d_Tokens_scanWord_104 : decode b_Tokens_scanWord 104 = .ok (.iload 6, 2) := by decide +kernel
theorem d_Tokens_scanWord_106 : decode b_Tokens_scanWord 106 = .ok (.i2l, 1) := by decide +kernel
theorem d_Tokens_scanWord_107 : decode b_Tokens_scanWord 107 = .ok (.invokevirtual 105, 3) := by decide +kernel
theorem d_Tokens_scanWord_110 : decode b_Tokens_scanWord 110 = .ok (.iload 5, 2) := by decide +kernel
theorem d_Tokens_scanWord_112 : decode b_Tokens_scanWord 112 = .ok (.ireturn, 1) := by decide +kernel
theorem d_Tokens_add_0 : decode b_Tokens_add 0 = .ok (.aload_n 0, 1) := by decide +kernel
theorem d_Tokens_add_1 : decode b_Tokens_add 1 = .ok (.getfield 29, 3) := by decide +kernel
theorem d_Tokens_add_4 : decode b_Tokens_add 4 = .ok (.sipush 900, 3) := by decide +kernel
theorem d_Tokens_add_7 : decode b_Tokens_add 7 = .ok (.if_icmp .gt 43, 3) := by decide +kernel
theorem d_Tokens_add_10 : decode b_Tokens_add 10 = .ok (.aload_n 0, 1) := by decide +kernel
theorem d_Tokens_add_11 : decode b_Tokens_add 11 = .ok (.getfield 19, 3) := by decide +kernel
theorem d_Tokens_add_14 : decode b_Tokens_add 14 = .ok (.aload_n 0, 1) := by decide +kernel
theorem d_Tokens_add_15 : decode b_Tokens_add 15 = .ok (.getfield 29, 3) := by decide +kernel
theorem d_Tokens_add_18 : decode b_Tokens_add 18 = .ok (.iload_n 1, 1) := by decide +kernel
theorem d_Tokens_add_19 : decode b_Tokens_add 19 = .ok (.iastore, 1) := by decide +kernel
theorem d_Tokens_add_20 : decode b_Tokens_add 20 = .ok (.aload_n 0, 1) := by decide +kernel
theorem d_Tokens_add_21 : decode b_Tokens_add 21 = .ok (.getfield 23, 3) := by decide +kernel
theorem d_Tokens_add_24 : decode b_Tokens_add 24 = .ok (.aload_n 0, 1) := by decide +kernel
theorem d_Tokens_add_25 : decode b_Tokens_add 25 = .ok (.getfield 29, 3) := by decide +kernel
theorem d_Tokens_add_28 : decode b_Tokens_add 28 = .ok (.iload_n 2, 1) := by decide +kernel
theorem d_Tokens_add_29 : decode b_Tokens_add 29 = .ok (.iastore, 1) := by decide +kernel
theorem d_Tokens_add_30 : decode b_Tokens_add 30 = .ok (.aload_n 0, 1) := by decide +kernel
theorem d_Tokens_add_31 : decode b_Tokens_add 31 = .ok (.getfield 26, 3) := by decide +kernel
theorem d_Tokens_add_34 : decode b_Tokens_add 34 = .ok (.aload_n 0, 1) := by decide +kernel
theorem d_Tokens_add_35 : decode b_Tokens_add 35 = .ok (.getfield 29, 3) := by decide +kernel
theorem d_Tokens_add_38 : decode b_Tokens_add 38 = .ok (.lload_n 3, 1) := by decide +kernel
theorem d_Tokens_add_39 : decode b_Tokens_add 39 = .ok (.lastore, 1) := by decide +kernel
theorem d_Tokens_add_40 : decode b_Tokens_add 40 = .ok (.aload_n 0, 1) := by decide +kernel
theorem d_Tokens_add_41 : decode b_Tokens_add 41 = .ok (.dup, 1) := by decide +kernel
theorem d_Tokens_add_42 : decode b_Tokens_add 42 = .ok (.getfield 29, 3) := by decide +kernel
theorem d_Tokens_add_45 : decode b_Tokens_add 45 = .ok (.iconst 1, 1) := by decide +kernel
theorem d_Tokens_add_46 : decode b_Tokens_add 46 = .ok (.iadd, 1) := by decide +kernel
theorem d_Tokens_add_47 : decode b_Tokens_add 47 = .ok (.putfield 29, 3) := by decide +kernel
theorem d_Tokens_add_50 : decode b_Tokens_add 50 = .ok (.return_, 1) := by decide +kernel
theorem d_Tokens_reservedWord_0 : decode b_Tokens_reservedWord 0 = .ok (.iconst 0, 1) := by decide +kernel
theorem d_Tokens_reservedWord_1 : decode b_Tokens_reservedWord 1 = .ok (.istore_n 3, 1) := by decide +kernel
theorem d_Tokens_reservedWord_2 : decode b_Tokens_reservedWord 2 = .ok (.iload_n 3, 1) := by decide +kernel
theorem d_Tokens_reservedWord_3 : decode b_Tokens_reservedWord 3 = .ok (.bipush 25, 2) := by decide +kernel
theorem d_Tokens_reservedWord_5 : decode b_Tokens_reservedWord 5 = .ok (.if_icmp .ge 22, 3) := by decide +kernel
theorem d_Tokens_reservedWord_8 : decode b_Tokens_reservedWord 8 = .ok (.aload_n 0, 1) := by decide +kernel
theorem d_Tokens_reservedWord_9 : decode b_Tokens_reservedWord 9 = .ok (.getfield 15, 3) := by decide +kernel
theorem d_Tokens_reservedWord_12 : decode b_Tokens_reservedWord 12 = .ok (.iload_n 3, 1) := by decide +kernel
theorem d_Tokens_reservedWord_13 : decode b_Tokens_reservedWord 13 = .ok (.laload, 1) := by decide +kernel
theorem d_Tokens_reservedWord_14 : decode b_Tokens_reservedWord 14 = .ok (.lload_n 1, 1) := by decide +kernel
theorem d_Tokens_reservedWord_15 : decode b_Tokens_reservedWord 15 = .ok (.lcmp, 1) := by decide +kernel
theorem d_Tokens_reservedWord_16 : decode b_Tokens_reservedWord 16 = .ok (.ifCond .ne 5, 3) := by decide +kernel
theorem d_Tokens_reservedWord_19 : decode b_Tokens_reservedWord 19 = .ok (.iload_n 3, 1) := by decide +kernel
theorem d_Tokens_reservedWord_20 : decode b_Tokens_reservedWord 20 = .ok (.ireturn, 1) := by decide +kernel
theorem d_Tokens_reservedWord_21 : decode b_Tokens_reservedWord 21 = .ok (.iinc 3 1, 3) := by decide +kernel
theorem d_Tokens_reservedWord_24 : decode b_Tokens_reservedWord 24 = .ok (.goto (-22), 3) := by decide +kernel
theorem d_Tokens_reservedWord_27 : decode b_Tokens_reservedWord 27 = .ok (.iconst (-1), 1) := by decide +kernel
theorem d_Tokens_reservedWord_28 : decode b_Tokens_reservedWord 28 = .ok (.ireturn, 1) := by decide +kernel
theorem d_Tokens_isDigit_0 : decode b_Tokens_isDigit 0 = .ok (.iload_n 0, 1) := by decide +kernel
theorem d_Tokens_isDigit_1 : decode b_Tokens_isDigit 1 = .ok (.bipush 48, 2) := by decide +kernel
theorem d_Tokens_isDigit_3 : decode b_Tokens_isDigit 3 = .ok (.if_icmp .lt 13, 3) := by decide +kernel
theorem d_Tokens_isDigit_6 : decode b_Tokens_isDigit 6 = .ok (.iload_n 0, 1) := by decide +kernel
theorem d_Tokens_isDigit_7 : decode b_Tokens_isDigit 7 = .ok (.bipush 57, 2) := by decide +kernel
theorem d_Tokens_isDigit_9 : decode b_Tokens_isDigit 9 = .ok (.if_icmp .gt 7, 3) := by decide +kernel
theorem d_Tokens_isDigit_12 : decode b_Tokens_isDigit 12 = .ok (.iconst 1, 1) := by decide +kernel
theorem d_Tokens_isDigit_13 : decode b_Tokens_isDigit 13 = .ok (.goto 4, 3) := by decide +kernel
theorem d_Tokens_isDigit_16 : decode b_Tokens_isDigit 16 = .ok (.iconst 0, 1) := by decide +kernel
theorem d_Tokens_isDigit_17 : decode b_Tokens_isDigit 17 = .ok (.ireturn, 1) := by decide +kernel
theorem d_Tokens_scanNumber_0 : decode b_Tokens_scanNumber 0 = .ok (.iconst 0, 1) := by decide +kernel
theorem d_Tokens_scanNumber_1 : decode b_Tokens_scanNumber 1 = .ok (.istore_n 3, 1) := by decide +kernel
theorem d_Tokens_scanNumber_2 : decode b_Tokens_scanNumber 2 = .ok (.iload_n 1, 1) := by decide +kernel
theorem d_Tokens_scanNumber_3 : decode b_Tokens_scanNumber 3 = .ok (.istore 4, 2) := by decide +kernel
theorem d_Tokens_scanNumber_5 : decode b_Tokens_scanNumber 5 = .ok (.iload_n 1, 1) := by decide +kernel
theorem d_Tokens_scanNumber_6 : decode b_Tokens_scanNumber 6 = .ok (.istore 5, 2) := by decide +kernel
theorem d_Tokens_scanNumber_8 : decode b_Tokens_scanNumber 8 = .ok (.iload 5, 2) := by decide +kernel
theorem d_Tokens_scanNumber_10 : decode b_Tokens_scanNumber 10 = .ok (.iload_n 2, 1) := by decide +kernel
theorem d_Tokens_scanNumber_11 : decode b_Tokens_scanNumber 11 = .ok (.if_icmp .ge 52, 3) := by decide +kernel
theorem d_Tokens_scanNumber_14 : decode b_Tokens_scanNumber 14 = .ok (.aload_n 0, 1) := by decide +kernel
theorem d_Tokens_scanNumber_15 : decode b_Tokens_scanNumber 15 = .ok (.getfield 11, 3) := by decide +kernel
theorem d_Tokens_scanNumber_18 : decode b_Tokens_scanNumber 18 = .ok (.iload 5, 2) := by decide +kernel
theorem d_Tokens_scanNumber_20 : decode b_Tokens_scanNumber 20 = .ok (.baload, 1) := by decide +kernel
theorem d_Tokens_scanNumber_21 : decode b_Tokens_scanNumber 21 = .ok (.sipush 255, 3) := by decide +kernel
theorem d_Tokens_scanNumber_24 : decode b_Tokens_scanNumber 24 = .ok (.iand, 1) := by decide +kernel
theorem d_Tokens_scanNumber_25 : decode b_Tokens_scanNumber 25 = .ok (.invokestatic 95, 3) := by decide +kernel
theorem d_Tokens_scanNumber_28 : decode b_Tokens_scanNumber 28 = .ok (.ifCond .eq 35, 3) := by decide +kernel
theorem d_Tokens_scanNumber_31 : decode b_Tokens_scanNumber 31 = .ok (.iload_n 3, 1) := by decide +kernel
theorem d_Tokens_scanNumber_32 : decode b_Tokens_scanNumber 32 = .ok (.bipush 10, 2) := by decide +kernel
theorem d_Tokens_scanNumber_34 : decode b_Tokens_scanNumber 34 = .ok (.imul, 1) := by decide +kernel
theorem d_Tokens_scanNumber_35 : decode b_Tokens_scanNumber 35 = .ok (.aload_n 0, 1) := by decide +kernel
theorem d_Tokens_scanNumber_36 : decode b_Tokens_scanNumber 36 = .ok (.getfield 11, 3) := by decide +kernel
theorem d_Tokens_scanNumber_39 : decode b_Tokens_scanNumber 39 = .ok (.iload 5, 2) := by decide +kernel
theorem d_Tokens_scanNumber_41 : decode b_Tokens_scanNumber 41 = .ok (.baload, 1) := by decide +kernel
theorem d_Tokens_scanNumber_42 : decode b_Tokens_scanNumber 42 = .ok (.sipush 255, 3) := by decide +kernel
theorem d_Tokens_scanNumber_45 : decode b_Tokens_scanNumber 45 = .ok (.iand, 1) := by decide +kernel
theorem d_Tokens_scanNumber_46 : decode b_Tokens_scanNumber 46 = .ok (.bipush 48, 2) := by decide +kernel
theorem d_Tokens_scanNumber_48 : decode b_Tokens_scanNumber 48 = .ok (.isub, 1) := by decide +kernel
theorem d_Tokens_scanNumber_49 : decode b_Tokens_scanNumber 49 = .ok (.iadd, 1) := by decide +kernel
theorem d_Tokens_scanNumber_50 : decode b_Tokens_scanNumber 50 = .ok (.istore_n 3, 1) := by decide +kernel
theorem d_Tokens_scanNumber_51 : decode b_Tokens_scanNumber 51 = .ok (.iload 5, 2) := by decide +kernel
theorem d_Tokens_scanNumber_53 : decode b_Tokens_scanNumber 53 = .ok (.iconst 1, 1) := by decide +kernel
theorem d_Tokens_scanNumber_54 : decode b_Tokens_scanNumber 54 = .ok (.iadd, 1) := by decide +kernel
theorem d_Tokens_scanNumber_55 : decode b_Tokens_scanNumber 55 = .ok (.istore 4, 2) := by decide +kernel
theorem d_Tokens_scanNumber_57 : decode b_Tokens_scanNumber 57 = .ok (.iinc 5 1, 3) := by decide +kernel
theorem d_Tokens_scanNumber_60 : decode b_Tokens_scanNumber 60 = .ok (.goto (-52), 3) := by decide +kernel
theorem d_Tokens_scanNumber_63 : decode b_Tokens_scanNumber 63 = .ok (.aload_n 0, 1) := by decide +kernel
theorem d_Tokens_scanNumber_64 : decode b_Tokens_scanNumber 64 = .ok (.iload 4, 2) := by decide +kernel
theorem d_Tokens_scanNumber_66 : decode b_Tokens_scanNumber 66 = .ok (.iload_n 1, 1) := by decide +kernel
theorem d_Tokens_scanNumber_67 : decode b_Tokens_scanNumber 67 = .ok (.isub, 1) := by decide +kernel
theorem d_Tokens_scanNumber_68 : decode b_Tokens_scanNumber 68 = .ok (.iconst 4, 1) := by decide +kernel
theorem d_Tokens_scanNumber_69 : decode b_Tokens_scanNumber 69 = .ok (.if_icmp .gt 7, 3) := by decide +kernel
theorem d_Tokens_scanNumber_72 : decode b_Tokens_scanNumber 72 = .ok (.iconst 4, 1) := by decide +kernel
theorem d_Tokens_scanNumber_73 : decode b_Tokens_scanNumber 73 = .ok (.goto 5, 3) := by decide +kernel
theorem d_Tokens_scanNumber_76 : decode b_Tokens_scanNumber 76 = .ok (.bipush 6, 2) := by decide +kernel
theorem d_Tokens_scanNumber_78 : decode b_Tokens_scanNumber 78 = .ok (.iload_n 1, 1) := by decide +kernel
theorem d_Tokens_scanNumber_79 : decode b_Tokens_scanNumber 79 = .ok (.iload_n 3, 1) := by decide +kernel
theorem d_Tokens_scanNumber_80 : decode b_Tokens_scanNumber 80 = .ok (.i2l, 1) := by decide +kernel
theorem d_Tokens_scanNumber_81 : decode b_Tokens_scanNumber 81 = .ok (.invokevirtual 105, 3) := by decide +kernel
theorem d_Tokens_scanNumber_84 : decode b_Tokens_scanNumber 84 = .ok (.iload 4, 2) := by decide +kernel
theorem d_Tokens_scanNumber_86 : decode b_Tokens_scanNumber 86 = .ok (.ireturn, 1) := by decide +kernel
theorem d_Tokens_scanSign_0 : decode b_Tokens_scanSign 0 = .ok (.iload_n 2, 1) := by decide +kernel
theorem d_Tokens_scanSign_1 : decode b_Tokens_scanSign 1 = .ok (.bipush 59, 2) := by decide +kernel
theorem d_Tokens_scanSign_3 : decode b_Tokens_scanSign 3 = .ok (.if_icmp .eq 21, 3) := by decide +kernel
theorem d_Tokens_scanSign_6 : decode b_Tokens_scanSign 6 = .ok (.iload_n 2, 1) := by decide +kernel
theorem d_Tokens_scanSign_7 : decode b_Tokens_scanSign 7 = .ok (.bipush 60, 2) := by decide +kernel
theorem d_Tokens_scanSign_9 : decode b_Tokens_scanSign 9 = .ok (.if_icmp .eq 15, 3) := by decide +kernel
theorem d_Tokens_scanSign_12 : decode b_Tokens_scanSign 12 = .ok (.iload_n 2, 1) := by decide +kernel
theorem d_Tokens_scanSign_13 : decode b_Tokens_scanSign 13 = .ok (.bipush 62, 2) := by decide +kernel
theorem d_Tokens_scanSign_15 : decode b_Tokens_scanSign 15 = .ok (.if_icmp .eq 9, 3) := by decide +kernel
theorem d_Tokens_scanSign_18 : decode b_Tokens_scanSign 18 = .ok (.iload_n 2, 1) := by decide +kernel
theorem d_Tokens_scanSign_19 : decode b_Tokens_scanSign 19 = .ok (.bipush 61, 2) := by decide +kernel
theorem d_Tokens_scanSign_21 : decode b_Tokens_scanSign 21 = .ok (.if_icmp .ne 14, 3) := by decide +kernel
theorem d_Tokens_scanSign_24 : decode b_Tokens_scanSign 24 = .ok (.aload_n 0, 1) := by decide +kernel
theorem d_Tokens_scanSign_25 : decode b_Tokens_scanSign 25 = .ok (.iconst 5, 1) := by decide +kernel
theorem d_Tokens_scanSign_26 : decode b_Tokens_scanSign 26 = .ok (.iload_n 1, 1) := by decide +kernel
theorem d_Tokens_scanSign_27 : decode b_Tokens_scanSign 27 = .ok (.iload_n 2, 1) := by decide +kernel
theorem d_Tokens_scanSign_28 : decode b_Tokens_scanSign 28 = .ok (.i2l, 1) := by decide +kernel
theorem d_Tokens_scanSign_29 : decode b_Tokens_scanSign 29 = .ok (.invokevirtual 105, 3) := by decide +kernel
theorem d_Tokens_scanSign_32 : decode b_Tokens_scanSign 32 = .ok (.goto 24, 3) := by decide +kernel
theorem d_Tokens_scanSign_35 : decode b_Tokens_scanSign 35 = .ok (.iload_n 2, 1) := by decide +kernel
theorem d_Tokens_scanSign_36 : decode b_Tokens_scanSign 36 = .ok (.bipush 32, 2) := by decide +kernel
theorem d_Tokens_scanSign_38 : decode b_Tokens_scanSign 38 = .ok (.if_icmp .eq 18, 3) := by decide +kernel
theorem d_Tokens_scanSign_41 : decode b_Tokens_scanSign 41 = .ok (.iload_n 2, 1) := by decide +kernel
theorem d_Tokens_scanSign_42 : decode b_Tokens_scanSign 42 = .ok (.bipush 10, 2) := by decide +kernel
theorem d_Tokens_scanSign_44 : decode b_Tokens_scanSign 44 = .ok (.if_icmp .eq 12, 3) := by decide +kernel
theorem d_Tokens_scanSign_47 : decode b_Tokens_scanSign 47 = .ok (.aload_n 0, 1) := by decide +kernel
theorem d_Tokens_scanSign_48 : decode b_Tokens_scanSign 48 = .ok (.bipush 6, 2) := by decide +kernel
theorem d_Tokens_scanSign_50 : decode b_Tokens_scanSign 50 = .ok (.iload_n 1, 1) := by decide +kernel
theorem d_Tokens_scanSign_51 : decode b_Tokens_scanSign 51 = .ok (.iload_n 2, 1) := by decide +kernel
theorem d_Tokens_scanSign_52 : decode b_Tokens_scanSign 52 = .ok (.i2l, 1) := by decide +kernel
theorem d_Tokens_scanSign_53 : decode b_Tokens_scanSign 53 = .ok (.invokevirtual 105, 3) := by decide +kernel
theorem d_Tokens_scanSign_56 : decode b_Tokens_scanSign 56 = .ok (.return_, 1) := by decide +kernel
theorem d_Tokens_advance_0 : decode b_Tokens_advance 0 = .ok (.aload_n 0, 1) := by decide +kernel
theorem d_Tokens_advance_1 : decode b_Tokens_advance 1 = .ok (.getfield 33, 3) := by decide +kernel
theorem d_Tokens_advance_4 : decode b_Tokens_advance 4 = .ok (.aload_n 0, 1) := by decide +kernel
theorem d_Tokens_advance_5 : decode b_Tokens_advance 5 = .ok (.getfield 29, 3) := by decide +kernel
theorem d_Tokens_advance_8 : decode b_Tokens_advance 8 = .ok (.iconst 1, 1) := by decide +kernel
theorem d_Tokens_advance_9 : decode b_Tokens_advance 9 = .ok (.isub, 1) := by decide +kernel
theorem d_Tokens_advance_10 : decode b_Tokens_advance 10 = .ok (.if_icmp .ge 13, 3) := by decide +kernel
theorem d_Tokens_advance_13 : decode b_Tokens_advance 13 = .ok (.aload_n 0, 1) := by decide +kernel
theorem d_Tokens_advance_14 : decode b_Tokens_advance 14 = .ok (.dup, 1) := by decide +kernel
theorem d_Tokens_advance_15 : decode b_Tokens_advance 15 = .ok (.getfield 33, 3) := by decide +kernel
theorem d_Tokens_advance_18 : decode b_Tokens_advance 18 = .ok (.iconst 1, 1) := by decide +kernel
theorem d_Tokens_advance_19 : decode b_Tokens_advance 19 = .ok (.iadd, 1) := by decide +kernel
theorem d_Tokens_advance_20 : decode b_Tokens_advance 20 = .ok (.putfield 33, 3) := by decide +kernel
theorem d_Tokens_advance_23 : decode b_Tokens_advance 23 = .ok (.aload_n 0, 1) := by decide +kernel
theorem d_Tokens_advance_24 : decode b_Tokens_advance 24 = .ok (.aload_n 0, 1) := by decide +kernel
theorem d_Tokens_advance_25 : decode b_Tokens_advance 25 = .ok (.getfield 19, 3) := by decide +kernel
theorem d_Tokens_advance_28 : decode b_Tokens_advance 28 = .ok (.aload_n 0, 1) := by decide +kernel
theorem d_Tokens_advance_29 : decode b_Tokens_advance 29 = .ok (.getfield 33, 3) := by decide +kernel
theorem d_Tokens_advance_32 : decode b_Tokens_advance 32 = .ok (.iaload, 1) := by decide +kernel
theorem d_Tokens_advance_33 : decode b_Tokens_advance 33 = .ok (.putfield 39, 3) := by decide +kernel
theorem d_Tokens_advance_36 : decode b_Tokens_advance 36 = .ok (.aload_n 0, 1) := by decide +kernel
theorem d_Tokens_advance_37 : decode b_Tokens_advance 37 = .ok (.aload_n 0, 1) := by decide +kernel
theorem d_Tokens_advance_38 : decode b_Tokens_advance 38 = .ok (.getfield 39, 3) := by decide +kernel
theorem d_Tokens_advance_41 : decode b_Tokens_advance 41 = .ok (.iconst 3, 1) := by decide +kernel
theorem d_Tokens_advance_42 : decode b_Tokens_advance 42 = .ok (.if_icmp .ne 16, 3) := by decide +kernel
theorem d_Tokens_advance_45 : decode b_Tokens_advance 45 = .ok (.aload_n 0, 1) := by decide +kernel
theorem d_Tokens_advance_46 : decode b_Tokens_advance 46 = .ok (.getfield 26, 3) := by decide +kernel
theorem d_Tokens_advance_49 : decode b_Tokens_advance 49 = .ok (.aload_n 0, 1) := by decide +kernel
theorem d_Tokens_advance_50 : decode b_Tokens_advance 50 = .ok (.getfield 33, 3) := by decide +kernel
theorem d_Tokens_advance_53 : decode b_Tokens_advance 53 = .ok (.laload, 1) := by decide +kernel
theorem d_Tokens_advance_54 : decode b_Tokens_advance 54 = .ok (.l2i, 1) := by decide +kernel
theorem d_Tokens_advance_55 : decode b_Tokens_advance 55 = .ok (.goto 4, 3) := by decide +kernel
theorem d_Tokens_advance_58 : decode b_Tokens_advance 58 = .ok (.iconst (-1), 1) := by decide +kernel
theorem d_Tokens_advance_59 : decode b_Tokens_advance 59 = .ok (.putfield 42, 3) := by decide +kernel
theorem d_Tokens_advance_62 : decode b_Tokens_advance 62 = .ok (.return_, 1) := by decide +kernel
theorem d_SquareReader_readPart_0 : decode b_SquareReader_readPart 0 = .ok (.aload_n 1, 1) := by decide +kernel
theorem d_SquareReader_readPart_1 : decode b_SquareReader_readPart 1 = .ok (.getfield 40, 3) := by decide +kernel
theorem d_SquareReader_readPart_4 : decode b_SquareReader_readPart 4 = .ok (.tableswitch 98 0 9 #[56, 98, 63, 70, 77, 84, 98, 98, 98, 91], 56) := by decide +kernel
theorem d_SquareReader_readPart_60 : decode b_SquareReader_readPart 60 = .ok (.aload_n 0, 1) := by decide +kernel
theorem d_SquareReader_readPart_61 : decode b_SquareReader_readPart 61 = .ok (.aload_n 1, 1) := by decide +kernel
theorem d_SquareReader_readPart_62 : decode b_SquareReader_readPart 62 = .ok (.aload_n 2, 1) := by decide +kernel
theorem d_SquareReader_readPart_63 : decode b_SquareReader_readPart 63 = .ok (.invokevirtual 43, 3) := by decide +kernel
theorem d_SquareReader_readPart_66 : decode b_SquareReader_readPart 66 = .ok (.ireturn, 1) := by decide +kernel
theorem d_SquareReader_readPart_67 : decode b_SquareReader_readPart 67 = .ok (.aload_n 0, 1) := by decide +kernel
theorem d_SquareReader_readPart_68 : decode b_SquareReader_readPart 68 = .ok (.aload_n 1, 1) := by decide +kernel
theorem d_SquareReader_readPart_69 : decode b_SquareReader_readPart 69 = .ok (.aload_n 2, 1) := by decide +kernel
theorem d_SquareReader_readPart_70 : decode b_SquareReader_readPart 70 = .ok (.invokevirtual 46, 3) := by decide +kernel
theorem d_SquareReader_readPart_73 : decode b_SquareReader_readPart 73 = .ok (.ireturn, 1) := by decide +kernel
theorem d_SquareReader_readPart_74 : decode b_SquareReader_readPart 74 = .ok (.aload_n 0, 1) := by decide +kernel
theorem d_SquareReader_readPart_75 : decode b_SquareReader_readPart 75 = .ok (.aload_n 1, 1) := by decide +kernel
theorem d_SquareReader_readPart_76 : decode b_SquareReader_readPart 76 = .ok (.aload_n 2, 1) := by decide +kernel
theorem d_SquareReader_readPart_77 : decode b_SquareReader_readPart 77 = .ok (.invokevirtual 49, 3) := by decide +kernel
theorem d_SquareReader_readPart_80 : decode b_SquareReader_readPart 80 = .ok (.ireturn, 1) := by decide +kernel
theorem d_SquareReader_readPart_81 : decode b_SquareReader_readPart 81 = .ok (.aload_n 0, 1) := by decide +kernel
theorem d_SquareReader_readPart_82 : decode b_SquareReader_readPart 82 = .ok (.aload_n 1, 1) := by decide +kernel
theorem d_SquareReader_readPart_83 : decode b_SquareReader_readPart 83 = .ok (.aload_n 2, 1) := by decide +kernel
theorem d_SquareReader_readPart_84 : decode b_SquareReader_readPart 84 = .ok (.invokevirtual 52, 3) := by decide +kernel
theorem d_SquareReader_readPart_87 : decode b_SquareReader_readPart 87 = .ok (.ireturn, 1) := by decide +kernel
theorem d_SquareReader_readPart_88 : decode b_SquareReader_readPart 88 = .ok (.aload_n 0, 1) := by decide +kernel
theorem d_SquareReader_readPart_89 : decode b_SquareReader_readPart 89 = .ok (.aload_n 1, 1) := by decide +kernel
theorem d_SquareReader_readPart_90 : decode b_SquareReader_readPart 90 = .ok (.aload_n 2, 1) := by decide +kernel
theorem d_SquareReader_readPart_91 : decode b_SquareReader_readPart 91 = .ok (.invokevirtual 55, 3) := by decide +kernel
theorem d_SquareReader_readPart_94 : decode b_SquareReader_readPart 94 = .ok (.ireturn, 1) := by decide +kernel
theorem d_SquareReader_readPart_95 : decode b_SquareReader_readPart 95 = .ok (.aload_n 0, 1) := by decide +kernel
theorem d_SquareReader_readPart_96 : decode b_SquareReader_readPart 96 = .ok (.aload_n 1, 1) := by decide +kernel
theorem d_SquareReader_readPart_97 : decode b_SquareReader_readPart 97 = .ok (.aload_n 2, 1) := by decide +kernel
theorem d_SquareReader_readPart_98 : decode b_SquareReader_readPart 98 = .ok (.invokevirtual 58, 3) := by decide +kernel
theorem d_SquareReader_readPart_101 : decode b_SquareReader_readPart 101 = .ok (.ireturn, 1) := by decide +kernel
theorem d_SquareReader_readPart_102 : decode b_SquareReader_readPart 102 = .ok (.aload_n 1, 1) := by decide +kernel
theorem d_SquareReader_readPart_103 : decode b_SquareReader_readPart 103 = .ok (.iconst 2, 1) := by decide +kernel
theorem d_SquareReader_readPart_104 : decode b_SquareReader_readPart 104 = .ok (.invokevirtual 61, 3) := by decide +kernel
theorem d_SquareReader_readPart_107 : decode b_SquareReader_readPart 107 = .ok (.ireturn, 1) := by decide +kernel
theorem d_SquareReader_readSize_0 : decode b_SquareReader_readSize 0 = .ok (.aload_n 0, 1) := by decide +kernel
theorem d_SquareReader_readSize_1 : decode b_SquareReader_readSize 1 = .ok (.getfield 9, 3) := by decide +kernel
theorem d_SquareReader_readSize_4 : decode b_SquareReader_readSize 4 = .ok (.ifCond .ne 24, 3) := by decide +kernel
theorem d_SquareReader_readSize_7 : decode b_SquareReader_readSize 7 = .ok (.aload_n 0, 1) := by decide +kernel
theorem d_SquareReader_readSize_8 : decode b_SquareReader_readSize 8 = .ok (.getfield 18, 3) := by decide +kernel
theorem d_SquareReader_readSize_11 : decode b_SquareReader_readSize 11 = .ok (.ifCond .ne 17, 3) := by decide +kernel
theorem d_SquareReader_readSize_14 : decode b_SquareReader_readSize 14 = .ok (.aload_n 2, 1) := by decide +kernel
theorem d_SquareReader_readSize_15 : decode b_SquareReader_readSize 15 = .ok (.getfield 65, 3) := by decide +kernel
theorem d_SquareReader_readSize_18 : decode b_SquareReader_readSize 18 = .ok (.ifCond .gt 10, 3) := by decide +kernel
theorem d_SquareReader_readSize_21 : decode b_SquareReader_readSize 21 = .ok (.aload_n 2, 1) := by decide +kernel
theorem d_SquareReader_readSize_22 : decode b_SquareReader_readSize 22 = .ok (.getfield 68, 3) := by decide +kernel
theorem d_SquareReader_readSize_25 : decode b_SquareReader_readSize 25 = .ok (.ifCond .le 9, 3) := by decide +kernel
theorem d_SquareReader_readSize_28 : decode b_SquareReader_readSize 28 = .ok (.aload_n 1, 1) := by decide +kernel
theorem d_SquareReader_readSize_29 : decode b_SquareReader_readSize 29 = .ok (.iconst 5, 1) := by decide +kernel
theorem d_SquareReader_readSize_30 : decode b_SquareReader_readSize 30 = .ok (.invokevirtual 61, 3) := by decide +kernel
theorem d_SquareReader_readSize_33 : decode b_SquareReader_readSize 33 = .ok (.ireturn, 1) := by decide +kernel
theorem d_SquareReader_readSize_34 : decode b_SquareReader_readSize 34 = .ok (.aload_n 0, 1) := by decide +kernel
theorem d_SquareReader_readSize_35 : decode b_SquareReader_readSize 35 = .ok (.iconst 1, 1) := by decide +kernel
theorem d_SquareReader_readSize_36 : decode b_SquareReader_readSize 36 = .ok (.putfield 9, 3) := by decide +kernel
theorem d_SquareReader_readSize_39 : decode b_SquareReader_readSize 39 = .ok (.aload_n 1, 1) := by decide +kernel
theorem d_SquareReader_readSize_40 : decode b_SquareReader_readSize 40 = .ok (.invokevirtual 71, 3) := by decide +kernel
theorem d_SquareReader_readSize_43 : decode b_SquareReader_readSize 43 = .ok (.aload_n 1, 1) := by decide +kernel
theorem d_SquareReader_readSize_44 : decode b_SquareReader_readSize 44 = .ok (.iconst 1, 1) := by decide +kernel
theorem d_SquareReader_readSize_45 : decode b_SquareReader_readSize 45 = .ok (.iconst 5, 1) := by decide +kernel
theorem d_SquareReader_readSize_46 : decode b_SquareReader_readSize 46 = .ok (.invokevirtual 74, 3) := by decide +kernel
theorem d_SquareReader_readSize_49 : decode b_SquareReader_readSize 49 = .ok (.istore_n 3, 1) := by decide +kernel
theorem d_SquareReader_readSize_50 : decode b_SquareReader_readSize 50 = .ok (.iload_n 3, 1) := by decide +kernel
theorem d_SquareReader_readSize_51 : decode b_SquareReader_readSize 51 = .ok (.iconst (-1), 1) := by decide +kernel
theorem d_SquareReader_readSize_52 : decode b_SquareReader_readSize 52 = .ok (.if_icmp .eq 11, 3) := by decide +kernel
theorem d_SquareReader_readSize_55 : decode b_SquareReader_readSize 55 = .ok (.aload_n 1, 1) := by decide +kernel
theorem d_SquareReader_readSize_56 : decode b_SquareReader_readSize 56 = .ok (.iconst 1, 1) := by decide +kernel
theorem d_SquareReader_readSize_57 : decode b_SquareReader_readSize 57 = .ok (.invokevirtual 78, 3) := by decide +kernel
theorem d_SquareReader_readSize_60 : decode b_SquareReader_readSize 60 = .ok (.ifCond .ne 5, 3) := by decide +kernel
theorem d_SquareReader_readSize_63 : decode b_SquareReader_readSize 63 = .ok (.iconst 0, 1) := by decide +kernel
theorem d_SquareReader_readSize_64 : decode b_SquareReader_readSize 64 = .ok (.ireturn, 1) := by decide +kernel
theorem d_SquareReader_readSize_65 : decode b_SquareReader_readSize 65 = .ok (.aload_n 1, 1) := by decide +kernel
theorem d_SquareReader_readSize_66 : decode b_SquareReader_readSize 66 = .ok (.iconst 1, 1) := by decide +kernel
theorem d_SquareReader_readSize_67 : decode b_SquareReader_readSize 67 = .ok (.iconst 5, 1) := by decide +kernel
theorem d_SquareReader_readSize_68 : decode b_SquareReader_readSize 68 = .ok (.invokevirtual 74, 3) := by decide +kernel
theorem d_SquareReader_readSize_71 : decode b_SquareReader_readSize 71 = .ok (.istore 4, 2) := by decide +kernel
theorem d_SquareReader_readSize_73 : decode b_SquareReader_readSize 73 = .ok (.iload 4, 2) := by decide +kernel
theorem d_SquareReader_readSize_75 : decode b_SquareReader_readSize 75 = .ok (.iconst (-1), 1) := by decide +kernel
theorem d_SquareReader_readSize_76 : decode b_SquareReader_readSize 76 = .ok (.if_icmp .ne 5, 3) := by decide +kernel
theorem d_SquareReader_readSize_79 : decode b_SquareReader_readSize 79 = .ok (.iconst 0, 1) := by decide +kernel
theorem d_SquareReader_readSize_80 : decode b_SquareReader_readSize 80 = .ok (.ireturn, 1) := by decide +kernel
theorem d_SquareReader_readSize_81 : decode b_SquareReader_readSize 81 = .ok (.aload_n 2, 1) := by decide +kernel
theorem d_SquareReader_readSize_82 : decode b_SquareReader_readSize 82 = .ok (.iload_n 3, 1) := by decide +kernel
theorem d_SquareReader_readSize_83 : decode b_SquareReader_readSize 83 = .ok (.putfield 81, 3) := by decide +kernel
theorem d_SquareReader_readSize_86 : decode b_SquareReader_readSize 86 = .ok (.aload_n 2, 1) := by decide +kernel
theorem d_SquareReader_readSize_87 : decode b_SquareReader_readSize 87 = .ok (.iload 4, 2) := by decide +kernel
theorem d_SquareReader_readSize_89 : decode b_SquareReader_readSize 89 = .ok (.putfield 84, 3) := by decide +kernel
theorem d_SquareReader_readSize_92 : decode b_SquareReader_readSize 92 = .ok (.aload_n 1, 1) := by decide +kernel
theorem d_SquareReader_readSize_93 : decode b_SquareReader_readSize 93 = .ok (.invokevirtual 87, 3) := by decide +kernel
theorem d_SquareReader_readSize_96 : decode b_SquareReader_readSize 96 = .ok (.ireturn, 1) := by decide +kernel
theorem d_Tokens_refuse_0 : decode b_Tokens_refuse 0 = .ok (.aload_n 0, 1) := by decide +kernel
theorem d_Tokens_refuse_1 : decode b_Tokens_refuse 1 = .ok (.aload_n 0, 1) := by decide +kernel
theorem d_Tokens_refuse_2 : decode b_Tokens_refuse 2 = .ok (.getfield 39, 3) := by decide +kernel
theorem d_Tokens_refuse_5 : decode b_Tokens_refuse 5 = .ok (.bipush 6, 2) := by decide +kernel
theorem d_Tokens_refuse_7 : decode b_Tokens_refuse 7 = .ok (.if_icmp .ne 7, 3) := by decide +kernel
theorem d_Tokens_refuse_10 : decode b_Tokens_refuse 10 = .ok (.iconst 1, 1) := by decide +kernel
theorem d_Tokens_refuse_11 : decode b_Tokens_refuse 11 = .ok (.goto 4, 3) := by decide +kernel
theorem d_Tokens_refuse_14 : decode b_Tokens_refuse 14 = .ok (.iload_n 1, 1) := by decide +kernel
theorem d_Tokens_refuse_15 : decode b_Tokens_refuse 15 = .ok (.putfield 45, 3) := by decide +kernel
theorem d_Tokens_refuse_18 : decode b_Tokens_refuse 18 = .ok (.aload_n 0, 1) := by decide +kernel
theorem d_Tokens_refuse_19 : decode b_Tokens_refuse 19 = .ok (.aload_n 0, 1) := by decide +kernel
theorem d_Tokens_refuse_20 : decode b_Tokens_refuse 20 = .ok (.getfield 23, 3) := by decide +kernel
theorem d_Tokens_refuse_23 : decode b_Tokens_refuse 23 = .ok (.aload_n 0, 1) := by decide +kernel
theorem d_Tokens_refuse_24 : decode b_Tokens_refuse 24 = .ok (.getfield 33, 3) := by decide +kernel
theorem d_Tokens_refuse_27 : decode b_Tokens_refuse 27 = .ok (.iaload, 1) := by decide +kernel
theorem d_Tokens_refuse_28 : decode b_Tokens_refuse 28 = .ok (.putfield 48, 3) := by decide +kernel
theorem d_Tokens_refuse_31 : decode b_Tokens_refuse 31 = .ok (.iconst 0, 1) := by decide +kernel
theorem d_Tokens_refuse_32 : decode b_Tokens_refuse 32 = .ok (.ireturn, 1) := by decide +kernel
theorem d_Tokens_takeNumber_0 : decode b_Tokens_takeNumber 0 = .ok (.aload_n 0, 1) := by decide +kernel
theorem d_Tokens_takeNumber_1 : decode b_Tokens_takeNumber 1 = .ok (.getfield 39, 3) := by decide +kernel
theorem d_Tokens_takeNumber_4 : decode b_Tokens_takeNumber 4 = .ok (.iconst 4, 1) := by decide +kernel
theorem d_Tokens_takeNumber_5 : decode b_Tokens_takeNumber 5 = .ok (.if_icmp .eq 11, 3) := by decide +kernel
theorem d_Tokens_takeNumber_8 : decode b_Tokens_takeNumber 8 = .ok (.aload_n 0, 1) := by decide +kernel
theorem d_Tokens_takeNumber_9 : decode b_Tokens_takeNumber 9 = .ok (.iconst 2, 1) := by decide +kernel
theorem d_Tokens_takeNumber_10 : decode b_Tokens_takeNumber 10 = .ok (.invokevirtual 79, 3) := by decide +kernel
theorem d_Tokens_takeNumber_13 : decode b_Tokens_takeNumber 13 = .ok (.pop, 1) := by decide +kernel
theorem d_Tokens_takeNumber_14 : decode b_Tokens_takeNumber 14 = .ok (.iconst (-1), 1) := by decide +kernel
theorem d_Tokens_takeNumber_15 : decode b_Tokens_takeNumber 15 = .ok (.ireturn, 1) := by decide +kernel
theorem d_Tokens_takeNumber_16 : decode b_Tokens_takeNumber 16 = .ok (.aload_n 0, 1) := by decide +kernel
theorem d_Tokens_takeNumber_17 : decode b_Tokens_takeNumber 17 = .ok (.getfield 26, 3) := by decide +kernel
theorem d_Tokens_takeNumber_20 : decode b_Tokens_takeNumber 20 = .ok (.aload_n 0, 1) := by decide +kernel
theorem d_Tokens_takeNumber_21 : decode b_Tokens_takeNumber 21 = .ok (.getfield 33, 3) := by decide +kernel
theorem d_Tokens_takeNumber_24 : decode b_Tokens_takeNumber 24 = .ok (.laload, 1) := by decide +kernel
theorem d_Tokens_takeNumber_25 : decode b_Tokens_takeNumber 25 = .ok (.l2i, 1) := by decide +kernel
theorem d_Tokens_takeNumber_26 : decode b_Tokens_takeNumber 26 = .ok (.istore_n 3, 1) := by decide +kernel
theorem d_Tokens_takeNumber_27 : decode b_Tokens_takeNumber 27 = .ok (.iload_n 3, 1) := by decide +kernel
theorem d_Tokens_takeNumber_28 : decode b_Tokens_takeNumber 28 = .ok (.iload_n 1, 1) := by decide +kernel
theorem d_Tokens_takeNumber_29 : decode b_Tokens_takeNumber 29 = .ok (.iload_n 2, 1) := by decide +kernel
theorem d_Tokens_takeNumber_30 : decode b_Tokens_takeNumber 30 = .ok (.invokestatic 85, 3) := by decide +kernel
theorem d_Tokens_takeNumber_33 : decode b_Tokens_takeNumber 33 = .ok (.ifCond .ne 11, 3) := by decide +kernel
theorem d_Tokens_takeNumber_36 : decode b_Tokens_takeNumber 36 = .ok (.aload_n 0, 1) := by decide +kernel
theorem d_Tokens_takeNumber_37 : decode b_Tokens_takeNumber 37 = .ok (.iconst 4, 1) := by decide +kernel
theorem d_Tokens_takeNumber_38 : decode b_Tokens_takeNumber 38 = .ok (.invokevirtual 79, 3) := by decide +kernel
theorem d_Tokens_takeNumber_41 : decode b_Tokens_takeNumber 41 = .ok (.pop, 1) := by decide +kernel
theorem d_Tokens_takeNumber_42 : decode b_Tokens_takeNumber 42 = .ok (.iconst (-1), 1) := by decide +kernel
theorem d_Tokens_takeNumber_43 : decode b_Tokens_takeNumber 43 = .ok (.ireturn, 1) := by decide +kernel
theorem d_Tokens_takeNumber_44 : decode b_Tokens_takeNumber 44 = .ok (.aload_n 0, 1) := by decide +kernel
theorem d_Tokens_takeNumber_45 : decode b_Tokens_takeNumber 45 = .ok (.invokevirtual 76, 3) := by decide +kernel
theorem d_Tokens_takeNumber_48 : decode b_Tokens_takeNumber 48 = .ok (.iload_n 3, 1) := by decide +kernel
theorem d_Tokens_takeNumber_49 : decode b_Tokens_takeNumber 49 = .ok (.ireturn, 1) := by decide +kernel
theorem d_Tokens_takeWord_0 : decode b_Tokens_takeWord 0 = .ok (.aload_n 0, 1) := by decide +kernel
theorem d_Tokens_takeWord_1 : decode b_Tokens_takeWord 1 = .ok (.getfield 42, 3) := by decide +kernel
theorem d_Tokens_takeWord_4 : decode b_Tokens_takeWord 4 = .ok (.iload_n 1, 1) := by decide +kernel
theorem d_Tokens_takeWord_5 : decode b_Tokens_takeWord 5 = .ok (.if_icmp .eq 9, 3) := by decide +kernel
theorem d_Tokens_takeWord_8 : decode b_Tokens_takeWord 8 = .ok (.aload_n 0, 1) := by decide +kernel
theorem d_Tokens_takeWord_9 : decode b_Tokens_takeWord 9 = .ok (.iconst 2, 1) := by decide +kernel
theorem d_Tokens_takeWord_10 : decode b_Tokens_takeWord 10 = .ok (.invokevirtual 79, 3) := by decide +kernel
theorem d_Tokens_takeWord_13 : decode b_Tokens_takeWord 13 = .ok (.ireturn, 1) := by decide +kernel
theorem d_Tokens_takeWord_14 : decode b_Tokens_takeWord 14 = .ok (.aload_n 0, 1) := by decide +kernel
theorem d_Tokens_takeWord_15 : decode b_Tokens_takeWord 15 = .ok (.invokevirtual 76, 3) := by decide +kernel
theorem d_Tokens_takeWord_18 : decode b_Tokens_takeWord 18 = .ok (.iconst 1, 1) := by decide +kernel
theorem d_Tokens_takeWord_19 : decode b_Tokens_takeWord 19 = .ok (.ireturn, 1) := by decide +kernel
theorem d_Tokens_takeSemicolon_0 : decode b_Tokens_takeSemicolon 0 = .ok (.aload_n 0, 1) := by decide +kernel
theorem d_Tokens_takeSemicolon_1 : decode b_Tokens_takeSemicolon 1 = .ok (.getfield 39, 3) := by decide +kernel
theorem d_Tokens_takeSemicolon_4 : decode b_Tokens_takeSemicolon 4 = .ok (.iconst 5, 1) := by decide +kernel
theorem d_Tokens_takeSemicolon_5 : decode b_Tokens_takeSemicolon 5 = .ok (.if_icmp .ne 19, 3) := by decide +kernel
theorem d_Tokens_takeSemicolon_8 : decode b_Tokens_takeSemicolon 8 = .ok (.aload_n 0, 1) := by decide +kernel
theorem d_Tokens_takeSemicolon_9 : decode b_Tokens_takeSemicolon 9 = .ok (.getfield 26, 3) := by decide +kernel
theorem d_Tokens_takeSemicolon_12 : decode b_Tokens_takeSemicolon 12 = .ok (.aload_n 0, 1) := by decide +kernel
theorem d_Tokens_takeSemicolon_13 : decode b_Tokens_takeSemicolon 13 = .ok (.getfield 33, 3) := by decide +kernel
theorem d_Tokens_takeSemicolon_16 : decode b_Tokens_takeSemicolon 16 = .ok (.laload, 1) := by decide +kernel
theorem d_Tokens_takeSemicolon_17 : decode b_Tokens_takeSemicolon 17 = .ok (.ldc2_w 83, 3) := by decide +kernel
theorem d_Tokens_takeSemicolon_20 : decode b_Tokens_takeSemicolon 20 = .ok (.lcmp, 1) := by decide +kernel
theorem d_Tokens_takeSemicolon_21 : decode b_Tokens_takeSemicolon 21 = .ok (.ifCond .eq 9, 3) := by decide +kernel
theorem d_Tokens_takeSemicolon_24 : decode b_Tokens_takeSemicolon 24 = .ok (.aload_n 0, 1) := by decide +kernel
theorem d_Tokens_takeSemicolon_25 : decode b_Tokens_takeSemicolon 25 = .ok (.iconst 2, 1) := by decide +kernel
theorem d_Tokens_takeSemicolon_26 : decode b_Tokens_takeSemicolon 26 = .ok (.invokevirtual 79, 3) := by decide +kernel
theorem d_Tokens_takeSemicolon_29 : decode b_Tokens_takeSemicolon 29 = .ok (.ireturn, 1) := by decide +kernel
theorem d_Tokens_takeSemicolon_30 : decode b_Tokens_takeSemicolon 30 = .ok (.aload_n 0, 1) := by decide +kernel
theorem d_Tokens_takeSemicolon_31 : decode b_Tokens_takeSemicolon 31 = .ok (.invokevirtual 76, 3) := by decide +kernel
theorem d_Tokens_takeSemicolon_34 : decode b_Tokens_takeSemicolon 34 = .ok (.iconst 1, 1) := by decide +kernel
theorem d_Tokens_takeSemicolon_35 : decode b_Tokens_takeSemicolon 35 = .ok (.ireturn, 1) := by decide +kernel
theorem d_SquareReader_readOdds_0 : decode b_SquareReader_readOdds 0 = .ok (.aload_n 0, 1) := by decide +kernel
theorem d_SquareReader_readOdds_1 : decode b_SquareReader_readOdds 1 = .ok (.getfield 15, 3) := by decide +kernel
theorem d_SquareReader_readOdds_4 : decode b_SquareReader_readOdds 4 = .ok (.ifCond .eq 9, 3) := by decide +kernel
theorem d_SquareReader_readOdds_7 : decode b_SquareReader_readOdds 7 = .ok (.aload_n 1, 1) := by decide +kernel
theorem d_SquareReader_readOdds_8 : decode b_SquareReader_readOdds 8 = .ok (.iconst 5, 1) := by decide +kernel
theorem d_SquareReader_readOdds_9 : decode b_SquareReader_readOdds 9 = .ok (.invokevirtual 61, 3) := by decide +kernel
theorem d_SquareReader_readOdds_12 : decode b_SquareReader_readOdds 12 = .ok (.ireturn, 1) := by decide +kernel
theorem d_SquareReader_readOdds_13 : decode b_SquareReader_readOdds 13 = .ok (.aload_n 0, 1) := by decide +kernel
theorem d_SquareReader_readOdds_14 : decode b_SquareReader_readOdds 14 = .ok (.iconst 1, 1) := by decide +kernel
theorem d_SquareReader_readOdds_15 : decode b_SquareReader_readOdds 15 = .ok (.putfield 15, 3) := by decide +kernel
theorem d_SquareReader_readOdds_18 : decode b_SquareReader_readOdds 18 = .ok (.aload_n 1, 1) := by decide +kernel
theorem d_SquareReader_readOdds_19 : decode b_SquareReader_readOdds 19 = .ok (.invokevirtual 71, 3) := by decide +kernel
theorem d_SquareReader_readOdds_22 : decode b_SquareReader_readOdds 22 = .ok (.aload_n 2, 1) := by decide +kernel
theorem d_SquareReader_readOdds_23 : decode b_SquareReader_readOdds 23 = .ok (.aload_n 1, 1) := by decide +kernel
theorem d_SquareReader_readOdds_24 : decode b_SquareReader_readOdds 24 = .ok (.iconst 0, 1) := by decide +kernel
theorem d_SquareReader_readOdds_25 : decode b_SquareReader_readOdds 25 = .ok (.bipush 16, 2) := by decide +kernel
theorem d_SquareReader_readOdds_27 : decode b_SquareReader_readOdds 27 = .ok (.invokevirtual 74, 3) := by decide +kernel
theorem d_SquareReader_readOdds_30 : decode b_SquareReader_readOdds 30 = .ok (.putfield 91, 3) := by decide +kernel
theorem d_SquareReader_readOdds_33 : decode b_SquareReader_readOdds 33 = .ok (.aload_n 2, 1) := by decide +kernel
theorem d_SquareReader_readOdds_34 : decode b_SquareReader_readOdds 34 = .ok (.getfield 91, 3) := by decide +kernel
theorem d_SquareReader_readOdds_37 : decode b_SquareReader_readOdds 37 = .ok (.iconst (-1), 1) := by decide +kernel
theorem d_SquareReader_readOdds_38 : decode b_SquareReader_readOdds 38 = .ok (.if_icmp .eq 14, 3) := by decide +kernel
theorem d_SquareReader_readOdds_41 : decode b_SquareReader_readOdds 41 = .ok (.aload_n 1, 1) := by decide +kernel
theorem d_SquareReader_readOdds_42 : decode b_SquareReader_readOdds 42 = .ok (.invokevirtual 87, 3) := by decide +kernel
theorem d_SquareReader_readOdds_45 : decode b_SquareReader_readOdds 45 = .ok (.ifCond .eq 7, 3) := by decide +kernel
theorem d_SquareReader_readOdds_48 : decode b_SquareReader_readOdds 48 = .ok (.iconst 1, 1) := by decide +kernel
theorem d_SquareReader_readOdds_49 : decode b_SquareReader_readOdds 49 = .ok (.goto 4, 3) := by decide +kernel
theorem d_SquareReader_readOdds_52 : decode b_SquareReader_readOdds 52 = .ok (.iconst 0, 1) := by decide +kernel
theorem d_SquareReader_readOdds_53 : decode b_SquareReader_readOdds 53 = .ok (.ireturn, 1) := by decide +kernel
theorem d_SquareReader_readOrgan_0 : decode b_SquareReader_readOrgan 0 = .ok (.aload_n 0, 1) := by decide +kernel
theorem d_SquareReader_readOrgan_1 : decode b_SquareReader_readOrgan 1 = .ok (.getfield 18, 3) := by decide +kernel
theorem d_SquareReader_readOrgan_4 : decode b_SquareReader_readOrgan 4 = .ok (.ifCond .eq 9, 3) := by decide +kernel
theorem d_SquareReader_readOrgan_7 : decode b_SquareReader_readOrgan 7 = .ok (.aload_n 1, 1) := by decide +kernel
theorem d_SquareReader_readOrgan_8 : decode b_SquareReader_readOrgan 8 = .ok (.iconst 5, 1) := by decide +kernel
theorem d_SquareReader_readOrgan_9 : decode b_SquareReader_readOrgan 9 = .ok (.invokevirtual 61, 3) := by decide +kernel
theorem d_SquareReader_readOrgan_12 : decode b_SquareReader_readOrgan 12 = .ok (.ireturn, 1) := by decide +kernel
theorem d_SquareReader_readOrgan_13 : decode b_SquareReader_readOrgan 13 = .ok (.aload_n 0, 1) := by decide +kernel
theorem d_SquareReader_readOrgan_14 : decode b_SquareReader_readOrgan 14 = .ok (.iconst 1, 1) := by decide +kernel
theorem d_SquareReader_readOrgan_15 : decode b_SquareReader_readOrgan 15 = .ok (.putfield 18, 3) := by decide +kernel
theorem d_SquareReader_readOrgan_18 : decode b_SquareReader_readOrgan 18 = .ok (.aload_n 1, 1) := by decide +kernel
theorem d_SquareReader_readOrgan_19 : decode b_SquareReader_readOrgan 19 = .ok (.invokevirtual 71, 3) := by decide +kernel
theorem d_SquareReader_readOrgan_22 : decode b_SquareReader_readOrgan 22 = .ok (.aload_n 2, 1) := by decide +kernel
theorem d_SquareReader_readOrgan_23 : decode b_SquareReader_readOrgan 23 = .ok (.aload_n 1, 1) := by decide +kernel
theorem d_SquareReader_readOrgan_24 : decode b_SquareReader_readOrgan 24 = .ok (.iconst 0, 1) := by decide +kernel
theorem d_SquareReader_readOrgan_25 : decode b_SquareReader_readOrgan 25 = .ok (.aload_n 2, 1) := by decide +kernel
theorem d_SquareReader_readOrgan_26 : decode b_SquareReader_readOrgan 26 = .ok (.invokevirtual 94, 3) := by decide +kernel
theorem d_SquareReader_readOrgan_29 : decode b_SquareReader_readOrgan 29 = .ok (.iconst 1, 1) := by decide +kernel
theorem d_SquareReader_readOrgan_30 : decode b_SquareReader_readOrgan 30 = .ok (.isub, 1) := by decide +kernel
theorem d_SquareReader_readOrgan_31 : decode b_SquareReader_readOrgan 31 = .ok (.invokevirtual 74, 3) := by decide +kernel
theorem d_SquareReader_readOrgan_34 : decode b_SquareReader_readOrgan 34 = .ok (.putfield 98, 3) := by decide +kernel
theorem d_SquareReader_readOrgan_37 : decode b_SquareReader_readOrgan 37 = .ok (.aload_n 2, 1) := by decide +kernel
theorem d_SquareReader_readOrgan_38 : decode b_SquareReader_readOrgan 38 = .ok (.getfield 98, 3) := by decide +kernel
theorem d_SquareReader_readOrgan_41 : decode b_SquareReader_readOrgan 41 = .ok (.iconst (-1), 1) := by decide +kernel
theorem d_SquareReader_readOrgan_42 : decode b_SquareReader_readOrgan 42 = .ok (.if_icmp .eq 14, 3) := by decide +kernel
theorem d_SquareReader_readOrgan_45 : decode b_SquareReader_readOrgan 45 = .ok (.aload_n 1, 1) := by decide +kernel
theorem d_SquareReader_readOrgan_46 : decode b_SquareReader_readOrgan 46 = .ok (.invokevirtual 87, 3) := by decide +kernel
theorem d_SquareReader_readOrgan_49 : decode b_SquareReader_readOrgan 49 = .ok (.ifCond .eq 7, 3) := by decide +kernel
theorem d_SquareReader_readOrgan_52 : decode b_SquareReader_readOrgan 52 = .ok (.iconst 1, 1) := by decide +kernel
theorem d_SquareReader_readOrgan_53 : decode b_SquareReader_readOrgan 53 = .ok (.goto 4, 3) := by decide +kernel
theorem d_SquareReader_readOrgan_56 : decode b_SquareReader_readOrgan 56 = .ok (.iconst 0, 1) := by decide +kernel
theorem d_SquareReader_readOrgan_57 : decode b_SquareReader_readOrgan 57 = .ok (.ireturn, 1) := by decide +kernel
theorem d_Square_cells_0 : decode b_Square_cells 0 = .ok (.aload_n 0, 1) := by decide +kernel
theorem d_Square_cells_1 : decode b_Square_cells 1 = .ok (.getfield 35, 3) := by decide +kernel
theorem d_Square_cells_4 : decode b_Square_cells 4 = .ok (.aload_n 0, 1) := by decide +kernel
theorem d_Square_cells_5 : decode b_Square_cells 5 = .ok (.getfield 39, 3) := by decide +kernel
theorem d_Square_cells_8 : decode b_Square_cells 8 = .ok (.imul, 1) := by decide +kernel
theorem d_Square_cells_9 : decode b_Square_cells 9 = .ok (.ireturn, 1) := by decide +kernel
theorem d_SquareReader_readTune_0 : decode b_SquareReader_readTune 0 = .ok (.aload_n 2, 1) := by decide +kernel
theorem d_SquareReader_readTune_1 : decode b_SquareReader_readTune 1 = .ok (.getfield 101, 3) := by decide +kernel
theorem d_SquareReader_readTune_4 : decode b_SquareReader_readTune 4 = .ok (.bipush 6, 2) := by decide +kernel
theorem d_SquareReader_readTune_6 : decode b_SquareReader_readTune 6 = .ok (.if_icmp .lt 10, 3) := by decide +kernel
theorem d_SquareReader_readTune_9 : decode b_SquareReader_readTune 9 = .ok (.aload_n 1, 1) := by decide +kernel
theorem d_SquareReader_readTune_10 : decode b_SquareReader_readTune 10 = .ok (.bipush 6, 2) := by decide +kernel
theorem d_SquareReader_readTune_12 : decode b_SquareReader_readTune 12 = .ok (.invokevirtual 61, 3) := by decide +kernel
theorem d_SquareReader_readTune_15 : decode b_SquareReader_readTune 15 = .ok (.ireturn, 1) := by decide +kernel
theorem d_SquareReader_readTune_16 : decode b_SquareReader_readTune 16 = .ok (.aload_n 1, 1) := by decide +kernel
theorem d_SquareReader_readTune_17 : decode b_SquareReader_readTune 17 = .ok (.invokevirtual 71, 3) := by decide +kernel
theorem d_SquareReader_readTune_20 : decode b_SquareReader_readTune 20 = .ok (.aload_n 1, 1) := by decide +kernel
theorem d_SquareReader_readTune_21 : decode b_SquareReader_readTune 21 = .ok (.invokevirtual 104, 3) := by decide +kernel
theorem d_SquareReader_readTune_24 : decode b_SquareReader_readTune 24 = .ok (.lstore_n 3, 1) := by decide +kernel
theorem d_SquareReader_readTune_25 : decode b_SquareReader_readTune 25 = .ok (.lload_n 3, 1) := by decide +kernel
theorem d_SquareReader_readTune_26 : decode b_SquareReader_readTune 26 = .ok (.lconst 0, 1) := by decide +kernel
theorem d_SquareReader_readTune_27 : decode b_SquareReader_readTune 27 = .ok (.lcmp, 1) := by decide +kernel
theorem d_SquareReader_readTune_28 : decode b_SquareReader_readTune 28 = .ok (.ifCond .ne 5, 3) := by decide +kernel
theorem d_SquareReader_readTune_31 : decode b_SquareReader_readTune 31 = .ok (.iconst 0, 1) := by decide +kernel
theorem d_SquareReader_readTune_32 : decode b_SquareReader_readTune 32 = .ok (.ireturn, 1) := by decide +kernel
theorem d_SquareReader_readTune_33 : decode b_SquareReader_readTune 33 = .ok (.aload_n 2, 1) := by decide +kernel
theorem d_SquareReader_readTune_34 : decode b_SquareReader_readTune 34 = .ok (.lload_n 3, 1) := by decide +kernel
theorem d_SquareReader_readTune_35 : decode b_SquareReader_readTune 35 = .ok (.invokevirtual 108, 3) := by decide +kernel
theorem d_SquareReader_readTune_38 : decode b_SquareReader_readTune 38 = .ok (.iconst (-1), 1) := by decide +kernel
theorem d_SquareReader_readTune_39 : decode b_SquareReader_readTune 39 = .ok (.if_icmp .eq 9, 3) := by decide +kernel
theorem d_SquareReader_readTune_42 : decode b_SquareReader_readTune 42 = .ok (.aload_n 1, 1) := by decide +kernel
theorem d_SquareReader_readTune_43 : decode b_SquareReader_readTune 43 = .ok (.iconst 3, 1) := by decide +kernel
theorem d_SquareReader_readTune_44 : decode b_SquareReader_readTune 44 = .ok (.invokevirtual 61, 3) := by decide +kernel
theorem d_SquareReader_readTune_47 : decode b_SquareReader_readTune 47 = .ok (.ireturn, 1) := by decide +kernel
theorem d_SquareReader_readTune_48 : decode b_SquareReader_readTune 48 = .ok (.aload_n 2, 1) := by decide +kernel
theorem d_SquareReader_readTune_49 : decode b_SquareReader_readTune 49 = .ok (.getfield 112, 3) := by decide +kernel
theorem d_SquareReader_readTune_52 : decode b_SquareReader_readTune 52 = .ok (.aload_n 2, 1) := by decide +kernel
theorem d_SquareReader_readTune_53 : decode b_SquareReader_readTune 53 = .ok (.getfield 101, 3) := by decide +kernel
theorem d_SquareReader_readTune_56 : decode b_SquareReader_readTune 56 = .ok (.lload_n 3, 1) := by decide +kernel
theorem d_SquareReader_readTune_57 : decode b_SquareReader_readTune 57 = .ok (.lastore, 1) := by decide +kernel
theorem d_SquareReader_readTune_58 : decode b_SquareReader_readTune 58 = .ok (.aload_n 2, 1) := by decide +kernel
theorem d_SquareReader_readTune_59 : decode b_SquareReader_readTune 59 = .ok (.dup, 1) := by decide +kernel
theorem d_SquareReader_readTune_60 : decode b_SquareReader_readTune 60 = .ok (.getfield 101, 3) := by decide +kernel
theorem d_SquareReader_readTune_63 : decode b_SquareReader_readTune 63 = .ok (.iconst 1, 1) := by decide +kernel
theorem d_SquareReader_readTune_64 : decode b_SquareReader_readTune 64 = .ok (.iadd, 1) := by decide +kernel
theorem d_SquareReader_readTune_65 : decode b_SquareReader_readTune 65 = .ok (.putfield 101, 3) := by decide +kernel
theorem d_SquareReader_readTune_68 : decode b_SquareReader_readTune 68 = .ok (.aload_n 1, 1) := by decide +kernel
theorem d_SquareReader_readTune_69 : decode b_SquareReader_readTune 69 = .ok (.invokevirtual 71, 3) := by decide +kernel
theorem d_SquareReader_readTune_72 : decode b_SquareReader_readTune 72 = .ok (.aload_n 1, 1) := by decide +kernel
theorem d_SquareReader_readTune_73 : decode b_SquareReader_readTune 73 = .ok (.invokevirtual 87, 3) := by decide +kernel
theorem d_SquareReader_readTune_76 : decode b_SquareReader_readTune 76 = .ok (.ireturn, 1) := by decide +kernel
theorem d_Tokens_nameHere_0 : decode b_Tokens_nameHere 0 = .ok (.aload_n 0, 1) := by decide +kernel
theorem d_Tokens_nameHere_1 : decode b_Tokens_nameHere 1 = .ok (.getfield 39, 3) := by decide +kernel
theorem d_Tokens_nameHere_4 : decode b_Tokens_nameHere 4 = .ok (.iconst 1, 1) := by decide +kernel
theorem d_Tokens_nameHere_5 : decode b_Tokens_nameHere 5 = .ok (.if_icmp .eq 11, 3) := by decide +kernel
theorem d_Tokens_nameHere_8 : decode b_Tokens_nameHere 8 = .ok (.aload_n 0, 1) := by decide +kernel
theorem d_Tokens_nameHere_9 : decode b_Tokens_nameHere 9 = .ok (.iconst 2, 1) := by decide +kernel
theorem d_Tokens_nameHere_10 : decode b_Tokens_nameHere 10 = .ok (.invokevirtual 79, 3) := by decide +kernel
theorem d_Tokens_nameHere_13 : decode b_Tokens_nameHere 13 = .ok (.pop, 1) := by decide +kernel
theorem d_Tokens_nameHere_14 : decode b_Tokens_nameHere 14 = .ok (.lconst 0, 1) := by decide +kernel
theorem d_Tokens_nameHere_15 : decode b_Tokens_nameHere 15 = .ok (.lreturn, 1) := by decide +kernel
theorem d_Tokens_nameHere_16 : decode b_Tokens_nameHere 16 = .ok (.aload_n 0, 1) := by decide +kernel
theorem d_Tokens_nameHere_17 : decode b_Tokens_nameHere 17 = .ok (.getfield 26, 3) := by decide +kernel
theorem d_Tokens_nameHere_20 : decode b_Tokens_nameHere 20 = .ok (.aload_n 0, 1) := by decide +kernel
theorem d_Tokens_nameHere_21 : decode b_Tokens_nameHere 21 = .ok (.getfield 33, 3) := by decide +kernel
theorem d_Tokens_nameHere_24 : decode b_Tokens_nameHere 24 = .ok (.laload, 1) := by decide +kernel
theorem d_Tokens_nameHere_25 : decode b_Tokens_nameHere 25 = .ok (.lreturn, 1) := by decide +kernel
theorem d_Square_tuneNamed_0 : decode b_Square_tuneNamed 0 = .ok (.iconst 0, 1) := by decide +kernel
theorem d_Square_tuneNamed_1 : decode b_Square_tuneNamed 1 = .ok (.istore_n 3, 1) := by decide +kernel
theorem d_Square_tuneNamed_2 : decode b_Square_tuneNamed 2 = .ok (.iload_n 3, 1) := by decide +kernel
theorem d_Square_tuneNamed_3 : decode b_Square_tuneNamed 3 = .ok (.aload_n 0, 1) := by decide +kernel
theorem d_Square_tuneNamed_4 : decode b_Square_tuneNamed 4 = .ok (.getfield 48, 3) := by decide +kernel
theorem d_Square_tuneNamed_7 : decode b_Square_tuneNamed 7 = .ok (.if_icmp .ge 22, 3) := by decide +kernel
theorem d_Square_tuneNamed_10 : decode b_Square_tuneNamed 10 = .ok (.aload_n 0, 1) := by decide +kernel
theorem d_Square_tuneNamed_11 : decode b_Square_tuneNamed 11 = .ok (.getfield 9, 3) := by decide +kernel
theorem d_Square_tuneNamed_14 : decode b_Square_tuneNamed 14 = .ok (.iload_n 3, 1) := by decide +kernel
theorem d_Square_tuneNamed_15 : decode b_Square_tuneNamed 15 = .ok (.laload, 1) := by decide +kernel
theorem d_Square_tuneNamed_16 : decode b_Square_tuneNamed 16 = .ok (.lload_n 1, 1) := by decide +kernel
theorem d_Square_tuneNamed_17 : decode b_Square_tuneNamed 17 = .ok (.lcmp, 1) := by decide +kernel
theorem d_Square_tuneNamed_18 : decode b_Square_tuneNamed 18 = .ok (.ifCond .ne 5, 3) := by decide +kernel
theorem d_Square_tuneNamed_21 : decode b_Square_tuneNamed 21 = .ok (.iload_n 3, 1) := by decide +kernel
theorem d_Square_tuneNamed_22 : decode b_Square_tuneNamed 22 = .ok (.ireturn, 1) := by decide +kernel
theorem d_Square_tuneNamed_23 : decode b_Square_tuneNamed 23 = .ok (.iinc 3 1, 3) := by decide +kernel
theorem d_Square_tuneNamed_26 : decode b_Square_tuneNamed 26 = .ok (.goto (-24), 3) := by decide +kernel
theorem d_Square_tuneNamed_29 : decode b_Square_tuneNamed 29 = .ok (.iconst (-1), 1) := by decide +kernel
theorem d_Square_tuneNamed_30 : decode b_Square_tuneNamed 30 = .ok (.ireturn, 1) := by decide +kernel
theorem d_SquareReader_readHearer_0 : decode b_SquareReader_readHearer 0 = .ok (.aload_n 2, 1) := by decide +kernel
theorem d_SquareReader_readHearer_1 : decode b_SquareReader_readHearer 1 = .ok (.getfield 65, 3) := by decide +kernel
theorem d_SquareReader_readHearer_4 : decode b_SquareReader_readHearer 4 = .ok (.bipush 6, 2) := by decide +kernel
theorem d_SquareReader_readHearer_6 : decode b_SquareReader_readHearer 6 = .ok (.if_icmp .lt 10, 3) := by decide +kernel
theorem d_SquareReader_readHearer_9 : decode b_SquareReader_readHearer 9 = .ok (.aload_n 1, 1) := by decide +kernel
theorem d_SquareReader_readHearer_10 : decode b_SquareReader_readHearer 10 = .ok (.bipush 6, 2) := by decide +kernel
theorem d_SquareReader_readHearer_12 : decode b_SquareReader_readHearer 12 = .ok (.invokevirtual 61, 3) := by decide +kernel
theorem d_SquareReader_readHearer_15 : decode b_SquareReader_readHearer 15 = .ok (.ireturn, 1) := by decide +kernel
theorem d_SquareReader_readHearer_16 : decode b_SquareReader_readHearer 16 = .ok (.aload_n 1, 1) := by decide +kernel
theorem d_SquareReader_readHearer_17 : decode b_SquareReader_readHearer 17 = .ok (.invokevirtual 71, 3) := by decide +kernel
theorem d_SquareReader_readHearer_20 : decode b_SquareReader_readHearer 20 = .ok (.aload_n 1, 1) := by decide +kernel
theorem d_SquareReader_readHearer_21 : decode b_SquareReader_readHearer 21 = .ok (.bipush 6, 2) := by decide +kernel
theorem d_SquareReader_readHearer_23 : decode b_SquareReader_readHearer 23 = .ok (.invokevirtual 78, 3) := by decide +kernel
theorem d_SquareReader_readHearer_26 : decode b_SquareReader_readHearer 26 = .ok (.ifCond .ne 5, 3) := by decide +kernel
theorem d_SquareReader_readHearer_29 : decode b_SquareReader_readHearer 29 = .ok (.iconst 0, 1) := by decide +kernel
theorem d_SquareReader_readHearer_30 : decode b_SquareReader_readHearer 30 = .ok (.ireturn, 1) := by decide +kernel
theorem d_SquareReader_readHearer_31 : decode b_SquareReader_readHearer 31 = .ok (.aload_n 1, 1) := by decide +kernel
theorem d_SquareReader_readHearer_32 : decode b_SquareReader_readHearer 32 = .ok (.iconst 0, 1) := by decide +kernel
theorem d_SquareReader_readHearer_33 : decode b_SquareReader_readHearer 33 = .ok (.aload_n 2, 1) := by decide +kernel
theorem d_SquareReader_readHearer_34 : decode b_SquareReader_readHearer 34 = .ok (.invokevirtual 94, 3) := by decide +kernel
theorem d_SquareReader_readHearer_37 : decode b_SquareReader_readHearer 37 = .ok (.iconst 1, 1) := by decide +kernel
theorem d_SquareReader_readHearer_38 : decode b_SquareReader_readHearer 38 = .ok (.isub, 1) := by decide +kernel
theorem d_SquareReader_readHearer_39 : decode b_SquareReader_readHearer 39 = .ok (.invokevirtual 74, 3) := by decide +kernel
theorem d_SquareReader_readHearer_42 : decode b_SquareReader_readHearer 42 = .ok (.istore_n 3, 1) := by decide +kernel
theorem d_SquareReader_readHearer_43 : decode b_SquareReader_readHearer 43 = .ok (.iload_n 3, 1) := by decide +kernel
theorem d_SquareReader_readHearer_44 : decode b_SquareReader_readHearer 44 = .ok (.iconst (-1), 1) := by decide +kernel
theorem d_SquareReader_readHearer_45 : decode b_SquareReader_readHearer 45 = .ok (.if_icmp .ne 5, 3) := by decide +kernel
theorem d_SquareReader_readHearer_48 : decode b_SquareReader_readHearer 48 = .ok (.iconst 0, 1) := by decide +kernel
theorem d_SquareReader_readHearer_49 : decode b_SquareReader_readHearer 49 = .ok (.ireturn, 1) := by decide +kernel
theorem d_SquareReader_readHearer_50 : decode b_SquareReader_readHearer 50 = .ok (.iconst 3, 1) := by decide +kernel
theorem d_SquareReader_readHearer_51 : decode b_SquareReader_readHearer 51 = .ok (.istore 4, 2) := by decide +kernel
theorem d_SquareReader_readHearer_53 : decode b_SquareReader_readHearer 53 = .ok (.aload_n 1, 1) := by decide +kernel
theorem d_SquareReader_readHearer_54 : decode b_SquareReader_readHearer 54 = .ok (.getfield 40, 3) := by decide +kernel
theorem d_SquareReader_readHearer_57 : decode b_SquareReader_readHearer 57 = .ok (.bipush 7, 2) := by decide +kernel
theorem d_SquareReader_readHearer_59 : decode b_SquareReader_readHearer 59 = .ok (.if_icmp .ne 16, 3) := by decide +kernel
theorem d_SquareReader_readHearer_62 : decode b_SquareReader_readHearer 62 = .ok (.aload_n 1, 1) := by decide +kernel
theorem d_SquareReader_readHearer_63 : decode b_SquareReader_readHearer 63 = .ok (.invokevirtual 71, 3) := by decide +kernel
theorem d_SquareReader_readHearer_66 : decode b_SquareReader_readHearer 66 = .ok (.aload_n 1, 1) := by decide +kernel
theorem d_SquareReader_readHearer_67 : decode b_SquareReader_readHearer 67 = .ok (.iconst 0, 1) := by decide +kernel
theorem d_SquareReader_readHearer_68 : decode b_SquareReader_readHearer 68 = .ok (.bipush 99, 2) := by decide +kernel
theorem d_SquareReader_readHearer_70 : decode b_SquareReader_readHearer 70 = .ok (.invokevirtual 74, 3) := by decide +kernel
theorem d_SquareReader_readHearer_73 : decode b_SquareReader_readHearer 73 = .ok (.istore 4, 2) := by decide +kernel
theorem d_SquareReader_readHearer_75 : decode b_SquareReader_readHearer 75 = .ok (.iload 4, 2) := by decide +kernel
theorem d_SquareReader_readHearer_77 : decode b_SquareReader_readHearer 77 = .ok (.iconst (-1), 1) := by decide +kernel
theorem d_SquareReader_readHearer_78 : decode b_SquareReader_readHearer 78 = .ok (.if_icmp .ne 5, 3) := by decide +kernel
theorem d_SquareReader_readHearer_81 : decode b_SquareReader_readHearer 81 = .ok (.iconst 0, 1) := by decide +kernel
theorem d_SquareReader_readHearer_82 : decode b_SquareReader_readHearer 82 = .ok (.ireturn, 1) := by decide +kernel
theorem d_SquareReader_readHearer_83 : decode b_SquareReader_readHearer 83 = .ok (.aload_n 1, 1) := by decide +kernel
theorem d_SquareReader_readHearer_84 : decode b_SquareReader_readHearer 84 = .ok (.getfield 40, 3) := by decide +kernel
theorem d_SquareReader_readHearer_87 : decode b_SquareReader_readHearer 87 = .ok (.bipush 8, 2) := by decide +kernel
theorem d_SquareReader_readHearer_89 : decode b_SquareReader_readHearer 89 = .ok (.if_icmp .ne 12, 3) := by decide +kernel
theorem d_SquareReader_readHearer_92 : decode b_SquareReader_readHearer 92 = .ok (.aload_n 0, 1) := by decide +kernel
theorem d_SquareReader_readHearer_93 : decode b_SquareReader_readHearer 93 = .ok (.aload_n 1, 1) := by decide +kernel
theorem d_SquareReader_readHearer_94 : decode b_SquareReader_readHearer 94 = .ok (.aload_n 2, 1) := by decide +kernel
theorem d_SquareReader_readHearer_95 : decode b_SquareReader_readHearer 95 = .ok (.invokevirtual 116, 3) := by decide +kernel
theorem d_SquareReader_readHearer_98 : decode b_SquareReader_readHearer 98 = .ok (.goto 4, 3) := by decide +kernel
theorem d_SquareReader_readHearer_101 : decode b_SquareReader_readHearer 101 = .ok (.iconst 0, 1) := by decide +kernel
theorem d_SquareReader_readHearer_102 : decode b_SquareReader_readHearer 102 = .ok (.istore 5, 2) := by decide +kernel
theorem d_SquareReader_readHearer_104 : decode b_SquareReader_readHearer 104 = .ok (.iload 5, 2) := by decide +kernel
theorem d_SquareReader_readHearer_106 : decode b_SquareReader_readHearer 106 = .ok (.iconst (-1), 1) := by decide +kernel
theorem d_SquareReader_readHearer_107 : decode b_SquareReader_readHearer 107 = .ok (.if_icmp .ne 5, 3) := by decide +kernel
theorem d_SquareReader_readHearer_110 : decode b_SquareReader_readHearer 110 = .ok (.iconst 0, 1) := by decide +kernel
theorem d_SquareReader_readHearer_111 : decode b_SquareReader_readHearer 111 = .ok (.ireturn, 1) := by decide +kernel
theorem d_SquareReader_readHearer_112 : decode b_SquareReader_readHearer 112 = .ok (.aload_n 2, 1) := by decide +kernel
theorem d_SquareReader_readHearer_113 : decode b_SquareReader_readHearer 113 = .ok (.iload_n 3, 1) := by decide +kernel
theorem d_SquareReader_readHearer_114 : decode b_SquareReader_readHearer 114 = .ok (.iload 4, 2) := by decide +kernel
theorem d_SquareReader_readHearer_116 : decode b_SquareReader_readHearer 116 = .ok (.iload 5, 2) := by decide +kernel
theorem d_SquareReader_readHearer_118 : decode b_SquareReader_readHearer 118 = .ok (.invokevirtual 120, 3) := by decide +kernel
theorem d_SquareReader_readHearer_121 : decode b_SquareReader_readHearer 121 = .ok (.aload_n 1, 1) := by decide +kernel
theorem d_SquareReader_readHearer_122 : decode b_SquareReader_readHearer 122 = .ok (.invokevirtual 87, 3) := by decide +kernel
theorem d_SquareReader_readHearer_125 : decode b_SquareReader_readHearer 125 = .ok (.ireturn, 1) := by decide +kernel
theorem d_SquareReader_readLikes_0 : decode b_SquareReader_readLikes 0 = .ok (.aload_n 1, 1) := by decide +kernel
theorem d_SquareReader_readLikes_1 : decode b_SquareReader_readLikes 1 = .ok (.invokevirtual 71, 3) := by decide +kernel
theorem d_SquareReader_readLikes_4 : decode b_SquareReader_readLikes 4 = .ok (.iconst 0, 1) := by decide +kernel
theorem d_SquareReader_readLikes_5 : decode b_SquareReader_readLikes 5 = .ok (.istore_n 3, 1) := by decide +kernel
theorem d_SquareReader_readLikes_6 : decode b_SquareReader_readLikes 6 = .ok (.iconst 0, 1) := by decide +kernel
theorem d_SquareReader_readLikes_7 : decode b_SquareReader_readLikes 7 = .ok (.istore 4, 2) := by decide +kernel
theorem d_SquareReader_readLikes_9 : decode b_SquareReader_readLikes 9 = .ok (.iload 4, 2) := by decide +kernel
theorem d_SquareReader_readLikes_11 : decode b_SquareReader_readLikes 11 = .ok (.bipush 6, 2) := by decide +kernel
theorem d_SquareReader_readLikes_13 : decode b_SquareReader_readLikes 13 = .ok (.if_icmp .gt 72, 3) := by decide +kernel
theorem d_SquareReader_readLikes_16 : decode b_SquareReader_readLikes 16 = .ok (.aload_n 1, 1) := by decide +kernel
theorem d_SquareReader_readLikes_17 : decode b_SquareReader_readLikes 17 = .ok (.getfield 32, 3) := by decide +kernel
theorem d_SquareReader_readLikes_20 : decode b_SquareReader_readLikes 20 = .ok (.iconst 1, 1) := by decide +kernel
theorem d_SquareReader_readLikes_21 : decode b_SquareReader_readLikes 21 = .ok (.if_icmp .ne 64, 3) := by decide +kernel
theorem d_SquareReader_readLikes_24 : decode b_SquareReader_readLikes 24 = .ok (.aload_n 2, 1) := by decide +kernel
theorem d_SquareReader_readLikes_25 : decode b_SquareReader_readLikes 25 = .ok (.aload_n 1, 1) := by decide +kernel
theorem d_SquareReader_readLikes_26 : decode b_SquareReader_readLikes 26 = .ok (.invokevirtual 104, 3) := by decide +kernel
theorem d_SquareReader_readLikes_29 : decode b_SquareReader_readLikes 29 = .ok (.invokevirtual 108, 3) := by decide +kernel
theorem d_SquareReader_readLikes_32 : decode b_SquareReader_readLikes 32 = .ok (.istore 5, 2) := by decide +kernel
theorem d_SquareReader_readLikes_34 : decode b_SquareReader_readLikes 34 = .ok (.iload 5, 2) := by decide +kernel
theorem d_SquareReader_readLikes_36 : decode b_SquareReader_readLikes 36 = .ok (.iconst (-1), 1) := by decide +kernel
theorem d_SquareReader_readLikes_37 : decode b_SquareReader_readLikes 37 = .ok (.if_icmp .eq 13, 3) := by decide +kernel
theorem d_SquareReader_readLikes_40 : decode b_SquareReader_readLikes 40 = .ok (.iload_n 3, 1) := by decide +kernel
theorem d_SquareReader_readLikes_41 : decode b_SquareReader_readLikes 41 = .ok (.iload 5, 2) := by decide +kernel
theorem d_SquareReader_readLikes_43 : decode b_SquareReader_readLikes 43 = .ok (.ishr, 1) := by decide +kernel
theorem d_SquareReader_readLikes_44 : decode b_SquareReader_readLikes 44 = .ok (.iconst 1, 1) := by decide +kernel
theorem d_SquareReader_readLikes_45 : decode b_SquareReader_readLikes 45 = .ok (.iand, 1) := by decide +kernel
theorem d_SquareReader_readLikes_46 : decode b_SquareReader_readLikes 46 = .ok (.iconst 1, 1) := by decide +kernel
theorem d_SquareReader_readLikes_47 : decode b_SquareReader_readLikes 47 = .ok (.if_icmp .ne 21, 3) := by decide +kernel
theorem d_SquareReader_readLikes_50 : decode b_SquareReader_readLikes 50 = .ok (.aload_n 1, 1) := by decide +kernel
theorem d_SquareReader_readLikes_51 : decode b_SquareReader_readLikes 51 = .ok (.iload 5, 2) := by decide +kernel
theorem d_SquareReader_readLikes_53 : decode b_SquareReader_readLikes 53 = .ok (.iconst (-1), 1) := by decide +kernel
theorem d_SquareReader_readLikes_54 : decode b_SquareReader_readLikes 54 = .ok (.if_icmp .ne 7, 3) := by decide +kernel
theorem d_SquareReader_readLikes_57 : decode b_SquareReader_readLikes 57 = .ok (.iconst 3, 1) := by decide +kernel
theorem d_SquareReader_readLikes_58 : decode b_SquareReader_readLikes 58 = .ok (.goto 4, 3) := by decide +kernel
theorem d_SquareReader_readLikes_61 : decode b_SquareReader_readLikes 61 = .ok (.iconst 5, 1) := by decide +kernel
theorem d_SquareReader_readLikes_62 : decode b_SquareReader_readLikes 62 = .ok (.invokevirtual 61, 3) := by decide +kernel
theorem d_SquareReader_readLikes_65 : decode b_SquareReader_readLikes 65 = .ok (.pop, 1) := by decide +kernel
theorem d_SquareReader_readLikes_66 : decode b_SquareReader_readLikes 66 = .ok (.iconst (-1), 1) := by decide +kernel
theorem d_SquareReader_readLikes_67 : decode b_SquareReader_readLikes 67 = .ok (.ireturn, 1) := by decide +kernel
theorem d_SquareReader_readLikes_68 : decode b_SquareReader_readLikes 68 = .ok (.iload_n 3, 1) := by decide +kernel
theorem d_SquareReader_readLikes_69 : decode b_SquareReader_readLikes 69 = .ok (.iconst 1, 1) := by decide +kernel
theorem d_SquareReader_readLikes_70 : decode b_SquareReader_readLikes 70 = .ok (.iload 5, 2) := by decide +kernel
theorem d_SquareReader_readLikes_72 : decode b_SquareReader_readLikes 72 = .ok (.ishl, 1) := by decide +kernel
theorem d_SquareReader_readLikes_73 : decode b_SquareReader_readLikes 73 = .ok (.ior, 1) := by decide +kernel
theorem d_SquareReader_readLikes_74 : decode b_SquareReader_readLikes 74 = .ok (.istore_n 3, 1) := by decide +kernel
theorem d_SquareReader_readLikes_75 : decode b_SquareReader_readLikes 75 = .ok (.aload_n 1, 1) := by decide +kernel
theorem d_SquareReader_readLikes_76 : decode b_SquareReader_readLikes 76 = .ok (.invokevirtual 71, 3) := by decide +kernel
theorem d_SquareReader_readLikes_79 : decode b_SquareReader_readLikes 79 = .ok (.iinc 4 1, 3) := by decide +kernel
theorem d_SquareReader_readLikes_82 : decode b_SquareReader_readLikes 82 = .ok (.goto (-73), 3) := by decide +kernel
theorem d_SquareReader_readLikes_85 : decode b_SquareReader_readLikes 85 = .ok (.iload_n 3, 1) := by decide +kernel
theorem d_SquareReader_readLikes_86 : decode b_SquareReader_readLikes 86 = .ok (.ireturn, 1) := by decide +kernel
theorem d_Square_addHearer_0 : decode b_Square_addHearer 0 = .ok (.aload_n 0, 1) := by decide +kernel
theorem d_Square_addHearer_1 : decode b_Square_addHearer 1 = .ok (.getfield 51, 3) := by decide +kernel
theorem d_Square_addHearer_4 : decode b_Square_addHearer 4 = .ok (.bipush 6, 2) := by decide +kernel
theorem d_Square_addHearer_6 : decode b_Square_addHearer 6 = .ok (.if_icmp .ge 43, 3) := by decide +kernel
theorem d_Square_addHearer_9 : decode b_Square_addHearer 9 = .ok (.aload_n 0, 1) := by decide +kernel
theorem d_Square_addHearer_10 : decode b_Square_addHearer 10 = .ok (.getfield 15, 3) := by decide +kernel
theorem d_Square_addHearer_13 : decode b_Square_addHearer 13 = .ok (.aload_n 0, 1) := by decide +kernel
theorem d_Square_addHearer_14 : decode b_Square_addHearer 14 = .ok (.getfield 51, 3) := by decide +kernel
theorem d_Square_addHearer_17 : decode b_Square_addHearer 17 = .ok (.iload_n 1, 1) := by decide +kernel
theorem d_Square_addHearer_18 : decode b_Square_addHearer 18 = .ok (.iastore, 1) := by decide +kernel
theorem d_Square_addHearer_19 : decode b_Square_addHearer 19 = .ok (.aload_n 0, 1) := by decide +kernel
theorem d_Square_addHearer_20 : decode b_Square_addHearer 20 = .ok (.getfield 19, 3) := by decide +kernel
theorem d_Square_addHearer_23 : decode b_Square_addHearer 23 = .ok (.aload_n 0, 1) := by decide +kernel
theorem d_Square_addHearer_24 : decode b_Square_addHearer 24 = .ok (.getfield 51, 3) := by decide +kernel
theorem d_Square_addHearer_27 : decode b_Square_addHearer 27 = .ok (.iload_n 2, 1) := by decide +kernel
theorem d_Square_addHearer_28 : decode b_Square_addHearer 28 = .ok (.iastore, 1) := by decide +kernel
theorem d_Square_addHearer_29 : decode b_Square_addHearer 29 = .ok (.aload_n 0, 1) := by decide +kernel
theorem d_Square_addHearer_30 : decode b_Square_addHearer 30 = .ok (.getfield 22, 3) := by decide +kernel
theorem d_Square_addHearer_33 : decode b_Square_addHearer 33 = .ok (.aload_n 0, 1) := by decide +kernel
theorem d_Square_addHearer_34 : decode b_Square_addHearer 34 = .ok (.getfield 51, 3) := by decide +kernel
theorem d_Square_addHearer_37 : decode b_Square_addHearer 37 = .ok (.iload_n 3, 1) := by decide +kernel
theorem d_Square_addHearer_38 : decode b_Square_addHearer 38 = .ok (.iastore, 1) := by decide +kernel
theorem d_Square_addHearer_39 : decode b_Square_addHearer 39 = .ok (.aload_n 0, 1) := by decide +kernel
theorem d_Square_addHearer_40 : decode b_Square_addHearer 40 = .ok (.dup, 1) := by decide +kernel
theorem d_Square_addHearer_41 : decode b_Square_addHearer 41 = .ok (.getfield 51, 3) := by decide +kernel
theorem d_Square_addHearer_44 : decode b_Square_addHearer 44 = .ok (.iconst 1, 1) := by decide +kernel
theorem d_Square_addHearer_45 : decode b_Square_addHearer 45 = .ok (.iadd, 1) := by decide +kernel
theorem d_Square_addHearer_46 : decode b_Square_addHearer 46 = .ok (.putfield 51, 3) := by decide +kernel
theorem d_Square_addHearer_49 : decode b_Square_addHearer 49 = .ok (.return_, 1) := by decide +kernel
theorem d_SquareReader_readDog_0 : decode b_SquareReader_readDog 0 = .ok (.aload_n 2, 1) := by decide +kernel
theorem d_SquareReader_readDog_1 : decode b_SquareReader_readDog 1 = .ok (.getfield 68, 3) := by decide +kernel
theorem d_SquareReader_readDog_4 : decode b_SquareReader_readDog 4 = .ok (.iconst 4, 1) := by decide +kernel
theorem d_SquareReader_readDog_5 : decode b_SquareReader_readDog 5 = .ok (.if_icmp .lt 10, 3) := by decide +kernel
theorem d_SquareReader_readDog_8 : decode b_SquareReader_readDog 8 = .ok (.aload_n 1, 1) := by decide +kernel
theorem d_SquareReader_readDog_9 : decode b_SquareReader_readDog 9 = .ok (.bipush 6, 2) := by decide +kernel
theorem d_SquareReader_readDog_11 : decode b_SquareReader_readDog 11 = .ok (.invokevirtual 61, 3) := by decide +kernel
theorem d_SquareReader_readDog_14 : decode b_SquareReader_readDog 14 = .ok (.ireturn, 1) := by decide +kernel
theorem d_SquareReader_readDog_15 : decode b_SquareReader_readDog 15 = .ok (.aload_n 1, 1) := by decide +kernel
theorem d_SquareReader_readDog_16 : decode b_SquareReader_readDog 16 = .ok (.invokevirtual 71, 3) := by decide +kernel
theorem d_SquareReader_readDog_19 : decode b_SquareReader_readDog 19 = .ok (.aload_n 1, 1) := by decide +kernel
theorem d_SquareReader_readDog_20 : decode b_SquareReader_readDog 20 = .ok (.bipush 6, 2) := by decide +kernel
theorem d_SquareReader_readDog_22 : decode b_SquareReader_readDog 22 = .ok (.invokevirtual 78, 3) := by decide +kernel
theorem d_SquareReader_readDog_25 : decode b_SquareReader_readDog 25 = .ok (.ifCond .ne 5, 3) := by decide +kernel
theorem d_SquareReader_readDog_28 : decode b_SquareReader_readDog 28 = .ok (.iconst 0, 1) := by decide +kernel
theorem d_SquareReader_readDog_29 : decode b_SquareReader_readDog 29 = .ok (.ireturn, 1) := by decide +kernel
theorem d_SquareReader_readDog_30 : decode b_SquareReader_readDog 30 = .ok (.aload_n 1, 1) := by decide +kernel
theorem d_SquareReader_readDog_31 : decode b_SquareReader_readDog 31 = .ok (.iconst 0, 1) := by decide +kernel
theorem d_SquareReader_readDog_32 : decode b_SquareReader_readDog 32 = .ok (.aload_n 2, 1) := by decide +kernel
theorem d_SquareReader_readDog_33 : decode b_SquareReader_readDog 33 = .ok (.invokevirtual 94, 3) := by decide +kernel
theorem d_SquareReader_readDog_36 : decode b_SquareReader_readDog 36 = .ok (.iconst 1, 1) := by decide +kernel
theorem d_SquareReader_readDog_37 : decode b_SquareReader_readDog 37 = .ok (.isub, 1) := by decide +kernel
theorem d_SquareReader_readDog_38 : decode b_SquareReader_readDog 38 = .ok (.invokevirtual 74, 3) := by decide +kernel
theorem d_SquareReader_readDog_41 : decode b_SquareReader_readDog 41 = .ok (.istore_n 3, 1) := by decide +kernel
theorem d_SquareReader_readDog_42 : decode b_SquareReader_readDog 42 = .ok (.iload_n 3, 1) := by decide +kernel
theorem d_SquareReader_readDog_43 : decode b_SquareReader_readDog 43 = .ok (.iconst (-1), 1) := by decide +kernel
theorem d_SquareReader_readDog_44 : decode b_SquareReader_readDog 44 = .ok (.if_icmp .ne 5, 3) := by decide +kernel
theorem d_SquareReader_readDog_47 : decode b_SquareReader_readDog 47 = .ok (.iconst 0, 1) := by decide +kernel
theorem d_SquareReader_readDog_48 : decode b_SquareReader_readDog 48 = .ok (.ireturn, 1) := by decide +kernel
theorem d_SquareReader_readDog_49 : decode b_SquareReader_readDog 49 = .ok (.aload_n 2, 1) := by decide +kernel
theorem d_SquareReader_readDog_50 : decode b_SquareReader_readDog 50 = .ok (.getfield 124, 3) := by decide +kernel
theorem d_SquareReader_readDog_53 : decode b_SquareReader_readDog 53 = .ok (.aload_n 2, 1) := by decide +kernel
theorem d_SquareReader_readDog_54 : decode b_SquareReader_readDog 54 = .ok (.getfield 68, 3) := by decide +kernel
theorem d_SquareReader_readDog_57 : decode b_SquareReader_readDog 57 = .ok (.iload_n 3, 1) := by decide +kernel
theorem d_SquareReader_readDog_58 : decode b_SquareReader_readDog 58 = .ok (.iastore, 1) := by decide +kernel
theorem d_SquareReader_readDog_59 : decode b_SquareReader_readDog 59 = .ok (.aload_n 2, 1) := by decide +kernel
theorem d_SquareReader_readDog_60 : decode b_SquareReader_readDog 60 = .ok (.dup, 1) := by decide +kernel
theorem d_SquareReader_readDog_61 : decode b_SquareReader_readDog 61 = .ok (.getfield 68, 3) := by decide +kernel
theorem d_SquareReader_readDog_64 : decode b_SquareReader_readDog 64 = .ok (.iconst 1, 1) := by decide +kernel
theorem d_SquareReader_readDog_65 : decode b_SquareReader_readDog 65 = .ok (.iadd, 1) := by decide +kernel
theorem d_SquareReader_readDog_66 : decode b_SquareReader_readDog 66 = .ok (.putfield 68, 3) := by decide +kernel
theorem d_SquareReader_readDog_69 : decode b_SquareReader_readDog 69 = .ok (.aload_n 1, 1) := by decide +kernel
theorem d_SquareReader_readDog_70 : decode b_SquareReader_readDog 70 = .ok (.invokevirtual 87, 3) := by decide +kernel
theorem d_SquareReader_readDog_73 : decode b_SquareReader_readDog 73 = .ok (.ireturn, 1) := by decide +kernel
theorem d_Tokens_clear_0 : decode b_Tokens_clear 0 = .ok (.aload_n 0, 1) := by decide +kernel
theorem d_Tokens_clear_1 : decode b_Tokens_clear 1 = .ok (.iconst 0, 1) := by decide +kernel
theorem d_Tokens_clear_2 : decode b_Tokens_clear 2 = .ok (.putfield 36, 3) := by decide +kernel
theorem d_Tokens_clear_5 : decode b_Tokens_clear 5 = .ok (.return_, 1) := by decide +kernel
theorem d_DaysReader_readText_0 : decode b_DaysReader_readText 0 = .ok (.aload 4, 2) := by decide +kernel
theorem d_DaysReader_readText_2 : decode b_DaysReader_readText 2 = .ok (.invokevirtual 19, 3) := by decide +kernel
theorem d_DaysReader_readText_5 : decode b_DaysReader_readText 5 = .ok (.aload_n 0, 1) := by decide +kernel
theorem d_DaysReader_readText_6 : decode b_DaysReader_readText 6 = .ok (.iconst 0, 1) := by decide +kernel
theorem d_DaysReader_readText_7 : decode b_DaysReader_readText 7 = .ok (.putfield 15, 3) := by decide +kernel
theorem d_DaysReader_readText_10 : decode b_DaysReader_readText 10 = .ok (.aload_n 1, 1) := by decide +kernel
theorem d_DaysReader_readText_11 : decode b_DaysReader_readText 11 = .ok (.iload_n 2, 1) := by decide +kernel
theorem d_DaysReader_readText_12 : decode b_DaysReader_readText 12 = .ok (.invokevirtual 24, 3) := by decide +kernel
theorem d_DaysReader_readText_15 : decode b_DaysReader_readText 15 = .ok (.iconst 0, 1) := by decide +kernel
theorem d_DaysReader_readText_16 : decode b_DaysReader_readText 16 = .ok (.istore 5, 2) := by decide +kernel
theorem d_DaysReader_readText_18 : decode b_DaysReader_readText 18 = .ok (.iload 5, 2) := by decide +kernel
theorem d_DaysReader_readText_20 : decode b_DaysReader_readText 20 = .ok (.sipush 300, 3) := by decide +kernel
theorem d_DaysReader_readText_23 : decode b_DaysReader_readText 23 = .ok (.if_icmp .ge 29, 3) := by decide +kernel
theorem d_DaysReader_readText_26 : decode b_DaysReader_readText 26 = .ok (.aload_n 1, 1) := by decide +kernel
theorem d_DaysReader_readText_27 : decode b_DaysReader_readText 27 = .ok (.getfield 30, 3) := by decide +kernel
theorem d_DaysReader_readText_30 : decode b_DaysReader_readText 30 = .ok (.ifCond .eq 22, 3) := by decide +kernel
theorem d_DaysReader_readText_33 : decode b_DaysReader_readText 33 = .ok (.aload_n 0, 1) := by decide +kernel
theorem d_DaysReader_readText_34 : decode b_DaysReader_readText 34 = .ok (.aload_n 1, 1) := by decide +kernel
theorem d_DaysReader_readText_35 : decode b_DaysReader_readText 35 = .ok (.aload_n 3, 1) := by decide +kernel
theorem d_DaysReader_readText_36 : decode b_DaysReader_readText 36 = .ok (.aload 4, 2) := by decide +kernel
theorem d_DaysReader_readText_38 : decode b_DaysReader_readText 38 = .ok (.invokevirtual 33, 3) := by decide +kernel
theorem d_DaysReader_readText_41 : decode b_DaysReader_readText 41 = .ok (.ifCond .ne 5, 3) := by decide +kernel
theorem d_DaysReader_readText_44 : decode b_DaysReader_readText 44 = .ok (.iconst 0, 1) := by decide +kernel
theorem d_DaysReader_readText_45 : decode b_DaysReader_readText 45 = .ok (.ireturn, 1) := by decide +kernel
theorem d_DaysReader_readText_46 : decode b_DaysReader_readText 46 = .ok (.iinc 5 1, 3) := by decide +kernel
theorem d_DaysReader_readText_49 : decode b_DaysReader_readText 49 = .ok (.goto (-31), 3) := by decide +kernel
theorem d_DaysReader_readText_52 : decode b_DaysReader_readText 52 = .ok (.aload_n 0, 1) := by decide +kernel
theorem d_DaysReader_readText_53 : decode b_DaysReader_readText 53 = .ok (.getfield 15, 3) := by decide +kernel
theorem d_DaysReader_readText_56 : decode b_DaysReader_readText 56 = .ok (.ifCond .le 9, 3) := by decide +kernel
theorem d_DaysReader_readText_59 : decode b_DaysReader_readText 59 = .ok (.aload_n 1, 1) := by decide +kernel
theorem d_DaysReader_readText_60 : decode b_DaysReader_readText 60 = .ok (.iconst 2, 1) := by decide +kernel
theorem d_DaysReader_readText_61 : decode b_DaysReader_readText 61 = .ok (.invokevirtual 37, 3) := by decide +kernel
theorem d_DaysReader_readText_64 : decode b_DaysReader_readText 64 = .ok (.ireturn, 1) := by decide +kernel
theorem d_DaysReader_readText_65 : decode b_DaysReader_readText 65 = .ok (.aload 4, 2) := by decide +kernel
theorem d_DaysReader_readText_67 : decode b_DaysReader_readText 67 = .ok (.iconst 1, 1) := by decide +kernel
theorem d_DaysReader_readText_68 : decode b_DaysReader_readText 68 = .ok (.putfield 41, 3) := by decide +kernel
theorem d_DaysReader_readText_71 : decode b_DaysReader_readText 71 = .ok (.iconst 1, 1) := by decide +kernel
theorem d_DaysReader_readText_72 : decode b_DaysReader_readText 72 = .ok (.ireturn, 1) := by decide +kernel
theorem d_DaysReader_readStep_0 : decode b_DaysReader_readStep 0 = .ok (.aload_n 1, 1) := by decide +kernel
theorem d_DaysReader_readStep_1 : decode b_DaysReader_readStep 1 = .ok (.getfield 45, 3) := by decide +kernel
theorem d_DaysReader_readStep_4 : decode b_DaysReader_readStep 4 = .ok (.istore 4, 2) := by decide +kernel
theorem d_DaysReader_readStep_6 : decode b_DaysReader_readStep 6 = .ok (.iload 4, 2) := by decide +kernel
theorem d_DaysReader_readStep_8 : decode b_DaysReader_readStep 8 = .ok (.bipush 23, 2) := by decide +kernel
theorem d_DaysReader_readStep_10 : decode b_DaysReader_readStep 10 = .ok (.if_icmp .ne 10, 3) := by decide +kernel
theorem d_DaysReader_readStep_13 : decode b_DaysReader_readStep 13 = .ok (.aload_n 0, 1) := by decide +kernel
theorem d_DaysReader_readStep_14 : decode b_DaysReader_readStep 14 = .ok (.aload_n 1, 1) := by decide +kernel
theorem d_DaysReader_readStep_15 : decode b_DaysReader_readStep 15 = .ok (.aload_n 3, 1) := by decide +kernel
theorem d_DaysReader_readStep_16 : decode b_DaysReader_readStep 16 = .ok (.invokevirtual 48, 3) := by decide +kernel
theorem d_DaysReader_readStep_19 : decode b_DaysReader_readStep 19 = .ok (.ireturn, 1) := by decide +kernel
theorem d_DaysReader_readStep_20 : decode b_DaysReader_readStep 20 = .ok (.iload 4, 2) := by decide +kernel
theorem d_DaysReader_readStep_22 : decode b_DaysReader_readStep 22 = .ok (.bipush 17, 2) := by decide +kernel
theorem d_DaysReader_readStep_24 : decode b_DaysReader_readStep 24 = .ok (.if_icmp .eq 10, 3) := by decide +kernel
theorem d_DaysReader_readStep_27 : decode b_DaysReader_readStep 27 = .ok (.iload 4, 2) := by decide +kernel
theorem d_DaysReader_readStep_29 : decode b_DaysReader_readStep 29 = .ok (.bipush 22, 2) := by decide +kernel
theorem d_DaysReader_readStep_31 : decode b_DaysReader_readStep 31 = .ok (.if_icmp .ne 7, 3) := by decide +kernel
theorem d_DaysReader_readStep_34 : decode b_DaysReader_readStep 34 = .ok (.iconst 1, 1) := by decide +kernel
theorem d_DaysReader_readStep_35 : decode b_DaysReader_readStep 35 = .ok (.goto 4, 3) := by decide +kernel
theorem d_DaysReader_readStep_38 : decode b_DaysReader_readStep 38 = .ok (.iconst 0, 1) := by decide +kernel
theorem d_DaysReader_readStep_39 : decode b_DaysReader_readStep 39 = .ok (.istore 5, 2) := by decide +kernel
theorem d_DaysReader_readStep_41 : decode b_DaysReader_readStep 41 = .ok (.iload 5, 2) := by decide +kernel
theorem d_DaysReader_readStep_43 : decode b_DaysReader_readStep 43 = .ok (.ifCond .ne 28, 3) := by decide +kernel
theorem d_DaysReader_readStep_46 : decode b_DaysReader_readStep 46 = .ok (.iload 4, 2) := by decide +kernel
theorem d_DaysReader_readStep_48 : decode b_DaysReader_readStep 48 = .ok (.bipush 24, 2) := by decide +kernel
theorem d_DaysReader_readStep_50 : decode b_DaysReader_readStep 50 = .ok (.if_icmp .eq 21, 3) := by decide +kernel
theorem d_DaysReader_readStep_53 : decode b_DaysReader_readStep 53 = .ok (.iload 4, 2) := by decide +kernel
theorem d_DaysReader_readStep_55 : decode b_DaysReader_readStep 55 = .ok (.bipush 10, 2) := by decide +kernel
theorem d_DaysReader_readStep_57 : decode b_DaysReader_readStep 57 = .ok (.bipush 16, 2) := by decide +kernel
theorem d_DaysReader_readStep_59 : decode b_DaysReader_readStep 59 = .ok (.invokestatic 52, 3) := by decide +kernel
theorem d_DaysReader_readStep_62 : decode b_DaysReader_readStep 62 = .ok (.ifCond .ne 9, 3) := by decide +kernel
theorem d_DaysReader_readStep_65 : decode b_DaysReader_readStep 65 = .ok (.aload_n 1, 1) := by decide +kernel
theorem d_DaysReader_readStep_66 : decode b_DaysReader_readStep 66 = .ok (.iconst 2, 1) := by decide +kernel
theorem d_DaysReader_readStep_67 : decode b_DaysReader_readStep 67 = .ok (.invokevirtual 37, 3) := by decide +kernel
theorem d_DaysReader_readStep_70 : decode b_DaysReader_readStep 70 = .ok (.ireturn, 1) := by decide +kernel
theorem d_DaysReader_readStep_71 : decode b_DaysReader_readStep 71 = .ok (.aload_n 3, 1) := by decide +kernel
theorem d_DaysReader_readStep_72 : decode b_DaysReader_readStep 72 = .ok (.getfield 56, 3) := by decide +kernel
theorem d_DaysReader_readStep_75 : decode b_DaysReader_readStep 75 = .ok (.bipush 30, 2) := by decide +kernel
theorem d_DaysReader_readStep_77 : decode b_DaysReader_readStep 77 = .ok (.if_icmp .lt 10, 3) := by decide +kernel
theorem d_DaysReader_readStep_80 : decode b_DaysReader_readStep 80 = .ok (.aload_n 1, 1) := by decide +kernel
theorem d_DaysReader_readStep_81 : decode b_DaysReader_readStep 81 = .ok (.bipush 6, 2) := by decide +kernel
theorem d_DaysReader_readStep_83 : decode b_DaysReader_readStep 83 = .ok (.invokevirtual 37, 3) := by decide +kernel
theorem d_DaysReader_readStep_86 : decode b_DaysReader_readStep 86 = .ok (.ireturn, 1) := by decide +kernel
theorem d_DaysReader_readStep_87 : decode b_DaysReader_readStep 87 = .ok (.iload 5, 2) := by decide +kernel
theorem d_DaysReader_readStep_89 : decode b_DaysReader_readStep 89 = .ok (.ifCond .eq 18, 3) := by decide +kernel
theorem d_DaysReader_readStep_92 : decode b_DaysReader_readStep 92 = .ok (.aload_n 0, 1) := by decide +kernel
theorem d_DaysReader_readStep_93 : decode b_DaysReader_readStep 93 = .ok (.getfield 15, 3) := by decide +kernel
theorem d_DaysReader_readStep_96 : decode b_DaysReader_readStep 96 = .ok (.iconst 3, 1) := by decide +kernel
theorem d_DaysReader_readStep_97 : decode b_DaysReader_readStep 97 = .ok (.if_icmp .lt 10, 3) := by decide +kernel
theorem d_DaysReader_readStep_100 : decode b_DaysReader_readStep 100 = .ok (.aload_n 1, 1) := by decide +kernel
theorem d_DaysReader_readStep_101 : decode b_DaysReader_readStep 101 = .ok (.bipush 7, 2) := by decide +kernel
theorem d_DaysReader_readStep_103 : decode b_DaysReader_readStep 103 = .ok (.invokevirtual 37, 3) := by decide +kernel
theorem d_DaysReader_readStep_106 : decode b_DaysReader_readStep 106 = .ok (.ireturn, 1) := by decide +kernel
theorem d_DaysReader_readStep_107 : decode b_DaysReader_readStep 107 = .ok (.aload_n 1, 1) := by decide +kernel
theorem d_DaysReader_readStep_108 : decode b_DaysReader_readStep 108 = .ok (.invokevirtual 59, 3) := by decide +kernel
theorem d_DaysReader_readStep_111 : decode b_DaysReader_readStep 111 = .ok (.aload_n 3, 1) := by decide +kernel
theorem d_DaysReader_readStep_112 : decode b_DaysReader_readStep 112 = .ok (.iload 4, 2) := by decide +kernel
theorem d_DaysReader_readStep_114 : decode b_DaysReader_readStep 114 = .ok (.invokevirtual 62, 3) := by decide +kernel
theorem d_DaysReader_readStep_117 : decode b_DaysReader_readStep 117 = .ok (.aload_n 3, 1) := by decide +kernel
theorem d_DaysReader_readStep_118 : decode b_DaysReader_readStep 118 = .ok (.dup, 1) := by decide +kernel
theorem d_DaysReader_readStep_119 : decode b_DaysReader_readStep 119 = .ok (.getfield 56, 3) := by decide +kernel
theorem d_DaysReader_readStep_122 : decode b_DaysReader_readStep 122 = .ok (.iconst 1, 1) := by decide +kernel
theorem d_DaysReader_readStep_123 : decode b_DaysReader_readStep 123 = .ok (.iadd, 1) := by decide +kernel
theorem d_DaysReader_readStep_124 : decode b_DaysReader_readStep 124 = .ok (.putfield 56, 3) := by decide +kernel
theorem d_DaysReader_readStep_127 : decode b_DaysReader_readStep 127 = .ok (.iload 5, 2) := by decide +kernel
theorem d_DaysReader_readStep_129 : decode b_DaysReader_readStep 129 = .ok (.ifCond .eq 28, 3) := by decide +kernel
theorem d_DaysReader_readStep_132 : decode b_DaysReader_readStep 132 = .ok (.aload_n 0, 1) := by decide +kernel
theorem d_DaysReader_readStep_133 : decode b_DaysReader_readStep 133 = .ok (.getfield 11, 3) := by decide +kernel
theorem d_DaysReader_readStep_136 : decode b_DaysReader_readStep 136 = .ok (.aload_n 0, 1) := by decide +kernel
theorem d_DaysReader_readStep_137 : decode b_DaysReader_readStep 137 = .ok (.getfield 15, 3) := by decide +kernel
theorem d_DaysReader_readStep_140 : decode b_DaysReader_readStep 140 = .ok (.aload_n 3, 1) := by decide +kernel
theorem d_DaysReader_readStep_141 : decode b_DaysReader_readStep 141 = .ok (.getfield 65, 3) := by decide +kernel
theorem d_DaysReader_readStep_144 : decode b_DaysReader_readStep 144 = .ok (.iconst 1, 1) := by decide +kernel
theorem d_DaysReader_readStep_145 : decode b_DaysReader_readStep 145 = .ok (.isub, 1) := by decide +kernel
theorem d_DaysReader_readStep_146 : decode b_DaysReader_readStep 146 = .ok (.iastore, 1) := by decide +kernel
theorem d_DaysReader_readStep_147 : decode b_DaysReader_readStep 147 = .ok (.aload_n 0, 1) := by decide +kernel
theorem d_DaysReader_readStep_148 : decode b_DaysReader_readStep 148 = .ok (.dup, 1) := by decide +kernel
theorem d_DaysReader_readStep_149 : decode b_DaysReader_readStep 149 = .ok (.getfield 15, 3) := by decide +kernel
theorem d_DaysReader_readStep_152 : decode b_DaysReader_readStep 152 = .ok (.iconst 1, 1) := by decide +kernel
theorem d_DaysReader_readStep_153 : decode b_DaysReader_readStep 153 = .ok (.iadd, 1) := by decide +kernel
theorem d_DaysReader_readStep_154 : decode b_DaysReader_readStep 154 = .ok (.putfield 15, 3) := by decide +kernel
theorem d_DaysReader_readStep_157 : decode b_DaysReader_readStep 157 = .ok (.iload 4, 2) := by decide +kernel
theorem d_DaysReader_readStep_159 : decode b_DaysReader_readStep 159 = .ok (.bipush 17, 2) := by decide +kernel
theorem d_DaysReader_readStep_161 : decode b_DaysReader_readStep 161 = .ok (.if_icmp .ne 13, 3) := by decide +kernel
theorem d_DaysReader_readStep_164 : decode b_DaysReader_readStep 164 = .ok (.aload_n 0, 1) := by decide +kernel
theorem d_DaysReader_readStep_165 : decode b_DaysReader_readStep 165 = .ok (.aload_n 1, 1) := by decide +kernel
theorem d_DaysReader_readStep_166 : decode b_DaysReader_readStep 166 = .ok (.aload_n 2, 1) := by decide +kernel
theorem d_DaysReader_readStep_167 : decode b_DaysReader_readStep 167 = .ok (.aload_n 3, 1) := by decide +kernel
theorem d_DaysReader_readStep_168 : decode b_DaysReader_readStep 168 = .ok (.invokevirtual 68, 3) := by decide +kernel
theorem d_DaysReader_readStep_171 : decode b_DaysReader_readStep 171 = .ok (.goto 12, 3) := by decide +kernel
theorem d_DaysReader_readStep_174 : decode b_DaysReader_readStep 174 = .ok (.aload_n 0, 1) := by decide +kernel
theorem d_DaysReader_readStep_175 : decode b_DaysReader_readStep 175 = .ok (.iload 4, 2) := by decide +kernel
theorem d_DaysReader_readStep_177 : decode b_DaysReader_readStep 177 = .ok (.aload_n 1, 1) := by decide +kernel
theorem d_DaysReader_readStep_178 : decode b_DaysReader_readStep 178 = .ok (.aload_n 2, 1) := by decide +kernel
theorem d_DaysReader_readStep_179 : decode b_DaysReader_readStep 179 = .ok (.aload_n 3, 1) := by decide +kernel
theorem d_DaysReader_readStep_180 : decode b_DaysReader_readStep 180 = .ok (.invokevirtual 71, 3) := by decide +kernel
theorem d_DaysReader_readStep_183 : decode b_DaysReader_readStep 183 = .ok (.istore 6, 2) := by decide +kernel
theorem d_DaysReader_readStep_185 : decode b_DaysReader_readStep 185 = .ok (.iload 6, 2) := by decide +kernel
theorem d_DaysReader_readStep_187 : decode b_DaysReader_readStep 187 = .ok (.ifCond .eq 14, 3) := by decide +kernel
theorem d_DaysReader_readStep_190 : decode b_DaysReader_readStep 190 = .ok (.aload_n 1, 1) := by decide +kernel
theorem d_DaysReader_readStep_191 : decode b_DaysReader_readStep 191 = .ok (.invokevirtual 75, 3) := by decide +kernel
theorem d_DaysReader_readStep_194 : decode b_DaysReader_readStep 194 = .ok (.ifCond .eq 7, 3) := by decide +kernel
theorem d_DaysReader_readStep_197 : decode b_DaysReader_readStep 197 = .ok (.iconst 1, 1) := by decide +kernel
theorem d_DaysReader_readStep_198 : decode b_DaysReader_readStep 198 = .ok (.goto 4, 3) := by decide +kernel
theorem d_DaysReader_readStep_201 : decode b_DaysReader_readStep 201 = .ok (.iconst 0, 1) := by decide +kernel
theorem d_DaysReader_readStep_202 : decode b_DaysReader_readStep 202 = .ok (.ireturn, 1) := by decide +kernel
theorem d_DaysReader_readEnd_0 : decode b_DaysReader_readEnd 0 = .ok (.aload_n 0, 1) := by decide +kernel
theorem d_DaysReader_readEnd_1 : decode b_DaysReader_readEnd 1 = .ok (.getfield 15, 3) := by decide +kernel
theorem d_DaysReader_readEnd_4 : decode b_DaysReader_readEnd 4 = .ok (.ifCond .gt 9, 3) := by decide +kernel
theorem d_DaysReader_readEnd_7 : decode b_DaysReader_readEnd 7 = .ok (.aload_n 1, 1) := by decide +kernel
theorem d_DaysReader_readEnd_8 : decode b_DaysReader_readEnd 8 = .ok (.iconst 2, 1) := by decide +kernel
theorem d_DaysReader_readEnd_9 : decode b_DaysReader_readEnd 9 = .ok (.invokevirtual 37, 3) := by decide +kernel
theorem d_DaysReader_readEnd_12 : decode b_DaysReader_readEnd 12 = .ok (.ireturn, 1) := by decide +kernel
theorem d_DaysReader_readEnd_13 : decode b_DaysReader_readEnd 13 = .ok (.aload_n 1, 1) := by decide +kernel
theorem d_DaysReader_readEnd_14 : decode b_DaysReader_readEnd 14 = .ok (.invokevirtual 59, 3) := by decide +kernel
theorem d_DaysReader_readEnd_17 : decode b_DaysReader_readEnd 17 = .ok (.aload_n 0, 1) := by decide +kernel
theorem d_DaysReader_readEnd_18 : decode b_DaysReader_readEnd 18 = .ok (.dup, 1) := by decide +kernel
theorem d_DaysReader_readEnd_19 : decode b_DaysReader_readEnd 19 = .ok (.getfield 15, 3) := by decide +kernel
theorem d_DaysReader_readEnd_22 : decode b_DaysReader_readEnd 22 = .ok (.iconst 1, 1) := by decide +kernel
theorem d_DaysReader_readEnd_23 : decode b_DaysReader_readEnd 23 = .ok (.isub, 1) := by decide +kernel
theorem d_DaysReader_readEnd_24 : decode b_DaysReader_readEnd 24 = .ok (.putfield 15, 3) := by decide +kernel
theorem d_DaysReader_readEnd_27 : decode b_DaysReader_readEnd 27 = .ok (.aload_n 2, 1) := by decide +kernel
theorem d_DaysReader_readEnd_28 : decode b_DaysReader_readEnd 28 = .ok (.bipush 23, 2) := by decide +kernel
theorem d_DaysReader_readEnd_30 : decode b_DaysReader_readEnd 30 = .ok (.invokevirtual 62, 3) := by decide +kernel
theorem d_DaysReader_readEnd_33 : decode b_DaysReader_readEnd 33 = .ok (.aload_n 2, 1) := by decide +kernel
theorem d_DaysReader_readEnd_34 : decode b_DaysReader_readEnd 34 = .ok (.aload_n 0, 1) := by decide +kernel
theorem d_DaysReader_readEnd_35 : decode b_DaysReader_readEnd 35 = .ok (.getfield 11, 3) := by decide +kernel
theorem d_DaysReader_readEnd_38 : decode b_DaysReader_readEnd 38 = .ok (.aload_n 0, 1) := by decide +kernel
theorem d_DaysReader_readEnd_39 : decode b_DaysReader_readEnd 39 = .ok (.getfield 15, 3) := by decide +kernel
theorem d_DaysReader_readEnd_42 : decode b_DaysReader_readEnd 42 = .ok (.iaload, 1) := by decide +kernel
theorem d_DaysReader_readEnd_43 : decode b_DaysReader_readEnd 43 = .ok (.aload_n 2, 1) := by decide +kernel
theorem d_DaysReader_readEnd_44 : decode b_DaysReader_readEnd 44 = .ok (.getfield 65, 3) := by decide +kernel
theorem d_DaysReader_readEnd_47 : decode b_DaysReader_readEnd 47 = .ok (.iconst 1, 1) := by decide +kernel
theorem d_DaysReader_readEnd_48 : decode b_DaysReader_readEnd 48 = .ok (.isub, 1) := by decide +kernel
theorem d_DaysReader_readEnd_49 : decode b_DaysReader_readEnd 49 = .ok (.invokevirtual 79, 3) := by decide +kernel
theorem d_DaysReader_readEnd_52 : decode b_DaysReader_readEnd 52 = .ok (.aload_n 1, 1) := by decide +kernel
theorem d_DaysReader_readEnd_53 : decode b_DaysReader_readEnd 53 = .ok (.invokevirtual 75, 3) := by decide +kernel
theorem d_DaysReader_readEnd_56 : decode b_DaysReader_readEnd 56 = .ok (.ireturn, 1) := by decide +kernel
theorem d_Days_add_0 : decode b_Days_add 0 = .ok (.aload_n 0, 1) := by decide +kernel
theorem d_Days_add_1 : decode b_Days_add 1 = .ok (.getfield 29, 3) := by decide +kernel
theorem d_Days_add_4 : decode b_Days_add 4 = .ok (.bipush 60, 2) := by decide +kernel
theorem d_Days_add_6 : decode b_Days_add 6 = .ok (.if_icmp .ge 23, 3) := by decide +kernel
theorem d_Days_add_9 : decode b_Days_add 9 = .ok (.aload_n 0, 1) := by decide +kernel
theorem d_Days_add_10 : decode b_Days_add 10 = .ok (.getfield 9, 3) := by decide +kernel
theorem d_Days_add_13 : decode b_Days_add 13 = .ok (.aload_n 0, 1) := by decide +kernel
theorem d_Days_add_14 : decode b_Days_add 14 = .ok (.getfield 29, 3) := by decide +kernel
theorem d_Days_add_17 : decode b_Days_add 17 = .ok (.iload_n 1, 1) := by decide +kernel
theorem d_Days_add_18 : decode b_Days_add 18 = .ok (.iastore, 1) := by decide +kernel
theorem d_Days_add_19 : decode b_Days_add 19 = .ok (.aload_n 0, 1) := by decide +kernel
theorem d_Days_add_20 : decode b_Days_add 20 = .ok (.dup, 1) := by decide +kernel
theorem d_Days_add_21 : decode b_Days_add 21 = .ok (.getfield 29, 3) := by decide +kernel
theorem d_Days_add_24 : decode b_Days_add 24 = .ok (.iconst 1, 1) := by decide +kernel
theorem d_Days_add_25 : decode b_Days_add 25 = .ok (.iadd, 1) := by decide +kernel
theorem d_Days_add_26 : decode b_Days_add 26 = .ok (.putfield 29, 3) := by decide +kernel
theorem d_Days_add_29 : decode b_Days_add 29 = .ok (.return_, 1) := by decide +kernel
theorem d_Days_join_0 : decode b_Days_join 0 = .ok (.aload_n 0, 1) := by decide +kernel
theorem d_Days_join_1 : decode b_Days_join 1 = .ok (.getfield 22, 3) := by decide +kernel
theorem d_Days_join_4 : decode b_Days_join 4 = .ok (.iload_n 1, 1) := by decide +kernel
theorem d_Days_join_5 : decode b_Days_join 5 = .ok (.iload_n 2, 1) := by decide +kernel
theorem d_Days_join_6 : decode b_Days_join 6 = .ok (.iastore, 1) := by decide +kernel
theorem d_Days_join_7 : decode b_Days_join 7 = .ok (.aload_n 0, 1) := by decide +kernel
theorem d_Days_join_8 : decode b_Days_join 8 = .ok (.getfield 22, 3) := by decide +kernel
theorem d_Days_join_11 : decode b_Days_join 11 = .ok (.iload_n 2, 1) := by decide +kernel
theorem d_Days_join_12 : decode b_Days_join 12 = .ok (.iload_n 1, 1) := by decide +kernel
theorem d_Days_join_13 : decode b_Days_join 13 = .ok (.iastore, 1) := by decide +kernel
theorem d_Days_join_14 : decode b_Days_join 14 = .ok (.return_, 1) := by decide +kernel
theorem d_DaysReader_readTest_0 : decode b_DaysReader_readTest 0 = .ok (.aload_n 1, 1) := by decide +kernel
theorem d_DaysReader_readTest_1 : decode b_DaysReader_readTest 1 = .ok (.getfield 45, 3) := by decide +kernel
theorem d_DaysReader_readTest_4 : decode b_DaysReader_readTest 4 = .ok (.istore 4, 2) := by decide +kernel
theorem d_DaysReader_readTest_6 : decode b_DaysReader_readTest 6 = .ok (.iload 4, 2) := by decide +kernel
theorem d_DaysReader_readTest_8 : decode b_DaysReader_readTest 8 = .ok (.bipush 18, 2) := by decide +kernel
theorem d_DaysReader_readTest_10 : decode b_DaysReader_readTest 10 = .ok (.bipush 21, 2) := by decide +kernel
theorem d_DaysReader_readTest_12 : decode b_DaysReader_readTest 12 = .ok (.invokestatic 52, 3) := by decide +kernel
theorem d_DaysReader_readTest_15 : decode b_DaysReader_readTest 15 = .ok (.ifCond .ne 9, 3) := by decide +kernel
theorem d_DaysReader_readTest_18 : decode b_DaysReader_readTest 18 = .ok (.aload_n 1, 1) := by decide +kernel
theorem d_DaysReader_readTest_19 : decode b_DaysReader_readTest 19 = .ok (.iconst 2, 1) := by decide +kernel
theorem d_DaysReader_readTest_20 : decode b_DaysReader_readTest 20 = .ok (.invokevirtual 37, 3) := by decide +kernel
theorem d_DaysReader_readTest_23 : decode b_DaysReader_readTest 23 = .ok (.ireturn, 1) := by decide +kernel
theorem d_DaysReader_readTest_24 : decode b_DaysReader_readTest 24 = .ok (.aload_n 1, 1) := by decide +kernel
theorem d_DaysReader_readTest_25 : decode b_DaysReader_readTest 25 = .ok (.invokevirtual 59, 3) := by decide +kernel
theorem d_DaysReader_readTest_28 : decode b_DaysReader_readTest 28 = .ok (.aload_n 3, 1) := by decide +kernel
theorem d_DaysReader_readTest_29 : decode b_DaysReader_readTest 29 = .ok (.getfield 113, 3) := by decide +kernel
theorem d_DaysReader_readTest_32 : decode b_DaysReader_readTest 32 = .ok (.aload_n 3, 1) := by decide +kernel
theorem d_DaysReader_readTest_33 : decode b_DaysReader_readTest 33 = .ok (.getfield 65, 3) := by decide +kernel
theorem d_DaysReader_readTest_36 : decode b_DaysReader_readTest 36 = .ok (.iconst 1, 1) := by decide +kernel
theorem d_DaysReader_readTest_37 : decode b_DaysReader_readTest 37 = .ok (.isub, 1) := by decide +kernel
theorem d_DaysReader_readTest_38 : decode b_DaysReader_readTest 38 = .ok (.iload 4, 2) := by decide +kernel
theorem d_DaysReader_readTest_40 : decode b_DaysReader_readTest 40 = .ok (.iastore, 1) := by decide +kernel
theorem d_DaysReader_readTest_41 : decode b_DaysReader_readTest 41 = .ok (.iload 4, 2) := by decide +kernel
theorem d_DaysReader_readTest_43 : decode b_DaysReader_readTest 43 = .ok (.tableswitch 81 18 20 #[25, 39, 53], 25) := by decide +kernel
theorem d_DaysReader_readTest_68 : decode b_DaysReader_readTest 68 = .ok (.aload_n 0, 1) := by decide +kernel
theorem d_DaysReader_readTest_69 : decode b_DaysReader_readTest 69 = .ok (.aload_n 1, 1) := by decide +kernel
theorem d_DaysReader_readTest_70 : decode b_DaysReader_readTest 70 = .ok (.iconst 0, 1) := by decide +kernel
theorem d_DaysReader_readTest_71 : decode b_DaysReader_readTest 71 = .ok (.aload_n 2, 1) := by decide +kernel
theorem d_DaysReader_readTest_72 : decode b_DaysReader_readTest 72 = .ok (.getfield 115, 3) := by decide +kernel
theorem d_DaysReader_readTest_75 : decode b_DaysReader_readTest 75 = .ok (.iconst 1, 1) := by decide +kernel
theorem d_DaysReader_readTest_76 : decode b_DaysReader_readTest 76 = .ok (.isub, 1) := by decide +kernel
theorem d_DaysReader_readTest_77 : decode b_DaysReader_readTest 77 = .ok (.aload_n 3, 1) := by decide +kernel
theorem d_DaysReader_readTest_78 : decode b_DaysReader_readTest 78 = .ok (.invokevirtual 92, 3) := by decide +kernel
theorem d_DaysReader_readTest_81 : decode b_DaysReader_readTest 81 = .ok (.ireturn, 1) := by decide +kernel
theorem d_DaysReader_readTest_82 : decode b_DaysReader_readTest 82 = .ok (.aload_n 0, 1) := by decide +kernel
theorem d_DaysReader_readTest_83 : decode b_DaysReader_readTest 83 = .ok (.aload_n 1, 1) := by decide +kernel
theorem d_DaysReader_readTest_84 : decode b_DaysReader_readTest 84 = .ok (.iconst 0, 1) := by decide +kernel
theorem d_DaysReader_readTest_85 : decode b_DaysReader_readTest 85 = .ok (.aload_n 2, 1) := by decide +kernel
theorem d_DaysReader_readTest_86 : decode b_DaysReader_readTest 86 = .ok (.getfield 96, 3) := by decide +kernel
theorem d_DaysReader_readTest_89 : decode b_DaysReader_readTest 89 = .ok (.iconst 1, 1) := by decide +kernel
theorem d_DaysReader_readTest_90 : decode b_DaysReader_readTest 90 = .ok (.isub, 1) := by decide +kernel
theorem d_DaysReader_readTest_91 : decode b_DaysReader_readTest 91 = .ok (.aload_n 3, 1) := by decide +kernel
theorem d_DaysReader_readTest_92 : decode b_DaysReader_readTest 92 = .ok (.invokevirtual 92, 3) := by decide +kernel
theorem d_DaysReader_readTest_95 : decode b_DaysReader_readTest 95 = .ok (.ireturn, 1) := by decide +kernel
theorem d_DaysReader_readTest_96 : decode b_DaysReader_readTest 96 = .ok (.aload_n 0, 1) := by decide +kernel
theorem d_DaysReader_readTest_97 : decode b_DaysReader_readTest 97 = .ok (.aload_n 1, 1) := by decide +kernel
theorem d_DaysReader_readTest_98 : decode b_DaysReader_readTest 98 = .ok (.aload_n 3, 1) := by decide +kernel
theorem d_DaysReader_readTest_99 : decode b_DaysReader_readTest 99 = .ok (.invokevirtual 118, 3) := by decide +kernel
theorem d_DaysReader_readTest_102 : decode b_DaysReader_readTest 102 = .ok (.ifCond .eq 20, 3) := by decide +kernel
theorem d_DaysReader_readTest_105 : decode b_DaysReader_readTest 105 = .ok (.aload_n 0, 1) := by decide +kernel
theorem d_DaysReader_readTest_106 : decode b_DaysReader_readTest 106 = .ok (.aload_n 1, 1) := by decide +kernel
theorem d_DaysReader_readTest_107 : decode b_DaysReader_readTest 107 = .ok (.iconst 0, 1) := by decide +kernel
theorem d_DaysReader_readTest_108 : decode b_DaysReader_readTest 108 = .ok (.sipush 9999, 3) := by decide +kernel
theorem d_DaysReader_readTest_111 : decode b_DaysReader_readTest 111 = .ok (.aload_n 3, 1) := by decide +kernel
theorem d_DaysReader_readTest_112 : decode b_DaysReader_readTest 112 = .ok (.invokevirtual 99, 3) := by decide +kernel
theorem d_DaysReader_readTest_115 : decode b_DaysReader_readTest 115 = .ok (.ifCond .eq 7, 3) := by decide +kernel
theorem d_DaysReader_readTest_118 : decode b_DaysReader_readTest 118 = .ok (.iconst 1, 1) := by decide +kernel
theorem d_DaysReader_readTest_119 : decode b_DaysReader_readTest 119 = .ok (.goto 4, 3) := by decide +kernel
theorem d_DaysReader_readTest_122 : decode b_DaysReader_readTest 122 = .ok (.iconst 0, 1) := by decide +kernel
theorem d_DaysReader_readTest_123 : decode b_DaysReader_readTest 123 = .ok (.ireturn, 1) := by decide +kernel
theorem d_DaysReader_readTest_124 : decode b_DaysReader_readTest 124 = .ok (.aload_n 0, 1) := by decide +kernel
theorem d_DaysReader_readTest_125 : decode b_DaysReader_readTest 125 = .ok (.aload_n 1, 1) := by decide +kernel
theorem d_DaysReader_readTest_126 : decode b_DaysReader_readTest 126 = .ok (.iconst 0, 1) := by decide +kernel
theorem d_DaysReader_readTest_127 : decode b_DaysReader_readTest 127 = .ok (.aload_n 2, 1) := by decide +kernel
theorem d_DaysReader_readTest_128 : decode b_DaysReader_readTest 128 = .ok (.getfield 96, 3) := by decide +kernel
theorem d_DaysReader_readTest_131 : decode b_DaysReader_readTest 131 = .ok (.iconst 1, 1) := by decide +kernel
theorem d_DaysReader_readTest_132 : decode b_DaysReader_readTest 132 = .ok (.isub, 1) := by decide +kernel
theorem d_DaysReader_readTest_133 : decode b_DaysReader_readTest 133 = .ok (.aload_n 3, 1) := by decide +kernel
theorem d_DaysReader_readTest_134 : decode b_DaysReader_readTest 134 = .ok (.invokevirtual 92, 3) := by decide +kernel
theorem d_DaysReader_readTest_137 : decode b_DaysReader_readTest 137 = .ok (.ifCond .eq 28, 3) := by decide +kernel
theorem d_DaysReader_readTest_140 : decode b_DaysReader_readTest 140 = .ok (.aload_n 0, 1) := by decide +kernel
theorem d_DaysReader_readTest_141 : decode b_DaysReader_readTest 141 = .ok (.aload_n 1, 1) := by decide +kernel
theorem d_DaysReader_readTest_142 : decode b_DaysReader_readTest 142 = .ok (.aload_n 3, 1) := by decide +kernel
theorem d_DaysReader_readTest_143 : decode b_DaysReader_readTest 143 = .ok (.invokevirtual 118, 3) := by decide +kernel
theorem d_DaysReader_readTest_146 : decode b_DaysReader_readTest 146 = .ok (.ifCond .eq 19, 3) := by decide +kernel
theorem d_DaysReader_readTest_149 : decode b_DaysReader_readTest 149 = .ok (.aload_n 0, 1) := by decide +kernel
theorem d_DaysReader_readTest_150 : decode b_DaysReader_readTest 150 = .ok (.aload_n 1, 1) := by decide +kernel
theorem d_DaysReader_readTest_151 : decode b_DaysReader_readTest 151 = .ok (.iconst 0, 1) := by decide +kernel
theorem d_DaysReader_readTest_152 : decode b_DaysReader_readTest 152 = .ok (.bipush 8, 2) := by decide +kernel
theorem d_DaysReader_readTest_154 : decode b_DaysReader_readTest 154 = .ok (.aload_n 3, 1) := by decide +kernel
theorem d_DaysReader_readTest_155 : decode b_DaysReader_readTest 155 = .ok (.invokevirtual 99, 3) := by decide +kernel
theorem d_DaysReader_readTest_158 : decode b_DaysReader_readTest 158 = .ok (.ifCond .eq 7, 3) := by decide +kernel
theorem d_DaysReader_readTest_161 : decode b_DaysReader_readTest 161 = .ok (.iconst 1, 1) := by decide +kernel
theorem d_DaysReader_readTest_162 : decode b_DaysReader_readTest 162 = .ok (.goto 4, 3) := by decide +kernel
theorem d_DaysReader_readTest_165 : decode b_DaysReader_readTest 165 = .ok (.iconst 0, 1) := by decide +kernel
theorem d_DaysReader_readTest_166 : decode b_DaysReader_readTest 166 = .ok (.ireturn, 1) := by decide +kernel
theorem d_DaysReader_readFirst_0 : decode b_DaysReader_readFirst 0 = .ok (.aload_n 1, 1) := by decide +kernel
theorem d_DaysReader_readFirst_1 : decode b_DaysReader_readFirst 1 = .ok (.iload_n 2, 1) := by decide +kernel
theorem d_DaysReader_readFirst_2 : decode b_DaysReader_readFirst 2 = .ok (.iload_n 3, 1) := by decide +kernel
theorem d_DaysReader_readFirst_3 : decode b_DaysReader_readFirst 3 = .ok (.invokevirtual 121, 3) := by decide +kernel
theorem d_DaysReader_readFirst_6 : decode b_DaysReader_readFirst 6 = .ok (.istore 5, 2) := by decide +kernel
theorem d_DaysReader_readFirst_8 : decode b_DaysReader_readFirst 8 = .ok (.aload 4, 2) := by decide +kernel
theorem d_DaysReader_readFirst_10 : decode b_DaysReader_readFirst 10 = .ok (.getfield 110, 3) := by decide +kernel
theorem d_DaysReader_readFirst_13 : decode b_DaysReader_readFirst 13 = .ok (.aload 4, 2) := by decide +kernel
theorem d_DaysReader_readFirst_15 : decode b_DaysReader_readFirst 15 = .ok (.getfield 65, 3) := by decide +kernel
theorem d_DaysReader_readFirst_18 : decode b_DaysReader_readFirst 18 = .ok (.iconst 1, 1) := by decide +kernel
theorem d_DaysReader_readFirst_19 : decode b_DaysReader_readFirst 19 = .ok (.isub, 1) := by decide +kernel
theorem d_DaysReader_readFirst_20 : decode b_DaysReader_readFirst 20 = .ok (.iload 5, 2) := by decide +kernel
theorem d_DaysReader_readFirst_22 : decode b_DaysReader_readFirst 22 = .ok (.iastore, 1) := by decide +kernel
theorem d_DaysReader_readFirst_23 : decode b_DaysReader_readFirst 23 = .ok (.iload 5, 2) := by decide +kernel
theorem d_DaysReader_readFirst_25 : decode b_DaysReader_readFirst 25 = .ok (.iconst (-1), 1) := by decide +kernel
theorem d_DaysReader_readFirst_26 : decode b_DaysReader_readFirst 26 = .ok (.if_icmp .eq 7, 3) := by decide +kernel
theorem d_DaysReader_readFirst_29 : decode b_DaysReader_readFirst 29 = .ok (.iconst 1, 1) := by decide +kernel
theorem d_DaysReader_readFirst_30 : decode b_DaysReader_readFirst 30 = .ok (.goto 4, 3) := by decide +kernel
theorem d_DaysReader_readFirst_33 : decode b_DaysReader_readFirst 33 = .ok (.iconst 0, 1) := by decide +kernel
theorem d_DaysReader_readFirst_34 : decode b_DaysReader_readFirst 34 = .ok (.ireturn, 1) := by decide +kernel
theorem d_DaysReader_readCompares_0 : decode b_DaysReader_readCompares 0 = .ok (.aload_n 1, 1) := by decide +kernel
theorem d_DaysReader_readCompares_1 : decode b_DaysReader_readCompares 1 = .ok (.invokevirtual 128, 3) := by decide +kernel
theorem d_DaysReader_readCompares_4 : decode b_DaysReader_readCompares 4 = .ok (.istore_n 3, 1) := by decide +kernel
theorem d_DaysReader_readCompares_5 : decode b_DaysReader_readCompares 5 = .ok (.aload_n 2, 1) := by decide +kernel
theorem d_DaysReader_readCompares_6 : decode b_DaysReader_readCompares 6 = .ok (.getfield 131, 3) := by decide +kernel
theorem d_DaysReader_readCompares_9 : decode b_DaysReader_readCompares 9 = .ok (.aload_n 2, 1) := by decide +kernel
theorem d_DaysReader_readCompares_10 : decode b_DaysReader_readCompares 10 = .ok (.getfield 65, 3) := by decide +kernel
theorem d_DaysReader_readCompares_13 : decode b_DaysReader_readCompares 13 = .ok (.iconst 1, 1) := by decide +kernel
theorem d_DaysReader_readCompares_14 : decode b_DaysReader_readCompares 14 = .ok (.isub, 1) := by decide +kernel
theorem d_DaysReader_readCompares_15 : decode b_DaysReader_readCompares 15 = .ok (.iload_n 3, 1) := by decide +kernel
theorem d_DaysReader_readCompares_16 : decode b_DaysReader_readCompares 16 = .ok (.iastore, 1) := by decide +kernel
theorem d_DaysReader_readCompares_17 : decode b_DaysReader_readCompares 17 = .ok (.iload_n 3, 1) := by decide +kernel
theorem d_DaysReader_readCompares_18 : decode b_DaysReader_readCompares 18 = .ok (.iconst (-1), 1) := by decide +kernel
theorem d_DaysReader_readCompares_19 : decode b_DaysReader_readCompares 19 = .ok (.if_icmp .eq 7, 3) := by decide +kernel
theorem d_DaysReader_readCompares_22 : decode b_DaysReader_readCompares 22 = .ok (.iconst 1, 1) := by decide +kernel
theorem d_DaysReader_readCompares_23 : decode b_DaysReader_readCompares 23 = .ok (.goto 4, 3) := by decide +kernel
theorem d_DaysReader_readCompares_26 : decode b_DaysReader_readCompares 26 = .ok (.iconst 0, 1) := by decide +kernel
theorem d_DaysReader_readCompares_27 : decode b_DaysReader_readCompares 27 = .ok (.ireturn, 1) := by decide +kernel
theorem d_Tokens_takeCompares_0 : decode b_Tokens_takeCompares 0 = .ok (.aload_n 0, 1) := by decide +kernel
theorem d_Tokens_takeCompares_1 : decode b_Tokens_takeCompares 1 = .ok (.getfield 39, 3) := by decide +kernel
theorem d_Tokens_takeCompares_4 : decode b_Tokens_takeCompares 4 = .ok (.iconst 5, 1) := by decide +kernel
theorem d_Tokens_takeCompares_5 : decode b_Tokens_takeCompares 5 = .ok (.if_icmp .ne 19, 3) := by decide +kernel
theorem d_Tokens_takeCompares_8 : decode b_Tokens_takeCompares 8 = .ok (.aload_n 0, 1) := by decide +kernel
theorem d_Tokens_takeCompares_9 : decode b_Tokens_takeCompares 9 = .ok (.getfield 26, 3) := by decide +kernel
theorem d_Tokens_takeCompares_12 : decode b_Tokens_takeCompares 12 = .ok (.aload_n 0, 1) := by decide +kernel
theorem d_Tokens_takeCompares_13 : decode b_Tokens_takeCompares 13 = .ok (.getfield 33, 3) := by decide +kernel
theorem d_Tokens_takeCompares_16 : decode b_Tokens_takeCompares 16 = .ok (.laload, 1) := by decide +kernel
theorem d_Tokens_takeCompares_17 : decode b_Tokens_takeCompares 17 = .ok (.ldc2_w 83, 3) := by decide +kernel
theorem d_Tokens_takeCompares_20 : decode b_Tokens_takeCompares 20 = .ok (.lcmp, 1) := by decide +kernel
theorem d_Tokens_takeCompares_21 : decode b_Tokens_takeCompares 21 = .ok (.ifCond .ne 11, 3) := by decide +kernel
theorem d_Tokens_takeCompares_24 : decode b_Tokens_takeCompares 24 = .ok (.aload_n 0, 1) := by decide +kernel
theorem d_Tokens_takeCompares_25 : decode b_Tokens_takeCompares 25 = .ok (.iconst 2, 1) := by decide +kernel
theorem d_Tokens_takeCompares_26 : decode b_Tokens_takeCompares 26 = .ok (.invokevirtual 79, 3) := by decide +kernel
theorem d_Tokens_takeCompares_29 : decode b_Tokens_takeCompares 29 = .ok (.pop, 1) := by decide +kernel
theorem d_Tokens_takeCompares_30 : decode b_Tokens_takeCompares 30 = .ok (.iconst (-1), 1) := by decide +kernel
theorem d_Tokens_takeCompares_31 : decode b_Tokens_takeCompares 31 = .ok (.ireturn, 1) := by decide +kernel
theorem d_Tokens_takeCompares_32 : decode b_Tokens_takeCompares 32 = .ok (.aload_n 0, 1) := by decide +kernel
theorem d_Tokens_takeCompares_33 : decode b_Tokens_takeCompares 33 = .ok (.getfield 26, 3) := by decide +kernel
theorem d_Tokens_takeCompares_36 : decode b_Tokens_takeCompares 36 = .ok (.aload_n 0, 1) := by decide +kernel
theorem d_Tokens_takeCompares_37 : decode b_Tokens_takeCompares 37 = .ok (.getfield 33, 3) := by decide +kernel
theorem d_Tokens_takeCompares_40 : decode b_Tokens_takeCompares 40 = .ok (.laload, 1) := by decide +kernel
theorem d_Tokens_takeCompares_41 : decode b_Tokens_takeCompares 41 = .ok (.l2i, 1) := by decide +kernel
theorem d_Tokens_takeCompares_42 : decode b_Tokens_takeCompares 42 = .ok (.istore_n 1, 1) := by decide +kernel
theorem d_Tokens_takeCompares_43 : decode b_Tokens_takeCompares 43 = .ok (.aload_n 0, 1) := by decide +kernel
theorem d_Tokens_takeCompares_44 : decode b_Tokens_takeCompares 44 = .ok (.invokevirtual 76, 3) := by decide +kernel
theorem d_Tokens_takeCompares_47 : decode b_Tokens_takeCompares 47 = .ok (.iload_n 1, 1) := by decide +kernel
theorem d_Tokens_takeCompares_48 : decode b_Tokens_takeCompares 48 = .ok (.ireturn, 1) := by decide +kernel
theorem d_DaysReader_readSecond_0 : decode b_DaysReader_readSecond 0 = .ok (.aload_n 1, 1) := by decide +kernel
theorem d_DaysReader_readSecond_1 : decode b_DaysReader_readSecond 1 = .ok (.iload_n 2, 1) := by decide +kernel
theorem d_DaysReader_readSecond_2 : decode b_DaysReader_readSecond 2 = .ok (.iload_n 3, 1) := by decide +kernel
theorem d_DaysReader_readSecond_3 : decode b_DaysReader_readSecond 3 = .ok (.invokevirtual 121, 3) := by decide +kernel
theorem d_DaysReader_readSecond_6 : decode b_DaysReader_readSecond 6 = .ok (.istore 5, 2) := by decide +kernel
theorem d_DaysReader_readSecond_8 : decode b_DaysReader_readSecond 8 = .ok (.aload 4, 2) := by decide +kernel
theorem d_DaysReader_readSecond_10 : decode b_DaysReader_readSecond 10 = .ok (.getfield 125, 3) := by decide +kernel
theorem d_DaysReader_readSecond_13 : decode b_DaysReader_readSecond 13 = .ok (.aload 4, 2) := by decide +kernel
theorem d_DaysReader_readSecond_15 : decode b_DaysReader_readSecond 15 = .ok (.getfield 65, 3) := by decide +kernel
theorem d_DaysReader_readSecond_18 : decode b_DaysReader_readSecond 18 = .ok (.iconst 1, 1) := by decide +kernel
theorem d_DaysReader_readSecond_19 : decode b_DaysReader_readSecond 19 = .ok (.isub, 1) := by decide +kernel
theorem d_DaysReader_readSecond_20 : decode b_DaysReader_readSecond 20 = .ok (.iload 5, 2) := by decide +kernel
theorem d_DaysReader_readSecond_22 : decode b_DaysReader_readSecond 22 = .ok (.iastore, 1) := by decide +kernel
theorem d_DaysReader_readSecond_23 : decode b_DaysReader_readSecond 23 = .ok (.iload 5, 2) := by decide +kernel
theorem d_DaysReader_readSecond_25 : decode b_DaysReader_readSecond 25 = .ok (.iconst (-1), 1) := by decide +kernel
theorem d_DaysReader_readSecond_26 : decode b_DaysReader_readSecond 26 = .ok (.if_icmp .eq 7, 3) := by decide +kernel
theorem d_DaysReader_readSecond_29 : decode b_DaysReader_readSecond 29 = .ok (.iconst 1, 1) := by decide +kernel
theorem d_DaysReader_readSecond_30 : decode b_DaysReader_readSecond 30 = .ok (.goto 4, 3) := by decide +kernel
theorem d_DaysReader_readSecond_33 : decode b_DaysReader_readSecond 33 = .ok (.iconst 0, 1) := by decide +kernel
theorem d_DaysReader_readSecond_34 : decode b_DaysReader_readSecond 34 = .ok (.ireturn, 1) := by decide +kernel
theorem d_DaysReader_readRest_0 : decode b_DaysReader_readRest 0 = .ok (.iload_n 1, 1) := by decide +kernel
theorem d_DaysReader_readRest_1 : decode b_DaysReader_readRest 1 = .ok (.tableswitch 142 10 22 #[67, 76, 76, 142, 91, 142, 142, 142, 142, 142, 142, 142, 131], 67) := by decide +kernel
theorem d_DaysReader_readRest_68 : decode b_DaysReader_readRest 68 = .ok (.aload_n 0, 1) := by decide +kernel
theorem d_DaysReader_readRest_69 : decode b_DaysReader_readRest 69 = .ok (.aload_n 2, 1) := by decide +kernel
theorem d_DaysReader_readRest_70 : decode b_DaysReader_readRest 70 = .ok (.aload_n 3, 1) := by decide +kernel
theorem d_DaysReader_readRest_71 : decode b_DaysReader_readRest 71 = .ok (.aload 4, 2) := by decide +kernel
theorem d_DaysReader_readRest_73 : decode b_DaysReader_readRest 73 = .ok (.invokevirtual 83, 3) := by decide +kernel
theorem d_DaysReader_readRest_76 : decode b_DaysReader_readRest 76 = .ok (.ireturn, 1) := by decide +kernel
theorem d_DaysReader_readRest_77 : decode b_DaysReader_readRest 77 = .ok (.aload_n 0, 1) := by decide +kernel
theorem d_DaysReader_readRest_78 : decode b_DaysReader_readRest 78 = .ok (.aload_n 2, 1) := by decide +kernel
theorem d_DaysReader_readRest_79 : decode b_DaysReader_readRest 79 = .ok (.iconst 0, 1) := by decide +kernel
theorem d_DaysReader_readRest_80 : decode b_DaysReader_readRest 80 = .ok (.aload_n 3, 1) := by decide +kernel
theorem d_DaysReader_readRest_81 : decode b_DaysReader_readRest 81 = .ok (.invokevirtual 86, 3) := by decide +kernel
theorem d_DaysReader_readRest_84 : decode b_DaysReader_readRest 84 = .ok (.iconst 1, 1) := by decide +kernel
theorem d_DaysReader_readRest_85 : decode b_DaysReader_readRest 85 = .ok (.isub, 1) := by decide +kernel
theorem d_DaysReader_readRest_86 : decode b_DaysReader_readRest 86 = .ok (.aload 4, 2) := by decide +kernel
theorem d_DaysReader_readRest_88 : decode b_DaysReader_readRest 88 = .ok (.invokevirtual 92, 3) := by decide +kernel
theorem d_DaysReader_readRest_91 : decode b_DaysReader_readRest 91 = .ok (.ireturn, 1) := by decide +kernel
theorem d_DaysReader_readRest_92 : decode b_DaysReader_readRest 92 = .ok (.aload_n 0, 1) := by decide +kernel
theorem d_DaysReader_readRest_93 : decode b_DaysReader_readRest 93 = .ok (.aload_n 2, 1) := by decide +kernel
theorem d_DaysReader_readRest_94 : decode b_DaysReader_readRest 94 = .ok (.iconst 0, 1) := by decide +kernel
theorem d_DaysReader_readRest_95 : decode b_DaysReader_readRest 95 = .ok (.aload_n 3, 1) := by decide +kernel
theorem d_DaysReader_readRest_96 : decode b_DaysReader_readRest 96 = .ok (.getfield 96, 3) := by decide +kernel
theorem d_DaysReader_readRest_99 : decode b_DaysReader_readRest 99 = .ok (.iconst 1, 1) := by decide +kernel
theorem d_DaysReader_readRest_100 : decode b_DaysReader_readRest 100 = .ok (.isub, 1) := by decide +kernel
theorem d_DaysReader_readRest_101 : decode b_DaysReader_readRest 101 = .ok (.aload 4, 2) := by decide +kernel
theorem d_DaysReader_readRest_103 : decode b_DaysReader_readRest 103 = .ok (.invokevirtual 92, 3) := by decide +kernel
theorem d_DaysReader_readRest_106 : decode b_DaysReader_readRest 106 = .ok (.ifCond .eq 24, 3) := by decide +kernel
theorem d_DaysReader_readRest_109 : decode b_DaysReader_readRest 109 = .ok (.aload_n 0, 1) := by decide +kernel
theorem d_DaysReader_readRest_110 : decode b_DaysReader_readRest 110 = .ok (.aload_n 2, 1) := by decide +kernel
theorem d_DaysReader_readRest_111 : decode b_DaysReader_readRest 111 = .ok (.iconst 0, 1) := by decide +kernel
theorem d_DaysReader_readRest_112 : decode b_DaysReader_readRest 112 = .ok (.aload_n 3, 1) := by decide +kernel
theorem d_DaysReader_readRest_113 : decode b_DaysReader_readRest 113 = .ok (.invokevirtual 86, 3) := by decide +kernel
theorem d_DaysReader_readRest_116 : decode b_DaysReader_readRest 116 = .ok (.iconst 1, 1) := by decide +kernel
theorem d_DaysReader_readRest_117 : decode b_DaysReader_readRest 117 = .ok (.isub, 1) := by decide +kernel
theorem d_DaysReader_readRest_118 : decode b_DaysReader_readRest 118 = .ok (.aload 4, 2) := by decide +kernel
theorem d_DaysReader_readRest_120 : decode b_DaysReader_readRest 120 = .ok (.invokevirtual 99, 3) := by decide +kernel
theorem d_DaysReader_readRest_123 : decode b_DaysReader_readRest 123 = .ok (.ifCond .eq 7, 3) := by decide +kernel
theorem d_DaysReader_readRest_126 : decode b_DaysReader_readRest 126 = .ok (.iconst 1, 1) := by decide +kernel
theorem d_DaysReader_readRest_127 : decode b_DaysReader_readRest 127 = .ok (.goto 4, 3) := by decide +kernel
theorem d_DaysReader_readRest_130 : decode b_DaysReader_readRest 130 = .ok (.iconst 0, 1) := by decide +kernel
theorem d_DaysReader_readRest_131 : decode b_DaysReader_readRest 131 = .ok (.ireturn, 1) := by decide +kernel
theorem d_DaysReader_readRest_132 : decode b_DaysReader_readRest 132 = .ok (.aload_n 0, 1) := by decide +kernel
theorem d_DaysReader_readRest_133 : decode b_DaysReader_readRest 133 = .ok (.aload_n 2, 1) := by decide +kernel
theorem d_DaysReader_readRest_134 : decode b_DaysReader_readRest 134 = .ok (.iconst 1, 1) := by decide +kernel
theorem d_DaysReader_readRest_135 : decode b_DaysReader_readRest 135 = .ok (.bipush 99, 2) := by decide +kernel
theorem d_DaysReader_readRest_137 : decode b_DaysReader_readRest 137 = .ok (.aload 4, 2) := by decide +kernel
theorem d_DaysReader_readRest_139 : decode b_DaysReader_readRest 139 = .ok (.invokevirtual 92, 3) := by decide +kernel
theorem d_DaysReader_readRest_142 : decode b_DaysReader_readRest 142 = .ok (.ireturn, 1) := by decide +kernel
theorem d_DaysReader_readRest_143 : decode b_DaysReader_readRest 143 = .ok (.iconst 1, 1) := by decide +kernel
theorem d_DaysReader_readRest_144 : decode b_DaysReader_readRest 144 = .ok (.ireturn, 1) := by decide +kernel
theorem d_DaysReader_readTune_0 : decode b_DaysReader_readTune 0 = .ok (.aload_n 1, 1) := by decide +kernel
theorem d_DaysReader_readTune_1 : decode b_DaysReader_readTune 1 = .ok (.invokevirtual 102, 3) := by decide +kernel
theorem d_DaysReader_readTune_4 : decode b_DaysReader_readTune 4 = .ok (.lstore 4, 2) := by decide +kernel
theorem d_DaysReader_readTune_6 : decode b_DaysReader_readTune 6 = .ok (.lload 4, 2) := by decide +kernel
theorem d_DaysReader_readTune_8 : decode b_DaysReader_readTune 8 = .ok (.lconst 0, 1) := by decide +kernel
theorem d_DaysReader_readTune_9 : decode b_DaysReader_readTune 9 = .ok (.lcmp, 1) := by decide +kernel
theorem d_DaysReader_readTune_10 : decode b_DaysReader_readTune 10 = .ok (.ifCond .ne 5, 3) := by decide +kernel
theorem d_DaysReader_readTune_13 : decode b_DaysReader_readTune 13 = .ok (.iconst 0, 1) := by decide +kernel
theorem d_DaysReader_readTune_14 : decode b_DaysReader_readTune 14 = .ok (.ireturn, 1) := by decide +kernel
theorem d_DaysReader_readTune_15 : decode b_DaysReader_readTune 15 = .ok (.aload_n 2, 1) := by decide +kernel
theorem d_DaysReader_readTune_16 : decode b_DaysReader_readTune 16 = .ok (.lload 4, 2) := by decide +kernel
theorem d_DaysReader_readTune_18 : decode b_DaysReader_readTune 18 = .ok (.invokevirtual 106, 3) := by decide +kernel
theorem d_DaysReader_readTune_21 : decode b_DaysReader_readTune 21 = .ok (.istore 6, 2) := by decide +kernel
theorem d_DaysReader_readTune_23 : decode b_DaysReader_readTune 23 = .ok (.iload 6, 2) := by decide +kernel
theorem d_DaysReader_readTune_25 : decode b_DaysReader_readTune 25 = .ok (.iconst (-1), 1) := by decide +kernel
theorem d_DaysReader_readTune_26 : decode b_DaysReader_readTune 26 = .ok (.if_icmp .ne 9, 3) := by decide +kernel
theorem d_DaysReader_readTune_29 : decode b_DaysReader_readTune 29 = .ok (.aload_n 1, 1) := by decide +kernel
theorem d_DaysReader_readTune_30 : decode b_DaysReader_readTune 30 = .ok (.iconst 3, 1) := by decide +kernel
theorem d_DaysReader_readTune_31 : decode b_DaysReader_readTune 31 = .ok (.invokevirtual 37, 3) := by decide +kernel
theorem d_DaysReader_readTune_34 : decode b_DaysReader_readTune 34 = .ok (.ireturn, 1) := by decide +kernel
theorem d_DaysReader_readTune_35 : decode b_DaysReader_readTune 35 = .ok (.aload_n 3, 1) := by decide +kernel
theorem d_DaysReader_readTune_36 : decode b_DaysReader_readTune 36 = .ok (.getfield 110, 3) := by decide +kernel
theorem d_DaysReader_readTune_39 : decode b_DaysReader_readTune 39 = .ok (.aload_n 3, 1) := by decide +kernel
theorem d_DaysReader_readTune_40 : decode b_DaysReader_readTune 40 = .ok (.getfield 65, 3) := by decide +kernel
theorem d_DaysReader_readTune_43 : decode b_DaysReader_readTune 43 = .ok (.iconst 1, 1) := by decide +kernel
theorem d_DaysReader_readTune_44 : decode b_DaysReader_readTune 44 = .ok (.isub, 1) := by decide +kernel
theorem d_DaysReader_readTune_45 : decode b_DaysReader_readTune 45 = .ok (.iload 6, 2) := by decide +kernel
theorem d_DaysReader_readTune_47 : decode b_DaysReader_readTune 47 = .ok (.iastore, 1) := by decide +kernel
theorem d_DaysReader_readTune_48 : decode b_DaysReader_readTune 48 = .ok (.aload_n 1, 1) := by decide +kernel
theorem d_DaysReader_readTune_49 : decode b_DaysReader_readTune 49 = .ok (.invokevirtual 59, 3) := by decide +kernel
theorem d_DaysReader_readTune_52 : decode b_DaysReader_readTune 52 = .ok (.iconst 1, 1) := by decide +kernel
theorem d_DaysReader_readTune_53 : decode b_DaysReader_readTune 53 = .ok (.ireturn, 1) := by decide +kernel
theorem d_Square_toldOf_0 : decode b_Square_toldOf 0 = .ok (.iload_n 1, 1) := by decide +kernel
theorem d_Square_toldOf_1 : decode b_Square_toldOf 1 = .ok (.tableswitch 105 0 9 #[55, 60, 65, 70, 75, 80, 85, 90, 95, 100], 55) := by decide +kernel
theorem d_Square_toldOf_56 : decode b_Square_toldOf 56 = .ok (.aload_n 0, 1) := by decide +kernel
theorem d_Square_toldOf_57 : decode b_Square_toldOf 57 = .ok (.getfield 35, 3) := by decide +kernel
theorem d_Square_toldOf_60 : decode b_Square_toldOf 60 = .ok (.ireturn, 1) := by decide +kernel
theorem d_Square_toldOf_61 : decode b_Square_toldOf 61 = .ok (.aload_n 0, 1) := by decide +kernel
theorem d_Square_toldOf_62 : decode b_Square_toldOf 62 = .ok (.getfield 39, 3) := by decide +kernel
theorem d_Square_toldOf_65 : decode b_Square_toldOf 65 = .ok (.ireturn, 1) := by decide +kernel
theorem d_Square_toldOf_66 : decode b_Square_toldOf 66 = .ok (.aload_n 0, 1) := by decide +kernel
theorem d_Square_toldOf_67 : decode b_Square_toldOf 67 = .ok (.getfield 48, 3) := by decide +kernel
theorem d_Square_toldOf_70 : decode b_Square_toldOf 70 = .ok (.ireturn, 1) := by decide +kernel
theorem d_Square_toldOf_71 : decode b_Square_toldOf 71 = .ok (.aload_n 0, 1) := by decide +kernel
theorem d_Square_toldOf_72 : decode b_Square_toldOf 72 = .ok (.getfield 51, 3) := by decide +kernel
theorem d_Square_toldOf_75 : decode b_Square_toldOf 75 = .ok (.ireturn, 1) := by decide +kernel
theorem d_Square_toldOf_76 : decode b_Square_toldOf 76 = .ok (.aload_n 0, 1) := by decide +kernel
theorem d_Square_toldOf_77 : decode b_Square_toldOf 77 = .ok (.getfield 54, 3) := by decide +kernel
theorem d_Square_toldOf_80 : decode b_Square_toldOf 80 = .ok (.ireturn, 1) := by decide +kernel
theorem d_Square_toldOf_81 : decode b_Square_toldOf 81 = .ok (.aload_n 0, 1) := by decide +kernel
theorem d_Square_toldOf_82 : decode b_Square_toldOf 82 = .ok (.getfield 42, 3) := by decide +kernel
theorem d_Square_toldOf_85 : decode b_Square_toldOf 85 = .ok (.ireturn, 1) := by decide +kernel
theorem d_Square_toldOf_86 : decode b_Square_toldOf 86 = .ok (.aload_n 0, 1) := by decide +kernel
theorem d_Square_toldOf_87 : decode b_Square_toldOf 87 = .ok (.getfield 45, 3) := by decide +kernel
theorem d_Square_toldOf_90 : decode b_Square_toldOf 90 = .ok (.ireturn, 1) := by decide +kernel
theorem d_Square_toldOf_91 : decode b_Square_toldOf 91 = .ok (.aload_n 0, 1) := by decide +kernel
theorem d_Square_toldOf_92 : decode b_Square_toldOf 92 = .ok (.getfield 57, 3) := by decide +kernel
theorem d_Square_toldOf_95 : decode b_Square_toldOf 95 = .ok (.ireturn, 1) := by decide +kernel
theorem d_Square_toldOf_96 : decode b_Square_toldOf 96 = .ok (.aload_n 0, 1) := by decide +kernel
theorem d_Square_toldOf_97 : decode b_Square_toldOf 97 = .ok (.getfield 60, 3) := by decide +kernel
theorem d_Square_toldOf_100 : decode b_Square_toldOf 100 = .ok (.ireturn, 1) := by decide +kernel
theorem d_Square_toldOf_101 : decode b_Square_toldOf 101 = .ok (.aload_n 0, 1) := by decide +kernel
theorem d_Square_toldOf_102 : decode b_Square_toldOf 102 = .ok (.getfield 63, 3) := by decide +kernel
theorem d_Square_toldOf_105 : decode b_Square_toldOf 105 = .ok (.ireturn, 1) := by decide +kernel
theorem d_Square_toldOf_106 : decode b_Square_toldOf 106 = .ok (.aload_n 0, 1) := by decide +kernel
theorem d_Square_toldOf_107 : decode b_Square_toldOf 107 = .ok (.invokevirtual 87, 3) := by decide +kernel
theorem d_Square_toldOf_110 : decode b_Square_toldOf 110 = .ok (.ireturn, 1) := by decide +kernel
theorem d_Square_dogsUp_0 : decode b_Square_dogsUp 0 = .ok (.iconst 0, 1) := by decide +kernel
theorem d_Square_dogsUp_1 : decode b_Square_dogsUp 1 = .ok (.istore_n 1, 1) := by decide +kernel
theorem d_Square_dogsUp_2 : decode b_Square_dogsUp 2 = .ok (.iconst 0, 1) := by decide +kernel
theorem d_Square_dogsUp_3 : decode b_Square_dogsUp 3 = .ok (.istore_n 2, 1) := by decide +kernel
theorem d_Square_dogsUp_4 : decode b_Square_dogsUp 4 = .ok (.iload_n 2, 1) := by decide +kernel
theorem d_Square_dogsUp_5 : decode b_Square_dogsUp 5 = .ok (.aload_n 0, 1) := by decide +kernel
theorem d_Square_dogsUp_6 : decode b_Square_dogsUp 6 = .ok (.getfield 54, 3) := by decide +kernel
theorem d_Square_dogsUp_9 : decode b_Square_dogsUp 9 = .ok (.if_icmp .ge 23, 3) := by decide +kernel
theorem d_Square_dogsUp_12 : decode b_Square_dogsUp 12 = .ok (.aload_n 0, 1) := by decide +kernel
theorem d_Square_dogsUp_13 : decode b_Square_dogsUp 13 = .ok (.iload_n 2, 1) := by decide +kernel
theorem d_Square_dogsUp_14 : decode b_Square_dogsUp 14 = .ok (.invokevirtual 117, 3) := by decide +kernel
theorem d_Square_dogsUp_17 : decode b_Square_dogsUp 17 = .ok (.ifCond .eq 9, 3) := by decide +kernel
theorem d_Square_dogsUp_20 : decode b_Square_dogsUp 20 = .ok (.iload_n 1, 1) := by decide +kernel
theorem d_Square_dogsUp_21 : decode b_Square_dogsUp 21 = .ok (.iconst 1, 1) := by decide +kernel
theorem d_Square_dogsUp_22 : decode b_Square_dogsUp 22 = .ok (.iload_n 2, 1) := by decide +kernel
theorem d_Square_dogsUp_23 : decode b_Square_dogsUp 23 = .ok (.ishl, 1) := by decide +kernel
theorem d_Square_dogsUp_24 : decode b_Square_dogsUp 24 = .ok (.ior, 1) := by decide +kernel
theorem d_Square_dogsUp_25 : decode b_Square_dogsUp 25 = .ok (.istore_n 1, 1) := by decide +kernel
theorem d_Square_dogsUp_26 : decode b_Square_dogsUp 26 = .ok (.iinc 2 1, 3) := by decide +kernel
theorem d_Square_dogsUp_29 : decode b_Square_dogsUp 29 = .ok (.goto (-25), 3) := by decide +kernel
theorem d_Square_dogsUp_32 : decode b_Square_dogsUp 32 = .ok (.iload_n 1, 1) := by decide +kernel
theorem d_Square_dogsUp_33 : decode b_Square_dogsUp 33 = .ok (.ireturn, 1) := by decide +kernel
theorem d_Square_isUp_0 : decode b_Square_isUp 0 = .ok (.aload_n 0, 1) := by decide +kernel
theorem d_Square_isUp_1 : decode b_Square_isUp 1 = .ok (.aload_n 0, 1) := by decide +kernel
theorem d_Square_isUp_2 : decode b_Square_isUp 2 = .ok (.getfield 25, 3) := by decide +kernel
theorem d_Square_isUp_5 : decode b_Square_isUp 5 = .ok (.iload_n 1, 1) := by decide +kernel
theorem d_Square_isUp_6 : decode b_Square_isUp 6 = .ok (.iaload, 1) := by decide +kernel
theorem d_Square_isUp_7 : decode b_Square_isUp 7 = .ok (.iconst 1, 1) := by decide +kernel
theorem d_Square_isUp_8 : decode b_Square_isUp 8 = .ok (.invokevirtual 107, 3) := by decide +kernel
theorem d_Square_isUp_11 : decode b_Square_isUp 11 = .ok (.ifCond .eq 7, 3) := by decide +kernel
theorem d_Square_isUp_14 : decode b_Square_isUp 14 = .ok (.iconst 1, 1) := by decide +kernel
theorem d_Square_isUp_15 : decode b_Square_isUp 15 = .ok (.goto 4, 3) := by decide +kernel
theorem d_Square_isUp_18 : decode b_Square_isUp 18 = .ok (.iconst 0, 1) := by decide +kernel
theorem d_Square_isUp_19 : decode b_Square_isUp 19 = .ok (.ireturn, 1) := by decide +kernel
theorem d_Square_hearersNear_0 : decode b_Square_hearersNear 0 = .ok (.iconst 0, 1) := by decide +kernel
theorem d_Square_hearersNear_1 : decode b_Square_hearersNear 1 = .ok (.istore_n 3, 1) := by decide +kernel
theorem d_Square_hearersNear_2 : decode b_Square_hearersNear 2 = .ok (.iconst 0, 1) := by decide +kernel
theorem d_Square_hearersNear_3 : decode b_Square_hearersNear 3 = .ok (.istore 4, 2) := by decide +kernel
theorem d_Square_hearersNear_5 : decode b_Square_hearersNear 5 = .ok (.iload 4, 2) := by decide +kernel
theorem d_Square_hearersNear_7 : decode b_Square_hearersNear 7 = .ok (.aload_n 0, 1) := by decide +kernel
theorem d_Square_hearersNear_8 : decode b_Square_hearersNear 8 = .ok (.getfield 51, 3) := by decide +kernel
theorem d_Square_hearersNear_11 : decode b_Square_hearersNear 11 = .ok (.if_icmp .ge 32, 3) := by decide +kernel
theorem d_Square_hearersNear_14 : decode b_Square_hearersNear 14 = .ok (.aload_n 0, 1) := by decide +kernel
theorem d_Square_hearersNear_15 : decode b_Square_hearersNear 15 = .ok (.aload_n 0, 1) := by decide +kernel
theorem d_Square_hearersNear_16 : decode b_Square_hearersNear 16 = .ok (.getfield 15, 3) := by decide +kernel
theorem d_Square_hearersNear_19 : decode b_Square_hearersNear 19 = .ok (.iload 4, 2) := by decide +kernel
theorem d_Square_hearersNear_21 : decode b_Square_hearersNear 21 = .ok (.iaload, 1) := by decide +kernel
theorem d_Square_hearersNear_22 : decode b_Square_hearersNear 22 = .ok (.iload_n 1, 1) := by decide +kernel
theorem d_Square_hearersNear_23 : decode b_Square_hearersNear 23 = .ok (.invokevirtual 103, 3) := by decide +kernel
theorem d_Square_hearersNear_26 : decode b_Square_hearersNear 26 = .ok (.iload_n 2, 1) := by decide +kernel
theorem d_Square_hearersNear_27 : decode b_Square_hearersNear 27 = .ok (.if_icmp .gt 10, 3) := by decide +kernel
theorem d_Square_hearersNear_30 : decode b_Square_hearersNear 30 = .ok (.iload_n 3, 1) := by decide +kernel
theorem d_Square_hearersNear_31 : decode b_Square_hearersNear 31 = .ok (.iconst 1, 1) := by decide +kernel
theorem d_Square_hearersNear_32 : decode b_Square_hearersNear 32 = .ok (.iload 4, 2) := by decide +kernel
theorem d_Square_hearersNear_34 : decode b_Square_hearersNear 34 = .ok (.ishl, 1) := by decide +kernel
theorem d_Square_hearersNear_35 : decode b_Square_hearersNear 35 = .ok (.ior, 1) := by decide +kernel
theorem d_Square_hearersNear_36 : decode b_Square_hearersNear 36 = .ok (.istore_n 3, 1) := by decide +kernel
theorem d_Square_hearersNear_37 : decode b_Square_hearersNear 37 = .ok (.iinc 4 1, 3) := by decide +kernel
theorem d_Square_hearersNear_40 : decode b_Square_hearersNear 40 = .ok (.goto (-35), 3) := by decide +kernel
theorem d_Square_hearersNear_43 : decode b_Square_hearersNear 43 = .ok (.iload_n 3, 1) := by decide +kernel
theorem d_Square_hearersNear_44 : decode b_Square_hearersNear 44 = .ok (.ireturn, 1) := by decide +kernel
theorem d_Square_far_0 : decode b_Square_far 0 = .ok (.aload_n 0, 1) := by decide +kernel
theorem d_Square_far_1 : decode b_Square_far 1 = .ok (.getfield 35, 3) := by decide +kernel
theorem d_Square_far_4 : decode b_Square_far 4 = .ok (.ifCond .gt 5, 3) := by decide +kernel
theorem d_Square_far_7 : decode b_Square_far 7 = .ok (.iconst 0, 1) := by decide +kernel
theorem d_Square_far_8 : decode b_Square_far 8 = .ok (.ireturn, 1) := by decide +kernel
theorem d_Square_far_9 : decode b_Square_far 9 = .ok (.iload_n 1, 1) := by decide +kernel
theorem d_Square_far_10 : decode b_Square_far 10 = .ok (.aload_n 0, 1) := by decide +kernel
theorem d_Square_far_11 : decode b_Square_far 11 = .ok (.getfield 35, 3) := by decide +kernel
theorem d_Square_far_14 : decode b_Square_far 14 = .ok (.irem, 1) := by decide +kernel
theorem d_Square_far_15 : decode b_Square_far 15 = .ok (.iload_n 2, 1) := by decide +kernel
theorem d_Square_far_16 : decode b_Square_far 16 = .ok (.aload_n 0, 1) := by decide +kernel
theorem d_Square_far_17 : decode b_Square_far 17 = .ok (.getfield 35, 3) := by decide +kernel
theorem d_Square_far_20 : decode b_Square_far 20 = .ok (.irem, 1) := by decide +kernel
theorem d_Square_far_21 : decode b_Square_far 21 = .ok (.isub, 1) := by decide +kernel
theorem d_Square_far_22 : decode b_Square_far 22 = .ok (.invokestatic 98, 3) := by decide +kernel
theorem d_Square_far_25 : decode b_Square_far 25 = .ok (.iload_n 1, 1) := by decide +kernel
theorem d_Square_far_26 : decode b_Square_far 26 = .ok (.aload_n 0, 1) := by decide +kernel
theorem d_Square_far_27 : decode b_Square_far 27 = .ok (.getfield 35, 3) := by decide +kernel
theorem d_Square_far_30 : decode b_Square_far 30 = .ok (.idiv, 1) := by decide +kernel
theorem d_Square_far_31 : decode b_Square_far 31 = .ok (.iload_n 2, 1) := by decide +kernel
theorem d_Square_far_32 : decode b_Square_far 32 = .ok (.aload_n 0, 1) := by decide +kernel
theorem d_Square_far_33 : decode b_Square_far 33 = .ok (.getfield 35, 3) := by decide +kernel
theorem d_Square_far_36 : decode b_Square_far 36 = .ok (.idiv, 1) := by decide +kernel
theorem d_Square_far_37 : decode b_Square_far 37 = .ok (.isub, 1) := by decide +kernel
theorem d_Square_far_38 : decode b_Square_far 38 = .ok (.invokestatic 98, 3) := by decide +kernel
theorem d_Square_far_41 : decode b_Square_far 41 = .ok (.iadd, 1) := by decide +kernel
theorem d_Square_far_42 : decode b_Square_far 42 = .ok (.ireturn, 1) := by decide +kernel
theorem d_Math_abs_0 : decode b_Math_abs 0 = .ok (.iload_n 0, 1) := by decide +kernel
theorem d_Math_abs_1 : decode b_Math_abs 1 = .ok (.ifCond .ge 8, 3) := by decide +kernel
theorem d_Math_abs_4 : decode b_Math_abs 4 = .ok (.iload_n 0, 1) := by decide +kernel
theorem d_Math_abs_5 : decode b_Math_abs 5 = .ok (.ineg, 1) := by decide +kernel
theorem d_Math_abs_6 : decode b_Math_abs 6 = .ok (.goto 4, 3) := by decide +kernel
theorem d_Math_abs_9 : decode b_Math_abs 9 = .ok (.iload_n 0, 1) := by decide +kernel
theorem d_Math_abs_10 : decode b_Math_abs 10 = .ok (.ireturn, 1) := by decide +kernel
theorem d_Square_hasHearer_0 : decode b_Square_hasHearer 0 = .ok (.iload_n 1, 1) := by decide +kernel
theorem d_Square_hasHearer_1 : decode b_Square_hasHearer 1 = .ok (.iconst 0, 1) := by decide +kernel
theorem d_Square_hasHearer_2 : decode b_Square_hasHearer 2 = .ok (.aload_n 0, 1) := by decide +kernel
theorem d_Square_hasHearer_3 : decode b_Square_hasHearer 3 = .ok (.getfield 51, 3) := by decide +kernel
theorem d_Square_hasHearer_6 : decode b_Square_hasHearer 6 = .ok (.iconst 1, 1) := by decide +kernel
theorem d_Square_hasHearer_7 : decode b_Square_hasHearer 7 = .ok (.isub, 1) := by decide +kernel
theorem d_Square_hasHearer_8 : decode b_Square_hasHearer 8 = .ok (.invokestatic 83, 3) := by decide +kernel
theorem d_Square_hasHearer_11 : decode b_Square_hasHearer 11 = .ok (.ireturn, 1) := by decide +kernel
theorem d_Square_toldOfHearer_0 : decode b_Square_toldOfHearer 0 = .ok (.iload_n 2, 1) := by decide +kernel
theorem d_Square_toldOfHearer_1 : decode b_Square_toldOfHearer 1 = .ok (.tableswitch 58 0 3 #[31, 38, 45, 52], 31) := by decide +kernel
theorem d_Square_toldOfHearer_32 : decode b_Square_toldOfHearer 32 = .ok (.aload_n 0, 1) := by decide +kernel
theorem d_Square_toldOfHearer_33 : decode b_Square_toldOfHearer 33 = .ok (.getfield 15, 3) := by decide +kernel
theorem d_Square_toldOfHearer_36 : decode b_Square_toldOfHearer 36 = .ok (.iload_n 1, 1) := by decide +kernel
theorem d_Square_toldOfHearer_37 : decode b_Square_toldOfHearer 37 = .ok (.iaload, 1) := by decide +kernel
theorem d_Square_toldOfHearer_38 : decode b_Square_toldOfHearer 38 = .ok (.ireturn, 1) := by decide +kernel
theorem d_Square_toldOfHearer_39 : decode b_Square_toldOfHearer 39 = .ok (.aload_n 0, 1) := by decide +kernel
theorem d_Square_toldOfHearer_40 : decode b_Square_toldOfHearer 40 = .ok (.getfield 22, 3) := by decide +kernel
theorem d_Square_toldOfHearer_43 : decode b_Square_toldOfHearer 43 = .ok (.iload_n 1, 1) := by decide +kernel
theorem d_Square_toldOfHearer_44 : decode b_Square_toldOfHearer 44 = .ok (.iaload, 1) := by decide +kernel
theorem d_Square_toldOfHearer_45 : decode b_Square_toldOfHearer 45 = .ok (.ireturn, 1) := by decide +kernel
theorem d_Square_toldOfHearer_46 : decode b_Square_toldOfHearer 46 = .ok (.aload_n 0, 1) := by decide +kernel
theorem d_Square_toldOfHearer_47 : decode b_Square_toldOfHearer 47 = .ok (.getfield 19, 3) := by decide +kernel
theorem d_Square_toldOfHearer_50 : decode b_Square_toldOfHearer 50 = .ok (.iload_n 1, 1) := by decide +kernel
theorem d_Square_toldOfHearer_51 : decode b_Square_toldOfHearer 51 = .ok (.iaload, 1) := by decide +kernel
theorem d_Square_toldOfHearer_52 : decode b_Square_toldOfHearer 52 = .ok (.ireturn, 1) := by decide +kernel
theorem d_Square_toldOfHearer_53 : decode b_Square_toldOfHearer 53 = .ok (.aload_n 0, 1) := by decide +kernel
theorem d_Square_toldOfHearer_54 : decode b_Square_toldOfHearer 54 = .ok (.iload_n 1, 1) := by decide +kernel
theorem d_Square_toldOfHearer_55 : decode b_Square_toldOfHearer 55 = .ok (.invokevirtual 90, 3) := by decide +kernel
theorem d_Square_toldOfHearer_58 : decode b_Square_toldOfHearer 58 = .ok (.ireturn, 1) := by decide +kernel
theorem d_Square_toldOfHearer_59 : decode b_Square_toldOfHearer 59 = .ok (.aload_n 0, 1) := by decide +kernel
theorem d_Square_toldOfHearer_60 : decode b_Square_toldOfHearer 60 = .ok (.iload_n 1, 1) := by decide +kernel
theorem d_Square_toldOfHearer_61 : decode b_Square_toldOfHearer 61 = .ok (.invokevirtual 94, 3) := by decide +kernel
theorem d_Square_toldOfHearer_64 : decode b_Square_toldOfHearer 64 = .ok (.ifCond .eq 7, 3) := by decide +kernel
theorem d_Square_toldOfHearer_67 : decode b_Square_toldOfHearer 67 = .ok (.iconst 1, 1) := by decide +kernel
theorem d_Square_toldOfHearer_68 : decode b_Square_toldOfHearer 68 = .ok (.goto 4, 3) := by decide +kernel
theorem d_Square_toldOfHearer_71 : decode b_Square_toldOfHearer 71 = .ok (.iconst 0, 1) := by decide +kernel
theorem d_Square_toldOfHearer_72 : decode b_Square_toldOfHearer 72 = .ok (.ireturn, 1) := by decide +kernel
theorem d_Square_farFromOrgan_0 : decode b_Square_farFromOrgan 0 = .ok (.aload_n 0, 1) := by decide +kernel
theorem d_Square_farFromOrgan_1 : decode b_Square_farFromOrgan 1 = .ok (.aload_n 0, 1) := by decide +kernel
theorem d_Square_farFromOrgan_2 : decode b_Square_farFromOrgan 2 = .ok (.getfield 15, 3) := by decide +kernel
theorem d_Square_farFromOrgan_5 : decode b_Square_farFromOrgan 5 = .ok (.iload_n 1, 1) := by decide +kernel
theorem d_Square_farFromOrgan_6 : decode b_Square_farFromOrgan 6 = .ok (.iaload, 1) := by decide +kernel
theorem d_Square_farFromOrgan_7 : decode b_Square_farFromOrgan 7 = .ok (.aload_n 0, 1) := by decide +kernel
theorem d_Square_farFromOrgan_8 : decode b_Square_farFromOrgan 8 = .ok (.getfield 45, 3) := by decide +kernel
theorem d_Square_farFromOrgan_11 : decode b_Square_farFromOrgan 11 = .ok (.invokevirtual 103, 3) := by decide +kernel
theorem d_Square_farFromOrgan_14 : decode b_Square_farFromOrgan 14 = .ok (.ireturn, 1) := by decide +kernel
theorem d_Square_isSeen_0 : decode b_Square_isSeen 0 = .ok (.aload_n 0, 1) := by decide +kernel
theorem d_Square_isSeen_1 : decode b_Square_isSeen 1 = .ok (.getfield 63, 3) := by decide +kernel
theorem d_Square_isSeen_4 : decode b_Square_isSeen 4 = .ok (.iload_n 1, 1) := by decide +kernel
theorem d_Square_isSeen_5 : decode b_Square_isSeen 5 = .ok (.ishr, 1) := by decide +kernel
theorem d_Square_isSeen_6 : decode b_Square_isSeen 6 = .ok (.iconst 1, 1) := by decide +kernel
theorem d_Square_isSeen_7 : decode b_Square_isSeen 7 = .ok (.iand, 1) := by decide +kernel
theorem d_Square_isSeen_8 : decode b_Square_isSeen 8 = .ok (.iconst 1, 1) := by decide +kernel
theorem d_Square_isSeen_9 : decode b_Square_isSeen 9 = .ok (.if_icmp .ne 7, 3) := by decide +kernel
theorem d_Square_isSeen_12 : decode b_Square_isSeen 12 = .ok (.iconst 1, 1) := by decide +kernel
theorem d_Square_isSeen_13 : decode b_Square_isSeen 13 = .ok (.goto 4, 3) := by decide +kernel
theorem d_Square_isSeen_16 : decode b_Square_isSeen 16 = .ok (.iconst 0, 1) := by decide +kernel
theorem d_Square_isSeen_17 : decode b_Square_isSeen 17 = .ok (.ireturn, 1) := by decide +kernel
theorem d_Square_hasDog_0 : decode b_Square_hasDog 0 = .ok (.iload_n 1, 1) := by decide +kernel
theorem d_Square_hasDog_1 : decode b_Square_hasDog 1 = .ok (.iconst 0, 1) := by decide +kernel
theorem d_Square_hasDog_2 : decode b_Square_hasDog 2 = .ok (.aload_n 0, 1) := by decide +kernel
theorem d_Square_hasDog_3 : decode b_Square_hasDog 3 = .ok (.getfield 54, 3) := by decide +kernel
theorem d_Square_hasDog_6 : decode b_Square_hasDog 6 = .ok (.iconst 1, 1) := by decide +kernel
theorem d_Square_hasDog_7 : decode b_Square_hasDog 7 = .ok (.isub, 1) := by decide +kernel
theorem d_Square_hasDog_8 : decode b_Square_hasDog 8 = .ok (.invokestatic 83, 3) := by decide +kernel
theorem d_Square_hasDog_11 : decode b_Square_hasDog 11 = .ok (.ireturn, 1) := by decide +kernel
theorem d_Square_hasCell_0 : decode b_Square_hasCell 0 = .ok (.iload_n 1, 1) := by decide +kernel
theorem d_Square_hasCell_1 : decode b_Square_hasCell 1 = .ok (.iconst 0, 1) := by decide +kernel
theorem d_Square_hasCell_2 : decode b_Square_hasCell 2 = .ok (.aload_n 0, 1) := by decide +kernel
theorem d_Square_hasCell_3 : decode b_Square_hasCell 3 = .ok (.invokevirtual 79, 3) := by decide +kernel
theorem d_Square_hasCell_6 : decode b_Square_hasCell 6 = .ok (.iconst 1, 1) := by decide +kernel
theorem d_Square_hasCell_7 : decode b_Square_hasCell 7 = .ok (.isub, 1) := by decide +kernel
theorem d_Square_hasCell_8 : decode b_Square_hasCell 8 = .ok (.invokestatic 83, 3) := by decide +kernel
theorem d_Square_hasCell_11 : decode b_Square_hasCell 11 = .ok (.ireturn, 1) := by decide +kernel
theorem d_Square_dogsUpFrom_0 : decode b_Square_dogsUpFrom 0 = .ok (.iconst 0, 1) := by decide +kernel
theorem d_Square_dogsUpFrom_1 : decode b_Square_dogsUpFrom 1 = .ok (.istore_n 2, 1) := by decide +kernel
theorem d_Square_dogsUpFrom_2 : decode b_Square_dogsUpFrom 2 = .ok (.iconst 0, 1) := by decide +kernel
theorem d_Square_dogsUpFrom_3 : decode b_Square_dogsUpFrom 3 = .ok (.istore_n 3, 1) := by decide +kernel
theorem d_Square_dogsUpFrom_4 : decode b_Square_dogsUpFrom 4 = .ok (.iload_n 3, 1) := by decide +kernel
theorem d_Square_dogsUpFrom_5 : decode b_Square_dogsUpFrom 5 = .ok (.aload_n 0, 1) := by decide +kernel
theorem d_Square_dogsUpFrom_6 : decode b_Square_dogsUpFrom 6 = .ok (.getfield 54, 3) := by decide +kernel
theorem d_Square_dogsUpFrom_9 : decode b_Square_dogsUpFrom 9 = .ok (.if_icmp .ge 29, 3) := by decide +kernel
theorem d_Square_dogsUpFrom_12 : decode b_Square_dogsUpFrom 12 = .ok (.aload_n 0, 1) := by decide +kernel
theorem d_Square_dogsUpFrom_13 : decode b_Square_dogsUpFrom 13 = .ok (.aload_n 0, 1) := by decide +kernel
theorem d_Square_dogsUpFrom_14 : decode b_Square_dogsUpFrom 14 = .ok (.getfield 25, 3) := by decide +kernel
theorem d_Square_dogsUpFrom_17 : decode b_Square_dogsUpFrom 17 = .ok (.iload_n 3, 1) := by decide +kernel
theorem d_Square_dogsUpFrom_18 : decode b_Square_dogsUpFrom 18 = .ok (.iaload, 1) := by decide +kernel
theorem d_Square_dogsUpFrom_19 : decode b_Square_dogsUpFrom 19 = .ok (.iload_n 1, 1) := by decide +kernel
theorem d_Square_dogsUpFrom_20 : decode b_Square_dogsUpFrom 20 = .ok (.invokevirtual 114, 3) := by decide +kernel
theorem d_Square_dogsUpFrom_23 : decode b_Square_dogsUpFrom 23 = .ok (.ifCond .eq 9, 3) := by decide +kernel
theorem d_Square_dogsUpFrom_26 : decode b_Square_dogsUpFrom 26 = .ok (.iload_n 2, 1) := by decide +kernel
theorem d_Square_dogsUpFrom_27 : decode b_Square_dogsUpFrom 27 = .ok (.iconst 1, 1) := by decide +kernel
theorem d_Square_dogsUpFrom_28 : decode b_Square_dogsUpFrom 28 = .ok (.iload_n 3, 1) := by decide +kernel
theorem d_Square_dogsUpFrom_29 : decode b_Square_dogsUpFrom 29 = .ok (.ishl, 1) := by decide +kernel
theorem d_Square_dogsUpFrom_30 : decode b_Square_dogsUpFrom 30 = .ok (.ior, 1) := by decide +kernel
theorem d_Square_dogsUpFrom_31 : decode b_Square_dogsUpFrom 31 = .ok (.istore_n 2, 1) := by decide +kernel
theorem d_Square_dogsUpFrom_32 : decode b_Square_dogsUpFrom 32 = .ok (.iinc 3 1, 3) := by decide +kernel
theorem d_Square_dogsUpFrom_35 : decode b_Square_dogsUpFrom 35 = .ok (.goto (-31), 3) := by decide +kernel
theorem d_Square_dogsUpFrom_38 : decode b_Square_dogsUpFrom 38 = .ok (.iload_n 2, 1) := by decide +kernel
theorem d_Square_dogsUpFrom_39 : decode b_Square_dogsUpFrom 39 = .ok (.ireturn, 1) := by decide +kernel
theorem d_Square_isNear_0 : decode b_Square_isNear 0 = .ok (.aload_n 0, 1) := by decide +kernel
theorem d_Square_isNear_1 : decode b_Square_isNear 1 = .ok (.iload_n 1, 1) := by decide +kernel
theorem d_Square_isNear_2 : decode b_Square_isNear 2 = .ok (.iload_n 2, 1) := by decide +kernel
theorem d_Square_isNear_3 : decode b_Square_isNear 3 = .ok (.invokevirtual 103, 3) := by decide +kernel
theorem d_Square_isNear_6 : decode b_Square_isNear 6 = .ok (.iconst 1, 1) := by decide +kernel
theorem d_Square_isNear_7 : decode b_Square_isNear 7 = .ok (.if_icmp .gt 7, 3) := by decide +kernel
theorem d_Square_isNear_10 : decode b_Square_isNear 10 = .ok (.iconst 1, 1) := by decide +kernel
theorem d_Square_isNear_11 : decode b_Square_isNear 11 = .ok (.goto 4, 3) := by decide +kernel
theorem d_Square_isNear_14 : decode b_Square_isNear 14 = .ok (.iconst 0, 1) := by decide +kernel
theorem d_Square_isNear_15 : decode b_Square_isNear 15 = .ok (.ireturn, 1) := by decide +kernel
theorem d_Square_hasTune_0 : decode b_Square_hasTune 0 = .ok (.iload_n 1, 1) := by decide +kernel
theorem d_Square_hasTune_1 : decode b_Square_hasTune 1 = .ok (.iconst 0, 1) := by decide +kernel
theorem d_Square_hasTune_2 : decode b_Square_hasTune 2 = .ok (.aload_n 0, 1) := by decide +kernel
theorem d_Square_hasTune_3 : decode b_Square_hasTune 3 = .ok (.getfield 48, 3) := by decide +kernel
theorem d_Square_hasTune_6 : decode b_Square_hasTune 6 = .ok (.iconst 1, 1) := by decide +kernel
theorem d_Square_hasTune_7 : decode b_Square_hasTune 7 = .ok (.isub, 1) := by decide +kernel
theorem d_Square_hasTune_8 : decode b_Square_hasTune 8 = .ok (.invokestatic 83, 3) := by decide +kernel
theorem d_Square_hasTune_11 : decode b_Square_hasTune 11 = .ok (.ireturn, 1) := by decide +kernel
theorem d_Square_likersOf_0 : decode b_Square_likersOf 0 = .ok (.iconst 0, 1) := by decide +kernel
theorem d_Square_likersOf_1 : decode b_Square_likersOf 1 = .ok (.istore_n 2, 1) := by decide +kernel
theorem d_Square_likersOf_2 : decode b_Square_likersOf 2 = .ok (.iconst 0, 1) := by decide +kernel
theorem d_Square_likersOf_3 : decode b_Square_likersOf 3 = .ok (.istore_n 3, 1) := by decide +kernel
theorem d_Square_likersOf_4 : decode b_Square_likersOf 4 = .ok (.iload_n 3, 1) := by decide +kernel
theorem d_Square_likersOf_5 : decode b_Square_likersOf 5 = .ok (.aload_n 0, 1) := by decide +kernel
theorem d_Square_likersOf_6 : decode b_Square_likersOf 6 = .ok (.getfield 51, 3) := by decide +kernel
theorem d_Square_likersOf_9 : decode b_Square_likersOf 9 = .ok (.if_icmp .ge 24, 3) := by decide +kernel
theorem d_Square_likersOf_12 : decode b_Square_likersOf 12 = .ok (.aload_n 0, 1) := by decide +kernel
theorem d_Square_likersOf_13 : decode b_Square_likersOf 13 = .ok (.iload_n 3, 1) := by decide +kernel
theorem d_Square_likersOf_14 : decode b_Square_likersOf 14 = .ok (.iload_n 1, 1) := by decide +kernel
theorem d_Square_likersOf_15 : decode b_Square_likersOf 15 = .ok (.invokevirtual 110, 3) := by decide +kernel
theorem d_Square_likersOf_18 : decode b_Square_likersOf 18 = .ok (.ifCond .eq 9, 3) := by decide +kernel
theorem d_Square_likersOf_21 : decode b_Square_likersOf 21 = .ok (.iload_n 2, 1) := by decide +kernel
theorem d_Square_likersOf_22 : decode b_Square_likersOf 22 = .ok (.iconst 1, 1) := by decide +kernel
theorem d_Square_likersOf_23 : decode b_Square_likersOf 23 = .ok (.iload_n 3, 1) := by decide +kernel
theorem d_Square_likersOf_24 : decode b_Square_likersOf 24 = .ok (.ishl, 1) := by decide +kernel
theorem d_Square_likersOf_25 : decode b_Square_likersOf 25 = .ok (.ior, 1) := by decide +kernel
theorem d_Square_likersOf_26 : decode b_Square_likersOf 26 = .ok (.istore_n 2, 1) := by decide +kernel
theorem d_Square_likersOf_27 : decode b_Square_likersOf 27 = .ok (.iinc 3 1, 3) := by decide +kernel
theorem d_Square_likersOf_30 : decode b_Square_likersOf 30 = .ok (.goto (-26), 3) := by decide +kernel
theorem d_Square_likersOf_33 : decode b_Square_likersOf 33 = .ok (.iload_n 2, 1) := by decide +kernel
theorem d_Square_likersOf_34 : decode b_Square_likersOf 34 = .ok (.ireturn, 1) := by decide +kernel
theorem d_Square_doesLike_0 : decode b_Square_doesLike 0 = .ok (.aload_n 0, 1) := by decide +kernel
theorem d_Square_doesLike_1 : decode b_Square_doesLike 1 = .ok (.getfield 22, 3) := by decide +kernel
theorem d_Square_doesLike_4 : decode b_Square_doesLike 4 = .ok (.iload_n 1, 1) := by decide +kernel
theorem d_Square_doesLike_5 : decode b_Square_doesLike 5 = .ok (.iaload, 1) := by decide +kernel
theorem d_Square_doesLike_6 : decode b_Square_doesLike 6 = .ok (.iload_n 2, 1) := by decide +kernel
theorem d_Square_doesLike_7 : decode b_Square_doesLike 7 = .ok (.ishr, 1) := by decide +kernel
theorem d_Square_doesLike_8 : decode b_Square_doesLike 8 = .ok (.iconst 1, 1) := by decide +kernel
theorem d_Square_doesLike_9 : decode b_Square_doesLike 9 = .ok (.iand, 1) := by decide +kernel
theorem d_Square_doesLike_10 : decode b_Square_doesLike 10 = .ok (.iconst 1, 1) := by decide +kernel
theorem d_Square_doesLike_11 : decode b_Square_doesLike 11 = .ok (.if_icmp .ne 7, 3) := by decide +kernel
theorem d_Square_doesLike_14 : decode b_Square_doesLike 14 = .ok (.iconst 1, 1) := by decide +kernel
theorem d_Square_doesLike_15 : decode b_Square_doesLike 15 = .ok (.goto 4, 3) := by decide +kernel
theorem d_Square_doesLike_18 : decode b_Square_doesLike 18 = .ok (.iconst 0, 1) := by decide +kernel
theorem d_Square_doesLike_19 : decode b_Square_doesLike 19 = .ok (.ireturn, 1) := by decide +kernel
theorem d_Square_playTune_0 : decode b_Square_playTune 0 = .ok (.aload_n 0, 1) := by decide +kernel
theorem d_Square_playTune_1 : decode b_Square_playTune 1 = .ok (.iload_n 1, 1) := by decide +kernel
theorem d_Square_playTune_2 : decode b_Square_playTune 2 = .ok (.invokevirtual 120, 3) := by decide +kernel
theorem d_Square_playTune_5 : decode b_Square_playTune 5 = .ok (.ifCond .ne 5, 3) := by decide +kernel
theorem d_Square_playTune_8 : decode b_Square_playTune 8 = .ok (.iconst (-1), 1) := by decide +kernel
theorem d_Square_playTune_9 : decode b_Square_playTune 9 = .ok (.ireturn, 1) := by decide +kernel
theorem d_Square_playTune_10 : decode b_Square_playTune 10 = .ok (.iconst 0, 1) := by decide +kernel
theorem d_Square_playTune_11 : decode b_Square_playTune 11 = .ok (.istore_n 2, 1) := by decide +kernel
theorem d_Square_playTune_12 : decode b_Square_playTune 12 = .ok (.iconst 0, 1) := by decide +kernel
theorem d_Square_playTune_13 : decode b_Square_playTune 13 = .ok (.istore_n 3, 1) := by decide +kernel
theorem d_Square_playTune_14 : decode b_Square_playTune 14 = .ok (.iload_n 3, 1) := by decide +kernel
theorem d_Square_playTune_15 : decode b_Square_playTune 15 = .ok (.aload_n 0, 1) := by decide +kernel
theorem d_Square_playTune_16 : decode b_Square_playTune 16 = .ok (.getfield 51, 3) := by decide +kernel
theorem d_Square_playTune_19 : decode b_Square_playTune 19 = .ok (.if_icmp .ge 75, 3) := by decide +kernel
theorem d_Square_playTune_22 : decode b_Square_playTune 22 = .ok (.aload_n 0, 1) := by decide +kernel
theorem d_Square_playTune_23 : decode b_Square_playTune 23 = .ok (.iload_n 3, 1) := by decide +kernel
theorem d_Square_playTune_24 : decode b_Square_playTune 24 = .ok (.iload_n 1, 1) := by decide +kernel
theorem d_Square_playTune_25 : decode b_Square_playTune 25 = .ok (.invokevirtual 110, 3) := by decide +kernel
theorem d_Square_playTune_28 : decode b_Square_playTune 28 = .ok (.ifCond .ne 6, 3) := by decide +kernel
theorem d_Square_playTune_31 : decode b_Square_playTune 31 = .ok (.goto 57, 3) := by decide +kernel
theorem d_Square_playTune_34 : decode b_Square_playTune 34 = .ok (.aload_n 0, 1) := by decide +kernel
theorem d_Square_playTune_35 : decode b_Square_playTune 35 = .ok (.getfield 15, 3) := by decide +kernel
theorem d_Square_playTune_38 : decode b_Square_playTune 38 = .ok (.iload_n 3, 1) := by decide +kernel
theorem d_Square_playTune_39 : decode b_Square_playTune 39 = .ok (.iaload, 1) := by decide +kernel
theorem d_Square_playTune_40 : decode b_Square_playTune 40 = .ok (.aload_n 0, 1) := by decide +kernel
theorem d_Square_playTune_41 : decode b_Square_playTune 41 = .ok (.getfield 45, 3) := by decide +kernel
theorem d_Square_playTune_44 : decode b_Square_playTune 44 = .ok (.if_icmp .eq 22, 3) := by decide +kernel
theorem d_Square_playTune_47 : decode b_Square_playTune 47 = .ok (.aload_n 0, 1) := by decide +kernel
theorem d_Square_playTune_48 : decode b_Square_playTune 48 = .ok (.getfield 15, 3) := by decide +kernel
theorem d_Square_playTune_51 : decode b_Square_playTune 51 = .ok (.iload_n 3, 1) := by decide +kernel
theorem d_Square_playTune_52 : decode b_Square_playTune 52 = .ok (.aload_n 0, 1) := by decide +kernel
theorem d_Square_playTune_53 : decode b_Square_playTune 53 = .ok (.aload_n 0, 1) := by decide +kernel
theorem d_Square_playTune_54 : decode b_Square_playTune 54 = .ok (.getfield 15, 3) := by decide +kernel
theorem d_Square_playTune_57 : decode b_Square_playTune 57 = .ok (.iload_n 3, 1) := by decide +kernel
theorem d_Square_playTune_58 : decode b_Square_playTune 58 = .ok (.iaload, 1) := by decide +kernel
theorem d_Square_playTune_59 : decode b_Square_playTune 59 = .ok (.invokevirtual 123, 3) := by decide +kernel
theorem d_Square_playTune_62 : decode b_Square_playTune 62 = .ok (.iastore, 1) := by decide +kernel
theorem d_Square_playTune_63 : decode b_Square_playTune 63 = .ok (.goto 25, 3) := by decide +kernel
theorem d_Square_playTune_66 : decode b_Square_playTune 66 = .ok (.aload_n 0, 1) := by decide +kernel
theorem d_Square_playTune_67 : decode b_Square_playTune 67 = .ok (.getfield 19, 3) := by decide +kernel
theorem d_Square_playTune_70 : decode b_Square_playTune 70 = .ok (.iload_n 3, 1) := by decide +kernel
theorem d_Square_playTune_71 : decode b_Square_playTune 71 = .ok (.iaload, 1) := by decide +kernel
theorem d_Square_playTune_72 : decode b_Square_playTune 72 = .ok (.ifCond .le 16, 3) := by decide +kernel
theorem d_Square_playTune_75 : decode b_Square_playTune 75 = .ok (.aload_n 0, 1) := by decide +kernel
theorem d_Square_playTune_76 : decode b_Square_playTune 76 = .ok (.getfield 19, 3) := by decide +kernel
theorem d_Square_playTune_79 : decode b_Square_playTune 79 = .ok (.iload_n 3, 1) := by decide +kernel
theorem d_Square_playTune_80 : decode b_Square_playTune 80 = .ok (.dup2, 1) := by decide +kernel
theorem d_Square_playTune_81 : decode b_Square_playTune 81 = .ok (.iaload, 1) := by decide +kernel
theorem d_Square_playTune_82 : decode b_Square_playTune 82 = .ok (.iconst 1, 1) := by decide +kernel
theorem d_Square_playTune_83 : decode b_Square_playTune 83 = .ok (.isub, 1) := by decide +kernel
theorem d_Square_playTune_84 : decode b_Square_playTune 84 = .ok (.iastore, 1) := by decide +kernel
theorem d_Square_playTune_85 : decode b_Square_playTune 85 = .ok (.iinc 2 1, 3) := by decide +kernel
theorem d_Square_playTune_88 : decode b_Square_playTune 88 = .ok (.iinc 3 1, 3) := by decide +kernel
theorem d_Square_playTune_91 : decode b_Square_playTune 91 = .ok (.goto (-77), 3) := by decide +kernel
theorem d_Square_playTune_94 : decode b_Square_playTune 94 = .ok (.aload_n 0, 1) := by decide +kernel
theorem d_Square_playTune_95 : decode b_Square_playTune 95 = .ok (.sipush 9999, 3) := by decide +kernel
theorem d_Square_playTune_98 : decode b_Square_playTune 98 = .ok (.aload_n 0, 1) := by decide +kernel
theorem d_Square_playTune_99 : decode b_Square_playTune 99 = .ok (.getfield 57, 3) := by decide +kernel
theorem d_Square_playTune_102 : decode b_Square_playTune 102 = .ok (.iload_n 2, 1) := by decide +kernel
theorem d_Square_playTune_103 : decode b_Square_playTune 103 = .ok (.iadd, 1) := by decide +kernel
theorem d_Square_playTune_104 : decode b_Square_playTune 104 = .ok (.invokestatic 126, 3) := by decide +kernel
theorem d_Square_playTune_107 : decode b_Square_playTune 107 = .ok (.putfield 57, 3) := by decide +kernel
theorem d_Square_playTune_110 : decode b_Square_playTune 110 = .ok (.aload_n 0, 1) := by decide +kernel
theorem d_Square_playTune_111 : decode b_Square_playTune 111 = .ok (.dup, 1) := by decide +kernel
theorem d_Square_playTune_112 : decode b_Square_playTune 112 = .ok (.getfield 60, 3) := by decide +kernel
theorem d_Square_playTune_115 : decode b_Square_playTune 115 = .ok (.iconst 1, 1) := by decide +kernel
theorem d_Square_playTune_116 : decode b_Square_playTune 116 = .ok (.iadd, 1) := by decide +kernel
theorem d_Square_playTune_117 : decode b_Square_playTune 117 = .ok (.putfield 60, 3) := by decide +kernel
theorem d_Square_playTune_120 : decode b_Square_playTune 120 = .ok (.iload_n 2, 1) := by decide +kernel
theorem d_Square_playTune_121 : decode b_Square_playTune 121 = .ok (.ireturn, 1) := by decide +kernel
theorem d_Square_aStepNearer_0 : decode b_Square_aStepNearer 0 = .ok (.aload_n 0, 1) := by decide +kernel
theorem d_Square_aStepNearer_1 : decode b_Square_aStepNearer 1 = .ok (.getfield 35, 3) := by decide +kernel
theorem d_Square_aStepNearer_4 : decode b_Square_aStepNearer 4 = .ok (.ifCond .gt 5, 3) := by decide +kernel
theorem d_Square_aStepNearer_7 : decode b_Square_aStepNearer 7 = .ok (.iload_n 1, 1) := by decide +kernel
theorem d_Square_aStepNearer_8 : decode b_Square_aStepNearer 8 = .ok (.ireturn, 1) := by decide +kernel
theorem d_Square_aStepNearer_9 : decode b_Square_aStepNearer 9 = .ok (.aload_n 0, 1) := by decide +kernel
theorem d_Square_aStepNearer_10 : decode b_Square_aStepNearer 10 = .ok (.getfield 45, 3) := by decide +kernel
theorem d_Square_aStepNearer_13 : decode b_Square_aStepNearer 13 = .ok (.aload_n 0, 1) := by decide +kernel
theorem d_Square_aStepNearer_14 : decode b_Square_aStepNearer 14 = .ok (.getfield 35, 3) := by decide +kernel
theorem d_Square_aStepNearer_17 : decode b_Square_aStepNearer 17 = .ok (.irem, 1) := by decide +kernel
theorem d_Square_aStepNearer_18 : decode b_Square_aStepNearer 18 = .ok (.iload_n 1, 1) := by decide +kernel
theorem d_Square_aStepNearer_19 : decode b_Square_aStepNearer 19 = .ok (.aload_n 0, 1) := by decide +kernel
theorem d_Square_aStepNearer_20 : decode b_Square_aStepNearer 20 = .ok (.getfield 35, 3) := by decide +kernel
theorem d_Square_aStepNearer_23 : decode b_Square_aStepNearer 23 = .ok (.irem, 1) := by decide +kernel
theorem d_Square_aStepNearer_24 : decode b_Square_aStepNearer 24 = .ok (.isub, 1) := by decide +kernel
theorem d_Square_aStepNearer_25 : decode b_Square_aStepNearer 25 = .ok (.istore_n 2, 1) := by decide +kernel
theorem d_Square_aStepNearer_26 : decode b_Square_aStepNearer 26 = .ok (.aload_n 0, 1) := by decide +kernel
theorem d_Square_aStepNearer_27 : decode b_Square_aStepNearer 27 = .ok (.getfield 45, 3) := by decide +kernel
theorem d_Square_aStepNearer_30 : decode b_Square_aStepNearer 30 = .ok (.aload_n 0, 1) := by decide +kernel
theorem d_Square_aStepNearer_31 : decode b_Square_aStepNearer 31 = .ok (.getfield 35, 3) := by decide +kernel
theorem d_Square_aStepNearer_34 : decode b_Square_aStepNearer 34 = .ok (.idiv, 1) := by decide +kernel
theorem d_Square_aStepNearer_35 : decode b_Square_aStepNearer 35 = .ok (.iload_n 1, 1) := by decide +kernel
theorem d_Square_aStepNearer_36 : decode b_Square_aStepNearer 36 = .ok (.aload_n 0, 1) := by decide +kernel
theorem d_Square_aStepNearer_37 : decode b_Square_aStepNearer 37 = .ok (.getfield 35, 3) := by decide +kernel
theorem d_Square_aStepNearer_40 : decode b_Square_aStepNearer 40 = .ok (.idiv, 1) := by decide +kernel
theorem d_Square_aStepNearer_41 : decode b_Square_aStepNearer 41 = .ok (.isub, 1) := by decide +kernel
theorem d_Square_aStepNearer_42 : decode b_Square_aStepNearer 42 = .ok (.istore_n 3, 1) := by decide +kernel
theorem d_Square_aStepNearer_43 : decode b_Square_aStepNearer 43 = .ok (.iload_n 2, 1) := by decide +kernel
theorem d_Square_aStepNearer_44 : decode b_Square_aStepNearer 44 = .ok (.invokestatic 98, 3) := by decide +kernel
theorem d_Square_aStepNearer_47 : decode b_Square_aStepNearer 47 = .ok (.iload_n 3, 1) := by decide +kernel
theorem d_Square_aStepNearer_48 : decode b_Square_aStepNearer 48 = .ok (.invokestatic 98, 3) := by decide +kernel
theorem d_Square_aStepNearer_51 : decode b_Square_aStepNearer 51 = .ok (.if_icmp .lt 11, 3) := by decide +kernel
theorem d_Square_aStepNearer_54 : decode b_Square_aStepNearer 54 = .ok (.iload_n 1, 1) := by decide +kernel
theorem d_Square_aStepNearer_55 : decode b_Square_aStepNearer 55 = .ok (.iload_n 2, 1) := by decide +kernel
theorem d_Square_aStepNearer_56 : decode b_Square_aStepNearer 56 = .ok (.iconst 0, 1) := by decide +kernel
theorem d_Square_aStepNearer_57 : decode b_Square_aStepNearer 57 = .ok (.invokestatic 129, 3) := by decide +kernel
theorem d_Square_aStepNearer_60 : decode b_Square_aStepNearer 60 = .ok (.iadd, 1) := by decide +kernel
theorem d_Square_aStepNearer_61 : decode b_Square_aStepNearer 61 = .ok (.ireturn, 1) := by decide +kernel
theorem d_Square_aStepNearer_62 : decode b_Square_aStepNearer 62 = .ok (.iload_n 1, 1) := by decide +kernel
theorem d_Square_aStepNearer_63 : decode b_Square_aStepNearer 63 = .ok (.aload_n 0, 1) := by decide +kernel
theorem d_Square_aStepNearer_64 : decode b_Square_aStepNearer 64 = .ok (.getfield 35, 3) := by decide +kernel
theorem d_Square_aStepNearer_67 : decode b_Square_aStepNearer 67 = .ok (.iload_n 3, 1) := by decide +kernel
theorem d_Square_aStepNearer_68 : decode b_Square_aStepNearer 68 = .ok (.iconst 0, 1) := by decide +kernel
theorem d_Square_aStepNearer_69 : decode b_Square_aStepNearer 69 = .ok (.invokestatic 129, 3) := by decide +kernel
theorem d_Square_aStepNearer_72 : decode b_Square_aStepNearer 72 = .ok (.imul, 1) := by decide +kernel
theorem d_Square_aStepNearer_73 : decode b_Square_aStepNearer 73 = .ok (.iadd, 1) := by decide +kernel
theorem d_Square_aStepNearer_74 : decode b_Square_aStepNearer 74 = .ok (.ireturn, 1) := by decide +kernel
theorem d_Integer_compare_0 : decode b_Integer_compare 0 = .ok (.iload_n 0, 1) := by decide +kernel
theorem d_Integer_compare_1 : decode b_Integer_compare 1 = .ok (.iload_n 1, 1) := by decide +kernel
theorem d_Integer_compare_2 : decode b_Integer_compare 2 = .ok (.if_icmp .ge 7, 3) := by decide +kernel
theorem d_Integer_compare_5 : decode b_Integer_compare 5 = .ok (.iconst (-1), 1) := by decide +kernel
theorem d_Integer_compare_6 : decode b_Integer_compare 6 = .ok (.goto 13, 3) := by decide +kernel
theorem d_Integer_compare_9 : decode b_Integer_compare 9 = .ok (.iload_n 0, 1) := by decide +kernel
theorem d_Integer_compare_10 : decode b_Integer_compare 10 = .ok (.iload_n 1, 1) := by decide +kernel
theorem d_Integer_compare_11 : decode b_Integer_compare 11 = .ok (.if_icmp .ne 7, 3) := by decide +kernel
theorem d_Integer_compare_14 : decode b_Integer_compare 14 = .ok (.iconst 0, 1) := by decide +kernel
theorem d_Integer_compare_15 : decode b_Integer_compare 15 = .ok (.goto 4, 3) := by decide +kernel
theorem d_Integer_compare_18 : decode b_Integer_compare 18 = .ok (.iconst 1, 1) := by decide +kernel
theorem d_Integer_compare_19 : decode b_Integer_compare 19 = .ok (.ireturn, 1) := by decide +kernel
theorem d_Square_moveOrgan_0 : decode b_Square_moveOrgan 0 = .ok (.aload_n 0, 1) := by decide +kernel
theorem d_Square_moveOrgan_1 : decode b_Square_moveOrgan 1 = .ok (.getfield 45, 3) := by decide +kernel
theorem d_Square_moveOrgan_4 : decode b_Square_moveOrgan 4 = .ok (.iload_n 1, 1) := by decide +kernel
theorem d_Square_moveOrgan_5 : decode b_Square_moveOrgan 5 = .ok (.if_icmp .ne 5, 3) := by decide +kernel
theorem d_Square_moveOrgan_8 : decode b_Square_moveOrgan 8 = .ok (.iconst (-1), 1) := by decide +kernel
theorem d_Square_moveOrgan_9 : decode b_Square_moveOrgan 9 = .ok (.ireturn, 1) := by decide +kernel
theorem d_Square_moveOrgan_10 : decode b_Square_moveOrgan 10 = .ok (.aload_n 0, 1) := by decide +kernel
theorem d_Square_moveOrgan_11 : decode b_Square_moveOrgan 11 = .ok (.aload_n 0, 1) := by decide +kernel
theorem d_Square_moveOrgan_12 : decode b_Square_moveOrgan 12 = .ok (.getfield 45, 3) := by decide +kernel
theorem d_Square_moveOrgan_15 : decode b_Square_moveOrgan 15 = .ok (.iload_n 1, 1) := by decide +kernel
theorem d_Square_moveOrgan_16 : decode b_Square_moveOrgan 16 = .ok (.invokevirtual 103, 3) := by decide +kernel
theorem d_Square_moveOrgan_19 : decode b_Square_moveOrgan 19 = .ok (.istore_n 2, 1) := by decide +kernel
theorem d_Square_moveOrgan_20 : decode b_Square_moveOrgan 20 = .ok (.aload_n 0, 1) := by decide +kernel
theorem d_Square_moveOrgan_21 : decode b_Square_moveOrgan 21 = .ok (.iload_n 1, 1) := by decide +kernel
theorem d_Square_moveOrgan_22 : decode b_Square_moveOrgan 22 = .ok (.putfield 45, 3) := by decide +kernel
theorem d_Square_moveOrgan_25 : decode b_Square_moveOrgan 25 = .ok (.iload_n 2, 1) := by decide +kernel
theorem d_Square_moveOrgan_26 : decode b_Square_moveOrgan 26 = .ok (.ireturn, 1) := by decide +kernel
theorem d_Square_flour_0 : decode b_Square_flour 0 = .ok (.aload_n 0, 1) := by decide +kernel
theorem d_Square_flour_1 : decode b_Square_flour 1 = .ok (.iload_n 1, 1) := by decide +kernel
theorem d_Square_flour_2 : decode b_Square_flour 2 = .ok (.iconst 1, 1) := by decide +kernel
theorem d_Square_flour_3 : decode b_Square_flour 3 = .ok (.invokevirtual 107, 3) := by decide +kernel
theorem d_Square_flour_6 : decode b_Square_flour 6 = .ok (.istore_n 2, 1) := by decide +kernel
theorem d_Square_flour_7 : decode b_Square_flour 7 = .ok (.aload_n 0, 1) := by decide +kernel
theorem d_Square_flour_8 : decode b_Square_flour 8 = .ok (.dup, 1) := by decide +kernel
theorem d_Square_flour_9 : decode b_Square_flour 9 = .ok (.getfield 63, 3) := by decide +kernel
theorem d_Square_flour_12 : decode b_Square_flour 12 = .ok (.iload_n 2, 1) := by decide +kernel
theorem d_Square_flour_13 : decode b_Square_flour 13 = .ok (.ior, 1) := by decide +kernel
theorem d_Square_flour_14 : decode b_Square_flour 14 = .ok (.putfield 63, 3) := by decide +kernel
theorem d_Square_flour_17 : decode b_Square_flour 17 = .ok (.iload_n 2, 1) := by decide +kernel
theorem d_Square_flour_18 : decode b_Square_flour 18 = .ok (.ifCond .ne 7, 3) := by decide +kernel
theorem d_Square_flour_21 : decode b_Square_flour 21 = .ok (.iconst (-1), 1) := by decide +kernel
theorem d_Square_flour_22 : decode b_Square_flour 22 = .ok (.goto 4, 3) := by decide +kernel
theorem d_Square_flour_25 : decode b_Square_flour 25 = .ok (.iload_n 2, 1) := by decide +kernel
theorem d_Square_flour_26 : decode b_Square_flour 26 = .ok (.ireturn, 1) := by decide +kernel
theorem d_Square_brushOff_0 : decode b_Square_brushOff 0 = .ok (.aload_n 0, 1) := by decide +kernel
theorem d_Square_brushOff_1 : decode b_Square_brushOff 1 = .ok (.getfield 63, 3) := by decide +kernel
theorem d_Square_brushOff_4 : decode b_Square_brushOff 4 = .ok (.invokestatic 134, 3) := by decide +kernel
theorem d_Square_brushOff_7 : decode b_Square_brushOff 7 = .ok (.istore_n 1, 1) := by decide +kernel
theorem d_Square_brushOff_8 : decode b_Square_brushOff 8 = .ok (.aload_n 0, 1) := by decide +kernel
theorem d_Square_brushOff_9 : decode b_Square_brushOff 9 = .ok (.iconst 0, 1) := by decide +kernel
theorem d_Square_brushOff_10 : decode b_Square_brushOff 10 = .ok (.putfield 63, 3) := by decide +kernel
theorem d_Square_brushOff_13 : decode b_Square_brushOff 13 = .ok (.iload_n 1, 1) := by decide +kernel
theorem d_Square_brushOff_14 : decode b_Square_brushOff 14 = .ok (.ifCond .ne 7, 3) := by decide +kernel
theorem d_Square_brushOff_17 : decode b_Square_brushOff 17 = .ok (.iconst (-1), 1) := by decide +kernel
theorem d_Square_brushOff_18 : decode b_Square_brushOff 18 = .ok (.goto 4, 3) := by decide +kernel
theorem d_Square_brushOff_21 : decode b_Square_brushOff 21 = .ok (.iload_n 1, 1) := by decide +kernel
theorem d_Square_brushOff_22 : decode b_Square_brushOff 22 = .ok (.ireturn, 1) := by decide +kernel
theorem d_Integer_bitCount_0 : decode b_Integer_bitCount 0 = .ok (.iload_n 0, 1) := by decide +kernel
theorem d_Integer_bitCount_1 : decode b_Integer_bitCount 1 = .ok (.iload_n 0, 1) := by decide +kernel
theorem d_Integer_bitCount_2 : decode b_Integer_bitCount 2 = .ok (.iconst 1, 1) := by decide +kernel
theorem d_Integer_bitCount_3 : decode b_Integer_bitCount 3 = .ok (.iushr, 1) := by decide +kernel
theorem d_Integer_bitCount_4 : decode b_Integer_bitCount 4 = .ok (.ldc_w 265, 3) := by decide +kernel
theorem d_Integer_bitCount_7 : decode b_Integer_bitCount 7 = .ok (.iand, 1) := by decide +kernel
theorem d_Integer_bitCount_8 : decode b_Integer_bitCount 8 = .ok (.isub, 1) := by decide +kernel
theorem d_Integer_bitCount_9 : decode b_Integer_bitCount 9 = .ok (.istore_n 0, 1) := by decide +kernel
theorem d_Integer_bitCount_10 : decode b_Integer_bitCount 10 = .ok (.iload_n 0, 1) := by decide +kernel
theorem d_Integer_bitCount_11 : decode b_Integer_bitCount 11 = .ok (.ldc_w 266, 3) := by decide +kernel
theorem d_Integer_bitCount_14 : decode b_Integer_bitCount 14 = .ok (.iand, 1) := by decide +kernel
theorem d_Integer_bitCount_15 : decode b_Integer_bitCount 15 = .ok (.iload_n 0, 1) := by decide +kernel
theorem d_Integer_bitCount_16 : decode b_Integer_bitCount 16 = .ok (.iconst 2, 1) := by decide +kernel
theorem d_Integer_bitCount_17 : decode b_Integer_bitCount 17 = .ok (.iushr, 1) := by decide +kernel
theorem d_Integer_bitCount_18 : decode b_Integer_bitCount 18 = .ok (.ldc_w 266, 3) := by decide +kernel
theorem d_Integer_bitCount_21 : decode b_Integer_bitCount 21 = .ok (.iand, 1) := by decide +kernel
theorem d_Integer_bitCount_22 : decode b_Integer_bitCount 22 = .ok (.iadd, 1) := by decide +kernel
theorem d_Integer_bitCount_23 : decode b_Integer_bitCount 23 = .ok (.istore_n 0, 1) := by decide +kernel
theorem d_Integer_bitCount_24 : decode b_Integer_bitCount 24 = .ok (.iload_n 0, 1) := by decide +kernel
theorem d_Integer_bitCount_25 : decode b_Integer_bitCount 25 = .ok (.iload_n 0, 1) := by decide +kernel
theorem d_Integer_bitCount_26 : decode b_Integer_bitCount 26 = .ok (.iconst 4, 1) := by decide +kernel
theorem d_Integer_bitCount_27 : decode b_Integer_bitCount 27 = .ok (.iushr, 1) := by decide +kernel
theorem d_Integer_bitCount_28 : decode b_Integer_bitCount 28 = .ok (.iadd, 1) := by decide +kernel
theorem d_Integer_bitCount_29 : decode b_Integer_bitCount 29 = .ok (.ldc_w 267, 3) := by decide +kernel
theorem d_Integer_bitCount_32 : decode b_Integer_bitCount 32 = .ok (.iand, 1) := by decide +kernel
theorem d_Integer_bitCount_33 : decode b_Integer_bitCount 33 = .ok (.istore_n 0, 1) := by decide +kernel
theorem d_Integer_bitCount_34 : decode b_Integer_bitCount 34 = .ok (.iload_n 0, 1) := by decide +kernel
theorem d_Integer_bitCount_35 : decode b_Integer_bitCount 35 = .ok (.iload_n 0, 1) := by decide +kernel
theorem d_Integer_bitCount_36 : decode b_Integer_bitCount 36 = .ok (.bipush 8, 2) := by decide +kernel
theorem d_Integer_bitCount_38 : decode b_Integer_bitCount 38 = .ok (.iushr, 1) := by decide +kernel
theorem d_Integer_bitCount_39 : decode b_Integer_bitCount 39 = .ok (.iadd, 1) := by decide +kernel
theorem d_Integer_bitCount_40 : decode b_Integer_bitCount 40 = .ok (.istore_n 0, 1) := by decide +kernel
theorem d_Integer_bitCount_41 : decode b_Integer_bitCount 41 = .ok (.iload_n 0, 1) := by decide +kernel
theorem d_Integer_bitCount_42 : decode b_Integer_bitCount 42 = .ok (.iload_n 0, 1) := by decide +kernel
theorem d_Integer_bitCount_43 : decode b_Integer_bitCount 43 = .ok (.bipush 16, 2) := by decide +kernel
theorem d_Integer_bitCount_45 : decode b_Integer_bitCount 45 = .ok (.iushr, 1) := by decide +kernel
theorem d_Integer_bitCount_46 : decode b_Integer_bitCount 46 = .ok (.iadd, 1) := by decide +kernel
theorem d_Integer_bitCount_47 : decode b_Integer_bitCount 47 = .ok (.istore_n 0, 1) := by decide +kernel
theorem d_Integer_bitCount_48 : decode b_Integer_bitCount 48 = .ok (.iload_n 0, 1) := by decide +kernel
theorem d_Integer_bitCount_49 : decode b_Integer_bitCount 49 = .ok (.bipush 63, 2) := by decide +kernel
theorem d_Integer_bitCount_51 : decode b_Integer_bitCount 51 = .ok (.iand, 1) := by decide +kernel
theorem d_Integer_bitCount_52 : decode b_Integer_bitCount 52 = .ok (.ireturn, 1) := by decide +kernel
theorem d_Square_moveHearer_0 : decode b_Square_moveHearer 0 = .ok (.aload_n 0, 1) := by decide +kernel
theorem d_Square_moveHearer_1 : decode b_Square_moveHearer 1 = .ok (.getfield 15, 3) := by decide +kernel
theorem d_Square_moveHearer_4 : decode b_Square_moveHearer 4 = .ok (.iload_n 1, 1) := by decide +kernel
theorem d_Square_moveHearer_5 : decode b_Square_moveHearer 5 = .ok (.iaload, 1) := by decide +kernel
theorem d_Square_moveHearer_6 : decode b_Square_moveHearer 6 = .ok (.iload_n 2, 1) := by decide +kernel
theorem d_Square_moveHearer_7 : decode b_Square_moveHearer 7 = .ok (.if_icmp .ne 5, 3) := by decide +kernel
theorem d_Square_moveHearer_10 : decode b_Square_moveHearer 10 = .ok (.iconst (-1), 1) := by decide +kernel
theorem d_Square_moveHearer_11 : decode b_Square_moveHearer 11 = .ok (.ireturn, 1) := by decide +kernel
theorem d_Square_moveHearer_12 : decode b_Square_moveHearer 12 = .ok (.aload_n 0, 1) := by decide +kernel
theorem d_Square_moveHearer_13 : decode b_Square_moveHearer 13 = .ok (.aload_n 0, 1) := by decide +kernel
theorem d_Square_moveHearer_14 : decode b_Square_moveHearer 14 = .ok (.getfield 15, 3) := by decide +kernel
theorem d_Square_moveHearer_17 : decode b_Square_moveHearer 17 = .ok (.iload_n 1, 1) := by decide +kernel
theorem d_Square_moveHearer_18 : decode b_Square_moveHearer 18 = .ok (.iaload, 1) := by decide +kernel
theorem d_Square_moveHearer_19 : decode b_Square_moveHearer 19 = .ok (.iload_n 2, 1) := by decide +kernel
theorem d_Square_moveHearer_20 : decode b_Square_moveHearer 20 = .ok (.invokevirtual 103, 3) := by decide +kernel
theorem d_Square_moveHearer_23 : decode b_Square_moveHearer 23 = .ok (.istore_n 3, 1) := by decide +kernel
theorem d_Square_moveHearer_24 : decode b_Square_moveHearer 24 = .ok (.aload_n 0, 1) := by decide +kernel
theorem d_Square_moveHearer_25 : decode b_Square_moveHearer 25 = .ok (.getfield 15, 3) := by decide +kernel
theorem d_Square_moveHearer_28 : decode b_Square_moveHearer 28 = .ok (.iload_n 1, 1) := by decide +kernel
theorem d_Square_moveHearer_29 : decode b_Square_moveHearer 29 = .ok (.iload_n 2, 1) := by decide +kernel
theorem d_Square_moveHearer_30 : decode b_Square_moveHearer 30 = .ok (.iastore, 1) := by decide +kernel
theorem d_Square_moveHearer_31 : decode b_Square_moveHearer 31 = .ok (.iload_n 3, 1) := by decide +kernel
theorem d_Square_moveHearer_32 : decode b_Square_moveHearer 32 = .ok (.ireturn, 1) := by decide +kernel
theorem d_Square_emptyCup_0 : decode b_Square_emptyCup 0 = .ok (.aload_n 0, 1) := by decide +kernel
theorem d_Square_emptyCup_1 : decode b_Square_emptyCup 1 = .ok (.getfield 57, 3) := by decide +kernel
theorem d_Square_emptyCup_4 : decode b_Square_emptyCup 4 = .ok (.istore_n 1, 1) := by decide +kernel
theorem d_Square_emptyCup_5 : decode b_Square_emptyCup 5 = .ok (.aload_n 0, 1) := by decide +kernel
theorem d_Square_emptyCup_6 : decode b_Square_emptyCup 6 = .ok (.iconst 0, 1) := by decide +kernel
theorem d_Square_emptyCup_7 : decode b_Square_emptyCup 7 = .ok (.putfield 57, 3) := by decide +kernel
theorem d_Square_emptyCup_10 : decode b_Square_emptyCup 10 = .ok (.iload_n 1, 1) := by decide +kernel
theorem d_Square_emptyCup_11 : decode b_Square_emptyCup 11 = .ok (.ifCond .ne 7, 3) := by decide +kernel
theorem d_Square_emptyCup_14 : decode b_Square_emptyCup 14 = .ok (.iconst (-1), 1) := by decide +kernel
theorem d_Square_emptyCup_15 : decode b_Square_emptyCup 15 = .ok (.goto 4, 3) := by decide +kernel
theorem d_Square_emptyCup_18 : decode b_Square_emptyCup 18 = .ok (.iload_n 1, 1) := by decide +kernel
theorem d_Square_emptyCup_19 : decode b_Square_emptyCup 19 = .ok (.ireturn, 1) := by decide +kernel
theorem d_Square_coinsFrom_0 : decode b_Square_coinsFrom 0 = .ok (.iconst 0, 1) := by decide +kernel
theorem d_Square_coinsFrom_1 : decode b_Square_coinsFrom 1 = .ok (.istore 4, 2) := by decide +kernel
theorem d_Square_coinsFrom_3 : decode b_Square_coinsFrom 3 = .ok (.iconst 0, 1) := by decide +kernel
theorem d_Square_coinsFrom_4 : decode b_Square_coinsFrom 4 = .ok (.istore 5, 2) := by decide +kernel
theorem d_Square_coinsFrom_6 : decode b_Square_coinsFrom 6 = .ok (.iload 5, 2) := by decide +kernel
theorem d_Square_coinsFrom_8 : decode b_Square_coinsFrom 8 = .ok (.aload_n 0, 1) := by decide +kernel
theorem d_Square_coinsFrom_9 : decode b_Square_coinsFrom 9 = .ok (.getfield 51, 3) := by decide +kernel
theorem d_Square_coinsFrom_12 : decode b_Square_coinsFrom 12 = .ok (.if_icmp .ge 52, 3) := by decide +kernel
theorem d_Square_coinsFrom_15 : decode b_Square_coinsFrom 15 = .ok (.aload_n 0, 1) := by decide +kernel
theorem d_Square_coinsFrom_16 : decode b_Square_coinsFrom 16 = .ok (.iload 5, 2) := by decide +kernel
theorem d_Square_coinsFrom_18 : decode b_Square_coinsFrom 18 = .ok (.iload_n 2, 1) := by decide +kernel
theorem d_Square_coinsFrom_19 : decode b_Square_coinsFrom 19 = .ok (.invokevirtual 110, 3) := by decide +kernel
theorem d_Square_coinsFrom_22 : decode b_Square_coinsFrom 22 = .ok (.ifCond .eq 36, 3) := by decide +kernel
theorem d_Square_coinsFrom_25 : decode b_Square_coinsFrom 25 = .ok (.iload 4, 2) := by decide +kernel
theorem d_Square_coinsFrom_27 : decode b_Square_coinsFrom 27 = .ok (.aload_n 0, 1) := by decide +kernel
theorem d_Square_coinsFrom_28 : decode b_Square_coinsFrom 28 = .ok (.getfield 19, 3) := by decide +kernel
theorem d_Square_coinsFrom_31 : decode b_Square_coinsFrom 31 = .ok (.iload 5, 2) := by decide +kernel
theorem d_Square_coinsFrom_33 : decode b_Square_coinsFrom 33 = .ok (.iaload, 1) := by decide +kernel
theorem d_Square_coinsFrom_34 : decode b_Square_coinsFrom 34 = .ok (.iconst 0, 1) := by decide +kernel
theorem d_Square_coinsFrom_35 : decode b_Square_coinsFrom 35 = .ok (.iload_n 3, 1) := by decide +kernel
theorem d_Square_coinsFrom_36 : decode b_Square_coinsFrom 36 = .ok (.aload_n 0, 1) := by decide +kernel
theorem d_Square_coinsFrom_37 : decode b_Square_coinsFrom 37 = .ok (.aload_n 0, 1) := by decide +kernel
theorem d_Square_coinsFrom_38 : decode b_Square_coinsFrom 38 = .ok (.getfield 15, 3) := by decide +kernel
theorem d_Square_coinsFrom_41 : decode b_Square_coinsFrom 41 = .ok (.iload 5, 2) := by decide +kernel
theorem d_Square_coinsFrom_43 : decode b_Square_coinsFrom 43 = .ok (.iaload, 1) := by decide +kernel
theorem d_Square_coinsFrom_44 : decode b_Square_coinsFrom 44 = .ok (.iload_n 1, 1) := by decide +kernel
theorem d_Square_coinsFrom_45 : decode b_Square_coinsFrom 45 = .ok (.invokevirtual 103, 3) := by decide +kernel
theorem d_Square_coinsFrom_48 : decode b_Square_coinsFrom 48 = .ok (.isub, 1) := by decide +kernel
theorem d_Square_coinsFrom_49 : decode b_Square_coinsFrom 49 = .ok (.invokestatic 137, 3) := by decide +kernel
theorem d_Square_coinsFrom_52 : decode b_Square_coinsFrom 52 = .ok (.invokestatic 126, 3) := by decide +kernel
theorem d_Square_coinsFrom_55 : decode b_Square_coinsFrom 55 = .ok (.iadd, 1) := by decide +kernel
theorem d_Square_coinsFrom_56 : decode b_Square_coinsFrom 56 = .ok (.istore 4, 2) := by decide +kernel
theorem d_Square_coinsFrom_58 : decode b_Square_coinsFrom 58 = .ok (.iinc 5 1, 3) := by decide +kernel
theorem d_Square_coinsFrom_61 : decode b_Square_coinsFrom 61 = .ok (.goto (-55), 3) := by decide +kernel
theorem d_Square_coinsFrom_64 : decode b_Square_coinsFrom 64 = .ok (.iload 4, 2) := by decide +kernel
theorem d_Square_coinsFrom_66 : decode b_Square_coinsFrom 66 = .ok (.ireturn, 1) := by decide +kernel
theorem d_Math_max_0 : decode b_Math_max 0 = .ok (.iload_n 0, 1) := by decide +kernel
theorem d_Math_max_1 : decode b_Math_max 1 = .ok (.iload_n 1, 1) := by decide +kernel
theorem d_Math_max_2 : decode b_Math_max 2 = .ok (.if_icmp .lt 7, 3) := by decide +kernel
theorem d_Math_max_5 : decode b_Math_max 5 = .ok (.iload_n 0, 1) := by decide +kernel
theorem d_Math_max_6 : decode b_Math_max 6 = .ok (.goto 4, 3) := by decide +kernel
theorem d_Math_max_9 : decode b_Math_max 9 = .ok (.iload_n 1, 1) := by decide +kernel
theorem d_Math_max_10 : decode b_Math_max 10 = .ok (.ireturn, 1) := by decide +kernel
theorem d_Rows_fewestTunes_0 : decode b_Rows_fewestTunes 0 = .ok (.aload_n 0, 1) := by decide +kernel
theorem d_Rows_fewestTunes_1 : decode b_Rows_fewestTunes 1 = .ok (.getfield 15, 3) := by decide +kernel
theorem d_Rows_fewestTunes_4 : decode b_Rows_fewestTunes 4 = .ok (.iconst 0, 1) := by decide +kernel
theorem d_Rows_fewestTunes_5 : decode b_Rows_fewestTunes 5 = .ok (.invokestatic 32, 3) := by decide +kernel
theorem d_Rows_fewestTunes_8 : decode b_Rows_fewestTunes 8 = .ok (.aload_n 0, 1) := by decide +kernel
theorem d_Rows_fewestTunes_9 : decode b_Rows_fewestTunes 9 = .ok (.getfield 18, 3) := by decide +kernel
theorem d_Rows_fewestTunes_12 : decode b_Rows_fewestTunes 12 = .ok (.iconst 0, 1) := by decide +kernel
theorem d_Rows_fewestTunes_13 : decode b_Rows_fewestTunes 13 = .ok (.invokestatic 32, 3) := by decide +kernel
theorem d_Rows_fewestTunes_16 : decode b_Rows_fewestTunes 16 = .ok (.aload_n 0, 1) := by decide +kernel
theorem d_Rows_fewestTunes_17 : decode b_Rows_fewestTunes 17 = .ok (.aload_n 1, 1) := by decide +kernel
theorem d_Rows_fewestTunes_18 : decode b_Rows_fewestTunes 18 = .ok (.getfield 38, 3) := by decide +kernel
theorem d_Rows_fewestTunes_21 : decode b_Rows_fewestTunes 21 = .ok (.putfield 28, 3) := by decide +kernel
theorem d_Rows_fewestTunes_24 : decode b_Rows_fewestTunes 24 = .ok (.iconst 0, 1) := by decide +kernel
theorem d_Rows_fewestTunes_25 : decode b_Rows_fewestTunes 25 = .ok (.istore_n 3, 1) := by decide +kernel
theorem d_Rows_fewestTunes_26 : decode b_Rows_fewestTunes 26 = .ok (.iconst 0, 1) := by decide +kernel
theorem d_Rows_fewestTunes_27 : decode b_Rows_fewestTunes 27 = .ok (.istore 4, 2) := by decide +kernel
theorem d_Rows_fewestTunes_29 : decode b_Rows_fewestTunes 29 = .ok (.iload 4, 2) := by decide +kernel
theorem d_Rows_fewestTunes_31 : decode b_Rows_fewestTunes 31 = .ok (.aload_n 1, 1) := by decide +kernel
theorem d_Rows_fewestTunes_32 : decode b_Rows_fewestTunes 32 = .ok (.getfield 41, 3) := by decide +kernel
theorem d_Rows_fewestTunes_35 : decode b_Rows_fewestTunes 35 = .ok (.if_icmp .ge 52, 3) := by decide +kernel
theorem d_Rows_fewestTunes_38 : decode b_Rows_fewestTunes 38 = .ok (.iload_n 3, 1) := by decide +kernel
theorem d_Rows_fewestTunes_39 : decode b_Rows_fewestTunes 39 = .ok (.iconst 3, 1) := by decide +kernel
theorem d_Rows_fewestTunes_40 : decode b_Rows_fewestTunes 40 = .ok (.if_icmp .ge 47, 3) := by decide +kernel
theorem d_Rows_fewestTunes_43 : decode b_Rows_fewestTunes 43 = .ok (.iload_n 2, 1) := by decide +kernel
theorem d_Rows_fewestTunes_44 : decode b_Rows_fewestTunes 44 = .ok (.iload 4, 2) := by decide +kernel
theorem d_Rows_fewestTunes_46 : decode b_Rows_fewestTunes 46 = .ok (.ishr, 1) := by decide +kernel
theorem d_Rows_fewestTunes_47 : decode b_Rows_fewestTunes 47 = .ok (.iconst 1, 1) := by decide +kernel
theorem d_Rows_fewestTunes_48 : decode b_Rows_fewestTunes 48 = .ok (.iand, 1) := by decide +kernel
theorem d_Rows_fewestTunes_49 : decode b_Rows_fewestTunes 49 = .ok (.iconst 1, 1) := by decide +kernel
theorem d_Rows_fewestTunes_50 : decode b_Rows_fewestTunes 50 = .ok (.if_icmp .ne 31, 3) := by decide +kernel
theorem d_Rows_fewestTunes_53 : decode b_Rows_fewestTunes 53 = .ok (.aload_n 0, 1) := by decide +kernel
theorem d_Rows_fewestTunes_54 : decode b_Rows_fewestTunes 54 = .ok (.getfield 15, 3) := by decide +kernel
theorem d_Rows_fewestTunes_57 : decode b_Rows_fewestTunes 57 = .ok (.iload_n 3, 1) := by decide +kernel
theorem d_Rows_fewestTunes_58 : decode b_Rows_fewestTunes 58 = .ok (.aload_n 1, 1) := by decide +kernel
theorem d_Rows_fewestTunes_59 : decode b_Rows_fewestTunes 59 = .ok (.iload 4, 2) := by decide +kernel
theorem d_Rows_fewestTunes_61 : decode b_Rows_fewestTunes 61 = .ok (.invokevirtual 44, 3) := by decide +kernel
theorem d_Rows_fewestTunes_64 : decode b_Rows_fewestTunes 64 = .ok (.iastore, 1) := by decide +kernel
theorem d_Rows_fewestTunes_65 : decode b_Rows_fewestTunes 65 = .ok (.aload_n 0, 1) := by decide +kernel
theorem d_Rows_fewestTunes_66 : decode b_Rows_fewestTunes 66 = .ok (.getfield 18, 3) := by decide +kernel
theorem d_Rows_fewestTunes_69 : decode b_Rows_fewestTunes 69 = .ok (.iload_n 3, 1) := by decide +kernel
theorem d_Rows_fewestTunes_70 : decode b_Rows_fewestTunes 70 = .ok (.aload_n 1, 1) := by decide +kernel
theorem d_Rows_fewestTunes_71 : decode b_Rows_fewestTunes 71 = .ok (.getfield 48, 3) := by decide +kernel
theorem d_Rows_fewestTunes_74 : decode b_Rows_fewestTunes 74 = .ok (.iload 4, 2) := by decide +kernel
theorem d_Rows_fewestTunes_76 : decode b_Rows_fewestTunes 76 = .ok (.iaload, 1) := by decide +kernel
theorem d_Rows_fewestTunes_77 : decode b_Rows_fewestTunes 77 = .ok (.iastore, 1) := by decide +kernel
theorem d_Rows_fewestTunes_78 : decode b_Rows_fewestTunes 78 = .ok (.iinc 3 1, 3) := by decide +kernel
theorem d_Rows_fewestTunes_81 : decode b_Rows_fewestTunes 81 = .ok (.iinc 4 1, 3) := by decide +kernel
theorem d_Rows_fewestTunes_84 : decode b_Rows_fewestTunes 84 = .ok (.goto (-55), 3) := by decide +kernel
theorem d_Rows_fewestTunes_87 : decode b_Rows_fewestTunes 87 = .ok (.iconst 0, 1) := by decide +kernel
theorem d_Rows_fewestTunes_88 : decode b_Rows_fewestTunes 88 = .ok (.istore 4, 2) := by decide +kernel
theorem d_Rows_fewestTunes_90 : decode b_Rows_fewestTunes 90 = .ok (.iload 4, 2) := by decide +kernel
theorem d_Rows_fewestTunes_92 : decode b_Rows_fewestTunes 92 = .ok (.aload_n 0, 1) := by decide +kernel
theorem d_Rows_fewestTunes_93 : decode b_Rows_fewestTunes 93 = .ok (.getfield 15, 3) := by decide +kernel
theorem d_Rows_fewestTunes_96 : decode b_Rows_fewestTunes 96 = .ok (.iconst 0, 1) := by decide +kernel
theorem d_Rows_fewestTunes_97 : decode b_Rows_fewestTunes 97 = .ok (.iaload, 1) := by decide +kernel
theorem d_Rows_fewestTunes_98 : decode b_Rows_fewestTunes 98 = .ok (.if_icmp .gt 73, 3) := by decide +kernel
theorem d_Rows_fewestTunes_101 : decode b_Rows_fewestTunes 101 = .ok (.iconst 0, 1) := by decide +kernel
theorem d_Rows_fewestTunes_102 : decode b_Rows_fewestTunes 102 = .ok (.istore 5, 2) := by decide +kernel
theorem d_Rows_fewestTunes_104 : decode b_Rows_fewestTunes 104 = .ok (.iload 5, 2) := by decide +kernel
theorem d_Rows_fewestTunes_106 : decode b_Rows_fewestTunes 106 = .ok (.aload_n 0, 1) := by decide +kernel
theorem d_Rows_fewestTunes_107 : decode b_Rows_fewestTunes 107 = .ok (.getfield 15, 3) := by decide +kernel
theorem d_Rows_fewestTunes_110 : decode b_Rows_fewestTunes 110 = .ok (.iconst 1, 1) := by decide +kernel
theorem d_Rows_fewestTunes_111 : decode b_Rows_fewestTunes 111 = .ok (.iaload, 1) := by decide +kernel
theorem d_Rows_fewestTunes_112 : decode b_Rows_fewestTunes 112 = .ok (.if_icmp .gt 53, 3) := by decide +kernel
theorem d_Rows_fewestTunes_115 : decode b_Rows_fewestTunes 115 = .ok (.iconst 0, 1) := by decide +kernel
theorem d_Rows_fewestTunes_116 : decode b_Rows_fewestTunes 116 = .ok (.istore 6, 2) := by decide +kernel
theorem d_Rows_fewestTunes_118 : decode b_Rows_fewestTunes 118 = .ok (.iload 6, 2) := by decide +kernel
theorem d_Rows_fewestTunes_120 : decode b_Rows_fewestTunes 120 = .ok (.aload_n 0, 1) := by decide +kernel
theorem d_Rows_fewestTunes_121 : decode b_Rows_fewestTunes 121 = .ok (.getfield 15, 3) := by decide +kernel
theorem d_Rows_fewestTunes_124 : decode b_Rows_fewestTunes 124 = .ok (.iconst 2, 1) := by decide +kernel
theorem d_Rows_fewestTunes_125 : decode b_Rows_fewestTunes 125 = .ok (.iaload, 1) := by decide +kernel
theorem d_Rows_fewestTunes_126 : decode b_Rows_fewestTunes 126 = .ok (.if_icmp .gt 33, 3) := by decide +kernel
theorem d_Rows_fewestTunes_129 : decode b_Rows_fewestTunes 129 = .ok (.aload_n 0, 1) := by decide +kernel
theorem d_Rows_fewestTunes_130 : decode b_Rows_fewestTunes 130 = .ok (.getfield 11, 3) := by decide +kernel
theorem d_Rows_fewestTunes_133 : decode b_Rows_fewestTunes 133 = .ok (.iload 4, 2) := by decide +kernel
theorem d_Rows_fewestTunes_135 : decode b_Rows_fewestTunes 135 = .ok (.iload 5, 2) := by decide +kernel
theorem d_Rows_fewestTunes_137 : decode b_Rows_fewestTunes 137 = .ok (.iload 6, 2) := by decide +kernel
theorem d_Rows_fewestTunes_139 : decode b_Rows_fewestTunes 139 = .ok (.invokestatic 49, 3) := by decide +kernel
theorem d_Rows_fewestTunes_142 : decode b_Rows_fewestTunes 142 = .ok (.aload_n 0, 1) := by decide +kernel
theorem d_Rows_fewestTunes_143 : decode b_Rows_fewestTunes 143 = .ok (.iload 4, 2) := by decide +kernel
theorem d_Rows_fewestTunes_145 : decode b_Rows_fewestTunes 145 = .ok (.iload 5, 2) := by decide +kernel
theorem d_Rows_fewestTunes_147 : decode b_Rows_fewestTunes 147 = .ok (.iload 6, 2) := by decide +kernel
theorem d_Rows_fewestTunes_149 : decode b_Rows_fewestTunes 149 = .ok (.invokevirtual 53, 3) := by decide +kernel
theorem d_Rows_fewestTunes_152 : decode b_Rows_fewestTunes 152 = .ok (.iastore, 1) := by decide +kernel
theorem d_Rows_fewestTunes_153 : decode b_Rows_fewestTunes 153 = .ok (.iinc 6 1, 3) := by decide +kernel
theorem d_Rows_fewestTunes_156 : decode b_Rows_fewestTunes 156 = .ok (.goto (-38), 3) := by decide +kernel
theorem d_Rows_fewestTunes_159 : decode b_Rows_fewestTunes 159 = .ok (.iinc 5 1, 3) := by decide +kernel
theorem d_Rows_fewestTunes_162 : decode b_Rows_fewestTunes 162 = .ok (.goto (-58), 3) := by decide +kernel
theorem d_Rows_fewestTunes_165 : decode b_Rows_fewestTunes 165 = .ok (.iinc 4 1, 3) := by decide +kernel
theorem d_Rows_fewestTunes_168 : decode b_Rows_fewestTunes 168 = .ok (.goto (-78), 3) := by decide +kernel
theorem d_Rows_fewestTunes_171 : decode b_Rows_fewestTunes 171 = .ok (.aload_n 0, 1) := by decide +kernel
theorem d_Rows_fewestTunes_172 : decode b_Rows_fewestTunes 172 = .ok (.getfield 11, 3) := by decide +kernel
theorem d_Rows_fewestTunes_175 : decode b_Rows_fewestTunes 175 = .ok (.aload_n 0, 1) := by decide +kernel
theorem d_Rows_fewestTunes_176 : decode b_Rows_fewestTunes 176 = .ok (.getfield 15, 3) := by decide +kernel
theorem d_Rows_fewestTunes_179 : decode b_Rows_fewestTunes 179 = .ok (.iconst 0, 1) := by decide +kernel
theorem d_Rows_fewestTunes_180 : decode b_Rows_fewestTunes 180 = .ok (.iaload, 1) := by decide +kernel
theorem d_Rows_fewestTunes_181 : decode b_Rows_fewestTunes 181 = .ok (.aload_n 0, 1) := by decide +kernel
theorem d_Rows_fewestTunes_182 : decode b_Rows_fewestTunes 182 = .ok (.getfield 15, 3) := by decide +kernel
theorem d_Rows_fewestTunes_185 : decode b_Rows_fewestTunes 185 = .ok (.iconst 1, 1) := by decide +kernel
theorem d_Rows_fewestTunes_186 : decode b_Rows_fewestTunes 186 = .ok (.iaload, 1) := by decide +kernel
theorem d_Rows_fewestTunes_187 : decode b_Rows_fewestTunes 187 = .ok (.aload_n 0, 1) := by decide +kernel
theorem d_Rows_fewestTunes_188 : decode b_Rows_fewestTunes 188 = .ok (.getfield 15, 3) := by decide +kernel
theorem d_Rows_fewestTunes_191 : decode b_Rows_fewestTunes 191 = .ok (.iconst 2, 1) := by decide +kernel
theorem d_Rows_fewestTunes_192 : decode b_Rows_fewestTunes 192 = .ok (.iaload, 1) := by decide +kernel
theorem d_Rows_fewestTunes_193 : decode b_Rows_fewestTunes 193 = .ok (.invokestatic 49, 3) := by decide +kernel
theorem d_Rows_fewestTunes_196 : decode b_Rows_fewestTunes 196 = .ok (.iaload, 1) := by decide +kernel
theorem d_Rows_fewestTunes_197 : decode b_Rows_fewestTunes 197 = .ok (.istore 4, 2) := by decide +kernel
theorem d_Rows_fewestTunes_199 : decode b_Rows_fewestTunes 199 = .ok (.iload 4, 2) := by decide +kernel
theorem d_Rows_fewestTunes_201 : decode b_Rows_fewestTunes 201 = .ok (.sipush 1000, 3) := by decide +kernel
theorem d_Rows_fewestTunes_204 : decode b_Rows_fewestTunes 204 = .ok (.if_icmp .lt 7, 3) := by decide +kernel
theorem d_Rows_fewestTunes_207 : decode b_Rows_fewestTunes 207 = .ok (.iconst (-1), 1) := by decide +kernel
theorem d_Rows_fewestTunes_208 : decode b_Rows_fewestTunes 208 = .ok (.goto 5, 3) := by decide +kernel
theorem d_Rows_fewestTunes_211 : decode b_Rows_fewestTunes 211 = .ok (.iload 4, 2) := by decide +kernel
theorem d_Rows_fewestTunes_213 : decode b_Rows_fewestTunes 213 = .ok (.ireturn, 1) := by decide +kernel
theorem d_Arrays_fillI_0 : decode b_Arrays_fillI 0 = .ok (.iconst 0, 1) := by decide +kernel
theorem d_Arrays_fillI_1 : decode b_Arrays_fillI 1 = .ok (.istore_n 2, 1) := by decide +kernel
theorem d_Arrays_fillI_2 : decode b_Arrays_fillI 2 = .ok (.aload_n 0, 1) := by decide +kernel
theorem d_Arrays_fillI_3 : decode b_Arrays_fillI 3 = .ok (.arraylength, 1) := by decide +kernel
theorem d_Arrays_fillI_4 : decode b_Arrays_fillI 4 = .ok (.istore_n 3, 1) := by decide +kernel
theorem d_Arrays_fillI_5 : decode b_Arrays_fillI 5 = .ok (.iload_n 2, 1) := by decide +kernel
theorem d_Arrays_fillI_6 : decode b_Arrays_fillI 6 = .ok (.iload_n 3, 1) := by decide +kernel
theorem d_Arrays_fillI_7 : decode b_Arrays_fillI 7 = .ok (.if_icmp .ge 13, 3) := by decide +kernel
theorem d_Arrays_fillI_10 : decode b_Arrays_fillI 10 = .ok (.aload_n 0, 1) := by decide +kernel
theorem d_Arrays_fillI_11 : decode b_Arrays_fillI 11 = .ok (.iload_n 2, 1) := by decide +kernel
theorem d_Arrays_fillI_12 : decode b_Arrays_fillI 12 = .ok (.iload_n 1, 1) := by decide +kernel
theorem d_Arrays_fillI_13 : decode b_Arrays_fillI 13 = .ok (.iastore, 1) := by decide +kernel
theorem d_Arrays_fillI_14 : decode b_Arrays_fillI 14 = .ok (.iinc 2 1, 3) := by decide +kernel
theorem d_Arrays_fillI_17 : decode b_Arrays_fillI 17 = .ok (.goto (-12), 3) := by decide +kernel
theorem d_Arrays_fillI_20 : decode b_Arrays_fillI 20 = .ok (.return_, 1) := by decide +kernel
theorem d_Rows_index_0 : decode b_Rows_index 0 = .ok (.iload_n 0, 1) := by decide +kernel
theorem d_Rows_index_1 : decode b_Rows_index 1 = .ok (.bipush 9, 2) := by decide +kernel
theorem d_Rows_index_3 : decode b_Rows_index 3 = .ok (.imul, 1) := by decide +kernel
theorem d_Rows_index_4 : decode b_Rows_index 4 = .ok (.iload_n 1, 1) := by decide +kernel
theorem d_Rows_index_5 : decode b_Rows_index 5 = .ok (.iadd, 1) := by decide +kernel
theorem d_Rows_index_6 : decode b_Rows_index 6 = .ok (.bipush 9, 2) := by decide +kernel
theorem d_Rows_index_8 : decode b_Rows_index 8 = .ok (.imul, 1) := by decide +kernel
theorem d_Rows_index_9 : decode b_Rows_index 9 = .ok (.iload_n 2, 1) := by decide +kernel
theorem d_Rows_index_10 : decode b_Rows_index 10 = .ok (.iadd, 1) := by decide +kernel
theorem d_Rows_index_11 : decode b_Rows_index 11 = .ok (.ireturn, 1) := by decide +kernel
theorem d_Rows_fewestFrom_0 : decode b_Rows_fewestFrom 0 = .ok (.iload_n 1, 1) := by decide +kernel
theorem d_Rows_fewestFrom_1 : decode b_Rows_fewestFrom 1 = .ok (.iload_n 2, 1) := by decide +kernel
theorem d_Rows_fewestFrom_2 : decode b_Rows_fewestFrom 2 = .ok (.iload_n 3, 1) := by decide +kernel
theorem d_Rows_fewestFrom_3 : decode b_Rows_fewestFrom 3 = .ok (.invokestatic 49, 3) := by decide +kernel
theorem d_Rows_fewestFrom_6 : decode b_Rows_fewestFrom 6 = .ok (.istore 4, 2) := by decide +kernel
theorem d_Rows_fewestFrom_8 : decode b_Rows_fewestFrom 8 = .ok (.iload 4, 2) := by decide +kernel
theorem d_Rows_fewestFrom_10 : decode b_Rows_fewestFrom 10 = .ok (.ifCond .ne 7, 3) := by decide +kernel
theorem d_Rows_fewestFrom_13 : decode b_Rows_fewestFrom 13 = .ok (.iconst 0, 1) := by decide +kernel
theorem d_Rows_fewestFrom_14 : decode b_Rows_fewestFrom 14 = .ok (.goto 6, 3) := by decide +kernel
theorem d_Rows_fewestFrom_17 : decode b_Rows_fewestFrom 17 = .ok (.sipush 1000, 3) := by decide +kernel
theorem d_Rows_fewestFrom_20 : decode b_Rows_fewestFrom 20 = .ok (.istore 5, 2) := by decide +kernel
theorem d_Rows_fewestFrom_22 : decode b_Rows_fewestFrom 22 = .ok (.iconst 0, 1) := by decide +kernel
theorem d_Rows_fewestFrom_23 : decode b_Rows_fewestFrom 23 = .ok (.istore 6, 2) := by decide +kernel
theorem d_Rows_fewestFrom_25 : decode b_Rows_fewestFrom 25 = .ok (.iload 6, 2) := by decide +kernel
theorem d_Rows_fewestFrom_27 : decode b_Rows_fewestFrom 27 = .ok (.aload_n 0, 1) := by decide +kernel
theorem d_Rows_fewestFrom_28 : decode b_Rows_fewestFrom 28 = .ok (.getfield 28, 3) := by decide +kernel
theorem d_Rows_fewestFrom_31 : decode b_Rows_fewestFrom 31 = .ok (.if_icmp .ge 61, 3) := by decide +kernel
theorem d_Rows_fewestFrom_34 : decode b_Rows_fewestFrom 34 = .ok (.aload_n 0, 1) := by decide +kernel
theorem d_Rows_fewestFrom_35 : decode b_Rows_fewestFrom 35 = .ok (.iconst 0, 1) := by decide +kernel
theorem d_Rows_fewestFrom_36 : decode b_Rows_fewestFrom 36 = .ok (.iload_n 1, 1) := by decide +kernel
theorem d_Rows_fewestFrom_37 : decode b_Rows_fewestFrom 37 = .ok (.iload 6, 2) := by decide +kernel
theorem d_Rows_fewestFrom_39 : decode b_Rows_fewestFrom 39 = .ok (.invokevirtual 56, 3) := by decide +kernel
theorem d_Rows_fewestFrom_42 : decode b_Rows_fewestFrom 42 = .ok (.aload_n 0, 1) := by decide +kernel
theorem d_Rows_fewestFrom_43 : decode b_Rows_fewestFrom 43 = .ok (.iconst 1, 1) := by decide +kernel
theorem d_Rows_fewestFrom_44 : decode b_Rows_fewestFrom 44 = .ok (.iload_n 2, 1) := by decide +kernel
theorem d_Rows_fewestFrom_45 : decode b_Rows_fewestFrom 45 = .ok (.iload 6, 2) := by decide +kernel
theorem d_Rows_fewestFrom_47 : decode b_Rows_fewestFrom 47 = .ok (.invokevirtual 56, 3) := by decide +kernel
theorem d_Rows_fewestFrom_50 : decode b_Rows_fewestFrom 50 = .ok (.aload_n 0, 1) := by decide +kernel
theorem d_Rows_fewestFrom_51 : decode b_Rows_fewestFrom 51 = .ok (.iconst 2, 1) := by decide +kernel
theorem d_Rows_fewestFrom_52 : decode b_Rows_fewestFrom 52 = .ok (.iload_n 3, 1) := by decide +kernel
theorem d_Rows_fewestFrom_53 : decode b_Rows_fewestFrom 53 = .ok (.iload 6, 2) := by decide +kernel
theorem d_Rows_fewestFrom_55 : decode b_Rows_fewestFrom 55 = .ok (.invokevirtual 56, 3) := by decide +kernel
theorem d_Rows_fewestFrom_58 : decode b_Rows_fewestFrom 58 = .ok (.invokestatic 49, 3) := by decide +kernel
theorem d_Rows_fewestFrom_61 : decode b_Rows_fewestFrom 61 = .ok (.istore 7, 2) := by decide +kernel
theorem d_Rows_fewestFrom_63 : decode b_Rows_fewestFrom 63 = .ok (.iload 7, 2) := by decide +kernel
theorem d_Rows_fewestFrom_65 : decode b_Rows_fewestFrom 65 = .ok (.iload 4, 2) := by decide +kernel
theorem d_Rows_fewestFrom_67 : decode b_Rows_fewestFrom 67 = .ok (.if_icmp .eq 19, 3) := by decide +kernel
theorem d_Rows_fewestFrom_70 : decode b_Rows_fewestFrom 70 = .ok (.iload 5, 2) := by decide +kernel
theorem d_Rows_fewestFrom_72 : decode b_Rows_fewestFrom 72 = .ok (.aload_n 0, 1) := by decide +kernel
theorem d_Rows_fewestFrom_73 : decode b_Rows_fewestFrom 73 = .ok (.getfield 11, 3) := by decide +kernel
theorem d_Rows_fewestFrom_76 : decode b_Rows_fewestFrom 76 = .ok (.iload 7, 2) := by decide +kernel
theorem d_Rows_fewestFrom_78 : decode b_Rows_fewestFrom 78 = .ok (.iaload, 1) := by decide +kernel
theorem d_Rows_fewestFrom_79 : decode b_Rows_fewestFrom 79 = .ok (.iconst 1, 1) := by decide +kernel
theorem d_Rows_fewestFrom_80 : decode b_Rows_fewestFrom 80 = .ok (.iadd, 1) := by decide +kernel
theorem d_Rows_fewestFrom_81 : decode b_Rows_fewestFrom 81 = .ok (.invokestatic 59, 3) := by decide +kernel
theorem d_Rows_fewestFrom_84 : decode b_Rows_fewestFrom 84 = .ok (.istore 5, 2) := by decide +kernel
theorem d_Rows_fewestFrom_86 : decode b_Rows_fewestFrom 86 = .ok (.iinc 6 1, 3) := by decide +kernel
theorem d_Rows_fewestFrom_89 : decode b_Rows_fewestFrom 89 = .ok (.goto (-64), 3) := by decide +kernel
theorem d_Rows_fewestFrom_92 : decode b_Rows_fewestFrom 92 = .ok (.iload 5, 2) := by decide +kernel
theorem d_Rows_fewestFrom_94 : decode b_Rows_fewestFrom 94 = .ok (.ireturn, 1) := by decide +kernel
theorem d_Rows_left_0 : decode b_Rows_left 0 = .ok (.iload_n 2, 1) := by decide +kernel
theorem d_Rows_left_1 : decode b_Rows_left 1 = .ok (.ifCond .le 27, 3) := by decide +kernel
theorem d_Rows_left_4 : decode b_Rows_left 4 = .ok (.iload_n 3, 1) := by decide +kernel
theorem d_Rows_left_5 : decode b_Rows_left 5 = .ok (.ifCond .lt 23, 3) := by decide +kernel
theorem d_Rows_left_8 : decode b_Rows_left 8 = .ok (.aload_n 0, 1) := by decide +kernel
theorem d_Rows_left_9 : decode b_Rows_left 9 = .ok (.getfield 18, 3) := by decide +kernel
theorem d_Rows_left_12 : decode b_Rows_left 12 = .ok (.iload_n 1, 1) := by decide +kernel
theorem d_Rows_left_13 : decode b_Rows_left 13 = .ok (.iaload, 1) := by decide +kernel
theorem d_Rows_left_14 : decode b_Rows_left 14 = .ok (.iload_n 3, 1) := by decide +kernel
theorem d_Rows_left_15 : decode b_Rows_left 15 = .ok (.ishr, 1) := by decide +kernel
theorem d_Rows_left_16 : decode b_Rows_left 16 = .ok (.iconst 1, 1) := by decide +kernel
theorem d_Rows_left_17 : decode b_Rows_left 17 = .ok (.iand, 1) := by decide +kernel
theorem d_Rows_left_18 : decode b_Rows_left 18 = .ok (.iconst 1, 1) := by decide +kernel
theorem d_Rows_left_19 : decode b_Rows_left 19 = .ok (.if_icmp .ne 9, 3) := by decide +kernel
theorem d_Rows_left_22 : decode b_Rows_left 22 = .ok (.iload_n 2, 1) := by decide +kernel
theorem d_Rows_left_23 : decode b_Rows_left 23 = .ok (.iconst 1, 1) := by decide +kernel
theorem d_Rows_left_24 : decode b_Rows_left 24 = .ok (.isub, 1) := by decide +kernel
theorem d_Rows_left_25 : decode b_Rows_left 25 = .ok (.goto 4, 3) := by decide +kernel
theorem d_Rows_left_28 : decode b_Rows_left 28 = .ok (.iload_n 2, 1) := by decide +kernel
theorem d_Rows_left_29 : decode b_Rows_left 29 = .ok (.ireturn, 1) := by decide +kernel
theorem d_Rows_tuneOfRow_0 : decode b_Rows_tuneOfRow 0 = .ok (.aload_n 0, 1) := by decide +kernel
theorem d_Rows_tuneOfRow_1 : decode b_Rows_tuneOfRow 1 = .ok (.getfield 15, 3) := by decide +kernel
theorem d_Rows_tuneOfRow_4 : decode b_Rows_tuneOfRow 4 = .ok (.iconst 0, 1) := by decide +kernel
theorem d_Rows_tuneOfRow_5 : decode b_Rows_tuneOfRow 5 = .ok (.iaload, 1) := by decide +kernel
theorem d_Rows_tuneOfRow_6 : decode b_Rows_tuneOfRow 6 = .ok (.istore_n 2, 1) := by decide +kernel
theorem d_Rows_tuneOfRow_7 : decode b_Rows_tuneOfRow 7 = .ok (.aload_n 0, 1) := by decide +kernel
theorem d_Rows_tuneOfRow_8 : decode b_Rows_tuneOfRow 8 = .ok (.getfield 15, 3) := by decide +kernel
theorem d_Rows_tuneOfRow_11 : decode b_Rows_tuneOfRow 11 = .ok (.iconst 1, 1) := by decide +kernel
theorem d_Rows_tuneOfRow_12 : decode b_Rows_tuneOfRow 12 = .ok (.iaload, 1) := by decide +kernel
theorem d_Rows_tuneOfRow_13 : decode b_Rows_tuneOfRow 13 = .ok (.istore_n 3, 1) := by decide +kernel
theorem d_Rows_tuneOfRow_14 : decode b_Rows_tuneOfRow 14 = .ok (.aload_n 0, 1) := by decide +kernel
theorem d_Rows_tuneOfRow_15 : decode b_Rows_tuneOfRow 15 = .ok (.getfield 15, 3) := by decide +kernel
theorem d_Rows_tuneOfRow_18 : decode b_Rows_tuneOfRow 18 = .ok (.iconst 2, 1) := by decide +kernel
theorem d_Rows_tuneOfRow_19 : decode b_Rows_tuneOfRow 19 = .ok (.iaload, 1) := by decide +kernel
theorem d_Rows_tuneOfRow_20 : decode b_Rows_tuneOfRow 20 = .ok (.istore 4, 2) := by decide +kernel
theorem d_Rows_tuneOfRow_22 : decode b_Rows_tuneOfRow 22 = .ok (.iconst (-1), 1) := by decide +kernel
theorem d_Rows_tuneOfRow_23 : decode b_Rows_tuneOfRow 23 = .ok (.istore 5, 2) := by decide +kernel
theorem d_Rows_tuneOfRow_25 : decode b_Rows_tuneOfRow 25 = .ok (.iconst 0, 1) := by decide +kernel
theorem d_Rows_tuneOfRow_26 : decode b_Rows_tuneOfRow 26 = .ok (.istore 6, 2) := by decide +kernel
theorem d_Rows_tuneOfRow_28 : decode b_Rows_tuneOfRow 28 = .ok (.iload 6, 2) := by decide +kernel
theorem d_Rows_tuneOfRow_30 : decode b_Rows_tuneOfRow 30 = .ok (.iload_n 1, 1) := by decide +kernel
theorem d_Rows_tuneOfRow_31 : decode b_Rows_tuneOfRow 31 = .ok (.if_icmp .gt 48, 3) := by decide +kernel
theorem d_Rows_tuneOfRow_34 : decode b_Rows_tuneOfRow 34 = .ok (.aload_n 0, 1) := by decide +kernel
theorem d_Rows_tuneOfRow_35 : decode b_Rows_tuneOfRow 35 = .ok (.iload_n 2, 1) := by decide +kernel
theorem d_Rows_tuneOfRow_36 : decode b_Rows_tuneOfRow 36 = .ok (.iload_n 3, 1) := by decide +kernel
theorem d_Rows_tuneOfRow_37 : decode b_Rows_tuneOfRow 37 = .ok (.iload 4, 2) := by decide +kernel
theorem d_Rows_tuneOfRow_39 : decode b_Rows_tuneOfRow 39 = .ok (.invokevirtual 65, 3) := by decide +kernel
theorem d_Rows_tuneOfRow_42 : decode b_Rows_tuneOfRow 42 = .ok (.istore 5, 2) := by decide +kernel
theorem d_Rows_tuneOfRow_44 : decode b_Rows_tuneOfRow 44 = .ok (.aload_n 0, 1) := by decide +kernel
theorem d_Rows_tuneOfRow_45 : decode b_Rows_tuneOfRow 45 = .ok (.iconst 0, 1) := by decide +kernel
theorem d_Rows_tuneOfRow_46 : decode b_Rows_tuneOfRow 46 = .ok (.iload_n 2, 1) := by decide +kernel
theorem d_Rows_tuneOfRow_47 : decode b_Rows_tuneOfRow 47 = .ok (.iload 5, 2) := by decide +kernel
theorem d_Rows_tuneOfRow_49 : decode b_Rows_tuneOfRow 49 = .ok (.invokevirtual 56, 3) := by decide +kernel
theorem d_Rows_tuneOfRow_52 : decode b_Rows_tuneOfRow 52 = .ok (.istore_n 2, 1) := by decide +kernel
theorem d_Rows_tuneOfRow_53 : decode b_Rows_tuneOfRow 53 = .ok (.aload_n 0, 1) := by decide +kernel
theorem d_Rows_tuneOfRow_54 : decode b_Rows_tuneOfRow 54 = .ok (.iconst 1, 1) := by decide +kernel
theorem d_Rows_tuneOfRow_55 : decode b_Rows_tuneOfRow 55 = .ok (.iload_n 3, 1) := by decide +kernel
theorem d_Rows_tuneOfRow_56 : decode b_Rows_tuneOfRow 56 = .ok (.iload 5, 2) := by decide +kernel
theorem d_Rows_tuneOfRow_58 : decode b_Rows_tuneOfRow 58 = .ok (.invokevirtual 56, 3) := by decide +kernel
theorem d_Rows_tuneOfRow_61 : decode b_Rows_tuneOfRow 61 = .ok (.istore_n 3, 1) := by decide +kernel
theorem d_Rows_tuneOfRow_62 : decode b_Rows_tuneOfRow 62 = .ok (.aload_n 0, 1) := by decide +kernel
theorem d_Rows_tuneOfRow_63 : decode b_Rows_tuneOfRow 63 = .ok (.iconst 2, 1) := by decide +kernel
theorem d_Rows_tuneOfRow_64 : decode b_Rows_tuneOfRow 64 = .ok (.iload 4, 2) := by decide +kernel
theorem d_Rows_tuneOfRow_66 : decode b_Rows_tuneOfRow 66 = .ok (.iload 5, 2) := by decide +kernel
theorem d_Rows_tuneOfRow_68 : decode b_Rows_tuneOfRow 68 = .ok (.invokevirtual 56, 3) := by decide +kernel
theorem d_Rows_tuneOfRow_71 : decode b_Rows_tuneOfRow 71 = .ok (.istore 4, 2) := by decide +kernel
theorem d_Rows_tuneOfRow_73 : decode b_Rows_tuneOfRow 73 = .ok (.iinc 6 1, 3) := by decide +kernel
theorem d_Rows_tuneOfRow_76 : decode b_Rows_tuneOfRow 76 = .ok (.goto (-48), 3) := by decide +kernel
theorem d_Rows_tuneOfRow_79 : decode b_Rows_tuneOfRow 79 = .ok (.iload 5, 2) := by decide +kernel
theorem d_Rows_tuneOfRow_81 : decode b_Rows_tuneOfRow 81 = .ok (.ireturn, 1) := by decide +kernel
theorem d_Rows_firstGoodTune_0 : decode b_Rows_firstGoodTune 0 = .ok (.aload_n 0, 1) := by decide +kernel
theorem d_Rows_firstGoodTune_1 : decode b_Rows_firstGoodTune 1 = .ok (.getfield 11, 3) := by decide +kernel
theorem d_Rows_firstGoodTune_4 : decode b_Rows_firstGoodTune 4 = .ok (.iload_n 1, 1) := by decide +kernel
theorem d_Rows_firstGoodTune_5 : decode b_Rows_firstGoodTune 5 = .ok (.iload_n 2, 1) := by decide +kernel
theorem d_Rows_firstGoodTune_6 : decode b_Rows_firstGoodTune 6 = .ok (.iload_n 3, 1) := by decide +kernel
theorem d_Rows_firstGoodTune_7 : decode b_Rows_firstGoodTune 7 = .ok (.invokestatic 49, 3) := by decide +kernel
theorem d_Rows_firstGoodTune_10 : decode b_Rows_firstGoodTune 10 = .ok (.iaload, 1) := by decide +kernel
theorem d_Rows_firstGoodTune_11 : decode b_Rows_firstGoodTune 11 = .ok (.iconst 1, 1) := by decide +kernel
theorem d_Rows_firstGoodTune_12 : decode b_Rows_firstGoodTune 12 = .ok (.isub, 1) := by decide +kernel
theorem d_Rows_firstGoodTune_13 : decode b_Rows_firstGoodTune 13 = .ok (.istore 4, 2) := by decide +kernel
theorem d_Rows_firstGoodTune_15 : decode b_Rows_firstGoodTune 15 = .ok (.iconst 0, 1) := by decide +kernel
theorem d_Rows_firstGoodTune_16 : decode b_Rows_firstGoodTune 16 = .ok (.istore 5, 2) := by decide +kernel
theorem d_Rows_firstGoodTune_18 : decode b_Rows_firstGoodTune 18 = .ok (.iload 5, 2) := by decide +kernel
theorem d_Rows_firstGoodTune_20 : decode b_Rows_firstGoodTune 20 = .ok (.aload_n 0, 1) := by decide +kernel
theorem d_Rows_firstGoodTune_21 : decode b_Rows_firstGoodTune 21 = .ok (.getfield 28, 3) := by decide +kernel
theorem d_Rows_firstGoodTune_24 : decode b_Rows_firstGoodTune 24 = .ok (.if_icmp .ge 49, 3) := by decide +kernel
theorem d_Rows_firstGoodTune_27 : decode b_Rows_firstGoodTune 27 = .ok (.aload_n 0, 1) := by decide +kernel
theorem d_Rows_firstGoodTune_28 : decode b_Rows_firstGoodTune 28 = .ok (.getfield 11, 3) := by decide +kernel
theorem d_Rows_firstGoodTune_31 : decode b_Rows_firstGoodTune 31 = .ok (.aload_n 0, 1) := by decide +kernel
theorem d_Rows_firstGoodTune_32 : decode b_Rows_firstGoodTune 32 = .ok (.iconst 0, 1) := by decide +kernel
theorem d_Rows_firstGoodTune_33 : decode b_Rows_firstGoodTune 33 = .ok (.iload_n 1, 1) := by decide +kernel
theorem d_Rows_firstGoodTune_34 : decode b_Rows_firstGoodTune 34 = .ok (.iload 5, 2) := by decide +kernel
theorem d_Rows_firstGoodTune_36 : decode b_Rows_firstGoodTune 36 = .ok (.invokevirtual 56, 3) := by decide +kernel
theorem d_Rows_firstGoodTune_39 : decode b_Rows_firstGoodTune 39 = .ok (.aload_n 0, 1) := by decide +kernel
theorem d_Rows_firstGoodTune_40 : decode b_Rows_firstGoodTune 40 = .ok (.iconst 1, 1) := by decide +kernel
theorem d_Rows_firstGoodTune_41 : decode b_Rows_firstGoodTune 41 = .ok (.iload_n 2, 1) := by decide +kernel
theorem d_Rows_firstGoodTune_42 : decode b_Rows_firstGoodTune 42 = .ok (.iload 5, 2) := by decide +kernel
theorem d_Rows_firstGoodTune_44 : decode b_Rows_firstGoodTune 44 = .ok (.invokevirtual 56, 3) := by decide +kernel
theorem d_Rows_firstGoodTune_47 : decode b_Rows_firstGoodTune 47 = .ok (.aload_n 0, 1) := by decide +kernel
theorem d_Rows_firstGoodTune_48 : decode b_Rows_firstGoodTune 48 = .ok (.iconst 2, 1) := by decide +kernel
theorem d_Rows_firstGoodTune_49 : decode b_Rows_firstGoodTune 49 = .ok (.iload_n 3, 1) := by decide +kernel
theorem d_Rows_firstGoodTune_50 : decode b_Rows_firstGoodTune 50 = .ok (.iload 5, 2) := by decide +kernel
theorem d_Rows_firstGoodTune_52 : decode b_Rows_firstGoodTune 52 = .ok (.invokevirtual 56, 3) := by decide +kernel
theorem d_Rows_firstGoodTune_55 : decode b_Rows_firstGoodTune 55 = .ok (.invokestatic 49, 3) := by decide +kernel
theorem d_Rows_firstGoodTune_58 : decode b_Rows_firstGoodTune 58 = .ok (.iaload, 1) := by decide +kernel
theorem d_Rows_firstGoodTune_59 : decode b_Rows_firstGoodTune 59 = .ok (.iload 4, 2) := by decide +kernel
theorem d_Rows_firstGoodTune_61 : decode b_Rows_firstGoodTune 61 = .ok (.if_icmp .ne 6, 3) := by decide +kernel
theorem d_Rows_firstGoodTune_64 : decode b_Rows_firstGoodTune 64 = .ok (.iload 5, 2) := by decide +kernel
theorem d_Rows_firstGoodTune_66 : decode b_Rows_firstGoodTune 66 = .ok (.ireturn, 1) := by decide +kernel
theorem d_Rows_firstGoodTune_67 : decode b_Rows_firstGoodTune 67 = .ok (.iinc 5 1, 3) := by decide +kernel
theorem d_Rows_firstGoodTune_70 : decode b_Rows_firstGoodTune 70 = .ok (.goto (-52), 3) := by decide +kernel
theorem d_Rows_firstGoodTune_73 : decode b_Rows_firstGoodTune 73 = .ok (.iconst (-1), 1) := by decide +kernel
theorem d_Rows_firstGoodTune_74 : decode b_Rows_firstGoodTune 74 = .ok (.ireturn, 1) := by decide +kernel
theorem d_Placings_look_0 : decode b_Placings_look 0 = .ok (.aload_n 0, 1) := by decide +kernel
theorem d_Placings_look_1 : decode b_Placings_look 1 = .ok (.aload_n 1, 1) := by decide +kernel
theorem d_Placings_look_2 : decode b_Placings_look 2 = .ok (.invokevirtual 22, 3) := by decide +kernel
theorem d_Placings_look_5 : decode b_Placings_look 5 = .ok (.bipush 25, 2) := by decide +kernel
theorem d_Placings_look_7 : decode b_Placings_look 7 = .ok (.invokestatic 27, 3) := by decide +kernel
theorem d_Placings_look_10 : decode b_Placings_look 10 = .ok (.putfield 18, 3) := by decide +kernel
theorem d_Placings_look_13 : decode b_Placings_look 13 = .ok (.iconst 0, 1) := by decide +kernel
theorem d_Placings_look_14 : decode b_Placings_look 14 = .ok (.istore_n 2, 1) := by decide +kernel
theorem d_Placings_look_15 : decode b_Placings_look 15 = .ok (.iload_n 2, 1) := by decide +kernel
theorem d_Placings_look_16 : decode b_Placings_look 16 = .ok (.aload_n 0, 1) := by decide +kernel
theorem d_Placings_look_17 : decode b_Placings_look 17 = .ok (.getfield 18, 3) := by decide +kernel
theorem d_Placings_look_20 : decode b_Placings_look 20 = .ok (.if_icmp .ge 20, 3) := by decide +kernel
theorem d_Placings_look_23 : decode b_Placings_look 23 = .ok (.aload_n 0, 1) := by decide +kernel
theorem d_Placings_look_24 : decode b_Placings_look 24 = .ok (.getfield 9, 3) := by decide +kernel
theorem d_Placings_look_27 : decode b_Placings_look 27 = .ok (.iload_n 2, 1) := by decide +kernel
theorem d_Placings_look_28 : decode b_Placings_look 28 = .ok (.aload_n 1, 1) := by decide +kernel
theorem d_Placings_look_29 : decode b_Placings_look 29 = .ok (.iload_n 2, 1) := by decide +kernel
theorem d_Placings_look_30 : decode b_Placings_look 30 = .ok (.invokevirtual 33, 3) := by decide +kernel
theorem d_Placings_look_33 : decode b_Placings_look 33 = .ok (.iastore, 1) := by decide +kernel
theorem d_Placings_look_34 : decode b_Placings_look 34 = .ok (.iinc 2 1, 3) := by decide +kernel
theorem d_Placings_look_37 : decode b_Placings_look 37 = .ok (.goto (-22), 3) := by decide +kernel
theorem d_Placings_look_40 : decode b_Placings_look 40 = .ok (.return_, 1) := by decide +kernel
theorem d_Placings_fewestCells_0 : decode b_Placings_fewestCells 0 = .ok (.aload_n 0, 1) := by decide +kernel
theorem d_Placings_fewestCells_1 : decode b_Placings_fewestCells 1 = .ok (.getfield 15, 3) := by decide +kernel
theorem d_Placings_fewestCells_4 : decode b_Placings_fewestCells 4 = .ok (.sipush 1000, 3) := by decide +kernel
theorem d_Placings_fewestCells_7 : decode b_Placings_fewestCells 7 = .ok (.invokestatic 37, 3) := by decide +kernel
theorem d_Placings_fewestCells_10 : decode b_Placings_fewestCells 10 = .ok (.aload_n 0, 1) := by decide +kernel
theorem d_Placings_fewestCells_11 : decode b_Placings_fewestCells 11 = .ok (.getfield 15, 3) := by decide +kernel
theorem d_Placings_fewestCells_14 : decode b_Placings_fewestCells 14 = .ok (.iconst 0, 1) := by decide +kernel
theorem d_Placings_fewestCells_15 : decode b_Placings_fewestCells 15 = .ok (.iconst 0, 1) := by decide +kernel
theorem d_Placings_fewestCells_16 : decode b_Placings_fewestCells 16 = .ok (.iastore, 1) := by decide +kernel
theorem d_Placings_fewestCells_17 : decode b_Placings_fewestCells 17 = .ok (.iconst 0, 1) := by decide +kernel
theorem d_Placings_fewestCells_18 : decode b_Placings_fewestCells 18 = .ok (.istore_n 2, 1) := by decide +kernel
theorem d_Placings_fewestCells_19 : decode b_Placings_fewestCells 19 = .ok (.iload_n 2, 1) := by decide +kernel
theorem d_Placings_fewestCells_20 : decode b_Placings_fewestCells 20 = .ok (.bipush 16, 2) := by decide +kernel
theorem d_Placings_fewestCells_22 : decode b_Placings_fewestCells 22 = .ok (.if_icmp .ge 73, 3) := by decide +kernel
theorem d_Placings_fewestCells_25 : decode b_Placings_fewestCells 25 = .ok (.iconst 0, 1) := by decide +kernel
theorem d_Placings_fewestCells_26 : decode b_Placings_fewestCells 26 = .ok (.istore_n 3, 1) := by decide +kernel
theorem d_Placings_fewestCells_27 : decode b_Placings_fewestCells 27 = .ok (.iload_n 3, 1) := by decide +kernel
theorem d_Placings_fewestCells_28 : decode b_Placings_fewestCells 28 = .ok (.aload_n 0, 1) := by decide +kernel
theorem d_Placings_fewestCells_29 : decode b_Placings_fewestCells 29 = .ok (.getfield 18, 3) := by decide +kernel
theorem d_Placings_fewestCells_32 : decode b_Placings_fewestCells 32 = .ok (.if_icmp .ge 57, 3) := by decide +kernel
theorem d_Placings_fewestCells_35 : decode b_Placings_fewestCells 35 = .ok (.iload_n 2, 1) := by decide +kernel
theorem d_Placings_fewestCells_36 : decode b_Placings_fewestCells 36 = .ok (.aload_n 0, 1) := by decide +kernel
theorem d_Placings_fewestCells_37 : decode b_Placings_fewestCells 37 = .ok (.getfield 9, 3) := by decide +kernel
theorem d_Placings_fewestCells_40 : decode b_Placings_fewestCells 40 = .ok (.iload_n 3, 1) := by decide +kernel
theorem d_Placings_fewestCells_41 : decode b_Placings_fewestCells 41 = .ok (.iaload, 1) := by decide +kernel
theorem d_Placings_fewestCells_42 : decode b_Placings_fewestCells 42 = .ok (.ior, 1) := by decide +kernel
theorem d_Placings_fewestCells_43 : decode b_Placings_fewestCells 43 = .ok (.istore 4, 2) := by decide +kernel
theorem d_Placings_fewestCells_45 : decode b_Placings_fewestCells 45 = .ok (.aload_n 0, 1) := by decide +kernel
theorem d_Placings_fewestCells_46 : decode b_Placings_fewestCells 46 = .ok (.getfield 9, 3) := by decide +kernel
theorem d_Placings_fewestCells_49 : decode b_Placings_fewestCells 49 = .ok (.iload_n 3, 1) := by decide +kernel
theorem d_Placings_fewestCells_50 : decode b_Placings_fewestCells 50 = .ok (.iaload, 1) := by decide +kernel
theorem d_Placings_fewestCells_51 : decode b_Placings_fewestCells 51 = .ok (.iload_n 1, 1) := by decide +kernel
theorem d_Placings_fewestCells_52 : decode b_Placings_fewestCells 52 = .ok (.iconst (-1), 1) := by decide +kernel
theorem d_Placings_fewestCells_53 : decode b_Placings_fewestCells 53 = .ok (.ixor, 1) := by decide +kernel
theorem d_Placings_fewestCells_54 : decode b_Placings_fewestCells 54 = .ok (.iand, 1) := by decide +kernel
theorem d_Placings_fewestCells_55 : decode b_Placings_fewestCells 55 = .ok (.ifCond .ne 28, 3) := by decide +kernel
theorem d_Placings_fewestCells_58 : decode b_Placings_fewestCells 58 = .ok (.aload_n 0, 1) := by decide +kernel
theorem d_Placings_fewestCells_59 : decode b_Placings_fewestCells 59 = .ok (.getfield 15, 3) := by decide +kernel
theorem d_Placings_fewestCells_62 : decode b_Placings_fewestCells 62 = .ok (.iload 4, 2) := by decide +kernel
theorem d_Placings_fewestCells_64 : decode b_Placings_fewestCells 64 = .ok (.aload_n 0, 1) := by decide +kernel
theorem d_Placings_fewestCells_65 : decode b_Placings_fewestCells 65 = .ok (.getfield 15, 3) := by decide +kernel
theorem d_Placings_fewestCells_68 : decode b_Placings_fewestCells 68 = .ok (.iload 4, 2) := by decide +kernel
theorem d_Placings_fewestCells_70 : decode b_Placings_fewestCells 70 = .ok (.iaload, 1) := by decide +kernel
theorem d_Placings_fewestCells_71 : decode b_Placings_fewestCells 71 = .ok (.aload_n 0, 1) := by decide +kernel
theorem d_Placings_fewestCells_72 : decode b_Placings_fewestCells 72 = .ok (.getfield 15, 3) := by decide +kernel
theorem d_Placings_fewestCells_75 : decode b_Placings_fewestCells 75 = .ok (.iload_n 2, 1) := by decide +kernel
theorem d_Placings_fewestCells_76 : decode b_Placings_fewestCells 76 = .ok (.iaload, 1) := by decide +kernel
theorem d_Placings_fewestCells_77 : decode b_Placings_fewestCells 77 = .ok (.iconst 1, 1) := by decide +kernel
theorem d_Placings_fewestCells_78 : decode b_Placings_fewestCells 78 = .ok (.iadd, 1) := by decide +kernel
theorem d_Placings_fewestCells_79 : decode b_Placings_fewestCells 79 = .ok (.invokestatic 27, 3) := by decide +kernel
theorem d_Placings_fewestCells_82 : decode b_Placings_fewestCells 82 = .ok (.iastore, 1) := by decide +kernel
theorem d_Placings_fewestCells_83 : decode b_Placings_fewestCells 83 = .ok (.iinc 3 1, 3) := by decide +kernel
theorem d_Placings_fewestCells_86 : decode b_Placings_fewestCells 86 = .ok (.goto (-59), 3) := by decide +kernel
theorem d_Placings_fewestCells_89 : decode b_Placings_fewestCells 89 = .ok (.iinc 2 1, 3) := by decide +kernel
theorem d_Placings_fewestCells_92 : decode b_Placings_fewestCells 92 = .ok (.goto (-73), 3) := by decide +kernel
theorem d_Placings_fewestCells_95 : decode b_Placings_fewestCells 95 = .ok (.aload_n 0, 1) := by decide +kernel
theorem d_Placings_fewestCells_96 : decode b_Placings_fewestCells 96 = .ok (.getfield 15, 3) := by decide +kernel
theorem d_Placings_fewestCells_99 : decode b_Placings_fewestCells 99 = .ok (.iload_n 1, 1) := by decide +kernel
theorem d_Placings_fewestCells_100 : decode b_Placings_fewestCells 100 = .ok (.iaload, 1) := by decide +kernel
theorem d_Placings_fewestCells_101 : decode b_Placings_fewestCells 101 = .ok (.sipush 1000, 3) := by decide +kernel
theorem d_Placings_fewestCells_104 : decode b_Placings_fewestCells 104 = .ok (.if_icmp .lt 7, 3) := by decide +kernel
theorem d_Placings_fewestCells_107 : decode b_Placings_fewestCells 107 = .ok (.iconst (-1), 1) := by decide +kernel
theorem d_Placings_fewestCells_108 : decode b_Placings_fewestCells 108 = .ok (.goto 9, 3) := by decide +kernel
theorem d_Placings_fewestCells_111 : decode b_Placings_fewestCells 111 = .ok (.aload_n 0, 1) := by decide +kernel
theorem d_Placings_fewestCells_112 : decode b_Placings_fewestCells 112 = .ok (.getfield 15, 3) := by decide +kernel
theorem d_Placings_fewestCells_115 : decode b_Placings_fewestCells 115 = .ok (.iload_n 1, 1) := by decide +kernel
theorem d_Placings_fewestCells_116 : decode b_Placings_fewestCells 116 = .ok (.iaload, 1) := by decide +kernel
theorem d_Placings_fewestCells_117 : decode b_Placings_fewestCells 117 = .ok (.ireturn, 1) := by decide +kernel
theorem d_Placings_countWithout_0 : decode b_Placings_countWithout 0 = .ok (.iconst 0, 1) := by decide +kernel
theorem d_Placings_countWithout_1 : decode b_Placings_countWithout 1 = .ok (.istore 4, 2) := by decide +kernel
theorem d_Placings_countWithout_3 : decode b_Placings_countWithout 3 = .ok (.iconst 0, 1) := by decide +kernel
theorem d_Placings_countWithout_4 : decode b_Placings_countWithout 4 = .ok (.istore 5, 2) := by decide +kernel
theorem d_Placings_countWithout_6 : decode b_Placings_countWithout 6 = .ok (.iload 5, 2) := by decide +kernel
theorem d_Placings_countWithout_8 : decode b_Placings_countWithout 8 = .ok (.iload_n 1, 1) := by decide +kernel
theorem d_Placings_countWithout_9 : decode b_Placings_countWithout 9 = .ok (.if_icmp .gt 56, 3) := by decide +kernel
theorem d_Placings_countWithout_12 : decode b_Placings_countWithout 12 = .ok (.iload 5, 2) := by decide +kernel
theorem d_Placings_countWithout_14 : decode b_Placings_countWithout 14 = .ok (.iload_n 1, 1) := by decide +kernel
theorem d_Placings_countWithout_15 : decode b_Placings_countWithout 15 = .ok (.iconst (-1), 1) := by decide +kernel
theorem d_Placings_countWithout_16 : decode b_Placings_countWithout 16 = .ok (.ixor, 1) := by decide +kernel
theorem d_Placings_countWithout_17 : decode b_Placings_countWithout 17 = .ok (.iand, 1) := by decide +kernel
theorem d_Placings_countWithout_18 : decode b_Placings_countWithout 18 = .ok (.ifCond .ne 41, 3) := by decide +kernel
theorem d_Placings_countWithout_21 : decode b_Placings_countWithout 21 = .ok (.aload_n 0, 1) := by decide +kernel
theorem d_Placings_countWithout_22 : decode b_Placings_countWithout 22 = .ok (.iload 5, 2) := by decide +kernel
theorem d_Placings_countWithout_24 : decode b_Placings_countWithout 24 = .ok (.iload_n 3, 1) := by decide +kernel
theorem d_Placings_countWithout_25 : decode b_Placings_countWithout 25 = .ok (.invokevirtual 43, 3) := by decide +kernel
theorem d_Placings_countWithout_28 : decode b_Placings_countWithout 28 = .ok (.iload_n 2, 1) := by decide +kernel
theorem d_Placings_countWithout_29 : decode b_Placings_countWithout 29 = .ok (.invokestatic 46, 3) := by decide +kernel
theorem d_Placings_countWithout_32 : decode b_Placings_countWithout 32 = .ok (.istore 6, 2) := by decide +kernel
theorem d_Placings_countWithout_34 : decode b_Placings_countWithout 34 = .ok (.iload 4, 2) := by decide +kernel
theorem d_Placings_countWithout_36 : decode b_Placings_countWithout 36 = .ok (.iload_n 1, 1) := by decide +kernel
theorem d_Placings_countWithout_37 : decode b_Placings_countWithout 37 = .ok (.iload 5, 2) := by decide +kernel
theorem d_Placings_countWithout_39 : decode b_Placings_countWithout 39 = .ok (.ixor, 1) := by decide +kernel
theorem d_Placings_countWithout_40 : decode b_Placings_countWithout 40 = .ok (.invokestatic 49, 3) := by decide +kernel
theorem d_Placings_countWithout_43 : decode b_Placings_countWithout 43 = .ok (.iconst 2, 1) := by decide +kernel
theorem d_Placings_countWithout_44 : decode b_Placings_countWithout 44 = .ok (.irem, 1) := by decide +kernel
theorem d_Placings_countWithout_45 : decode b_Placings_countWithout 45 = .ok (.ifCond .ne 8, 3) := by decide +kernel
theorem d_Placings_countWithout_48 : decode b_Placings_countWithout 48 = .ok (.iload 6, 2) := by decide +kernel
theorem d_Placings_countWithout_50 : decode b_Placings_countWithout 50 = .ok (.goto 6, 3) := by decide +kernel
theorem d_Placings_countWithout_53 : decode b_Placings_countWithout 53 = .ok (.iload 6, 2) := by decide +kernel
theorem d_Placings_countWithout_55 : decode b_Placings_countWithout 55 = .ok (.ineg, 1) := by decide +kernel
theorem d_Placings_countWithout_56 : decode b_Placings_countWithout 56 = .ok (.iadd, 1) := by decide +kernel
theorem d_Placings_countWithout_57 : decode b_Placings_countWithout 57 = .ok (.istore 4, 2) := by decide +kernel
theorem d_Placings_countWithout_59 : decode b_Placings_countWithout 59 = .ok (.iinc 5 1, 3) := by decide +kernel
theorem d_Placings_countWithout_62 : decode b_Placings_countWithout 62 = .ok (.goto (-56), 3) := by decide +kernel
theorem d_Placings_countWithout_65 : decode b_Placings_countWithout 65 = .ok (.iload 4, 2) := by decide +kernel
theorem d_Placings_countWithout_67 : decode b_Placings_countWithout 67 = .ok (.ireturn, 1) := by decide +kernel
theorem d_Placings_cellsWithin_0 : decode b_Placings_cellsWithin 0 = .ok (.iconst 0, 1) := by decide +kernel
theorem d_Placings_cellsWithin_1 : decode b_Placings_cellsWithin 1 = .ok (.istore_n 3, 1) := by decide +kernel
theorem d_Placings_cellsWithin_2 : decode b_Placings_cellsWithin 2 = .ok (.iconst 0, 1) := by decide +kernel
theorem d_Placings_cellsWithin_3 : decode b_Placings_cellsWithin 3 = .ok (.istore 4, 2) := by decide +kernel
theorem d_Placings_cellsWithin_5 : decode b_Placings_cellsWithin 5 = .ok (.iload 4, 2) := by decide +kernel
theorem d_Placings_cellsWithin_7 : decode b_Placings_cellsWithin 7 = .ok (.aload_n 0, 1) := by decide +kernel
theorem d_Placings_cellsWithin_8 : decode b_Placings_cellsWithin 8 = .ok (.getfield 18, 3) := by decide +kernel
theorem d_Placings_cellsWithin_11 : decode b_Placings_cellsWithin 11 = .ok (.if_icmp .ge 35, 3) := by decide +kernel
theorem d_Placings_cellsWithin_14 : decode b_Placings_cellsWithin 14 = .ok (.aload_n 0, 1) := by decide +kernel
theorem d_Placings_cellsWithin_15 : decode b_Placings_cellsWithin 15 = .ok (.getfield 9, 3) := by decide +kernel
theorem d_Placings_cellsWithin_18 : decode b_Placings_cellsWithin 18 = .ok (.iload 4, 2) := by decide +kernel
theorem d_Placings_cellsWithin_20 : decode b_Placings_cellsWithin 20 = .ok (.iaload, 1) := by decide +kernel
theorem d_Placings_cellsWithin_21 : decode b_Placings_cellsWithin 21 = .ok (.iload_n 1, 1) := by decide +kernel
theorem d_Placings_cellsWithin_22 : decode b_Placings_cellsWithin 22 = .ok (.iconst (-1), 1) := by decide +kernel
theorem d_Placings_cellsWithin_23 : decode b_Placings_cellsWithin 23 = .ok (.ixor, 1) := by decide +kernel
theorem d_Placings_cellsWithin_24 : decode b_Placings_cellsWithin 24 = .ok (.iand, 1) := by decide +kernel
theorem d_Placings_cellsWithin_25 : decode b_Placings_cellsWithin 25 = .ok (.ifCond .ne 15, 3) := by decide +kernel
theorem d_Placings_cellsWithin_28 : decode b_Placings_cellsWithin 28 = .ok (.iload_n 2, 1) := by decide +kernel
theorem d_Placings_cellsWithin_29 : decode b_Placings_cellsWithin 29 = .ok (.iload 4, 2) := by decide +kernel
theorem d_Placings_cellsWithin_31 : decode b_Placings_cellsWithin 31 = .ok (.ishr, 1) := by decide +kernel
theorem d_Placings_cellsWithin_32 : decode b_Placings_cellsWithin 32 = .ok (.iconst 1, 1) := by decide +kernel
theorem d_Placings_cellsWithin_33 : decode b_Placings_cellsWithin 33 = .ok (.iand, 1) := by decide +kernel
theorem d_Placings_cellsWithin_34 : decode b_Placings_cellsWithin 34 = .ok (.ifCond .ne 6, 3) := by decide +kernel
theorem d_Placings_cellsWithin_37 : decode b_Placings_cellsWithin 37 = .ok (.iinc 3 1, 3) := by decide +kernel
theorem d_Placings_cellsWithin_40 : decode b_Placings_cellsWithin 40 = .ok (.iinc 4 1, 3) := by decide +kernel
theorem d_Placings_cellsWithin_43 : decode b_Placings_cellsWithin 43 = .ok (.goto (-38), 3) := by decide +kernel
theorem d_Placings_cellsWithin_46 : decode b_Placings_cellsWithin 46 = .ok (.iload_n 3, 1) := by decide +kernel
theorem d_Placings_cellsWithin_47 : decode b_Placings_cellsWithin 47 = .ok (.ireturn, 1) := by decide +kernel
theorem d_Placings_cellThatHitsMost_0 : decode b_Placings_cellThatHitsMost 0 = .ok (.aload_n 0, 1) := by decide +kernel
theorem d_Placings_cellThatHitsMost_1 : decode b_Placings_cellThatHitsMost 1 = .ok (.iload_n 2, 1) := by decide +kernel
theorem d_Placings_cellThatHitsMost_2 : decode b_Placings_cellThatHitsMost 2 = .ok (.iload_n 3, 1) := by decide +kernel
theorem d_Placings_cellThatHitsMost_3 : decode b_Placings_cellThatHitsMost 3 = .ok (.iconst 0, 1) := by decide +kernel
theorem d_Placings_cellThatHitsMost_4 : decode b_Placings_cellThatHitsMost 4 = .ok (.invokevirtual 54, 3) := by decide +kernel
theorem d_Placings_cellThatHitsMost_7 : decode b_Placings_cellThatHitsMost 7 = .ok (.istore 4, 2) := by decide +kernel
theorem d_Placings_cellThatHitsMost_9 : decode b_Placings_cellThatHitsMost 9 = .ok (.iconst (-1), 1) := by decide +kernel
theorem d_Placings_cellThatHitsMost_10 : decode b_Placings_cellThatHitsMost 10 = .ok (.istore 5, 2) := by decide +kernel
theorem d_Placings_cellThatHitsMost_12 : decode b_Placings_cellThatHitsMost 12 = .ok (.iload 4, 2) := by decide +kernel
theorem d_Placings_cellThatHitsMost_14 : decode b_Placings_cellThatHitsMost 14 = .ok (.istore 6, 2) := by decide +kernel
theorem d_Placings_cellThatHitsMost_16 : decode b_Placings_cellThatHitsMost 16 = .ok (.iconst 0, 1) := by decide +kernel
theorem d_Placings_cellThatHitsMost_17 : decode b_Placings_cellThatHitsMost 17 = .ok (.istore 7, 2) := by decide +kernel
theorem d_Placings_cellThatHitsMost_19 : decode b_Placings_cellThatHitsMost 19 = .ok (.iload 7, 2) := by decide +kernel
theorem d_Placings_cellThatHitsMost_21 : decode b_Placings_cellThatHitsMost 21 = .ok (.aload_n 0, 1) := by decide +kernel
theorem d_Placings_cellThatHitsMost_22 : decode b_Placings_cellThatHitsMost 22 = .ok (.getfield 18, 3) := by decide +kernel
theorem d_Placings_cellThatHitsMost_25 : decode b_Placings_cellThatHitsMost 25 = .ok (.if_icmp .ge 50, 3) := by decide +kernel
theorem d_Placings_cellThatHitsMost_28 : decode b_Placings_cellThatHitsMost 28 = .ok (.iload 4, 2) := by decide +kernel
theorem d_Placings_cellThatHitsMost_30 : decode b_Placings_cellThatHitsMost 30 = .ok (.ifCond .le 45, 3) := by decide +kernel
theorem d_Placings_cellThatHitsMost_33 : decode b_Placings_cellThatHitsMost 33 = .ok (.aload_n 0, 1) := by decide +kernel
theorem d_Placings_cellThatHitsMost_34 : decode b_Placings_cellThatHitsMost 34 = .ok (.iload_n 2, 1) := by decide +kernel
theorem d_Placings_cellThatHitsMost_35 : decode b_Placings_cellThatHitsMost 35 = .ok (.iload_n 3, 1) := by decide +kernel
theorem d_Placings_cellThatHitsMost_36 : decode b_Placings_cellThatHitsMost 36 = .ok (.aload_n 0, 1) := by decide +kernel
theorem d_Placings_cellThatHitsMost_37 : decode b_Placings_cellThatHitsMost 37 = .ok (.aload_n 1, 1) := by decide +kernel
theorem d_Placings_cellThatHitsMost_38 : decode b_Placings_cellThatHitsMost 38 = .ok (.iload 7, 2) := by decide +kernel
theorem d_Placings_cellThatHitsMost_40 : decode b_Placings_cellThatHitsMost 40 = .ok (.invokevirtual 58, 3) := by decide +kernel
theorem d_Placings_cellThatHitsMost_43 : decode b_Placings_cellThatHitsMost 43 = .ok (.invokevirtual 54, 3) := by decide +kernel
theorem d_Placings_cellThatHitsMost_46 : decode b_Placings_cellThatHitsMost 46 = .ok (.istore 8, 2) := by decide +kernel
theorem d_Placings_cellThatHitsMost_48 : decode b_Placings_cellThatHitsMost 48 = .ok (.iload 5, 2) := by decide +kernel
theorem d_Placings_cellThatHitsMost_50 : decode b_Placings_cellThatHitsMost 50 = .ok (.iconst (-1), 1) := by decide +kernel
theorem d_Placings_cellThatHitsMost_51 : decode b_Placings_cellThatHitsMost 51 = .ok (.if_icmp .eq 10, 3) := by decide +kernel
theorem d_Placings_cellThatHitsMost_54 : decode b_Placings_cellThatHitsMost 54 = .ok (.iload 8, 2) := by decide +kernel
theorem d_Placings_cellThatHitsMost_56 : decode b_Placings_cellThatHitsMost 56 = .ok (.iload 6, 2) := by decide +kernel
theorem d_Placings_cellThatHitsMost_58 : decode b_Placings_cellThatHitsMost 58 = .ok (.if_icmp .ge 11, 3) := by decide +kernel
theorem d_Placings_cellThatHitsMost_61 : decode b_Placings_cellThatHitsMost 61 = .ok (.iload 7, 2) := by decide +kernel
theorem d_Placings_cellThatHitsMost_63 : decode b_Placings_cellThatHitsMost 63 = .ok (.istore 5, 2) := by decide +kernel
theorem d_Placings_cellThatHitsMost_65 : decode b_Placings_cellThatHitsMost 65 = .ok (.iload 8, 2) := by decide +kernel
theorem d_Placings_cellThatHitsMost_67 : decode b_Placings_cellThatHitsMost 67 = .ok (.istore 6, 2) := by decide +kernel
theorem d_Placings_cellThatHitsMost_69 : decode b_Placings_cellThatHitsMost 69 = .ok (.iinc 7 1, 3) := by decide +kernel
theorem d_Placings_cellThatHitsMost_72 : decode b_Placings_cellThatHitsMost 72 = .ok (.goto (-53), 3) := by decide +kernel
theorem d_Placings_cellThatHitsMost_75 : decode b_Placings_cellThatHitsMost 75 = .ok (.iload 5, 2) := by decide +kernel
theorem d_Placings_cellThatHitsMost_77 : decode b_Placings_cellThatHitsMost 77 = .ok (.ireturn, 1) := by decide +kernel
theorem d_Placings_hitCells_0 : decode b_Placings_hitCells 0 = .ok (.iconst 0, 1) := by decide +kernel
theorem d_Placings_hitCells_1 : decode b_Placings_hitCells 1 = .ok (.istore_n 3, 1) := by decide +kernel
theorem d_Placings_hitCells_2 : decode b_Placings_hitCells 2 = .ok (.iconst 0, 1) := by decide +kernel
theorem d_Placings_hitCells_3 : decode b_Placings_hitCells 3 = .ok (.istore 4, 2) := by decide +kernel
theorem d_Placings_hitCells_5 : decode b_Placings_hitCells 5 = .ok (.iload 4, 2) := by decide +kernel
theorem d_Placings_hitCells_7 : decode b_Placings_hitCells 7 = .ok (.aload_n 0, 1) := by decide +kernel
theorem d_Placings_hitCells_8 : decode b_Placings_hitCells 8 = .ok (.getfield 18, 3) := by decide +kernel
theorem d_Placings_hitCells_11 : decode b_Placings_hitCells 11 = .ok (.if_icmp .ge 26, 3) := by decide +kernel
theorem d_Placings_hitCells_14 : decode b_Placings_hitCells 14 = .ok (.aload_n 1, 1) := by decide +kernel
theorem d_Placings_hitCells_15 : decode b_Placings_hitCells 15 = .ok (.iload 4, 2) := by decide +kernel
theorem d_Placings_hitCells_17 : decode b_Placings_hitCells 17 = .ok (.iload_n 2, 1) := by decide +kernel
theorem d_Placings_hitCells_18 : decode b_Placings_hitCells 18 = .ok (.invokevirtual 62, 3) := by decide +kernel
theorem d_Placings_hitCells_21 : decode b_Placings_hitCells 21 = .ok (.ifCond .eq 10, 3) := by decide +kernel
theorem d_Placings_hitCells_24 : decode b_Placings_hitCells 24 = .ok (.iload_n 3, 1) := by decide +kernel
theorem d_Placings_hitCells_25 : decode b_Placings_hitCells 25 = .ok (.iconst 1, 1) := by decide +kernel
theorem d_Placings_hitCells_26 : decode b_Placings_hitCells 26 = .ok (.iload 4, 2) := by decide +kernel
theorem d_Placings_hitCells_28 : decode b_Placings_hitCells 28 = .ok (.ishl, 1) := by decide +kernel
theorem d_Placings_hitCells_29 : decode b_Placings_hitCells 29 = .ok (.ior, 1) := by decide +kernel
theorem d_Placings_hitCells_30 : decode b_Placings_hitCells 30 = .ok (.istore_n 3, 1) := by decide +kernel
theorem d_Placings_hitCells_31 : decode b_Placings_hitCells 31 = .ok (.iinc 4 1, 3) := by decide +kernel
theorem d_Placings_hitCells_34 : decode b_Placings_hitCells 34 = .ok (.goto (-29), 3) := by decide +kernel
theorem d_Placings_hitCells_37 : decode b_Placings_hitCells 37 = .ok (.iload_n 3, 1) := by decide +kernel
theorem d_Placings_hitCells_38 : decode b_Placings_hitCells 38 = .ok (.ireturn, 1) := by decide +kernel
theorem d_Covering_solve_0 : decode b_Covering_solve 0 = .ok (.aload_n 0, 1) := by decide +kernel
theorem d_Covering_solve_1 : decode b_Covering_solve 1 = .ok (.aload_n 1, 1) := by decide +kernel
theorem d_Covering_solve_2 : decode b_Covering_solve 2 = .ok (.invokevirtual 25, 3) := by decide +kernel
theorem d_Covering_solve_5 : decode b_Covering_solve 5 = .ok (.bipush 25, 2) := by decide +kernel
theorem d_Covering_solve_7 : decode b_Covering_solve 7 = .ok (.invokestatic 30, 3) := by decide +kernel
theorem d_Covering_solve_10 : decode b_Covering_solve 10 = .ok (.putfield 18, 3) := by decide +kernel
theorem d_Covering_solve_13 : decode b_Covering_solve 13 = .ok (.aload_n 0, 1) := by decide +kernel
theorem d_Covering_solve_14 : decode b_Covering_solve 14 = .ok (.iconst 1, 1) := by decide +kernel
theorem d_Covering_solve_15 : decode b_Covering_solve 15 = .ok (.iload_n 3, 1) := by decide +kernel
theorem d_Covering_solve_16 : decode b_Covering_solve 16 = .ok (.ishl, 1) := by decide +kernel
theorem d_Covering_solve_17 : decode b_Covering_solve 17 = .ok (.iconst 1, 1) := by decide +kernel
theorem d_Covering_solve_18 : decode b_Covering_solve 18 = .ok (.isub, 1) := by decide +kernel
theorem d_Covering_solve_19 : decode b_Covering_solve 19 = .ok (.putfield 22, 3) := by decide +kernel
theorem d_Covering_solve_22 : decode b_Covering_solve 22 = .ok (.aload_n 0, 1) := by decide +kernel
theorem d_Covering_solve_23 : decode b_Covering_solve 23 = .ok (.getfield 9, 3) := by decide +kernel
theorem d_Covering_solve_26 : decode b_Covering_solve 26 = .ok (.iconst 0, 1) := by decide +kernel
theorem d_Covering_solve_27 : decode b_Covering_solve 27 = .ok (.invokestatic 36, 3) := by decide +kernel
theorem d_Covering_solve_30 : decode b_Covering_solve 30 = .ok (.iconst 0, 1) := by decide +kernel
theorem d_Covering_solve_31 : decode b_Covering_solve 31 = .ok (.istore 4, 2) := by decide +kernel
theorem d_Covering_solve_33 : decode b_Covering_solve 33 = .ok (.iload 4, 2) := by decide +kernel
theorem d_Covering_solve_35 : decode b_Covering_solve 35 = .ok (.iload_n 3, 1) := by decide +kernel
theorem d_Covering_solve_36 : decode b_Covering_solve 36 = .ok (.if_icmp .ge 81, 3) := by decide +kernel
theorem d_Covering_solve_39 : decode b_Covering_solve 39 = .ok (.aload_n 2, 1) := by decide +kernel
theorem d_Covering_solve_40 : decode b_Covering_solve 40 = .ok (.iload 4, 2) := by decide +kernel
theorem d_Covering_solve_42 : decode b_Covering_solve 42 = .ok (.invokevirtual 42, 3) := by decide +kernel
theorem d_Covering_solve_45 : decode b_Covering_solve 45 = .ok (.lstore 5, 2) := by decide +kernel
theorem d_Covering_solve_47 : decode b_Covering_solve 47 = .ok (.lload 5, 2) := by decide +kernel
theorem d_Covering_solve_49 : decode b_Covering_solve 49 = .ok (.lconst 0, 1) := by decide +kernel
theorem d_Covering_solve_50 : decode b_Covering_solve 50 = .ok (.lcmp, 1) := by decide +kernel
theorem d_Covering_solve_51 : decode b_Covering_solve 51 = .ok (.ifCond .lt 14, 3) := by decide +kernel
theorem d_Covering_solve_54 : decode b_Covering_solve 54 = .ok (.lload 5, 2) := by decide +kernel
theorem d_Covering_solve_56 : decode b_Covering_solve 56 = .ok (.aload_n 0, 1) := by decide +kernel
theorem d_Covering_solve_57 : decode b_Covering_solve 57 = .ok (.getfield 18, 3) := by decide +kernel
theorem d_Covering_solve_60 : decode b_Covering_solve 60 = .ok (.i2l, 1) := by decide +kernel
theorem d_Covering_solve_61 : decode b_Covering_solve 61 = .ok (.lcmp, 1) := by decide +kernel
theorem d_Covering_solve_62 : decode b_Covering_solve 62 = .ok (.ifCond .lt 5, 3) := by decide +kernel
theorem d_Covering_solve_65 : decode b_Covering_solve 65 = .ok (.iconst 0, 1) := by decide +kernel
theorem d_Covering_solve_66 : decode b_Covering_solve 66 = .ok (.ireturn, 1) := by decide +kernel
theorem d_Covering_solve_67 : decode b_Covering_solve 67 = .ok (.iconst 0, 1) := by decide +kernel
theorem d_Covering_solve_68 : decode b_Covering_solve 68 = .ok (.istore 7, 2) := by decide +kernel
theorem d_Covering_solve_70 : decode b_Covering_solve 70 = .ok (.iload 7, 2) := by decide +kernel
theorem d_Covering_solve_72 : decode b_Covering_solve 72 = .ok (.aload_n 0, 1) := by decide +kernel
theorem d_Covering_solve_73 : decode b_Covering_solve 73 = .ok (.getfield 18, 3) := by decide +kernel
theorem d_Covering_solve_76 : decode b_Covering_solve 76 = .ok (.if_icmp .ge 35, 3) := by decide +kernel
theorem d_Covering_solve_79 : decode b_Covering_solve 79 = .ok (.aload_n 1, 1) := by decide +kernel
theorem d_Covering_solve_80 : decode b_Covering_solve 80 = .ok (.iload 7, 2) := by decide +kernel
theorem d_Covering_solve_82 : decode b_Covering_solve 82 = .ok (.lload 5, 2) := by decide +kernel
theorem d_Covering_solve_84 : decode b_Covering_solve 84 = .ok (.l2i, 1) := by decide +kernel
theorem d_Covering_solve_85 : decode b_Covering_solve 85 = .ok (.invokevirtual 48, 3) := by decide +kernel
theorem d_Covering_solve_88 : decode b_Covering_solve 88 = .ok (.ifCond .eq 17, 3) := by decide +kernel
theorem d_Covering_solve_91 : decode b_Covering_solve 91 = .ok (.aload_n 0, 1) := by decide +kernel
theorem d_Covering_solve_92 : decode b_Covering_solve 92 = .ok (.getfield 9, 3) := by decide +kernel
theorem d_Covering_solve_95 : decode b_Covering_solve 95 = .ok (.iload 7, 2) := by decide +kernel
theorem d_Covering_solve_97 : decode b_Covering_solve 97 = .ok (.dup2, 1) := by decide +kernel
theorem d_Covering_solve_98 : decode b_Covering_solve 98 = .ok (.iaload, 1) := by decide +kernel
theorem d_Covering_solve_99 : decode b_Covering_solve 99 = .ok (.iconst 1, 1) := by decide +kernel
theorem d_Covering_solve_100 : decode b_Covering_solve 100 = .ok (.iload 4, 2) := by decide +kernel
theorem d_Covering_solve_102 : decode b_Covering_solve 102 = .ok (.ishl, 1) := by decide +kernel
theorem d_Covering_solve_103 : decode b_Covering_solve 103 = .ok (.ior, 1) := by decide +kernel
theorem d_Covering_solve_104 : decode b_Covering_solve 104 = .ok (.iastore, 1) := by decide +kernel
theorem d_Covering_solve_105 : decode b_Covering_solve 105 = .ok (.iinc 7 1, 3) := by decide +kernel
theorem d_Covering_solve_108 : decode b_Covering_solve 108 = .ok (.goto (-38), 3) := by decide +kernel
theorem d_Covering_solve_111 : decode b_Covering_solve 111 = .ok (.iinc 4 1, 3) := by decide +kernel
theorem d_Covering_solve_114 : decode b_Covering_solve 114 = .ok (.goto (-81), 3) := by decide +kernel
theorem d_Covering_solve_117 : decode b_Covering_solve 117 = .ok (.iconst 1, 1) := by decide +kernel
theorem d_Covering_solve_118 : decode b_Covering_solve 118 = .ok (.istore 4, 2) := by decide +kernel
theorem d_Covering_solve_120 : decode b_Covering_solve 120 = .ok (.iload 4, 2) := by decide +kernel
theorem d_Covering_solve_122 : decode b_Covering_solve 122 = .ok (.aload_n 0, 1) := by decide +kernel
theorem d_Covering_solve_123 : decode b_Covering_solve 123 = .ok (.getfield 22, 3) := by decide +kernel
theorem d_Covering_solve_126 : decode b_Covering_solve 126 = .ok (.if_icmp .gt 22, 3) := by decide +kernel
theorem d_Covering_solve_129 : decode b_Covering_solve 129 = .ok (.aload_n 0, 1) := by decide +kernel
theorem d_Covering_solve_130 : decode b_Covering_solve 130 = .ok (.getfield 15, 3) := by decide +kernel
theorem d_Covering_solve_133 : decode b_Covering_solve 133 = .ok (.iload 4, 2) := by decide +kernel
theorem d_Covering_solve_135 : decode b_Covering_solve 135 = .ok (.aload_n 0, 1) := by decide +kernel
theorem d_Covering_solve_136 : decode b_Covering_solve 136 = .ok (.iload 4, 2) := by decide +kernel
theorem d_Covering_solve_138 : decode b_Covering_solve 138 = .ok (.invokevirtual 52, 3) := by decide +kernel
theorem d_Covering_solve_141 : decode b_Covering_solve 141 = .ok (.iastore, 1) := by decide +kernel
theorem d_Covering_solve_142 : decode b_Covering_solve 142 = .ok (.iinc 4 1, 3) := by decide +kernel
theorem d_Covering_solve_145 : decode b_Covering_solve 145 = .ok (.goto (-25), 3) := by decide +kernel
theorem d_Covering_solve_148 : decode b_Covering_solve 148 = .ok (.iconst 1, 1) := by decide +kernel
theorem d_Covering_solve_149 : decode b_Covering_solve 149 = .ok (.ireturn, 1) := by decide +kernel
theorem d_Covering_fewestFor_0 : decode b_Covering_fewestFor 0 = .ok (.iload_n 1, 1) := by decide +kernel
theorem d_Covering_fewestFor_1 : decode b_Covering_fewestFor 1 = .ok (.iload_n 1, 1) := by decide +kernel
theorem d_Covering_fewestFor_2 : decode b_Covering_fewestFor 2 = .ok (.ineg, 1) := by decide +kernel
theorem d_Covering_fewestFor_3 : decode b_Covering_fewestFor 3 = .ok (.iand, 1) := by decide +kernel
theorem d_Covering_fewestFor_4 : decode b_Covering_fewestFor 4 = .ok (.istore_n 2, 1) := by decide +kernel
theorem d_Covering_fewestFor_5 : decode b_Covering_fewestFor 5 = .ok (.sipush 1000, 3) := by decide +kernel
theorem d_Covering_fewestFor_8 : decode b_Covering_fewestFor 8 = .ok (.istore_n 3, 1) := by decide +kernel
theorem d_Covering_fewestFor_9 : decode b_Covering_fewestFor 9 = .ok (.iconst 0, 1) := by decide +kernel
theorem d_Covering_fewestFor_10 : decode b_Covering_fewestFor 10 = .ok (.istore 4, 2) := by decide +kernel
theorem d_Covering_fewestFor_12 : decode b_Covering_fewestFor 12 = .ok (.iload 4, 2) := by decide +kernel
theorem d_Covering_fewestFor_14 : decode b_Covering_fewestFor 14 = .ok (.aload_n 0, 1) := by decide +kernel
theorem d_Covering_fewestFor_15 : decode b_Covering_fewestFor 15 = .ok (.getfield 18, 3) := by decide +kernel
theorem d_Covering_fewestFor_18 : decode b_Covering_fewestFor 18 = .ok (.if_icmp .ge 44, 3) := by decide +kernel
theorem d_Covering_fewestFor_21 : decode b_Covering_fewestFor 21 = .ok (.aload_n 0, 1) := by decide +kernel
theorem d_Covering_fewestFor_22 : decode b_Covering_fewestFor 22 = .ok (.getfield 9, 3) := by decide +kernel
theorem d_Covering_fewestFor_25 : decode b_Covering_fewestFor 25 = .ok (.iload 4, 2) := by decide +kernel
theorem d_Covering_fewestFor_27 : decode b_Covering_fewestFor 27 = .ok (.iaload, 1) := by decide +kernel
theorem d_Covering_fewestFor_28 : decode b_Covering_fewestFor 28 = .ok (.iload_n 2, 1) := by decide +kernel
theorem d_Covering_fewestFor_29 : decode b_Covering_fewestFor 29 = .ok (.iand, 1) := by decide +kernel
theorem d_Covering_fewestFor_30 : decode b_Covering_fewestFor 30 = .ok (.ifCond .eq 26, 3) := by decide +kernel
theorem d_Covering_fewestFor_33 : decode b_Covering_fewestFor 33 = .ok (.iload_n 3, 1) := by decide +kernel
theorem d_Covering_fewestFor_34 : decode b_Covering_fewestFor 34 = .ok (.aload_n 0, 1) := by decide +kernel
theorem d_Covering_fewestFor_35 : decode b_Covering_fewestFor 35 = .ok (.getfield 15, 3) := by decide +kernel
theorem d_Covering_fewestFor_38 : decode b_Covering_fewestFor 38 = .ok (.iload_n 1, 1) := by decide +kernel
theorem d_Covering_fewestFor_39 : decode b_Covering_fewestFor 39 = .ok (.aload_n 0, 1) := by decide +kernel
theorem d_Covering_fewestFor_40 : decode b_Covering_fewestFor 40 = .ok (.getfield 9, 3) := by decide +kernel
theorem d_Covering_fewestFor_43 : decode b_Covering_fewestFor 43 = .ok (.iload 4, 2) := by decide +kernel
theorem d_Covering_fewestFor_45 : decode b_Covering_fewestFor 45 = .ok (.iaload, 1) := by decide +kernel
theorem d_Covering_fewestFor_46 : decode b_Covering_fewestFor 46 = .ok (.iconst (-1), 1) := by decide +kernel
theorem d_Covering_fewestFor_47 : decode b_Covering_fewestFor 47 = .ok (.ixor, 1) := by decide +kernel
theorem d_Covering_fewestFor_48 : decode b_Covering_fewestFor 48 = .ok (.iand, 1) := by decide +kernel
theorem d_Covering_fewestFor_49 : decode b_Covering_fewestFor 49 = .ok (.iaload, 1) := by decide +kernel
theorem d_Covering_fewestFor_50 : decode b_Covering_fewestFor 50 = .ok (.iconst 1, 1) := by decide +kernel
theorem d_Covering_fewestFor_51 : decode b_Covering_fewestFor 51 = .ok (.iadd, 1) := by decide +kernel
theorem d_Covering_fewestFor_52 : decode b_Covering_fewestFor 52 = .ok (.invokestatic 30, 3) := by decide +kernel
theorem d_Covering_fewestFor_55 : decode b_Covering_fewestFor 55 = .ok (.istore_n 3, 1) := by decide +kernel
theorem d_Covering_fewestFor_56 : decode b_Covering_fewestFor 56 = .ok (.iinc 4 1, 3) := by decide +kernel
theorem d_Covering_fewestFor_59 : decode b_Covering_fewestFor 59 = .ok (.goto (-47), 3) := by decide +kernel
theorem d_Covering_fewestFor_62 : decode b_Covering_fewestFor 62 = .ok (.iload_n 3, 1) := by decide +kernel
theorem d_Covering_fewestFor_63 : decode b_Covering_fewestFor 63 = .ok (.ireturn, 1) := by decide +kernel
theorem d_Covering_fewestThrows_0 : decode b_Covering_fewestThrows 0 = .ok (.aload_n 0, 1) := by decide +kernel
theorem d_Covering_fewestThrows_1 : decode b_Covering_fewestThrows 1 = .ok (.getfield 15, 3) := by decide +kernel
theorem d_Covering_fewestThrows_4 : decode b_Covering_fewestThrows 4 = .ok (.aload_n 0, 1) := by decide +kernel
theorem d_Covering_fewestThrows_5 : decode b_Covering_fewestThrows 5 = .ok (.getfield 22, 3) := by decide +kernel
theorem d_Covering_fewestThrows_8 : decode b_Covering_fewestThrows 8 = .ok (.iaload, 1) := by decide +kernel
theorem d_Covering_fewestThrows_9 : decode b_Covering_fewestThrows 9 = .ok (.ireturn, 1) := by decide +kernel
theorem d_Covering_cellOfRow_0 : decode b_Covering_cellOfRow 0 = .ok (.aload_n 0, 1) := by decide +kernel
theorem d_Covering_cellOfRow_1 : decode b_Covering_cellOfRow 1 = .ok (.getfield 22, 3) := by decide +kernel
theorem d_Covering_cellOfRow_4 : decode b_Covering_cellOfRow 4 = .ok (.istore_n 2, 1) := by decide +kernel
theorem d_Covering_cellOfRow_5 : decode b_Covering_cellOfRow 5 = .ok (.iconst (-1), 1) := by decide +kernel
theorem d_Covering_cellOfRow_6 : decode b_Covering_cellOfRow 6 = .ok (.istore_n 3, 1) := by decide +kernel
theorem d_Covering_cellOfRow_7 : decode b_Covering_cellOfRow 7 = .ok (.iconst 0, 1) := by decide +kernel
theorem d_Covering_cellOfRow_8 : decode b_Covering_cellOfRow 8 = .ok (.istore 4, 2) := by decide +kernel
theorem d_Covering_cellOfRow_10 : decode b_Covering_cellOfRow 10 = .ok (.iload 4, 2) := by decide +kernel
theorem d_Covering_cellOfRow_12 : decode b_Covering_cellOfRow 12 = .ok (.iload_n 1, 1) := by decide +kernel
theorem d_Covering_cellOfRow_13 : decode b_Covering_cellOfRow 13 = .ok (.if_icmp .gt 35, 3) := by decide +kernel
theorem d_Covering_cellOfRow_16 : decode b_Covering_cellOfRow 16 = .ok (.aload_n 0, 1) := by decide +kernel
theorem d_Covering_cellOfRow_17 : decode b_Covering_cellOfRow 17 = .ok (.iload_n 2, 1) := by decide +kernel
theorem d_Covering_cellOfRow_18 : decode b_Covering_cellOfRow 18 = .ok (.invokevirtual 56, 3) := by decide +kernel
theorem d_Covering_cellOfRow_21 : decode b_Covering_cellOfRow 21 = .ok (.istore_n 3, 1) := by decide +kernel
theorem d_Covering_cellOfRow_22 : decode b_Covering_cellOfRow 22 = .ok (.iload_n 3, 1) := by decide +kernel
theorem d_Covering_cellOfRow_23 : decode b_Covering_cellOfRow 23 = .ok (.iconst (-1), 1) := by decide +kernel
theorem d_Covering_cellOfRow_24 : decode b_Covering_cellOfRow 24 = .ok (.if_icmp .ne 7, 3) := by decide +kernel
theorem d_Covering_cellOfRow_27 : decode b_Covering_cellOfRow 27 = .ok (.iload_n 2, 1) := by decide +kernel
theorem d_Covering_cellOfRow_28 : decode b_Covering_cellOfRow 28 = .ok (.goto 13, 3) := by decide +kernel
theorem d_Covering_cellOfRow_31 : decode b_Covering_cellOfRow 31 = .ok (.iload_n 2, 1) := by decide +kernel
theorem d_Covering_cellOfRow_32 : decode b_Covering_cellOfRow 32 = .ok (.aload_n 0, 1) := by decide +kernel
theorem d_Covering_cellOfRow_33 : decode b_Covering_cellOfRow 33 = .ok (.getfield 9, 3) := by decide +kernel
theorem d_Covering_cellOfRow_36 : decode b_Covering_cellOfRow 36 = .ok (.iload_n 3, 1) := by decide +kernel
theorem d_Covering_cellOfRow_37 : decode b_Covering_cellOfRow 37 = .ok (.iaload, 1) := by decide +kernel
theorem d_Covering_cellOfRow_38 : decode b_Covering_cellOfRow 38 = .ok (.iconst (-1), 1) := by decide +kernel
theorem d_Covering_cellOfRow_39 : decode b_Covering_cellOfRow 39 = .ok (.ixor, 1) := by decide +kernel
theorem d_Covering_cellOfRow_40 : decode b_Covering_cellOfRow 40 = .ok (.iand, 1) := by decide +kernel
theorem d_Covering_cellOfRow_41 : decode b_Covering_cellOfRow 41 = .ok (.istore_n 2, 1) := by decide +kernel
theorem d_Covering_cellOfRow_42 : decode b_Covering_cellOfRow 42 = .ok (.iinc 4 1, 3) := by decide +kernel
theorem d_Covering_cellOfRow_45 : decode b_Covering_cellOfRow 45 = .ok (.goto (-35), 3) := by decide +kernel
theorem d_Covering_cellOfRow_48 : decode b_Covering_cellOfRow 48 = .ok (.iload_n 3, 1) := by decide +kernel
theorem d_Covering_cellOfRow_49 : decode b_Covering_cellOfRow 49 = .ok (.ireturn, 1) := by decide +kernel
theorem d_Covering_firstGoodCell_0 : decode b_Covering_firstGoodCell 0 = .ok (.iconst 0, 1) := by decide +kernel
theorem d_Covering_firstGoodCell_1 : decode b_Covering_firstGoodCell 1 = .ok (.istore_n 2, 1) := by decide +kernel
theorem d_Covering_firstGoodCell_2 : decode b_Covering_firstGoodCell 2 = .ok (.iload_n 2, 1) := by decide +kernel
theorem d_Covering_firstGoodCell_3 : decode b_Covering_firstGoodCell 3 = .ok (.aload_n 0, 1) := by decide +kernel
theorem d_Covering_firstGoodCell_4 : decode b_Covering_firstGoodCell 4 = .ok (.getfield 18, 3) := by decide +kernel
theorem d_Covering_firstGoodCell_7 : decode b_Covering_firstGoodCell 7 = .ok (.if_icmp .ge 37, 3) := by decide +kernel
theorem d_Covering_firstGoodCell_10 : decode b_Covering_firstGoodCell 10 = .ok (.aload_n 0, 1) := by decide +kernel
theorem d_Covering_firstGoodCell_11 : decode b_Covering_firstGoodCell 11 = .ok (.getfield 15, 3) := by decide +kernel
theorem d_Covering_firstGoodCell_14 : decode b_Covering_firstGoodCell 14 = .ok (.iload_n 1, 1) := by decide +kernel
theorem d_Covering_firstGoodCell_15 : decode b_Covering_firstGoodCell 15 = .ok (.aload_n 0, 1) := by decide +kernel
theorem d_Covering_firstGoodCell_16 : decode b_Covering_firstGoodCell 16 = .ok (.getfield 9, 3) := by decide +kernel
theorem d_Covering_firstGoodCell_19 : decode b_Covering_firstGoodCell 19 = .ok (.iload_n 2, 1) := by decide +kernel
theorem d_Covering_firstGoodCell_20 : decode b_Covering_firstGoodCell 20 = .ok (.iaload, 1) := by decide +kernel
theorem d_Covering_firstGoodCell_21 : decode b_Covering_firstGoodCell 21 = .ok (.iconst (-1), 1) := by decide +kernel
theorem d_Covering_firstGoodCell_22 : decode b_Covering_firstGoodCell 22 = .ok (.ixor, 1) := by decide +kernel
theorem d_Covering_firstGoodCell_23 : decode b_Covering_firstGoodCell 23 = .ok (.iand, 1) := by decide +kernel
theorem d_Covering_firstGoodCell_24 : decode b_Covering_firstGoodCell 24 = .ok (.iaload, 1) := by decide +kernel
theorem d_Covering_firstGoodCell_25 : decode b_Covering_firstGoodCell 25 = .ok (.aload_n 0, 1) := by decide +kernel
theorem d_Covering_firstGoodCell_26 : decode b_Covering_firstGoodCell 26 = .ok (.getfield 15, 3) := by decide +kernel
theorem d_Covering_firstGoodCell_29 : decode b_Covering_firstGoodCell 29 = .ok (.iload_n 1, 1) := by decide +kernel
theorem d_Covering_firstGoodCell_30 : decode b_Covering_firstGoodCell 30 = .ok (.iaload, 1) := by decide +kernel
theorem d_Covering_firstGoodCell_31 : decode b_Covering_firstGoodCell 31 = .ok (.iconst 1, 1) := by decide +kernel
theorem d_Covering_firstGoodCell_32 : decode b_Covering_firstGoodCell 32 = .ok (.isub, 1) := by decide +kernel
theorem d_Covering_firstGoodCell_33 : decode b_Covering_firstGoodCell 33 = .ok (.if_icmp .ne 5, 3) := by decide +kernel
theorem d_Covering_firstGoodCell_36 : decode b_Covering_firstGoodCell 36 = .ok (.iload_n 2, 1) := by decide +kernel
theorem d_Covering_firstGoodCell_37 : decode b_Covering_firstGoodCell 37 = .ok (.ireturn, 1) := by decide +kernel
theorem d_Covering_firstGoodCell_38 : decode b_Covering_firstGoodCell 38 = .ok (.iinc 2 1, 3) := by decide +kernel
theorem d_Covering_firstGoodCell_41 : decode b_Covering_firstGoodCell 41 = .ok (.goto (-39), 3) := by decide +kernel
theorem d_Covering_firstGoodCell_44 : decode b_Covering_firstGoodCell 44 = .ok (.iconst (-1), 1) := by decide +kernel
theorem d_Covering_firstGoodCell_45 : decode b_Covering_firstGoodCell 45 = .ok (.ireturn, 1) := by decide +kernel
theorem d_Knowing_firstRound_0 : decode b_Knowing_firstRound 0 = .ok (.aload_n 0, 1) := by decide +kernel
theorem d_Knowing_firstRound_1 : decode b_Knowing_firstRound 1 = .ok (.aload_n 1, 1) := by decide +kernel
theorem d_Knowing_firstRound_2 : decode b_Knowing_firstRound 2 = .ok (.iload_n 3, 1) := by decide +kernel
theorem d_Knowing_firstRound_3 : decode b_Knowing_firstRound 3 = .ok (.invokevirtual 23, 3) := by decide +kernel
theorem d_Knowing_firstRound_6 : decode b_Knowing_firstRound 6 = .ok (.iconst 1, 1) := by decide +kernel
theorem d_Knowing_firstRound_7 : decode b_Knowing_firstRound 7 = .ok (.istore 4, 2) := by decide +kernel
theorem d_Knowing_firstRound_9 : decode b_Knowing_firstRound 9 = .ok (.iload 4, 2) := by decide +kernel
theorem d_Knowing_firstRound_11 : decode b_Knowing_firstRound 11 = .ok (.bipush 64, 2) := by decide +kernel
theorem d_Knowing_firstRound_13 : decode b_Knowing_firstRound 13 = .ok (.if_icmp .gt 30, 3) := by decide +kernel
theorem d_Knowing_firstRound_16 : decode b_Knowing_firstRound 16 = .ok (.aload_n 0, 1) := by decide +kernel
theorem d_Knowing_firstRound_17 : decode b_Knowing_firstRound 17 = .ok (.iload_n 2, 1) := by decide +kernel
theorem d_Knowing_firstRound_18 : decode b_Knowing_firstRound 18 = .ok (.invokevirtual 27, 3) := by decide +kernel
theorem d_Knowing_firstRound_21 : decode b_Knowing_firstRound 21 = .ok (.ifCond .eq 6, 3) := by decide +kernel
theorem d_Knowing_firstRound_24 : decode b_Knowing_firstRound 24 = .ok (.iload 4, 2) := by decide +kernel
theorem d_Knowing_firstRound_26 : decode b_Knowing_firstRound 26 = .ok (.ireturn, 1) := by decide +kernel
theorem d_Knowing_firstRound_27 : decode b_Knowing_firstRound 27 = .ok (.aload_n 0, 1) := by decide +kernel
theorem d_Knowing_firstRound_28 : decode b_Knowing_firstRound 28 = .ok (.iload_n 2, 1) := by decide +kernel
theorem d_Knowing_firstRound_29 : decode b_Knowing_firstRound 29 = .ok (.invokevirtual 31, 3) := by decide +kernel
theorem d_Knowing_firstRound_32 : decode b_Knowing_firstRound 32 = .ok (.ifCond .ne 5, 3) := by decide +kernel
theorem d_Knowing_firstRound_35 : decode b_Knowing_firstRound 35 = .ok (.iconst (-1), 1) := by decide +kernel
theorem d_Knowing_firstRound_36 : decode b_Knowing_firstRound 36 = .ok (.ireturn, 1) := by decide +kernel
theorem d_Knowing_firstRound_37 : decode b_Knowing_firstRound 37 = .ok (.iinc 4 1, 3) := by decide +kernel
theorem d_Knowing_firstRound_40 : decode b_Knowing_firstRound 40 = .ok (.goto (-31), 3) := by decide +kernel
theorem d_Knowing_firstRound_43 : decode b_Knowing_firstRound 43 = .ok (.iconst (-1), 1) := by decide +kernel
theorem d_Knowing_firstRound_44 : decode b_Knowing_firstRound 44 = .ok (.ireturn, 1) := by decide +kernel
theorem d_Knowing_look_0 : decode b_Knowing_look 0 = .ok (.aload_n 0, 1) := by decide +kernel
theorem d_Knowing_look_1 : decode b_Knowing_look 1 = .ok (.aload_n 1, 1) := by decide +kernel
theorem d_Knowing_look_2 : decode b_Knowing_look 2 = .ok (.getfield 35, 3) := by decide +kernel
theorem d_Knowing_look_5 : decode b_Knowing_look 5 = .ok (.putfield 15, 3) := by decide +kernel
theorem d_Knowing_look_8 : decode b_Knowing_look 8 = .ok (.iconst 0, 1) := by decide +kernel
theorem d_Knowing_look_9 : decode b_Knowing_look 9 = .ok (.istore_n 3, 1) := by decide +kernel
theorem d_Knowing_look_10 : decode b_Knowing_look 10 = .ok (.iload_n 3, 1) := by decide +kernel
theorem d_Knowing_look_11 : decode b_Knowing_look 11 = .ok (.aload_n 0, 1) := by decide +kernel
theorem d_Knowing_look_12 : decode b_Knowing_look 12 = .ok (.getfield 15, 3) := by decide +kernel
theorem d_Knowing_look_15 : decode b_Knowing_look 15 = .ok (.if_icmp .ge 32, 3) := by decide +kernel
theorem d_Knowing_look_18 : decode b_Knowing_look 18 = .ok (.aload_n 0, 1) := by decide +kernel
theorem d_Knowing_look_19 : decode b_Knowing_look 19 = .ok (.getfield 9, 3) := by decide +kernel
theorem d_Knowing_look_22 : decode b_Knowing_look 22 = .ok (.iload_n 3, 1) := by decide +kernel
theorem d_Knowing_look_23 : decode b_Knowing_look 23 = .ok (.aload_n 1, 1) := by decide +kernel
theorem d_Knowing_look_24 : decode b_Knowing_look 24 = .ok (.aload_n 1, 1) := by decide +kernel
theorem d_Knowing_look_25 : decode b_Knowing_look 25 = .ok (.getfield 38, 3) := by decide +kernel
theorem d_Knowing_look_28 : decode b_Knowing_look 28 = .ok (.iload_n 3, 1) := by decide +kernel
theorem d_Knowing_look_29 : decode b_Knowing_look 29 = .ok (.iaload, 1) := by decide +kernel
theorem d_Knowing_look_30 : decode b_Knowing_look 30 = .ok (.iload_n 2, 1) := by decide +kernel
theorem d_Knowing_look_31 : decode b_Knowing_look 31 = .ok (.invokevirtual 41, 3) := by decide +kernel
theorem d_Knowing_look_34 : decode b_Knowing_look 34 = .ok (.iconst 1, 1) := by decide +kernel
theorem d_Knowing_look_35 : decode b_Knowing_look 35 = .ok (.iload_n 3, 1) := by decide +kernel
theorem d_Knowing_look_36 : decode b_Knowing_look 36 = .ok (.ishl, 1) := by decide +kernel
theorem d_Knowing_look_37 : decode b_Knowing_look 37 = .ok (.iconst (-1), 1) := by decide +kernel
theorem d_Knowing_look_38 : decode b_Knowing_look 38 = .ok (.ixor, 1) := by decide +kernel
theorem d_Knowing_look_39 : decode b_Knowing_look 39 = .ok (.iand, 1) := by decide +kernel
theorem d_Knowing_look_40 : decode b_Knowing_look 40 = .ok (.iastore, 1) := by decide +kernel
theorem d_Knowing_look_41 : decode b_Knowing_look 41 = .ok (.iinc 3 1, 3) := by decide +kernel
theorem d_Knowing_look_44 : decode b_Knowing_look 44 = .ok (.goto (-34), 3) := by decide +kernel
theorem d_Knowing_look_47 : decode b_Knowing_look 47 = .ok (.aload_n 0, 1) := by decide +kernel
theorem d_Knowing_look_48 : decode b_Knowing_look 48 = .ok (.lconst 0, 1) := by decide +kernel
theorem d_Knowing_look_49 : decode b_Knowing_look 49 = .ok (.putfield 19, 3) := by decide +kernel
theorem d_Knowing_look_52 : decode b_Knowing_look 52 = .ok (.iconst 1, 1) := by decide +kernel
theorem d_Knowing_look_53 : decode b_Knowing_look 53 = .ok (.istore_n 3, 1) := by decide +kernel
theorem d_Knowing_look_54 : decode b_Knowing_look 54 = .ok (.iload_n 3, 1) := by decide +kernel
theorem d_Knowing_look_55 : decode b_Knowing_look 55 = .ok (.iconst 1, 1) := by decide +kernel
theorem d_Knowing_look_56 : decode b_Knowing_look 56 = .ok (.aload_n 0, 1) := by decide +kernel
theorem d_Knowing_look_57 : decode b_Knowing_look 57 = .ok (.getfield 15, 3) := by decide +kernel
theorem d_Knowing_look_60 : decode b_Knowing_look 60 = .ok (.ishl, 1) := by decide +kernel
theorem d_Knowing_look_61 : decode b_Knowing_look 61 = .ok (.if_icmp .ge 21, 3) := by decide +kernel
theorem d_Knowing_look_64 : decode b_Knowing_look 64 = .ok (.aload_n 0, 1) := by decide +kernel
theorem d_Knowing_look_65 : decode b_Knowing_look 65 = .ok (.dup, 1) := by decide +kernel
theorem d_Knowing_look_66 : decode b_Knowing_look 66 = .ok (.getfield 19, 3) := by decide +kernel
theorem d_Knowing_look_69 : decode b_Knowing_look 69 = .ok (.lconst 1, 1) := by decide +kernel
theorem d_Knowing_look_70 : decode b_Knowing_look 70 = .ok (.iload_n 3, 1) := by decide +kernel
theorem d_Knowing_look_71 : decode b_Knowing_look 71 = .ok (.lshl, 1) := by decide +kernel
theorem d_Knowing_look_72 : decode b_Knowing_look 72 = .ok (.lor, 1) := by decide +kernel
theorem d_Knowing_look_73 : decode b_Knowing_look 73 = .ok (.putfield 19, 3) := by decide +kernel
theorem d_Knowing_look_76 : decode b_Knowing_look 76 = .ok (.iinc 3 1, 3) := by decide +kernel
theorem d_Knowing_look_79 : decode b_Knowing_look 79 = .ok (.goto (-25), 3) := by decide +kernel
theorem d_Knowing_look_82 : decode b_Knowing_look 82 = .ok (.return_, 1) := by decide +kernel
theorem d_Knowing_knowersIn_0 : decode b_Knowing_knowersIn 0 = .ok (.iconst 0, 1) := by decide +kernel
theorem d_Knowing_knowersIn_1 : decode b_Knowing_knowersIn 1 = .ok (.istore_n 2, 1) := by decide +kernel
theorem d_Knowing_knowersIn_2 : decode b_Knowing_knowersIn 2 = .ok (.iconst 0, 1) := by decide +kernel
theorem d_Knowing_knowersIn_3 : decode b_Knowing_knowersIn 3 = .ok (.istore_n 3, 1) := by decide +kernel
theorem d_Knowing_knowersIn_4 : decode b_Knowing_knowersIn 4 = .ok (.iload_n 3, 1) := by decide +kernel
theorem d_Knowing_knowersIn_5 : decode b_Knowing_knowersIn 5 = .ok (.aload_n 0, 1) := by decide +kernel
theorem d_Knowing_knowersIn_6 : decode b_Knowing_knowersIn 6 = .ok (.getfield 15, 3) := by decide +kernel
theorem d_Knowing_knowersIn_9 : decode b_Knowing_knowersIn 9 = .ok (.if_icmp .ge 33, 3) := by decide +kernel
theorem d_Knowing_knowersIn_12 : decode b_Knowing_knowersIn 12 = .ok (.iload_n 1, 1) := by decide +kernel
theorem d_Knowing_knowersIn_13 : decode b_Knowing_knowersIn 13 = .ok (.iload_n 3, 1) := by decide +kernel
theorem d_Knowing_knowersIn_14 : decode b_Knowing_knowersIn 14 = .ok (.ishr, 1) := by decide +kernel
theorem d_Knowing_knowersIn_15 : decode b_Knowing_knowersIn 15 = .ok (.iconst 1, 1) := by decide +kernel
theorem d_Knowing_knowersIn_16 : decode b_Knowing_knowersIn 16 = .ok (.iand, 1) := by decide +kernel
theorem d_Knowing_knowersIn_17 : decode b_Knowing_knowersIn 17 = .ok (.iconst 1, 1) := by decide +kernel
theorem d_Knowing_knowersIn_18 : decode b_Knowing_knowersIn 18 = .ok (.if_icmp .ne 18, 3) := by decide +kernel
theorem d_Knowing_knowersIn_21 : decode b_Knowing_knowersIn 21 = .ok (.aload_n 0, 1) := by decide +kernel
theorem d_Knowing_knowersIn_22 : decode b_Knowing_knowersIn 22 = .ok (.iload_n 3, 1) := by decide +kernel
theorem d_Knowing_knowersIn_23 : decode b_Knowing_knowersIn 23 = .ok (.iload_n 1, 1) := by decide +kernel
theorem d_Knowing_knowersIn_24 : decode b_Knowing_knowersIn 24 = .ok (.invokevirtual 48, 3) := by decide +kernel
theorem d_Knowing_knowersIn_27 : decode b_Knowing_knowersIn 27 = .ok (.ifCond .eq 9, 3) := by decide +kernel
theorem d_Knowing_knowersIn_30 : decode b_Knowing_knowersIn 30 = .ok (.iload_n 2, 1) := by decide +kernel
theorem d_Knowing_knowersIn_31 : decode b_Knowing_knowersIn 31 = .ok (.iconst 1, 1) := by decide +kernel
theorem d_Knowing_knowersIn_32 : decode b_Knowing_knowersIn 32 = .ok (.iload_n 3, 1) := by decide +kernel
theorem d_Knowing_knowersIn_33 : decode b_Knowing_knowersIn 33 = .ok (.ishl, 1) := by decide +kernel
theorem d_Knowing_knowersIn_34 : decode b_Knowing_knowersIn 34 = .ok (.ior, 1) := by decide +kernel
theorem d_Knowing_knowersIn_35 : decode b_Knowing_knowersIn 35 = .ok (.istore_n 2, 1) := by decide +kernel
theorem d_Knowing_knowersIn_36 : decode b_Knowing_knowersIn 36 = .ok (.iinc 3 1, 3) := by decide +kernel
theorem d_Knowing_knowersIn_39 : decode b_Knowing_knowersIn 39 = .ok (.goto (-35), 3) := by decide +kernel
theorem d_Knowing_knowersIn_42 : decode b_Knowing_knowersIn 42 = .ok (.iload_n 2, 1) := by decide +kernel
theorem d_Knowing_knowersIn_43 : decode b_Knowing_knowersIn 43 = .ok (.ireturn, 1) := by decide +kernel
theorem d_Knowing_knows_0 : decode b_Knowing_knows 0 = .ok (.iload_n 2, 1) := by decide +kernel
theorem d_Knowing_knows_1 : decode b_Knowing_knows 1 = .ok (.aload_n 0, 1) := by decide +kernel
theorem d_Knowing_knows_2 : decode b_Knowing_knows 2 = .ok (.getfield 9, 3) := by decide +kernel
theorem d_Knowing_knows_5 : decode b_Knowing_knows 5 = .ok (.iload_n 1, 1) := by decide +kernel
theorem d_Knowing_knows_6 : decode b_Knowing_knows 6 = .ok (.iaload, 1) := by decide +kernel
theorem d_Knowing_knows_7 : decode b_Knowing_knows 7 = .ok (.iand, 1) := by decide +kernel
theorem d_Knowing_knows_8 : decode b_Knowing_knows 8 = .ok (.istore_n 3, 1) := by decide +kernel
theorem d_Knowing_knows_9 : decode b_Knowing_knows 9 = .ok (.iconst 1, 1) := by decide +kernel
theorem d_Knowing_knows_10 : decode b_Knowing_knows 10 = .ok (.aload_n 0, 1) := by decide +kernel
theorem d_Knowing_knows_11 : decode b_Knowing_knows 11 = .ok (.getfield 15, 3) := by decide +kernel
theorem d_Knowing_knows_14 : decode b_Knowing_knows 14 = .ok (.ishl, 1) := by decide +kernel
theorem d_Knowing_knows_15 : decode b_Knowing_knows 15 = .ok (.iconst 1, 1) := by decide +kernel
theorem d_Knowing_knows_16 : decode b_Knowing_knows 16 = .ok (.isub, 1) := by decide +kernel
theorem d_Knowing_knows_17 : decode b_Knowing_knows 17 = .ok (.aload_n 0, 1) := by decide +kernel
theorem d_Knowing_knows_18 : decode b_Knowing_knows 18 = .ok (.getfield 9, 3) := by decide +kernel
theorem d_Knowing_knows_21 : decode b_Knowing_knows 21 = .ok (.iload_n 1, 1) := by decide +kernel
theorem d_Knowing_knows_22 : decode b_Knowing_knows 22 = .ok (.iaload, 1) := by decide +kernel
theorem d_Knowing_knows_23 : decode b_Knowing_knows 23 = .ok (.iconst (-1), 1) := by decide +kernel
theorem d_Knowing_knows_24 : decode b_Knowing_knows 24 = .ok (.ixor, 1) := by decide +kernel
theorem d_Knowing_knows_25 : decode b_Knowing_knows 25 = .ok (.iand, 1) := by decide +kernel
theorem d_Knowing_knows_26 : decode b_Knowing_knows 26 = .ok (.iconst 1, 1) := by decide +kernel
theorem d_Knowing_knows_27 : decode b_Knowing_knows 27 = .ok (.iload_n 1, 1) := by decide +kernel
theorem d_Knowing_knows_28 : decode b_Knowing_knows 28 = .ok (.ishl, 1) := by decide +kernel
theorem d_Knowing_knows_29 : decode b_Knowing_knows 29 = .ok (.iconst (-1), 1) := by decide +kernel
theorem d_Knowing_knows_30 : decode b_Knowing_knows 30 = .ok (.ixor, 1) := by decide +kernel
theorem d_Knowing_knows_31 : decode b_Knowing_knows 31 = .ok (.iand, 1) := by decide +kernel
theorem d_Knowing_knows_32 : decode b_Knowing_knows 32 = .ok (.istore 4, 2) := by decide +kernel
theorem d_Knowing_knows_34 : decode b_Knowing_knows 34 = .ok (.iconst 0, 1) := by decide +kernel
theorem d_Knowing_knows_35 : decode b_Knowing_knows 35 = .ok (.istore 5, 2) := by decide +kernel
theorem d_Knowing_knows_37 : decode b_Knowing_knows 37 = .ok (.iload 5, 2) := by decide +kernel
theorem d_Knowing_knows_39 : decode b_Knowing_knows 39 = .ok (.iload 4, 2) := by decide +kernel
theorem d_Knowing_knows_41 : decode b_Knowing_knows 41 = .ok (.if_icmp .gt 32, 3) := by decide +kernel
theorem d_Knowing_knows_44 : decode b_Knowing_knows 44 = .ok (.iload 5, 2) := by decide +kernel
theorem d_Knowing_knows_46 : decode b_Knowing_knows 46 = .ok (.iload 4, 2) := by decide +kernel
theorem d_Knowing_knows_48 : decode b_Knowing_knows 48 = .ok (.iconst (-1), 1) := by decide +kernel
theorem d_Knowing_knows_49 : decode b_Knowing_knows 49 = .ok (.ixor, 1) := by decide +kernel
theorem d_Knowing_knows_50 : decode b_Knowing_knows 50 = .ok (.iand, 1) := by decide +kernel
theorem d_Knowing_knows_51 : decode b_Knowing_knows 51 = .ok (.ifCond .ne 16, 3) := by decide +kernel
theorem d_Knowing_knows_54 : decode b_Knowing_knows 54 = .ok (.aload_n 0, 1) := by decide +kernel
theorem d_Knowing_knows_55 : decode b_Knowing_knows 55 = .ok (.iload_n 3, 1) := by decide +kernel
theorem d_Knowing_knows_56 : decode b_Knowing_knows 56 = .ok (.iload 5, 2) := by decide +kernel
theorem d_Knowing_knows_58 : decode b_Knowing_knows 58 = .ok (.ior, 1) := by decide +kernel
theorem d_Knowing_knows_59 : decode b_Knowing_knows 59 = .ok (.invokevirtual 45, 3) := by decide +kernel
theorem d_Knowing_knows_62 : decode b_Knowing_knows 62 = .ok (.ifCond .eq 5, 3) := by decide +kernel
theorem d_Knowing_knows_65 : decode b_Knowing_knows 65 = .ok (.iconst 0, 1) := by decide +kernel
theorem d_Knowing_knows_66 : decode b_Knowing_knows 66 = .ok (.ireturn, 1) := by decide +kernel
theorem d_Knowing_knows_67 : decode b_Knowing_knows 67 = .ok (.iinc 5 1, 3) := by decide +kernel
theorem d_Knowing_knows_70 : decode b_Knowing_knows 70 = .ok (.goto (-33), 3) := by decide +kernel
theorem d_Knowing_knows_73 : decode b_Knowing_knows 73 = .ok (.iconst 1, 1) := by decide +kernel
theorem d_Knowing_knows_74 : decode b_Knowing_knows 74 = .ok (.ireturn, 1) := by decide +kernel
theorem d_Knowing_isPossible_0 : decode b_Knowing_isPossible 0 = .ok (.aload_n 0, 1) := by decide +kernel
theorem d_Knowing_isPossible_1 : decode b_Knowing_isPossible 1 = .ok (.getfield 19, 3) := by decide +kernel
theorem d_Knowing_isPossible_4 : decode b_Knowing_isPossible 4 = .ok (.iload_n 1, 1) := by decide +kernel
theorem d_Knowing_isPossible_5 : decode b_Knowing_isPossible 5 = .ok (.lshr, 1) := by decide +kernel
theorem d_Knowing_isPossible_6 : decode b_Knowing_isPossible 6 = .ok (.lconst 1, 1) := by decide +kernel
theorem d_Knowing_isPossible_7 : decode b_Knowing_isPossible 7 = .ok (.land, 1) := by decide +kernel
theorem d_Knowing_isPossible_8 : decode b_Knowing_isPossible 8 = .ok (.lconst 1, 1) := by decide +kernel
theorem d_Knowing_isPossible_9 : decode b_Knowing_isPossible 9 = .ok (.lcmp, 1) := by decide +kernel
theorem d_Knowing_isPossible_10 : decode b_Knowing_isPossible 10 = .ok (.ifCond .ne 7, 3) := by decide +kernel
theorem d_Knowing_isPossible_13 : decode b_Knowing_isPossible 13 = .ok (.iconst 1, 1) := by decide +kernel
theorem d_Knowing_isPossible_14 : decode b_Knowing_isPossible 14 = .ok (.goto 4, 3) := by decide +kernel
theorem d_Knowing_isPossible_17 : decode b_Knowing_isPossible 17 = .ok (.iconst 0, 1) := by decide +kernel
theorem d_Knowing_isPossible_18 : decode b_Knowing_isPossible 18 = .ok (.ireturn, 1) := by decide +kernel
theorem d_Knowing_hearAll_0 : decode b_Knowing_hearAll 0 = .ok (.aload_n 0, 1) := by decide +kernel
theorem d_Knowing_hearAll_1 : decode b_Knowing_hearAll 1 = .ok (.iload_n 1, 1) := by decide +kernel
theorem d_Knowing_hearAll_2 : decode b_Knowing_hearAll 2 = .ok (.invokevirtual 27, 3) := by decide +kernel
theorem d_Knowing_hearAll_5 : decode b_Knowing_hearAll 5 = .ok (.istore_n 2, 1) := by decide +kernel
theorem d_Knowing_hearAll_6 : decode b_Knowing_hearAll 6 = .ok (.lconst 0, 1) := by decide +kernel
theorem d_Knowing_hearAll_7 : decode b_Knowing_hearAll 7 = .ok (.lstore_n 3, 1) := by decide +kernel
theorem d_Knowing_hearAll_8 : decode b_Knowing_hearAll 8 = .ok (.iconst 1, 1) := by decide +kernel
theorem d_Knowing_hearAll_9 : decode b_Knowing_hearAll 9 = .ok (.istore 5, 2) := by decide +kernel
theorem d_Knowing_hearAll_11 : decode b_Knowing_hearAll 11 = .ok (.iload 5, 2) := by decide +kernel
theorem d_Knowing_hearAll_13 : decode b_Knowing_hearAll 13 = .ok (.iconst 1, 1) := by decide +kernel
theorem d_Knowing_hearAll_14 : decode b_Knowing_hearAll 14 = .ok (.aload_n 0, 1) := by decide +kernel
theorem d_Knowing_hearAll_15 : decode b_Knowing_hearAll 15 = .ok (.getfield 15, 3) := by decide +kernel
theorem d_Knowing_hearAll_18 : decode b_Knowing_hearAll 18 = .ok (.ishl, 1) := by decide +kernel
theorem d_Knowing_hearAll_19 : decode b_Knowing_hearAll 19 = .ok (.if_icmp .ge 35, 3) := by decide +kernel
theorem d_Knowing_hearAll_22 : decode b_Knowing_hearAll 22 = .ok (.aload_n 0, 1) := by decide +kernel
theorem d_Knowing_hearAll_23 : decode b_Knowing_hearAll 23 = .ok (.iload 5, 2) := by decide +kernel
theorem d_Knowing_hearAll_25 : decode b_Knowing_hearAll 25 = .ok (.invokevirtual 45, 3) := by decide +kernel
theorem d_Knowing_hearAll_28 : decode b_Knowing_hearAll 28 = .ok (.ifCond .eq 20, 3) := by decide +kernel
theorem d_Knowing_hearAll_31 : decode b_Knowing_hearAll 31 = .ok (.aload_n 0, 1) := by decide +kernel
theorem d_Knowing_hearAll_32 : decode b_Knowing_hearAll 32 = .ok (.iload 5, 2) := by decide +kernel
theorem d_Knowing_hearAll_34 : decode b_Knowing_hearAll 34 = .ok (.invokevirtual 27, 3) := by decide +kernel
theorem d_Knowing_hearAll_37 : decode b_Knowing_hearAll 37 = .ok (.iload_n 2, 1) := by decide +kernel
theorem d_Knowing_hearAll_38 : decode b_Knowing_hearAll 38 = .ok (.if_icmp .ne 10, 3) := by decide +kernel
theorem d_Knowing_hearAll_41 : decode b_Knowing_hearAll 41 = .ok (.lload_n 3, 1) := by decide +kernel
theorem d_Knowing_hearAll_42 : decode b_Knowing_hearAll 42 = .ok (.lconst 1, 1) := by decide +kernel
theorem d_Knowing_hearAll_43 : decode b_Knowing_hearAll 43 = .ok (.iload 5, 2) := by decide +kernel
theorem d_Knowing_hearAll_45 : decode b_Knowing_hearAll 45 = .ok (.lshl, 1) := by decide +kernel
theorem d_Knowing_hearAll_46 : decode b_Knowing_hearAll 46 = .ok (.lor, 1) := by decide +kernel
theorem d_Knowing_hearAll_47 : decode b_Knowing_hearAll 47 = .ok (.lstore_n 3, 1) := by decide +kernel
theorem d_Knowing_hearAll_48 : decode b_Knowing_hearAll 48 = .ok (.iinc 5 1, 3) := by decide +kernel
theorem d_Knowing_hearAll_51 : decode b_Knowing_hearAll 51 = .ok (.goto (-40), 3) := by decide +kernel
theorem d_Knowing_hearAll_54 : decode b_Knowing_hearAll 54 = .ok (.lload_n 3, 1) := by decide +kernel
theorem d_Knowing_hearAll_55 : decode b_Knowing_hearAll 55 = .ok (.aload_n 0, 1) := by decide +kernel
theorem d_Knowing_hearAll_56 : decode b_Knowing_hearAll 56 = .ok (.getfield 19, 3) := by decide +kernel
theorem d_Knowing_hearAll_59 : decode b_Knowing_hearAll 59 = .ok (.lcmp, 1) := by decide +kernel
theorem d_Knowing_hearAll_60 : decode b_Knowing_hearAll 60 = .ok (.ifCond .eq 7, 3) := by decide +kernel
theorem d_Knowing_hearAll_63 : decode b_Knowing_hearAll 63 = .ok (.iconst 1, 1) := by decide +kernel
theorem d_Knowing_hearAll_64 : decode b_Knowing_hearAll 64 = .ok (.goto 4, 3) := by decide +kernel
theorem d_Knowing_hearAll_67 : decode b_Knowing_hearAll 67 = .ok (.iconst 0, 1) := by decide +kernel
theorem d_Knowing_hearAll_68 : decode b_Knowing_hearAll 68 = .ok (.istore 5, 2) := by decide +kernel
theorem d_Knowing_hearAll_70 : decode b_Knowing_hearAll 70 = .ok (.aload_n 0, 1) := by decide +kernel
theorem d_Knowing_hearAll_71 : decode b_Knowing_hearAll 71 = .ok (.lload_n 3, 1) := by decide +kernel
theorem d_Knowing_hearAll_72 : decode b_Knowing_hearAll 72 = .ok (.putfield 19, 3) := by decide +kernel
theorem d_Knowing_hearAll_75 : decode b_Knowing_hearAll 75 = .ok (.iload 5, 2) := by decide +kernel
theorem d_Knowing_hearAll_77 : decode b_Knowing_hearAll 77 = .ok (.ireturn, 1) := by decide +kernel
theorem d_Knowing_knowersOf_0 : decode b_Knowing_knowersOf 0 = .ok (.aload_n 0, 1) := by decide +kernel
theorem d_Knowing_knowersOf_1 : decode b_Knowing_knowersOf 1 = .ok (.aload_n 1, 1) := by decide +kernel
theorem d_Knowing_knowersOf_2 : decode b_Knowing_knowersOf 2 = .ok (.iload_n 3, 1) := by decide +kernel
theorem d_Knowing_knowersOf_3 : decode b_Knowing_knowersOf 3 = .ok (.invokevirtual 23, 3) := by decide +kernel
theorem d_Knowing_knowersOf_6 : decode b_Knowing_knowersOf 6 = .ok (.iconst 1, 1) := by decide +kernel
theorem d_Knowing_knowersOf_7 : decode b_Knowing_knowersOf 7 = .ok (.istore 5, 2) := by decide +kernel
theorem d_Knowing_knowersOf_9 : decode b_Knowing_knowersOf 9 = .ok (.iconst 1, 1) := by decide +kernel
theorem d_Knowing_knowersOf_10 : decode b_Knowing_knowersOf 10 = .ok (.istore 6, 2) := by decide +kernel
theorem d_Knowing_knowersOf_12 : decode b_Knowing_knowersOf 12 = .ok (.iload 6, 2) := by decide +kernel
theorem d_Knowing_knowersOf_14 : decode b_Knowing_knowersOf 14 = .ok (.iload 4, 2) := by decide +kernel
theorem d_Knowing_knowersOf_16 : decode b_Knowing_knowersOf 16 = .ok (.if_icmp .ge 21, 3) := by decide +kernel
theorem d_Knowing_knowersOf_19 : decode b_Knowing_knowersOf 19 = .ok (.iload 5, 2) := by decide +kernel
theorem d_Knowing_knowersOf_21 : decode b_Knowing_knowersOf 21 = .ok (.ifCond .eq 16, 3) := by decide +kernel
theorem d_Knowing_knowersOf_24 : decode b_Knowing_knowersOf 24 = .ok (.aload_n 0, 1) := by decide +kernel
theorem d_Knowing_knowersOf_25 : decode b_Knowing_knowersOf 25 = .ok (.iload_n 2, 1) := by decide +kernel
theorem d_Knowing_knowersOf_26 : decode b_Knowing_knowersOf 26 = .ok (.invokevirtual 31, 3) := by decide +kernel
theorem d_Knowing_knowersOf_29 : decode b_Knowing_knowersOf 29 = .ok (.istore 5, 2) := by decide +kernel
theorem d_Knowing_knowersOf_31 : decode b_Knowing_knowersOf 31 = .ok (.iinc 6 1, 3) := by decide +kernel
theorem d_Knowing_knowersOf_34 : decode b_Knowing_knowersOf 34 = .ok (.goto (-22), 3) := by decide +kernel
theorem d_Knowing_knowersOf_37 : decode b_Knowing_knowersOf 37 = .ok (.aload_n 0, 1) := by decide +kernel
theorem d_Knowing_knowersOf_38 : decode b_Knowing_knowersOf 38 = .ok (.iload_n 2, 1) := by decide +kernel
theorem d_Knowing_knowersOf_39 : decode b_Knowing_knowersOf 39 = .ok (.invokevirtual 27, 3) := by decide +kernel
theorem d_Knowing_knowersOf_42 : decode b_Knowing_knowersOf 42 = .ok (.ireturn, 1) := by decide +kernel
theorem d_Rows_coinsOfGame_0 : decode b_Rows_coinsOfGame 0 = .ok (.aload_n 0, 1) := by decide +kernel
theorem d_Rows_coinsOfGame_1 : decode b_Rows_coinsOfGame 1 = .ok (.aload_n 1, 1) := by decide +kernel
theorem d_Rows_coinsOfGame_2 : decode b_Rows_coinsOfGame 2 = .ok (.invokevirtual 68, 3) := by decide +kernel
theorem d_Rows_coinsOfGame_5 : decode b_Rows_coinsOfGame 5 = .ok (.aload_n 0, 1) := by decide +kernel
theorem d_Rows_coinsOfGame_6 : decode b_Rows_coinsOfGame 6 = .ok (.iconst 0, 1) := by decide +kernel
theorem d_Rows_coinsOfGame_7 : decode b_Rows_coinsOfGame 7 = .ok (.iload_n 2, 1) := by decide +kernel
theorem d_Rows_coinsOfGame_8 : decode b_Rows_coinsOfGame 8 = .ok (.iconst 0, 1) := by decide +kernel
theorem d_Rows_coinsOfGame_9 : decode b_Rows_coinsOfGame 9 = .ok (.invokevirtual 72, 3) := by decide +kernel
theorem d_Rows_coinsOfGame_12 : decode b_Rows_coinsOfGame 12 = .ok (.ireturn, 1) := by decide +kernel
theorem d_Rows_setUp_0 : decode b_Rows_setUp 0 = .ok (.aload_n 0, 1) := by decide +kernel
theorem d_Rows_setUp_1 : decode b_Rows_setUp 1 = .ok (.aload_n 1, 1) := by decide +kernel
theorem d_Rows_setUp_2 : decode b_Rows_setUp 2 = .ok (.putfield 24, 3) := by decide +kernel
theorem d_Rows_setUp_5 : decode b_Rows_setUp 5 = .ok (.aload_n 0, 1) := by decide +kernel
theorem d_Rows_setUp_6 : decode b_Rows_setUp 6 = .ok (.aload_n 1, 1) := by decide +kernel
theorem d_Rows_setUp_7 : decode b_Rows_setUp 7 = .ok (.getfield 38, 3) := by decide +kernel
theorem d_Rows_setUp_10 : decode b_Rows_setUp 10 = .ok (.putfield 28, 3) := by decide +kernel
theorem d_Rows_setUp_13 : decode b_Rows_setUp 13 = .ok (.aload_n 0, 1) := by decide +kernel
theorem d_Rows_setUp_14 : decode b_Rows_setUp 14 = .ok (.getfield 21, 3) := by decide +kernel
theorem d_Rows_setUp_17 : decode b_Rows_setUp 17 = .ok (.iconst 0, 1) := by decide +kernel
theorem d_Rows_setUp_18 : decode b_Rows_setUp 18 = .ok (.invokestatic 32, 3) := by decide +kernel
theorem d_Rows_setUp_21 : decode b_Rows_setUp 21 = .ok (.iconst 0, 1) := by decide +kernel
theorem d_Rows_setUp_22 : decode b_Rows_setUp 22 = .ok (.istore_n 2, 1) := by decide +kernel
theorem d_Rows_setUp_23 : decode b_Rows_setUp 23 = .ok (.iload_n 2, 1) := by decide +kernel
theorem d_Rows_setUp_24 : decode b_Rows_setUp 24 = .ok (.aload_n 1, 1) := by decide +kernel
theorem d_Rows_setUp_25 : decode b_Rows_setUp 25 = .ok (.getfield 41, 3) := by decide +kernel
theorem d_Rows_setUp_28 : decode b_Rows_setUp 28 = .ok (.if_icmp .ge 20, 3) := by decide +kernel
theorem d_Rows_setUp_31 : decode b_Rows_setUp 31 = .ok (.aload_n 0, 1) := by decide +kernel
theorem d_Rows_setUp_32 : decode b_Rows_setUp 32 = .ok (.getfield 15, 3) := by decide +kernel
theorem d_Rows_setUp_35 : decode b_Rows_setUp 35 = .ok (.iload_n 2, 1) := by decide +kernel
theorem d_Rows_setUp_36 : decode b_Rows_setUp 36 = .ok (.aload_n 1, 1) := by decide +kernel
theorem d_Rows_setUp_37 : decode b_Rows_setUp 37 = .ok (.iload_n 2, 1) := by decide +kernel
theorem d_Rows_setUp_38 : decode b_Rows_setUp 38 = .ok (.invokevirtual 44, 3) := by decide +kernel
theorem d_Rows_setUp_41 : decode b_Rows_setUp 41 = .ok (.iastore, 1) := by decide +kernel
theorem d_Rows_setUp_42 : decode b_Rows_setUp 42 = .ok (.iinc 2 1, 3) := by decide +kernel
theorem d_Rows_setUp_45 : decode b_Rows_setUp 45 = .ok (.goto (-22), 3) := by decide +kernel
theorem d_Rows_setUp_48 : decode b_Rows_setUp 48 = .ok (.return_, 1) := by decide +kernel
theorem d_Rows_value_0 : decode b_Rows_value 0 = .ok (.iload_n 1, 1) := by decide +kernel
theorem d_Rows_value_1 : decode b_Rows_value 1 = .ok (.iconst 2, 1) := by decide +kernel
theorem d_Rows_value_2 : decode b_Rows_value 2 = .ok (.irem, 1) := by decide +kernel
theorem d_Rows_value_3 : decode b_Rows_value 3 = .ok (.ifCond .ne 7, 3) := by decide +kernel
theorem d_Rows_value_6 : decode b_Rows_value 6 = .ok (.iconst 1, 1) := by decide +kernel
theorem d_Rows_value_7 : decode b_Rows_value 7 = .ok (.goto 4, 3) := by decide +kernel
theorem d_Rows_value_10 : decode b_Rows_value 10 = .ok (.iconst 0, 1) := by decide +kernel
theorem d_Rows_value_11 : decode b_Rows_value 11 = .ok (.istore 4, 2) := by decide +kernel
theorem d_Rows_value_13 : decode b_Rows_value 13 = .ok (.iload 4, 2) := by decide +kernel
theorem d_Rows_value_15 : decode b_Rows_value 15 = .ok (.ifCond .eq 7, 3) := by decide +kernel
theorem d_Rows_value_18 : decode b_Rows_value 18 = .ok (.iload_n 2, 1) := by decide +kernel
theorem d_Rows_value_19 : decode b_Rows_value 19 = .ok (.goto 6, 3) := by decide +kernel
theorem d_Rows_value_22 : decode b_Rows_value 22 = .ok (.iload_n 2, 1) := by decide +kernel
theorem d_Rows_value_23 : decode b_Rows_value 23 = .ok (.iconst 1, 1) := by decide +kernel
theorem d_Rows_value_24 : decode b_Rows_value 24 = .ok (.isub, 1) := by decide +kernel
theorem d_Rows_value_25 : decode b_Rows_value 25 = .ok (.istore 5, 2) := by decide +kernel
theorem d_Rows_value_27 : decode b_Rows_value 27 = .ok (.iload_n 1, 1) := by decide +kernel
theorem d_Rows_value_28 : decode b_Rows_value 28 = .ok (.iload 5, 2) := by decide +kernel
theorem d_Rows_value_30 : decode b_Rows_value 30 = .ok (.if_icmp .ge 8, 3) := by decide +kernel
theorem d_Rows_value_33 : decode b_Rows_value 33 = .ok (.iload_n 1, 1) := by decide +kernel
theorem d_Rows_value_34 : decode b_Rows_value 34 = .ok (.iconst 4, 1) := by decide +kernel
theorem d_Rows_value_35 : decode b_Rows_value 35 = .ok (.if_icmp .lt 8, 3) := by decide +kernel
theorem d_Rows_value_38 : decode b_Rows_value 38 = .ok (.aload_n 0, 1) := by decide +kernel
theorem d_Rows_value_39 : decode b_Rows_value 39 = .ok (.invokevirtual 79, 3) := by decide +kernel
theorem d_Rows_value_42 : decode b_Rows_value 42 = .ok (.ireturn, 1) := by decide +kernel
theorem d_Rows_value_43 : decode b_Rows_value 43 = .ok (.aload_n 0, 1) := by decide +kernel
theorem d_Rows_value_44 : decode b_Rows_value 44 = .ok (.iload_n 1, 1) := by decide +kernel
theorem d_Rows_value_45 : decode b_Rows_value 45 = .ok (.iconst 1, 1) := by decide +kernel
theorem d_Rows_value_46 : decode b_Rows_value 46 = .ok (.iadd, 1) := by decide +kernel
theorem d_Rows_value_47 : decode b_Rows_value 47 = .ok (.iload_n 2, 1) := by decide +kernel
theorem d_Rows_value_48 : decode b_Rows_value 48 = .ok (.iload_n 3, 1) := by decide +kernel
theorem d_Rows_value_49 : decode b_Rows_value 49 = .ok (.invokevirtual 72, 3) := by decide +kernel
theorem d_Rows_value_52 : decode b_Rows_value 52 = .ok (.istore 6, 2) := by decide +kernel
theorem d_Rows_value_54 : decode b_Rows_value 54 = .ok (.iconst 0, 1) := by decide +kernel
theorem d_Rows_value_55 : decode b_Rows_value 55 = .ok (.istore 7, 2) := by decide +kernel
theorem d_Rows_value_57 : decode b_Rows_value 57 = .ok (.iload 7, 2) := by decide +kernel
theorem d_Rows_value_59 : decode b_Rows_value 59 = .ok (.aload_n 0, 1) := by decide +kernel
theorem d_Rows_value_60 : decode b_Rows_value 60 = .ok (.getfield 28, 3) := by decide +kernel
theorem d_Rows_value_63 : decode b_Rows_value 63 = .ok (.if_icmp .ge 65, 3) := by decide +kernel
theorem d_Rows_value_66 : decode b_Rows_value 66 = .ok (.iload_n 3, 1) := by decide +kernel
theorem d_Rows_value_67 : decode b_Rows_value 67 = .ok (.iload 7, 2) := by decide +kernel
theorem d_Rows_value_69 : decode b_Rows_value 69 = .ok (.ishr, 1) := by decide +kernel
theorem d_Rows_value_70 : decode b_Rows_value 70 = .ok (.iconst 1, 1) := by decide +kernel
theorem d_Rows_value_71 : decode b_Rows_value 71 = .ok (.iand, 1) := by decide +kernel
theorem d_Rows_value_72 : decode b_Rows_value 72 = .ok (.iconst 1, 1) := by decide +kernel
theorem d_Rows_value_73 : decode b_Rows_value 73 = .ok (.if_icmp .ne 6, 3) := by decide +kernel
theorem d_Rows_value_76 : decode b_Rows_value 76 = .ok (.goto 46, 3) := by decide +kernel
theorem d_Rows_value_79 : decode b_Rows_value 79 = .ok (.iload 4, 2) := by decide +kernel
theorem d_Rows_value_81 : decode b_Rows_value 81 = .ok (.ifCond .eq 20, 3) := by decide +kernel
theorem d_Rows_value_84 : decode b_Rows_value 84 = .ok (.iload 6, 2) := by decide +kernel
theorem d_Rows_value_86 : decode b_Rows_value 86 = .ok (.aload_n 0, 1) := by decide +kernel
theorem d_Rows_value_87 : decode b_Rows_value 87 = .ok (.iload 7, 2) := by decide +kernel
theorem d_Rows_value_89 : decode b_Rows_value 89 = .ok (.iload_n 1, 1) := by decide +kernel
theorem d_Rows_value_90 : decode b_Rows_value 90 = .ok (.iload_n 2, 1) := by decide +kernel
theorem d_Rows_value_91 : decode b_Rows_value 91 = .ok (.iload_n 3, 1) := by decide +kernel
theorem d_Rows_value_92 : decode b_Rows_value 92 = .ok (.invokevirtual 75, 3) := by decide +kernel
theorem d_Rows_value_95 : decode b_Rows_value 95 = .ok (.invokestatic 83, 3) := by decide +kernel
theorem d_Rows_value_98 : decode b_Rows_value 98 = .ok (.goto 22, 3) := by decide +kernel
theorem d_Rows_value_101 : decode b_Rows_value 101 = .ok (.iload 6, 2) := by decide +kernel
theorem d_Rows_value_103 : decode b_Rows_value 103 = .ok (.aload_n 0, 1) := by decide +kernel
theorem d_Rows_value_104 : decode b_Rows_value 104 = .ok (.iload_n 1, 1) := by decide +kernel
theorem d_Rows_value_105 : decode b_Rows_value 105 = .ok (.iconst 1, 1) := by decide +kernel
theorem d_Rows_value_106 : decode b_Rows_value 106 = .ok (.iadd, 1) := by decide +kernel
theorem d_Rows_value_107 : decode b_Rows_value 107 = .ok (.iload_n 2, 1) := by decide +kernel
theorem d_Rows_value_108 : decode b_Rows_value 108 = .ok (.iload_n 3, 1) := by decide +kernel
theorem d_Rows_value_109 : decode b_Rows_value 109 = .ok (.iconst 1, 1) := by decide +kernel
theorem d_Rows_value_110 : decode b_Rows_value 110 = .ok (.iload 7, 2) := by decide +kernel
theorem d_Rows_value_112 : decode b_Rows_value 112 = .ok (.ishl, 1) := by decide +kernel
theorem d_Rows_value_113 : decode b_Rows_value 113 = .ok (.ior, 1) := by decide +kernel
theorem d_Rows_value_114 : decode b_Rows_value 114 = .ok (.invokevirtual 72, 3) := by decide +kernel
theorem d_Rows_value_117 : decode b_Rows_value 117 = .ok (.invokestatic 59, 3) := by decide +kernel
theorem d_Rows_value_120 : decode b_Rows_value 120 = .ok (.istore 6, 2) := by decide +kernel
theorem d_Rows_value_122 : decode b_Rows_value 122 = .ok (.iinc 7 1, 3) := by decide +kernel
theorem d_Rows_value_125 : decode b_Rows_value 125 = .ok (.goto (-68), 3) := by decide +kernel
theorem d_Rows_value_128 : decode b_Rows_value 128 = .ok (.iload 6, 2) := by decide +kernel
theorem d_Rows_value_130 : decode b_Rows_value 130 = .ok (.ireturn, 1) := by decide +kernel
theorem d_Rows_coinsCome_0 : decode b_Rows_coinsCome 0 = .ok (.iconst 0, 1) := by decide +kernel
theorem d_Rows_coinsCome_1 : decode b_Rows_coinsCome 1 = .ok (.istore_n 1, 1) := by decide +kernel
theorem d_Rows_coinsCome_2 : decode b_Rows_coinsCome 2 = .ok (.iconst 0, 1) := by decide +kernel
theorem d_Rows_coinsCome_3 : decode b_Rows_coinsCome 3 = .ok (.istore_n 2, 1) := by decide +kernel
theorem d_Rows_coinsCome_4 : decode b_Rows_coinsCome 4 = .ok (.aload_n 0, 1) := by decide +kernel
theorem d_Rows_coinsCome_5 : decode b_Rows_coinsCome 5 = .ok (.getfield 24, 3) := by decide +kernel
theorem d_Rows_coinsCome_8 : decode b_Rows_coinsCome 8 = .ok (.ifnull 90, 3) := by decide +kernel
theorem d_Rows_coinsCome_11 : decode b_Rows_coinsCome 11 = .ok (.iload_n 2, 1) := by decide +kernel
theorem d_Rows_coinsCome_12 : decode b_Rows_coinsCome 12 = .ok (.aload_n 0, 1) := by decide +kernel
theorem d_Rows_coinsCome_13 : decode b_Rows_coinsCome 13 = .ok (.getfield 24, 3) := by decide +kernel
theorem d_Rows_coinsCome_16 : decode b_Rows_coinsCome 16 = .ok (.getfield 41, 3) := by decide +kernel
theorem d_Rows_coinsCome_19 : decode b_Rows_coinsCome 19 = .ok (.if_icmp .ge 79, 3) := by decide +kernel
theorem d_Rows_coinsCome_22 : decode b_Rows_coinsCome 22 = .ok (.iconst 0, 1) := by decide +kernel
theorem d_Rows_coinsCome_23 : decode b_Rows_coinsCome 23 = .ok (.istore_n 3, 1) := by decide +kernel
theorem d_Rows_coinsCome_24 : decode b_Rows_coinsCome 24 = .ok (.iconst 0, 1) := by decide +kernel
theorem d_Rows_coinsCome_25 : decode b_Rows_coinsCome 25 = .ok (.istore 4, 2) := by decide +kernel
theorem d_Rows_coinsCome_27 : decode b_Rows_coinsCome 27 = .ok (.iload 4, 2) := by decide +kernel
theorem d_Rows_coinsCome_29 : decode b_Rows_coinsCome 29 = .ok (.aload_n 0, 1) := by decide +kernel
theorem d_Rows_coinsCome_30 : decode b_Rows_coinsCome 30 = .ok (.getfield 28, 3) := by decide +kernel
theorem d_Rows_coinsCome_33 : decode b_Rows_coinsCome 33 = .ok (.if_icmp .ge 32, 3) := by decide +kernel
theorem d_Rows_coinsCome_36 : decode b_Rows_coinsCome 36 = .ok (.aload_n 0, 1) := by decide +kernel
theorem d_Rows_coinsCome_37 : decode b_Rows_coinsCome 37 = .ok (.getfield 24, 3) := by decide +kernel
theorem d_Rows_coinsCome_40 : decode b_Rows_coinsCome 40 = .ok (.iload_n 2, 1) := by decide +kernel
theorem d_Rows_coinsCome_41 : decode b_Rows_coinsCome 41 = .ok (.iload 4, 2) := by decide +kernel
theorem d_Rows_coinsCome_43 : decode b_Rows_coinsCome 43 = .ok (.invokevirtual 86, 3) := by decide +kernel
theorem d_Rows_coinsCome_46 : decode b_Rows_coinsCome 46 = .ok (.ifCond .eq 13, 3) := by decide +kernel
theorem d_Rows_coinsCome_49 : decode b_Rows_coinsCome 49 = .ok (.iload_n 3, 1) := by decide +kernel
theorem d_Rows_coinsCome_50 : decode b_Rows_coinsCome 50 = .ok (.aload_n 0, 1) := by decide +kernel
theorem d_Rows_coinsCome_51 : decode b_Rows_coinsCome 51 = .ok (.getfield 21, 3) := by decide +kernel
theorem d_Rows_coinsCome_54 : decode b_Rows_coinsCome 54 = .ok (.iload 4, 2) := by decide +kernel
theorem d_Rows_coinsCome_56 : decode b_Rows_coinsCome 56 = .ok (.iaload, 1) := by decide +kernel
theorem d_Rows_coinsCome_57 : decode b_Rows_coinsCome 57 = .ok (.iadd, 1) := by decide +kernel
theorem d_Rows_coinsCome_58 : decode b_Rows_coinsCome 58 = .ok (.istore_n 3, 1) := by decide +kernel
theorem d_Rows_coinsCome_59 : decode b_Rows_coinsCome 59 = .ok (.iinc 4 1, 3) := by decide +kernel
theorem d_Rows_coinsCome_62 : decode b_Rows_coinsCome 62 = .ok (.goto (-35), 3) := by decide +kernel
theorem d_Rows_coinsCome_65 : decode b_Rows_coinsCome 65 = .ok (.iload_n 1, 1) := by decide +kernel
theorem d_Rows_coinsCome_66 : decode b_Rows_coinsCome 66 = .ok (.aload_n 0, 1) := by decide +kernel
theorem d_Rows_coinsCome_67 : decode b_Rows_coinsCome 67 = .ok (.getfield 24, 3) := by decide +kernel
theorem d_Rows_coinsCome_70 : decode b_Rows_coinsCome 70 = .ok (.getfield 90, 3) := by decide +kernel
theorem d_Rows_coinsCome_73 : decode b_Rows_coinsCome 73 = .ok (.iload_n 2, 1) := by decide +kernel
theorem d_Rows_coinsCome_74 : decode b_Rows_coinsCome 74 = .ok (.iaload, 1) := by decide +kernel
theorem d_Rows_coinsCome_75 : decode b_Rows_coinsCome 75 = .ok (.iconst 0, 1) := by decide +kernel
theorem d_Rows_coinsCome_76 : decode b_Rows_coinsCome 76 = .ok (.iload_n 3, 1) := by decide +kernel
theorem d_Rows_coinsCome_77 : decode b_Rows_coinsCome 77 = .ok (.aload_n 0, 1) := by decide +kernel
theorem d_Rows_coinsCome_78 : decode b_Rows_coinsCome 78 = .ok (.getfield 15, 3) := by decide +kernel
theorem d_Rows_coinsCome_81 : decode b_Rows_coinsCome 81 = .ok (.iload_n 2, 1) := by decide +kernel
theorem d_Rows_coinsCome_82 : decode b_Rows_coinsCome 82 = .ok (.iaload, 1) := by decide +kernel
theorem d_Rows_coinsCome_83 : decode b_Rows_coinsCome 83 = .ok (.isub, 1) := by decide +kernel
theorem d_Rows_coinsCome_84 : decode b_Rows_coinsCome 84 = .ok (.invokestatic 83, 3) := by decide +kernel
theorem d_Rows_coinsCome_87 : decode b_Rows_coinsCome 87 = .ok (.invokestatic 59, 3) := by decide +kernel
theorem d_Rows_coinsCome_90 : decode b_Rows_coinsCome 90 = .ok (.iadd, 1) := by decide +kernel
theorem d_Rows_coinsCome_91 : decode b_Rows_coinsCome 91 = .ok (.istore_n 1, 1) := by decide +kernel
theorem d_Rows_coinsCome_92 : decode b_Rows_coinsCome 92 = .ok (.iinc 2 1, 3) := by decide +kernel
theorem d_Rows_coinsCome_95 : decode b_Rows_coinsCome 95 = .ok (.goto (-91), 3) := by decide +kernel
theorem d_Rows_coinsCome_98 : decode b_Rows_coinsCome 98 = .ok (.iload_n 1, 1) := by decide +kernel
theorem d_Rows_coinsCome_99 : decode b_Rows_coinsCome 99 = .ok (.ireturn, 1) := by decide +kernel
theorem d_Rows_valueBehind_0 : decode b_Rows_valueBehind 0 = .ok (.aload_n 0, 1) := by decide +kernel
theorem d_Rows_valueBehind_1 : decode b_Rows_valueBehind 1 = .ok (.getfield 21, 3) := by decide +kernel
theorem d_Rows_valueBehind_4 : decode b_Rows_valueBehind 4 = .ok (.iload_n 1, 1) := by decide +kernel
theorem d_Rows_valueBehind_5 : decode b_Rows_valueBehind 5 = .ok (.dup2, 1) := by decide +kernel
theorem d_Rows_valueBehind_6 : decode b_Rows_valueBehind 6 = .ok (.iaload, 1) := by decide +kernel
theorem d_Rows_valueBehind_7 : decode b_Rows_valueBehind 7 = .ok (.iconst 1, 1) := by decide +kernel
theorem d_Rows_valueBehind_8 : decode b_Rows_valueBehind 8 = .ok (.iadd, 1) := by decide +kernel
theorem d_Rows_valueBehind_9 : decode b_Rows_valueBehind 9 = .ok (.iastore, 1) := by decide +kernel
theorem d_Rows_valueBehind_10 : decode b_Rows_valueBehind 10 = .ok (.aload_n 0, 1) := by decide +kernel
theorem d_Rows_valueBehind_11 : decode b_Rows_valueBehind 11 = .ok (.iload_n 2, 1) := by decide +kernel
theorem d_Rows_valueBehind_12 : decode b_Rows_valueBehind 12 = .ok (.iconst 1, 1) := by decide +kernel
theorem d_Rows_valueBehind_13 : decode b_Rows_valueBehind 13 = .ok (.iadd, 1) := by decide +kernel
theorem d_Rows_valueBehind_14 : decode b_Rows_valueBehind 14 = .ok (.iload_n 3, 1) := by decide +kernel
theorem d_Rows_valueBehind_15 : decode b_Rows_valueBehind 15 = .ok (.iload 4, 2) := by decide +kernel
theorem d_Rows_valueBehind_17 : decode b_Rows_valueBehind 17 = .ok (.invokevirtual 72, 3) := by decide +kernel
theorem d_Rows_valueBehind_20 : decode b_Rows_valueBehind 20 = .ok (.istore 5, 2) := by decide +kernel
theorem d_Rows_valueBehind_22 : decode b_Rows_valueBehind 22 = .ok (.aload_n 0, 1) := by decide +kernel
theorem d_Rows_valueBehind_23 : decode b_Rows_valueBehind 23 = .ok (.getfield 21, 3) := by decide +kernel
theorem d_Rows_valueBehind_26 : decode b_Rows_valueBehind 26 = .ok (.iload_n 1, 1) := by decide +kernel
theorem d_Rows_valueBehind_27 : decode b_Rows_valueBehind 27 = .ok (.dup2, 1) := by decide +kernel
theorem d_Rows_valueBehind_28 : decode b_Rows_valueBehind 28 = .ok (.iaload, 1) := by decide +kernel
theorem d_Rows_valueBehind_29 : decode b_Rows_valueBehind 29 = .ok (.iconst 1, 1) := by decide +kernel
theorem d_Rows_valueBehind_30 : decode b_Rows_valueBehind 30 = .ok (.isub, 1) := by decide +kernel
theorem d_Rows_valueBehind_31 : decode b_Rows_valueBehind 31 = .ok (.iastore, 1) := by decide +kernel
theorem d_Rows_valueBehind_32 : decode b_Rows_valueBehind 32 = .ok (.iload 5, 2) := by decide +kernel
theorem d_Rows_valueBehind_34 : decode b_Rows_valueBehind 34 = .ok (.ireturn, 1) := by decide +kernel
theorem d_Rows_firstTuneOfGame_0 : decode b_Rows_firstTuneOfGame 0 = .ok (.aload_n 0, 1) := by decide +kernel
theorem d_Rows_firstTuneOfGame_1 : decode b_Rows_firstTuneOfGame 1 = .ok (.aload_n 1, 1) := by decide +kernel
theorem d_Rows_firstTuneOfGame_2 : decode b_Rows_firstTuneOfGame 2 = .ok (.invokevirtual 68, 3) := by decide +kernel
theorem d_Rows_firstTuneOfGame_5 : decode b_Rows_firstTuneOfGame 5 = .ok (.iconst (-1), 1) := by decide +kernel
theorem d_Rows_firstTuneOfGame_6 : decode b_Rows_firstTuneOfGame 6 = .ok (.istore_n 3, 1) := by decide +kernel
theorem d_Rows_firstTuneOfGame_7 : decode b_Rows_firstTuneOfGame 7 = .ok (.iconst (-1), 1) := by decide +kernel
theorem d_Rows_firstTuneOfGame_8 : decode b_Rows_firstTuneOfGame 8 = .ok (.istore 4, 2) := by decide +kernel
theorem d_Rows_firstTuneOfGame_10 : decode b_Rows_firstTuneOfGame 10 = .ok (.iconst 0, 1) := by decide +kernel
theorem d_Rows_firstTuneOfGame_11 : decode b_Rows_firstTuneOfGame 11 = .ok (.istore 5, 2) := by decide +kernel
theorem d_Rows_firstTuneOfGame_13 : decode b_Rows_firstTuneOfGame 13 = .ok (.iload 5, 2) := by decide +kernel
theorem d_Rows_firstTuneOfGame_15 : decode b_Rows_firstTuneOfGame 15 = .ok (.aload_n 0, 1) := by decide +kernel
theorem d_Rows_firstTuneOfGame_16 : decode b_Rows_firstTuneOfGame 16 = .ok (.getfield 28, 3) := by decide +kernel
theorem d_Rows_firstTuneOfGame_19 : decode b_Rows_firstTuneOfGame 19 = .ok (.if_icmp .ge 34, 3) := by decide +kernel
theorem d_Rows_firstTuneOfGame_22 : decode b_Rows_firstTuneOfGame 22 = .ok (.aload_n 0, 1) := by decide +kernel
theorem d_Rows_firstTuneOfGame_23 : decode b_Rows_firstTuneOfGame 23 = .ok (.iload 5, 2) := by decide +kernel
theorem d_Rows_firstTuneOfGame_25 : decode b_Rows_firstTuneOfGame 25 = .ok (.iconst 0, 1) := by decide +kernel
theorem d_Rows_firstTuneOfGame_26 : decode b_Rows_firstTuneOfGame 26 = .ok (.iload_n 2, 1) := by decide +kernel
theorem d_Rows_firstTuneOfGame_27 : decode b_Rows_firstTuneOfGame 27 = .ok (.iconst 0, 1) := by decide +kernel
theorem d_Rows_firstTuneOfGame_28 : decode b_Rows_firstTuneOfGame 28 = .ok (.invokevirtual 75, 3) := by decide +kernel
theorem d_Rows_firstTuneOfGame_31 : decode b_Rows_firstTuneOfGame 31 = .ok (.istore 6, 2) := by decide +kernel
theorem d_Rows_firstTuneOfGame_33 : decode b_Rows_firstTuneOfGame 33 = .ok (.iload 6, 2) := by decide +kernel
theorem d_Rows_firstTuneOfGame_35 : decode b_Rows_firstTuneOfGame 35 = .ok (.iload 4, 2) := by decide +kernel
theorem d_Rows_firstTuneOfGame_37 : decode b_Rows_firstTuneOfGame 37 = .ok (.if_icmp .le 10, 3) := by decide +kernel
theorem d_Rows_firstTuneOfGame_40 : decode b_Rows_firstTuneOfGame 40 = .ok (.iload 5, 2) := by decide +kernel
theorem d_Rows_firstTuneOfGame_42 : decode b_Rows_firstTuneOfGame 42 = .ok (.istore_n 3, 1) := by decide +kernel
theorem d_Rows_firstTuneOfGame_43 : decode b_Rows_firstTuneOfGame 43 = .ok (.iload 6, 2) := by decide +kernel
theorem d_Rows_firstTuneOfGame_45 : decode b_Rows_firstTuneOfGame 45 = .ok (.istore 4, 2) := by decide +kernel
theorem d_Rows_firstTuneOfGame_47 : decode b_Rows_firstTuneOfGame 47 = .ok (.iinc 5 1, 3) := by decide +kernel
theorem d_Rows_firstTuneOfGame_50 : decode b_Rows_firstTuneOfGame 50 = .ok (.goto (-37), 3) := by decide +kernel
theorem d_Rows_firstTuneOfGame_53 : decode b_Rows_firstTuneOfGame 53 = .ok (.aload_n 0, 1) := by decide +kernel
theorem d_Rows_firstTuneOfGame_54 : decode b_Rows_firstTuneOfGame 54 = .ok (.iconst 1, 1) := by decide +kernel
theorem d_Rows_firstTuneOfGame_55 : decode b_Rows_firstTuneOfGame 55 = .ok (.iload_n 2, 1) := by decide +kernel
theorem d_Rows_firstTuneOfGame_56 : decode b_Rows_firstTuneOfGame 56 = .ok (.iconst 0, 1) := by decide +kernel
theorem d_Rows_firstTuneOfGame_57 : decode b_Rows_firstTuneOfGame 57 = .ok (.invokevirtual 72, 3) := by decide +kernel
theorem d_Rows_firstTuneOfGame_60 : decode b_Rows_firstTuneOfGame 60 = .ok (.iload 4, 2) := by decide +kernel
theorem d_Rows_firstTuneOfGame_62 : decode b_Rows_firstTuneOfGame 62 = .ok (.if_icmp .le 7, 3) := by decide +kernel
theorem d_Rows_firstTuneOfGame_65 : decode b_Rows_firstTuneOfGame 65 = .ok (.iconst (-1), 1) := by decide +kernel
theorem d_Rows_firstTuneOfGame_66 : decode b_Rows_firstTuneOfGame 66 = .ok (.goto 4, 3) := by decide +kernel
theorem d_Rows_firstTuneOfGame_69 : decode b_Rows_firstTuneOfGame 69 = .ok (.iload_n 3, 1) := by decide +kernel
theorem d_Rows_firstTuneOfGame_70 : decode b_Rows_firstTuneOfGame 70 = .ok (.ireturn, 1) := by decide +kernel
theorem d_Life_run_0 : decode b_Life_run 0 = .ok (.aload_n 0, 1) := by decide +kernel
theorem d_Life_run_1 : decode b_Life_run 1 = .ok (.iload_n 2, 1) := by decide +kernel
theorem d_Life_run_2 : decode b_Life_run 2 = .ok (.putfield 17, 3) := by decide +kernel
theorem d_Life_run_5 : decode b_Life_run 5 = .ok (.aload_n 0, 1) := by decide +kernel
theorem d_Life_run_6 : decode b_Life_run 6 = .ok (.iconst 0, 1) := by decide +kernel
theorem d_Life_run_7 : decode b_Life_run 7 = .ok (.putfield 46, 3) := by decide +kernel
theorem d_Life_run_10 : decode b_Life_run 10 = .ok (.aload_n 0, 1) := by decide +kernel
theorem d_Life_run_11 : decode b_Life_run 11 = .ok (.iconst 0, 1) := by decide +kernel
theorem d_Life_run_12 : decode b_Life_run 12 = .ok (.putfield 31, 3) := by decide +kernel
theorem d_Life_run_15 : decode b_Life_run 15 = .ok (.aload_n 0, 1) := by decide +kernel
theorem d_Life_run_16 : decode b_Life_run 16 = .ok (.iconst 0, 1) := by decide +kernel
theorem d_Life_run_17 : decode b_Life_run 17 = .ok (.putfield 34, 3) := by decide +kernel
theorem d_Life_run_20 : decode b_Life_run 20 = .ok (.aload_n 0, 1) := by decide +kernel
theorem d_Life_run_21 : decode b_Life_run 21 = .ok (.iconst 0, 1) := by decide +kernel
theorem d_Life_run_22 : decode b_Life_run 22 = .ok (.putfield 37, 3) := by decide +kernel
theorem d_Life_run_25 : decode b_Life_run 25 = .ok (.aload_n 0, 1) := by decide +kernel
theorem d_Life_run_26 : decode b_Life_run 26 = .ok (.iconst 0, 1) := by decide +kernel
theorem d_Life_run_27 : decode b_Life_run 27 = .ok (.putfield 40, 3) := by decide +kernel
theorem d_Life_run_30 : decode b_Life_run 30 = .ok (.aload_n 0, 1) := by decide +kernel
theorem d_Life_run_31 : decode b_Life_run 31 = .ok (.iconst 0, 1) := by decide +kernel
theorem d_Life_run_32 : decode b_Life_run 32 = .ok (.putfield 43, 3) := by decide +kernel
theorem d_Life_run_35 : decode b_Life_run 35 = .ok (.aload_n 0, 1) := by decide +kernel
theorem d_Life_run_36 : decode b_Life_run 36 = .ok (.iconst 1, 1) := by decide +kernel
theorem d_Life_run_37 : decode b_Life_run 37 = .ok (.putfield 49, 3) := by decide +kernel
theorem d_Life_run_40 : decode b_Life_run 40 = .ok (.aload_n 1, 1) := by decide +kernel
theorem d_Life_run_41 : decode b_Life_run 41 = .ok (.getfield 52, 3) := by decide +kernel
theorem d_Life_run_44 : decode b_Life_run 44 = .ok (.astore_n 3, 1) := by decide +kernel
theorem d_Life_run_45 : decode b_Life_run 45 = .ok (.iconst 0, 1) := by decide +kernel
theorem d_Life_run_46 : decode b_Life_run 46 = .ok (.istore 4, 2) := by decide +kernel
theorem d_Life_run_48 : decode b_Life_run 48 = .ok (.iconst 0, 1) := by decide +kernel
theorem d_Life_run_49 : decode b_Life_run 49 = .ok (.istore 5, 2) := by decide +kernel
theorem d_Life_run_51 : decode b_Life_run 51 = .ok (.iload 5, 2) := by decide +kernel
theorem d_Life_run_53 : decode b_Life_run 53 = .ok (.ldc 58, 2) := by decide +kernel
theorem d_Life_run_55 : decode b_Life_run 55 = .ok (.if_icmp .ge 93, 3) := by decide +kernel
theorem d_Life_run_58 : decode b_Life_run 58 = .ok (.iload 4, 2) := by decide +kernel
theorem d_Life_run_60 : decode b_Life_run 60 = .ok (.aload_n 3, 1) := by decide +kernel
theorem d_Life_run_61 : decode b_Life_run 61 = .ok (.getfield 59, 3) := by decide +kernel
theorem d_Life_run_64 : decode b_Life_run 64 = .ok (.if_icmp .ge 84, 3) := by decide +kernel
theorem d_Life_run_67 : decode b_Life_run 67 = .ok (.aload_n 0, 1) := by decide +kernel
theorem d_Life_run_68 : decode b_Life_run 68 = .ok (.getfield 43, 3) := by decide +kernel
theorem d_Life_run_71 : decode b_Life_run 71 = .ok (.ifCond .ne 77, 3) := by decide +kernel
theorem d_Life_run_74 : decode b_Life_run 74 = .ok (.aload_n 3, 1) := by decide +kernel
theorem d_Life_run_75 : decode b_Life_run 75 = .ok (.getfield 62, 3) := by decide +kernel
theorem d_Life_run_78 : decode b_Life_run 78 = .ok (.iload 4, 2) := by decide +kernel
theorem d_Life_run_80 : decode b_Life_run 80 = .ok (.iaload, 1) := by decide +kernel
theorem d_Life_run_81 : decode b_Life_run 81 = .ok (.bipush 23, 2) := by decide +kernel
theorem d_Life_run_83 : decode b_Life_run 83 = .ok (.if_icmp .ne 15, 3) := by decide +kernel
theorem d_Life_run_86 : decode b_Life_run 86 = .ok (.aload_n 0, 1) := by decide +kernel
theorem d_Life_run_87 : decode b_Life_run 87 = .ok (.aload_n 3, 1) := by decide +kernel
theorem d_Life_run_88 : decode b_Life_run 88 = .ok (.iload 4, 2) := by decide +kernel
theorem d_Life_run_90 : decode b_Life_run 90 = .ok (.invokevirtual 67, 3) := by decide +kernel
theorem d_Life_run_93 : decode b_Life_run 93 = .ok (.istore 4, 2) := by decide +kernel
theorem d_Life_run_95 : decode b_Life_run 95 = .ok (.goto 47, 3) := by decide +kernel
theorem d_Life_run_98 : decode b_Life_run 98 = .ok (.aload_n 0, 1) := by decide +kernel
theorem d_Life_run_99 : decode b_Life_run 99 = .ok (.getfield 46, 3) := by decide +kernel
theorem d_Life_run_102 : decode b_Life_run 102 = .ok (.sipush 300, 3) := by decide +kernel
theorem d_Life_run_105 : decode b_Life_run 105 = .ok (.if_icmp .lt 11, 3) := by decide +kernel
theorem d_Life_run_108 : decode b_Life_run 108 = .ok (.aload_n 0, 1) := by decide +kernel
theorem d_Life_run_109 : decode b_Life_run 109 = .ok (.iconst 1, 1) := by decide +kernel
theorem d_Life_run_110 : decode b_Life_run 110 = .ok (.putfield 43, 3) := by decide +kernel
theorem d_Life_run_113 : decode b_Life_run 113 = .ok (.goto 29, 3) := by decide +kernel
theorem d_Life_run_116 : decode b_Life_run 116 = .ok (.aload_n 0, 1) := by decide +kernel
theorem d_Life_run_117 : decode b_Life_run 117 = .ok (.dup, 1) := by decide +kernel
theorem d_Life_run_118 : decode b_Life_run 118 = .ok (.getfield 46, 3) := by decide +kernel
theorem d_Life_run_121 : decode b_Life_run 121 = .ok (.iconst 1, 1) := by decide +kernel
theorem d_Life_run_122 : decode b_Life_run 122 = .ok (.iadd, 1) := by decide +kernel
theorem d_Life_run_123 : decode b_Life_run 123 = .ok (.putfield 46, 3) := by decide +kernel
theorem d_Life_run_126 : decode b_Life_run 126 = .ok (.aload_n 0, 1) := by decide +kernel
theorem d_Life_run_127 : decode b_Life_run 127 = .ok (.aload_n 1, 1) := by decide +kernel
theorem d_Life_run_128 : decode b_Life_run 128 = .ok (.iload 4, 2) := by decide +kernel
theorem d_Life_run_130 : decode b_Life_run 130 = .ok (.invokevirtual 71, 3) := by decide +kernel
theorem d_Life_run_133 : decode b_Life_run 133 = .ok (.aload_n 0, 1) := by decide +kernel
theorem d_Life_run_134 : decode b_Life_run 134 = .ok (.aload_n 1, 1) := by decide +kernel
theorem d_Life_run_135 : decode b_Life_run 135 = .ok (.iload 4, 2) := by decide +kernel
theorem d_Life_run_137 : decode b_Life_run 137 = .ok (.invokevirtual 75, 3) := by decide +kernel
theorem d_Life_run_140 : decode b_Life_run 140 = .ok (.istore 4, 2) := by decide +kernel
theorem d_Life_run_142 : decode b_Life_run 142 = .ok (.iinc 5 1, 3) := by decide +kernel
theorem d_Life_run_145 : decode b_Life_run 145 = .ok (.goto (-94), 3) := by decide +kernel
theorem d_Life_run_148 : decode b_Life_run 148 = .ok (.return_, 1) := by decide +kernel
theorem d_Life_behindEnd_0 : decode b_Life_behindEnd 0 = .ok (.aload_n 1, 1) := by decide +kernel
theorem d_Life_behindEnd_1 : decode b_Life_behindEnd 1 = .ok (.getfield 79, 3) := by decide +kernel
theorem d_Life_behindEnd_4 : decode b_Life_behindEnd 4 = .ok (.iload_n 2, 1) := by decide +kernel
theorem d_Life_behindEnd_5 : decode b_Life_behindEnd 5 = .ok (.iaload, 1) := by decide +kernel
theorem d_Life_behindEnd_6 : decode b_Life_behindEnd 6 = .ok (.istore_n 3, 1) := by decide +kernel
theorem d_Life_behindEnd_7 : decode b_Life_behindEnd 7 = .ok (.aload_n 1, 1) := by decide +kernel
theorem d_Life_behindEnd_8 : decode b_Life_behindEnd 8 = .ok (.getfield 62, 3) := by decide +kernel
theorem d_Life_behindEnd_11 : decode b_Life_behindEnd 11 = .ok (.iload_n 3, 1) := by decide +kernel
theorem d_Life_behindEnd_12 : decode b_Life_behindEnd 12 = .ok (.iaload, 1) := by decide +kernel
theorem d_Life_behindEnd_13 : decode b_Life_behindEnd 13 = .ok (.bipush 22, 2) := by decide +kernel
theorem d_Life_behindEnd_15 : decode b_Life_behindEnd 15 = .ok (.if_icmp .ne 26, 3) := by decide +kernel
theorem d_Life_behindEnd_18 : decode b_Life_behindEnd 18 = .ok (.aload_n 0, 1) := by decide +kernel
theorem d_Life_behindEnd_19 : decode b_Life_behindEnd 19 = .ok (.getfield 11, 3) := by decide +kernel
theorem d_Life_behindEnd_22 : decode b_Life_behindEnd 22 = .ok (.iload_n 3, 1) := by decide +kernel
theorem d_Life_behindEnd_23 : decode b_Life_behindEnd 23 = .ok (.dup2, 1) := by decide +kernel
theorem d_Life_behindEnd_24 : decode b_Life_behindEnd 24 = .ok (.iaload, 1) := by decide +kernel
theorem d_Life_behindEnd_25 : decode b_Life_behindEnd 25 = .ok (.iconst 1, 1) := by decide +kernel
theorem d_Life_behindEnd_26 : decode b_Life_behindEnd 26 = .ok (.isub, 1) := by decide +kernel
theorem d_Life_behindEnd_27 : decode b_Life_behindEnd 27 = .ok (.iastore, 1) := by decide +kernel
theorem d_Life_behindEnd_28 : decode b_Life_behindEnd 28 = .ok (.aload_n 0, 1) := by decide +kernel
theorem d_Life_behindEnd_29 : decode b_Life_behindEnd 29 = .ok (.getfield 11, 3) := by decide +kernel
theorem d_Life_behindEnd_32 : decode b_Life_behindEnd 32 = .ok (.iload_n 3, 1) := by decide +kernel
theorem d_Life_behindEnd_33 : decode b_Life_behindEnd 33 = .ok (.iaload, 1) := by decide +kernel
theorem d_Life_behindEnd_34 : decode b_Life_behindEnd 34 = .ok (.ifCond .le 7, 3) := by decide +kernel
theorem d_Life_behindEnd_37 : decode b_Life_behindEnd 37 = .ok (.iload_n 3, 1) := by decide +kernel
theorem d_Life_behindEnd_38 : decode b_Life_behindEnd 38 = .ok (.iconst 1, 1) := by decide +kernel
theorem d_Life_behindEnd_39 : decode b_Life_behindEnd 39 = .ok (.iadd, 1) := by decide +kernel
theorem d_Life_behindEnd_40 : decode b_Life_behindEnd 40 = .ok (.ireturn, 1) := by decide +kernel
theorem d_Life_behindEnd_41 : decode b_Life_behindEnd 41 = .ok (.iload_n 2, 1) := by decide +kernel
theorem d_Life_behindEnd_42 : decode b_Life_behindEnd 42 = .ok (.iconst 1, 1) := by decide +kernel
theorem d_Life_behindEnd_43 : decode b_Life_behindEnd 43 = .ok (.iadd, 1) := by decide +kernel
theorem d_Life_behindEnd_44 : decode b_Life_behindEnd 44 = .ok (.ireturn, 1) := by decide +kernel
theorem d_Life_act_0 : decode b_Life_act 0 = .ok (.aload_n 1, 1) := by decide +kernel
theorem d_Life_act_1 : decode b_Life_act 1 = .ok (.getfield 52, 3) := by decide +kernel
theorem d_Life_act_4 : decode b_Life_act 4 = .ok (.getfield 82, 3) := by decide +kernel
theorem d_Life_act_7 : decode b_Life_act 7 = .ok (.iload_n 2, 1) := by decide +kernel
theorem d_Life_act_8 : decode b_Life_act 8 = .ok (.iaload, 1) := by decide +kernel
theorem d_Life_act_9 : decode b_Life_act 9 = .ok (.istore_n 3, 1) := by decide +kernel
theorem d_Life_act_10 : decode b_Life_act 10 = .ok (.aload_n 1, 1) := by decide +kernel
theorem d_Life_act_11 : decode b_Life_act 11 = .ok (.getfield 52, 3) := by decide +kernel
theorem d_Life_act_14 : decode b_Life_act 14 = .ok (.getfield 62, 3) := by decide +kernel
theorem d_Life_act_17 : decode b_Life_act 17 = .ok (.iload_n 2, 1) := by decide +kernel
theorem d_Life_act_18 : decode b_Life_act 18 = .ok (.iaload, 1) := by decide +kernel
theorem d_Life_act_19 : decode b_Life_act 19 = .ok (.tableswitch 170 10 16 #[41, 59, 50, 92, 71, 103, 114], 41) := by decide +kernel
theorem d_Life_act_60 : decode b_Life_act 60 = .ok (.aload_n 0, 1) := by decide +kernel
theorem d_Life_act_61 : decode b_Life_act 61 = .ok (.aload_n 1, 1) := by decide +kernel
theorem d_Life_act_62 : decode b_Life_act 62 = .ok (.iload_n 3, 1) := by decide +kernel
theorem d_Life_act_63 : decode b_Life_act 63 = .ok (.invokevirtual 113, 3) := by decide +kernel
theorem d_Life_act_66 : decode b_Life_act 66 = .ok (.goto 123, 3) := by decide +kernel
theorem d_Life_act_69 : decode b_Life_act 69 = .ok (.aload_n 0, 1) := by decide +kernel
theorem d_Life_act_70 : decode b_Life_act 70 = .ok (.aload_n 1, 1) := by decide +kernel
theorem d_Life_act_71 : decode b_Life_act 71 = .ok (.iload_n 3, 1) := by decide +kernel
theorem d_Life_act_72 : decode b_Life_act 72 = .ok (.invokevirtual 116, 3) := by decide +kernel
theorem d_Life_act_75 : decode b_Life_act 75 = .ok (.goto 114, 3) := by decide +kernel
theorem d_Life_act_78 : decode b_Life_act 78 = .ok (.aload_n 0, 1) := by decide +kernel
theorem d_Life_act_79 : decode b_Life_act 79 = .ok (.aload_n 1, 1) := by decide +kernel
theorem d_Life_act_80 : decode b_Life_act 80 = .ok (.iload_n 3, 1) := by decide +kernel
theorem d_Life_act_81 : decode b_Life_act 81 = .ok (.invokevirtual 119, 3) := by decide +kernel
theorem d_Life_act_84 : decode b_Life_act 84 = .ok (.invokevirtual 122, 3) := by decide +kernel
theorem d_Life_act_87 : decode b_Life_act 87 = .ok (.goto 102, 3) := by decide +kernel
theorem d_Life_act_90 : decode b_Life_act 90 = .ok (.aload_n 0, 1) := by decide +kernel
theorem d_Life_act_91 : decode b_Life_act 91 = .ok (.aload_n 1, 1) := by decide +kernel
theorem d_Life_act_92 : decode b_Life_act 92 = .ok (.iload_n 3, 1) := by decide +kernel
theorem d_Life_act_93 : decode b_Life_act 93 = .ok (.aload_n 1, 1) := by decide +kernel
theorem d_Life_act_94 : decode b_Life_act 94 = .ok (.getfield 52, 3) := by decide +kernel
theorem d_Life_act_97 : decode b_Life_act 97 = .ok (.getfield 102, 3) := by decide +kernel
theorem d_Life_act_100 : decode b_Life_act 100 = .ok (.iload_n 2, 1) := by decide +kernel
theorem d_Life_act_101 : decode b_Life_act 101 = .ok (.iaload, 1) := by decide +kernel
theorem d_Life_act_102 : decode b_Life_act 102 = .ok (.invokevirtual 126, 3) := by decide +kernel
theorem d_Life_act_105 : decode b_Life_act 105 = .ok (.invokevirtual 122, 3) := by decide +kernel
theorem d_Life_act_108 : decode b_Life_act 108 = .ok (.goto 81, 3) := by decide +kernel
theorem d_Life_act_111 : decode b_Life_act 111 = .ok (.aload_n 0, 1) := by decide +kernel
theorem d_Life_act_112 : decode b_Life_act 112 = .ok (.aload_n 1, 1) := by decide +kernel
theorem d_Life_act_113 : decode b_Life_act 113 = .ok (.invokevirtual 130, 3) := by decide +kernel
theorem d_Life_act_116 : decode b_Life_act 116 = .ok (.invokevirtual 122, 3) := by decide +kernel
theorem d_Life_act_119 : decode b_Life_act 119 = .ok (.goto 70, 3) := by decide +kernel
theorem d_Life_act_122 : decode b_Life_act 122 = .ok (.aload_n 0, 1) := by decide +kernel
theorem d_Life_act_123 : decode b_Life_act 123 = .ok (.aload_n 1, 1) := by decide +kernel
theorem d_Life_act_124 : decode b_Life_act 124 = .ok (.invokevirtual 134, 3) := by decide +kernel
theorem d_Life_act_127 : decode b_Life_act 127 = .ok (.invokevirtual 122, 3) := by decide +kernel
theorem d_Life_act_130 : decode b_Life_act 130 = .ok (.goto 59, 3) := by decide +kernel
theorem d_Life_act_133 : decode b_Life_act 133 = .ok (.aload_n 0, 1) := by decide +kernel
theorem d_Life_act_134 : decode b_Life_act 134 = .ok (.aload_n 1, 1) := by decide +kernel
theorem d_Life_act_135 : decode b_Life_act 135 = .ok (.invokevirtual 137, 3) := by decide +kernel
theorem d_Life_act_138 : decode b_Life_act 138 = .ok (.aload_n 1, 1) := by decide +kernel
theorem d_Life_act_139 : decode b_Life_act 139 = .ok (.getfield 141, 3) := by decide +kernel
theorem d_Life_act_142 : decode b_Life_act 142 = .ok (.ifCond .ne 16, 3) := by decide +kernel
theorem d_Life_act_145 : decode b_Life_act 145 = .ok (.aload_n 0, 1) := by decide +kernel
theorem d_Life_act_146 : decode b_Life_act 146 = .ok (.dup, 1) := by decide +kernel
theorem d_Life_act_147 : decode b_Life_act 147 = .ok (.getfield 31, 3) := by decide +kernel
theorem d_Life_act_150 : decode b_Life_act 150 = .ok (.iconst 1, 1) := by decide +kernel
theorem d_Life_act_151 : decode b_Life_act 151 = .ok (.iadd, 1) := by decide +kernel
theorem d_Life_act_152 : decode b_Life_act 152 = .ok (.putfield 31, 3) := by decide +kernel
theorem d_Life_act_155 : decode b_Life_act 155 = .ok (.goto 34, 3) := by decide +kernel
theorem d_Life_act_158 : decode b_Life_act 158 = .ok (.aload_n 0, 1) := by decide +kernel
theorem d_Life_act_159 : decode b_Life_act 159 = .ok (.getfield 27, 3) := by decide +kernel
theorem d_Life_act_162 : decode b_Life_act 162 = .ok (.ifCond .eq 15, 3) := by decide +kernel
theorem d_Life_act_165 : decode b_Life_act 165 = .ok (.aload_n 0, 1) := by decide +kernel
theorem d_Life_act_166 : decode b_Life_act 166 = .ok (.aload_n 1, 1) := by decide +kernel
theorem d_Life_act_167 : decode b_Life_act 167 = .ok (.aload_n 0, 1) := by decide +kernel
theorem d_Life_act_168 : decode b_Life_act 168 = .ok (.getfield 21, 3) := by decide +kernel
theorem d_Life_act_171 : decode b_Life_act 171 = .ok (.invokevirtual 113, 3) := by decide +kernel
theorem d_Life_act_174 : decode b_Life_act 174 = .ok (.goto 15, 3) := by decide +kernel
theorem d_Life_act_177 : decode b_Life_act 177 = .ok (.aload_n 0, 1) := by decide +kernel
theorem d_Life_act_178 : decode b_Life_act 178 = .ok (.aload_n 1, 1) := by decide +kernel
theorem d_Life_act_179 : decode b_Life_act 179 = .ok (.aload_n 0, 1) := by decide +kernel
theorem d_Life_act_180 : decode b_Life_act 180 = .ok (.getfield 24, 3) := by decide +kernel
theorem d_Life_act_183 : decode b_Life_act 183 = .ok (.invokevirtual 116, 3) := by decide +kernel
theorem d_Life_act_186 : decode b_Life_act 186 = .ok (.goto 3, 3) := by decide +kernel
theorem d_Life_act_189 : decode b_Life_act 189 = .ok (.return_, 1) := by decide +kernel
theorem d_Life_playOne_0 : decode b_Life_playOne 0 = .ok (.aload_n 1, 1) := by decide +kernel
theorem d_Life_playOne_1 : decode b_Life_playOne 1 = .ok (.iload_n 2, 1) := by decide +kernel
theorem d_Life_playOne_2 : decode b_Life_playOne 2 = .ok (.invokevirtual 153, 3) := by decide +kernel
theorem d_Life_playOne_5 : decode b_Life_playOne 5 = .ok (.istore_n 3, 1) := by decide +kernel
theorem d_Life_playOne_6 : decode b_Life_playOne 6 = .ok (.iload_n 3, 1) := by decide +kernel
theorem d_Life_playOne_7 : decode b_Life_playOne 7 = .ok (.iconst (-1), 1) := by decide +kernel
theorem d_Life_playOne_8 : decode b_Life_playOne 8 = .ok (.if_icmp .ne 16, 3) := by decide +kernel
theorem d_Life_playOne_11 : decode b_Life_playOne 11 = .ok (.aload_n 0, 1) := by decide +kernel
theorem d_Life_playOne_12 : decode b_Life_playOne 12 = .ok (.dup, 1) := by decide +kernel
theorem d_Life_playOne_13 : decode b_Life_playOne 13 = .ok (.getfield 31, 3) := by decide +kernel
theorem d_Life_playOne_16 : decode b_Life_playOne 16 = .ok (.iconst 1, 1) := by decide +kernel
theorem d_Life_playOne_17 : decode b_Life_playOne 17 = .ok (.iadd, 1) := by decide +kernel
theorem d_Life_playOne_18 : decode b_Life_playOne 18 = .ok (.putfield 31, 3) := by decide +kernel
theorem d_Life_playOne_21 : decode b_Life_playOne 21 = .ok (.goto 23, 3) := by decide +kernel
theorem d_Life_playOne_24 : decode b_Life_playOne 24 = .ok (.aload_n 0, 1) := by decide +kernel
theorem d_Life_playOne_25 : decode b_Life_playOne 25 = .ok (.dup, 1) := by decide +kernel
theorem d_Life_playOne_26 : decode b_Life_playOne 26 = .ok (.getfield 34, 3) := by decide +kernel
theorem d_Life_playOne_29 : decode b_Life_playOne 29 = .ok (.iconst 1, 1) := by decide +kernel
theorem d_Life_playOne_30 : decode b_Life_playOne 30 = .ok (.iadd, 1) := by decide +kernel
theorem d_Life_playOne_31 : decode b_Life_playOne 31 = .ok (.putfield 34, 3) := by decide +kernel
theorem d_Life_playOne_34 : decode b_Life_playOne 34 = .ok (.aload_n 0, 1) := by decide +kernel
theorem d_Life_playOne_35 : decode b_Life_playOne 35 = .ok (.dup, 1) := by decide +kernel
theorem d_Life_playOne_36 : decode b_Life_playOne 36 = .ok (.getfield 37, 3) := by decide +kernel
theorem d_Life_playOne_39 : decode b_Life_playOne 39 = .ok (.iload_n 3, 1) := by decide +kernel
theorem d_Life_playOne_40 : decode b_Life_playOne 40 = .ok (.iadd, 1) := by decide +kernel
theorem d_Life_playOne_41 : decode b_Life_playOne 41 = .ok (.putfield 37, 3) := by decide +kernel
theorem d_Life_playOne_44 : decode b_Life_playOne 44 = .ok (.return_, 1) := by decide +kernel
theorem d_Life_throwOne_0 : decode b_Life_throwOne 0 = .ok (.aload_n 1, 1) := by decide +kernel
theorem d_Life_throwOne_1 : decode b_Life_throwOne 1 = .ok (.iload_n 2, 1) := by decide +kernel
theorem d_Life_throwOne_2 : decode b_Life_throwOne 2 = .ok (.invokevirtual 156, 3) := by decide +kernel
theorem d_Life_throwOne_5 : decode b_Life_throwOne 5 = .ok (.iconst (-1), 1) := by decide +kernel
theorem d_Life_throwOne_6 : decode b_Life_throwOne 6 = .ok (.if_icmp .ne 16, 3) := by decide +kernel
theorem d_Life_throwOne_9 : decode b_Life_throwOne 9 = .ok (.aload_n 0, 1) := by decide +kernel
theorem d_Life_throwOne_10 : decode b_Life_throwOne 10 = .ok (.dup, 1) := by decide +kernel
theorem d_Life_throwOne_11 : decode b_Life_throwOne 11 = .ok (.getfield 31, 3) := by decide +kernel
theorem d_Life_throwOne_14 : decode b_Life_throwOne 14 = .ok (.iconst 1, 1) := by decide +kernel
theorem d_Life_throwOne_15 : decode b_Life_throwOne 15 = .ok (.iadd, 1) := by decide +kernel
theorem d_Life_throwOne_16 : decode b_Life_throwOne 16 = .ok (.putfield 31, 3) := by decide +kernel
theorem d_Life_throwOne_19 : decode b_Life_throwOne 19 = .ok (.goto 13, 3) := by decide +kernel
theorem d_Life_throwOne_22 : decode b_Life_throwOne 22 = .ok (.aload_n 0, 1) := by decide +kernel
theorem d_Life_throwOne_23 : decode b_Life_throwOne 23 = .ok (.dup, 1) := by decide +kernel
theorem d_Life_throwOne_24 : decode b_Life_throwOne 24 = .ok (.getfield 40, 3) := by decide +kernel
theorem d_Life_throwOne_27 : decode b_Life_throwOne 27 = .ok (.iconst 1, 1) := by decide +kernel
theorem d_Life_throwOne_28 : decode b_Life_throwOne 28 = .ok (.iadd, 1) := by decide +kernel
theorem d_Life_throwOne_29 : decode b_Life_throwOne 29 = .ok (.putfield 40, 3) := by decide +kernel
theorem d_Life_throwOne_32 : decode b_Life_throwOne 32 = .ok (.return_, 1) := by decide +kernel
theorem d_Life_countMissed_0 : decode b_Life_countMissed 0 = .ok (.iload_n 1, 1) := by decide +kernel
theorem d_Life_countMissed_1 : decode b_Life_countMissed 1 = .ok (.iconst (-1), 1) := by decide +kernel
theorem d_Life_countMissed_2 : decode b_Life_countMissed 2 = .ok (.if_icmp .ne 13, 3) := by decide +kernel
theorem d_Life_countMissed_5 : decode b_Life_countMissed 5 = .ok (.aload_n 0, 1) := by decide +kernel
theorem d_Life_countMissed_6 : decode b_Life_countMissed 6 = .ok (.dup, 1) := by decide +kernel
theorem d_Life_countMissed_7 : decode b_Life_countMissed 7 = .ok (.getfield 31, 3) := by decide +kernel
theorem d_Life_countMissed_10 : decode b_Life_countMissed 10 = .ok (.iconst 1, 1) := by decide +kernel
theorem d_Life_countMissed_11 : decode b_Life_countMissed 11 = .ok (.iadd, 1) := by decide +kernel
theorem d_Life_countMissed_12 : decode b_Life_countMissed 12 = .ok (.putfield 31, 3) := by decide +kernel
theorem d_Life_countMissed_15 : decode b_Life_countMissed 15 = .ok (.return_, 1) := by decide +kernel
theorem d_Life_drawAll_0 : decode b_Life_drawAll 0 = .ok (.aload_n 1, 1) := by decide +kernel
theorem d_Life_drawAll_1 : decode b_Life_drawAll 1 = .ok (.getfield 141, 3) := by decide +kernel
theorem d_Life_drawAll_4 : decode b_Life_drawAll 4 = .ok (.ifCond .le 49, 3) := by decide +kernel
theorem d_Life_drawAll_7 : decode b_Life_drawAll 7 = .ok (.aload_n 0, 1) := by decide +kernel
theorem d_Life_drawAll_8 : decode b_Life_drawAll 8 = .ok (.aload_n 0, 1) := by decide +kernel
theorem d_Life_drawAll_9 : decode b_Life_drawAll 9 = .ok (.aload_n 1, 1) := by decide +kernel
theorem d_Life_drawAll_10 : decode b_Life_drawAll 10 = .ok (.getfield 141, 3) := by decide +kernel
theorem d_Life_drawAll_13 : decode b_Life_drawAll 13 = .ok (.invokevirtual 144, 3) := by decide +kernel
theorem d_Life_drawAll_16 : decode b_Life_drawAll 16 = .ok (.putfield 21, 3) := by decide +kernel
theorem d_Life_drawAll_19 : decode b_Life_drawAll 19 = .ok (.aload_n 0, 1) := by decide +kernel
theorem d_Life_drawAll_20 : decode b_Life_drawAll 20 = .ok (.aload_n 0, 1) := by decide +kernel
theorem d_Life_drawAll_21 : decode b_Life_drawAll 21 = .ok (.aload_n 1, 1) := by decide +kernel
theorem d_Life_drawAll_22 : decode b_Life_drawAll 22 = .ok (.invokevirtual 147, 3) := by decide +kernel
theorem d_Life_drawAll_25 : decode b_Life_drawAll 25 = .ok (.invokevirtual 144, 3) := by decide +kernel
theorem d_Life_drawAll_28 : decode b_Life_drawAll 28 = .ok (.putfield 24, 3) := by decide +kernel
theorem d_Life_drawAll_31 : decode b_Life_drawAll 31 = .ok (.aload_n 0, 1) := by decide +kernel
theorem d_Life_drawAll_32 : decode b_Life_drawAll 32 = .ok (.aload_n 0, 1) := by decide +kernel
theorem d_Life_drawAll_33 : decode b_Life_drawAll 33 = .ok (.bipush 16, 2) := by decide +kernel
theorem d_Life_drawAll_35 : decode b_Life_drawAll 35 = .ok (.invokevirtual 144, 3) := by decide +kernel
theorem d_Life_drawAll_38 : decode b_Life_drawAll 38 = .ok (.aload_n 1, 1) := by decide +kernel
theorem d_Life_drawAll_39 : decode b_Life_drawAll 39 = .ok (.getfield 150, 3) := by decide +kernel
theorem d_Life_drawAll_42 : decode b_Life_drawAll 42 = .ok (.if_icmp .ge 7, 3) := by decide +kernel
theorem d_Life_drawAll_45 : decode b_Life_drawAll 45 = .ok (.iconst 1, 1) := by decide +kernel
theorem d_Life_drawAll_46 : decode b_Life_drawAll 46 = .ok (.goto 4, 3) := by decide +kernel
theorem d_Life_drawAll_49 : decode b_Life_drawAll 49 = .ok (.iconst 0, 1) := by decide +kernel
theorem d_Life_drawAll_50 : decode b_Life_drawAll 50 = .ok (.putfield 27, 3) := by decide +kernel
theorem d_Life_drawAll_53 : decode b_Life_drawAll 53 = .ok (.return_, 1) := by decide +kernel
theorem d_Life_draw_0 : decode b_Life_draw 0 = .ok (.aload_n 0, 1) := by decide +kernel
theorem d_Life_draw_1 : decode b_Life_draw 1 = .ok (.aload_n 0, 1) := by decide +kernel
theorem d_Life_draw_2 : decode b_Life_draw 2 = .ok (.getfield 17, 3) := by decide +kernel
theorem d_Life_draw_5 : decode b_Life_draw 5 = .ok (.sipush 3257, 3) := by decide +kernel
theorem d_Life_draw_8 : decode b_Life_draw 8 = .ok (.imul, 1) := by decide +kernel
theorem d_Life_draw_9 : decode b_Life_draw 9 = .ok (.sipush 11483, 3) := by decide +kernel
theorem d_Life_draw_12 : decode b_Life_draw 12 = .ok (.iadd, 1) := by decide +kernel
theorem d_Life_draw_13 : decode b_Life_draw 13 = .ok (.ldc 159, 2) := by decide +kernel
theorem d_Life_draw_15 : decode b_Life_draw 15 = .ok (.irem, 1) := by decide +kernel
theorem d_Life_draw_16 : decode b_Life_draw 16 = .ok (.putfield 17, 3) := by decide +kernel
theorem d_Life_draw_19 : decode b_Life_draw 19 = .ok (.iload_n 1, 1) := by decide +kernel
theorem d_Life_draw_20 : decode b_Life_draw 20 = .ok (.ifCond .le 15, 3) := by decide +kernel
theorem d_Life_draw_23 : decode b_Life_draw 23 = .ok (.aload_n 0, 1) := by decide +kernel
theorem d_Life_draw_24 : decode b_Life_draw 24 = .ok (.getfield 17, 3) := by decide +kernel
theorem d_Life_draw_27 : decode b_Life_draw 27 = .ok (.bipush 8, 2) := by decide +kernel
theorem d_Life_draw_29 : decode b_Life_draw 29 = .ok (.idiv, 1) := by decide +kernel
theorem d_Life_draw_30 : decode b_Life_draw 30 = .ok (.iload_n 1, 1) := by decide +kernel
theorem d_Life_draw_31 : decode b_Life_draw 31 = .ok (.irem, 1) := by decide +kernel
theorem d_Life_draw_32 : decode b_Life_draw 32 = .ok (.goto 4, 3) := by decide +kernel
theorem d_Life_draw_35 : decode b_Life_draw 35 = .ok (.iconst 0, 1) := by decide +kernel
theorem d_Life_draw_36 : decode b_Life_draw 36 = .ok (.ireturn, 1) := by decide +kernel
theorem d_Life_behindStep_0 : decode b_Life_behindStep 0 = .ok (.aload_n 1, 1) := by decide +kernel
theorem d_Life_behindStep_1 : decode b_Life_behindStep 1 = .ok (.getfield 52, 3) := by decide +kernel
theorem d_Life_behindStep_4 : decode b_Life_behindStep 4 = .ok (.astore_n 3, 1) := by decide +kernel
theorem d_Life_behindStep_5 : decode b_Life_behindStep 5 = .ok (.aload_n 3, 1) := by decide +kernel
theorem d_Life_behindStep_6 : decode b_Life_behindStep 6 = .ok (.getfield 62, 3) := by decide +kernel
theorem d_Life_behindStep_9 : decode b_Life_behindStep 9 = .ok (.iload_n 2, 1) := by decide +kernel
theorem d_Life_behindStep_10 : decode b_Life_behindStep 10 = .ok (.iaload, 1) := by decide +kernel
theorem d_Life_behindStep_11 : decode b_Life_behindStep 11 = .ok (.tableswitch 104 18 24 #[80, 80, 80, 80, 46, 104, 41], 41) := by decide +kernel
theorem d_Life_behindStep_52 : decode b_Life_behindStep 52 = .ok (.aload_n 3, 1) := by decide +kernel
theorem d_Life_behindStep_53 : decode b_Life_behindStep 53 = .ok (.getfield 59, 3) := by decide +kernel
theorem d_Life_behindStep_56 : decode b_Life_behindStep 56 = .ok (.ireturn, 1) := by decide +kernel
theorem d_Life_behindStep_57 : decode b_Life_behindStep 57 = .ok (.aload_n 0, 1) := by decide +kernel
theorem d_Life_behindStep_58 : decode b_Life_behindStep 58 = .ok (.getfield 11, 3) := by decide +kernel
theorem d_Life_behindStep_61 : decode b_Life_behindStep 61 = .ok (.iload_n 2, 1) := by decide +kernel
theorem d_Life_behindStep_62 : decode b_Life_behindStep 62 = .ok (.aload_n 3, 1) := by decide +kernel
theorem d_Life_behindStep_63 : decode b_Life_behindStep 63 = .ok (.getfield 82, 3) := by decide +kernel
theorem d_Life_behindStep_66 : decode b_Life_behindStep 66 = .ok (.iload_n 2, 1) := by decide +kernel
theorem d_Life_behindStep_67 : decode b_Life_behindStep 67 = .ok (.iaload, 1) := by decide +kernel
theorem d_Life_behindStep_68 : decode b_Life_behindStep 68 = .ok (.iastore, 1) := by decide +kernel
theorem d_Life_behindStep_69 : decode b_Life_behindStep 69 = .ok (.aload_n 3, 1) := by decide +kernel
theorem d_Life_behindStep_70 : decode b_Life_behindStep 70 = .ok (.getfield 79, 3) := by decide +kernel
theorem d_Life_behindStep_73 : decode b_Life_behindStep 73 = .ok (.iload_n 2, 1) := by decide +kernel
theorem d_Life_behindStep_74 : decode b_Life_behindStep 74 = .ok (.iaload, 1) := by decide +kernel
theorem d_Life_behindStep_75 : decode b_Life_behindStep 75 = .ok (.iload_n 2, 1) := by decide +kernel
theorem d_Life_behindStep_76 : decode b_Life_behindStep 76 = .ok (.iconst 1, 1) := by decide +kernel
theorem d_Life_behindStep_77 : decode b_Life_behindStep 77 = .ok (.iadd, 1) := by decide +kernel
theorem d_Life_behindStep_78 : decode b_Life_behindStep 78 = .ok (.if_icmp .ne 9, 3) := by decide +kernel
theorem d_Life_behindStep_81 : decode b_Life_behindStep 81 = .ok (.iload_n 2, 1) := by decide +kernel
theorem d_Life_behindStep_82 : decode b_Life_behindStep 82 = .ok (.iconst 2, 1) := by decide +kernel
theorem d_Life_behindStep_83 : decode b_Life_behindStep 83 = .ok (.iadd, 1) := by decide +kernel
theorem d_Life_behindStep_84 : decode b_Life_behindStep 84 = .ok (.goto 6, 3) := by decide +kernel
theorem d_Life_behindStep_87 : decode b_Life_behindStep 87 = .ok (.iload_n 2, 1) := by decide +kernel
theorem d_Life_behindStep_88 : decode b_Life_behindStep 88 = .ok (.iconst 1, 1) := by decide +kernel
theorem d_Life_behindStep_89 : decode b_Life_behindStep 89 = .ok (.iadd, 1) := by decide +kernel
theorem d_Life_behindStep_90 : decode b_Life_behindStep 90 = .ok (.ireturn, 1) := by decide +kernel
theorem d_Life_behindStep_91 : decode b_Life_behindStep 91 = .ok (.aload_n 0, 1) := by decide +kernel
theorem d_Life_behindStep_92 : decode b_Life_behindStep 92 = .ok (.aload_n 1, 1) := by decide +kernel
theorem d_Life_behindStep_93 : decode b_Life_behindStep 93 = .ok (.iload_n 2, 1) := by decide +kernel
theorem d_Life_behindStep_94 : decode b_Life_behindStep 94 = .ok (.invokevirtual 85, 3) := by decide +kernel
theorem d_Life_behindStep_97 : decode b_Life_behindStep 97 = .ok (.ifCond .eq 9, 3) := by decide +kernel
theorem d_Life_behindStep_100 : decode b_Life_behindStep 100 = .ok (.iload_n 2, 1) := by decide +kernel
theorem d_Life_behindStep_101 : decode b_Life_behindStep 101 = .ok (.iconst 1, 1) := by decide +kernel
theorem d_Life_behindStep_102 : decode b_Life_behindStep 102 = .ok (.iadd, 1) := by decide +kernel
theorem d_Life_behindStep_103 : decode b_Life_behindStep 103 = .ok (.goto 11, 3) := by decide +kernel
theorem d_Life_behindStep_106 : decode b_Life_behindStep 106 = .ok (.aload_n 3, 1) := by decide +kernel
theorem d_Life_behindStep_107 : decode b_Life_behindStep 107 = .ok (.getfield 79, 3) := by decide +kernel
theorem d_Life_behindStep_110 : decode b_Life_behindStep 110 = .ok (.iload_n 2, 1) := by decide +kernel
theorem d_Life_behindStep_111 : decode b_Life_behindStep 111 = .ok (.iaload, 1) := by decide +kernel
theorem d_Life_behindStep_112 : decode b_Life_behindStep 112 = .ok (.iconst 1, 1) := by decide +kernel
theorem d_Life_behindStep_113 : decode b_Life_behindStep 113 = .ok (.iadd, 1) := by decide +kernel
theorem d_Life_behindStep_114 : decode b_Life_behindStep 114 = .ok (.ireturn, 1) := by decide +kernel
theorem d_Life_behindStep_115 : decode b_Life_behindStep 115 = .ok (.iload_n 2, 1) := by decide +kernel
theorem d_Life_behindStep_116 : decode b_Life_behindStep 116 = .ok (.iconst 1, 1) := by decide +kernel
theorem d_Life_behindStep_117 : decode b_Life_behindStep 117 = .ok (.iadd, 1) := by decide +kernel
theorem d_Life_behindStep_118 : decode b_Life_behindStep 118 = .ok (.ireturn, 1) := by decide +kernel
theorem d_Life_holds_0 : decode b_Life_holds 0 = .ok (.aload_n 1, 1) := by decide +kernel
theorem d_Life_holds_1 : decode b_Life_holds 1 = .ok (.getfield 52, 3) := by decide +kernel
theorem d_Life_holds_4 : decode b_Life_holds 4 = .ok (.astore_n 3, 1) := by decide +kernel
theorem d_Life_holds_5 : decode b_Life_holds 5 = .ok (.aload_n 3, 1) := by decide +kernel
theorem d_Life_holds_6 : decode b_Life_holds 6 = .ok (.getfield 82, 3) := by decide +kernel
theorem d_Life_holds_9 : decode b_Life_holds 9 = .ok (.iload_n 2, 1) := by decide +kernel
theorem d_Life_holds_10 : decode b_Life_holds 10 = .ok (.iaload, 1) := by decide +kernel
theorem d_Life_holds_11 : decode b_Life_holds 11 = .ok (.istore 4, 2) := by decide +kernel
theorem d_Life_holds_13 : decode b_Life_holds 13 = .ok (.aload_n 3, 1) := by decide +kernel
theorem d_Life_holds_14 : decode b_Life_holds 14 = .ok (.getfield 62, 3) := by decide +kernel
theorem d_Life_holds_17 : decode b_Life_holds 17 = .ok (.iload_n 2, 1) := by decide +kernel
theorem d_Life_holds_18 : decode b_Life_holds 18 = .ok (.iaload, 1) := by decide +kernel
theorem d_Life_holds_19 : decode b_Life_holds 19 = .ok (.tableswitch 59 18 20 #[25, 32, 39], 25) := by decide +kernel
theorem d_Life_holds_44 : decode b_Life_holds 44 = .ok (.aload_n 1, 1) := by decide +kernel
theorem d_Life_holds_45 : decode b_Life_holds 45 = .ok (.iload 4, 2) := by decide +kernel
theorem d_Life_holds_47 : decode b_Life_holds 47 = .ok (.invokevirtual 89, 3) := by decide +kernel
theorem d_Life_holds_50 : decode b_Life_holds 50 = .ok (.ireturn, 1) := by decide +kernel
theorem d_Life_holds_51 : decode b_Life_holds 51 = .ok (.aload_n 1, 1) := by decide +kernel
theorem d_Life_holds_52 : decode b_Life_holds 52 = .ok (.iload 4, 2) := by decide +kernel
theorem d_Life_holds_54 : decode b_Life_holds 54 = .ok (.invokevirtual 93, 3) := by decide +kernel
theorem d_Life_holds_57 : decode b_Life_holds 57 = .ok (.ireturn, 1) := by decide +kernel
theorem d_Life_holds_58 : decode b_Life_holds 58 = .ok (.aload_n 1, 1) := by decide +kernel
theorem d_Life_holds_59 : decode b_Life_holds 59 = .ok (.getfield 96, 3) := by decide +kernel
theorem d_Life_holds_62 : decode b_Life_holds 62 = .ok (.aload_n 3, 1) := by decide +kernel
theorem d_Life_holds_63 : decode b_Life_holds 63 = .ok (.getfield 99, 3) := by decide +kernel
theorem d_Life_holds_66 : decode b_Life_holds 66 = .ok (.iload_n 2, 1) := by decide +kernel
theorem d_Life_holds_67 : decode b_Life_holds 67 = .ok (.iaload, 1) := by decide +kernel
theorem d_Life_holds_68 : decode b_Life_holds 68 = .ok (.aload_n 3, 1) := by decide +kernel
theorem d_Life_holds_69 : decode b_Life_holds 69 = .ok (.getfield 102, 3) := by decide +kernel
theorem d_Life_holds_72 : decode b_Life_holds 72 = .ok (.iload_n 2, 1) := by decide +kernel
theorem d_Life_holds_73 : decode b_Life_holds 73 = .ok (.iaload, 1) := by decide +kernel
theorem d_Life_holds_74 : decode b_Life_holds 74 = .ok (.invokestatic 105, 3) := by decide +kernel
theorem d_Life_holds_77 : decode b_Life_holds 77 = .ok (.ireturn, 1) := by decide +kernel
theorem d_Life_holds_78 : decode b_Life_holds 78 = .ok (.aload_n 1, 1) := by decide +kernel
theorem d_Life_holds_79 : decode b_Life_holds 79 = .ok (.iload 4, 2) := by decide +kernel
theorem d_Life_holds_81 : decode b_Life_holds 81 = .ok (.invokevirtual 109, 3) := by decide +kernel
theorem d_Life_holds_84 : decode b_Life_holds 84 = .ok (.aload_n 3, 1) := by decide +kernel
theorem d_Life_holds_85 : decode b_Life_holds 85 = .ok (.getfield 99, 3) := by decide +kernel
theorem d_Life_holds_88 : decode b_Life_holds 88 = .ok (.iload_n 2, 1) := by decide +kernel
theorem d_Life_holds_89 : decode b_Life_holds 89 = .ok (.iaload, 1) := by decide +kernel
theorem d_Life_holds_90 : decode b_Life_holds 90 = .ok (.aload_n 3, 1) := by decide +kernel
theorem d_Life_holds_91 : decode b_Life_holds 91 = .ok (.getfield 102, 3) := by decide +kernel
theorem d_Life_holds_94 : decode b_Life_holds 94 = .ok (.iload_n 2, 1) := by decide +kernel
theorem d_Life_holds_95 : decode b_Life_holds 95 = .ok (.iaload, 1) := by decide +kernel
theorem d_Life_holds_96 : decode b_Life_holds 96 = .ok (.invokestatic 105, 3) := by decide +kernel
theorem d_Life_holds_99 : decode b_Life_holds 99 = .ok (.ireturn, 1) := by decide +kernel
theorem d_Life_compares_0 : decode b_Life_compares 0 = .ok (.iload_n 1, 1) := by decide +kernel
theorem d_Life_compares_1 : decode b_Life_compares 1 = .ok (.bipush 60, 2) := by decide +kernel
theorem d_Life_compares_3 : decode b_Life_compares 3 = .ok (.if_icmp .ne 14, 3) := by decide +kernel
theorem d_Life_compares_6 : decode b_Life_compares 6 = .ok (.iload_n 0, 1) := by decide +kernel
theorem d_Life_compares_7 : decode b_Life_compares 7 = .ok (.iload_n 2, 1) := by decide +kernel
theorem d_Life_compares_8 : decode b_Life_compares 8 = .ok (.if_icmp .ge 7, 3) := by decide +kernel
theorem d_Life_compares_11 : decode b_Life_compares 11 = .ok (.iconst 1, 1) := by decide +kernel
theorem d_Life_compares_12 : decode b_Life_compares 12 = .ok (.goto 4, 3) := by decide +kernel
theorem d_Life_compares_15 : decode b_Life_compares 15 = .ok (.iconst 0, 1) := by decide +kernel
theorem d_Life_compares_16 : decode b_Life_compares 16 = .ok (.ireturn, 1) := by decide +kernel
theorem d_Life_compares_17 : decode b_Life_compares 17 = .ok (.iload_n 1, 1) := by decide +kernel
theorem d_Life_compares_18 : decode b_Life_compares 18 = .ok (.bipush 62, 2) := by decide +kernel
theorem d_Life_compares_20 : decode b_Life_compares 20 = .ok (.if_icmp .ne 16, 3) := by decide +kernel
theorem d_Life_compares_23 : decode b_Life_compares 23 = .ok (.iload_n 0, 1) := by decide +kernel
theorem d_Life_compares_24 : decode b_Life_compares 24 = .ok (.iload_n 2, 1) := by decide +kernel
theorem d_Life_compares_25 : decode b_Life_compares 25 = .ok (.if_icmp .le 7, 3) := by decide +kernel
theorem d_Life_compares_28 : decode b_Life_compares 28 = .ok (.iconst 1, 1) := by decide +kernel
theorem d_Life_compares_29 : decode b_Life_compares 29 = .ok (.goto 17, 3) := by decide +kernel
theorem d_Life_compares_32 : decode b_Life_compares 32 = .ok (.iconst 0, 1) := by decide +kernel
theorem d_Life_compares_33 : decode b_Life_compares 33 = .ok (.goto 13, 3) := by decide +kernel
theorem d_Life_compares_36 : decode b_Life_compares 36 = .ok (.iload_n 0, 1) := by decide +kernel
theorem d_Life_compares_37 : decode b_Life_compares 37 = .ok (.iload_n 2, 1) := by decide +kernel
theorem d_Life_compares_38 : decode b_Life_compares 38 = .ok (.if_icmp .ne 7, 3) := by decide +kernel
theorem d_Life_compares_41 : decode b_Life_compares 41 = .ok (.iconst 1, 1) := by decide +kernel
theorem d_Life_compares_42 : decode b_Life_compares 42 = .ok (.goto 4, 3) := by decide +kernel
theorem d_Life_compares_45 : decode b_Life_compares 45 = .ok (.iconst 0, 1) := by decide +kernel
theorem d_Life_compares_46 : decode b_Life_compares 46 = .ok (.ireturn, 1) := by decide +kernel
theorem d_Life_count_0 : decode b_Life_count 0 = .ok (.iload_n 1, 1) := by decide +kernel
theorem d_Life_count_1 : decode b_Life_count 1 = .ok (.tableswitch 51 0 3 #[31, 36, 41, 46], 31) := by decide +kernel
theorem d_Life_count_32 : decode b_Life_count 32 = .ok (.aload_n 0, 1) := by decide +kernel
theorem d_Life_count_33 : decode b_Life_count 33 = .ok (.getfield 31, 3) := by decide +kernel
theorem d_Life_count_36 : decode b_Life_count 36 = .ok (.ireturn, 1) := by decide +kernel
theorem d_Life_count_37 : decode b_Life_count 37 = .ok (.aload_n 0, 1) := by decide +kernel
theorem d_Life_count_38 : decode b_Life_count 38 = .ok (.getfield 34, 3) := by decide +kernel
theorem d_Life_count_41 : decode b_Life_count 41 = .ok (.ireturn, 1) := by decide +kernel
theorem d_Life_count_42 : decode b_Life_count 42 = .ok (.aload_n 0, 1) := by decide +kernel
theorem d_Life_count_43 : decode b_Life_count 43 = .ok (.getfield 37, 3) := by decide +kernel
theorem d_Life_count_46 : decode b_Life_count 46 = .ok (.ireturn, 1) := by decide +kernel
theorem d_Life_count_47 : decode b_Life_count 47 = .ok (.aload_n 0, 1) := by decide +kernel
theorem d_Life_count_48 : decode b_Life_count 48 = .ok (.getfield 40, 3) := by decide +kernel
theorem d_Life_count_51 : decode b_Life_count 51 = .ok (.ireturn, 1) := by decide +kernel
theorem d_Life_count_52 : decode b_Life_count 52 = .ok (.aload_n 0, 1) := by decide +kernel
theorem d_Life_count_53 : decode b_Life_count 53 = .ok (.getfield 43, 3) := by decide +kernel
theorem d_Life_count_56 : decode b_Life_count 56 = .ok (.ifCond .eq 7, 3) := by decide +kernel
theorem d_Life_count_59 : decode b_Life_count 59 = .ok (.iconst 1, 1) := by decide +kernel
theorem d_Life_count_60 : decode b_Life_count 60 = .ok (.goto 4, 3) := by decide +kernel
theorem d_Life_count_63 : decode b_Life_count 63 = .ok (.iconst 0, 1) := by decide +kernel
theorem d_Life_count_64 : decode b_Life_count 64 = .ok (.ireturn, 1) := by decide +kernel
theorem d_Square_copyFrom_0 : decode b_Square_copyFrom 0 = .ok (.aload_n 1, 1) := by decide +kernel
theorem d_Square_copyFrom_1 : decode b_Square_copyFrom 1 = .ok (.getfield 9, 3) := by decide +kernel
theorem d_Square_copyFrom_4 : decode b_Square_copyFrom 4 = .ok (.iconst 0, 1) := by decide +kernel
theorem d_Square_copyFrom_5 : decode b_Square_copyFrom 5 = .ok (.aload_n 0, 1) := by decide +kernel
theorem d_Square_copyFrom_6 : decode b_Square_copyFrom 6 = .ok (.getfield 9, 3) := by decide +kernel
theorem d_Square_copyFrom_9 : decode b_Square_copyFrom 9 = .ok (.iconst 0, 1) := by decide +kernel
theorem d_Square_copyFrom_10 : decode b_Square_copyFrom 10 = .ok (.bipush 6, 2) := by decide +kernel
theorem d_Square_copyFrom_12 : decode b_Square_copyFrom 12 = .ok (.invokestatic 69, 3) := by decide +kernel
theorem d_Square_copyFrom_15 : decode b_Square_copyFrom 15 = .ok (.aload_n 1, 1) := by decide +kernel
theorem d_Square_copyFrom_16 : decode b_Square_copyFrom 16 = .ok (.getfield 15, 3) := by decide +kernel
theorem d_Square_copyFrom_19 : decode b_Square_copyFrom 19 = .ok (.iconst 0, 1) := by decide +kernel
theorem d_Square_copyFrom_20 : decode b_Square_copyFrom 20 = .ok (.aload_n 0, 1) := by decide +kernel
theorem d_Square_copyFrom_21 : decode b_Square_copyFrom 21 = .ok (.getfield 15, 3) := by decide +kernel
theorem d_Square_copyFrom_24 : decode b_Square_copyFrom 24 = .ok (.iconst 0, 1) := by decide +kernel
theorem d_Square_copyFrom_25 : decode b_Square_copyFrom 25 = .ok (.bipush 6, 2) := by decide +kernel
theorem d_Square_copyFrom_27 : decode b_Square_copyFrom 27 = .ok (.invokestatic 69, 3) := by decide +kernel
theorem d_Square_copyFrom_30 : decode b_Square_copyFrom 30 = .ok (.aload_n 1, 1) := by decide +kernel
theorem d_Square_copyFrom_31 : decode b_Square_copyFrom 31 = .ok (.getfield 19, 3) := by decide +kernel
theorem d_Square_copyFrom_34 : decode b_Square_copyFrom 34 = .ok (.iconst 0, 1) := by decide +kernel
theorem d_Square_copyFrom_35 : decode b_Square_copyFrom 35 = .ok (.aload_n 0, 1) := by decide +kernel
theorem d_Square_copyFrom_36 : decode b_Square_copyFrom 36 = .ok (.getfield 19, 3) := by decide +kernel
theorem d_Square_copyFrom_39 : decode b_Square_copyFrom 39 = .ok (.iconst 0, 1) := by decide +kernel
theorem d_Square_copyFrom_40 : decode b_Square_copyFrom 40 = .ok (.bipush 6, 2) := by decide +kernel
theorem d_Square_copyFrom_42 : decode b_Square_copyFrom 42 = .ok (.invokestatic 69, 3) := by decide +kernel
theorem d_Square_copyFrom_45 : decode b_Square_copyFrom 45 = .ok (.aload_n 1, 1) := by decide +kernel
theorem d_Square_copyFrom_46 : decode b_Square_copyFrom 46 = .ok (.getfield 22, 3) := by decide +kernel
theorem d_Square_copyFrom_49 : decode b_Square_copyFrom 49 = .ok (.iconst 0, 1) := by decide +kernel
theorem d_Square_copyFrom_50 : decode b_Square_copyFrom 50 = .ok (.aload_n 0, 1) := by decide +kernel
theorem d_Square_copyFrom_51 : decode b_Square_copyFrom 51 = .ok (.getfield 22, 3) := by decide +kernel
theorem d_Square_copyFrom_54 : decode b_Square_copyFrom 54 = .ok (.iconst 0, 1) := by decide +kernel
theorem d_Square_copyFrom_55 : decode b_Square_copyFrom 55 = .ok (.bipush 6, 2) := by decide +kernel
theorem d_Square_copyFrom_57 : decode b_Square_copyFrom 57 = .ok (.invokestatic 69, 3) := by decide +kernel
theorem d_Square_copyFrom_60 : decode b_Square_copyFrom 60 = .ok (.aload_n 1, 1) := by decide +kernel
theorem d_Square_copyFrom_61 : decode b_Square_copyFrom 61 = .ok (.getfield 25, 3) := by decide +kernel
theorem d_Square_copyFrom_64 : decode b_Square_copyFrom 64 = .ok (.iconst 0, 1) := by decide +kernel
theorem d_Square_copyFrom_65 : decode b_Square_copyFrom 65 = .ok (.aload_n 0, 1) := by decide +kernel
theorem d_Square_copyFrom_66 : decode b_Square_copyFrom 66 = .ok (.getfield 25, 3) := by decide +kernel
theorem d_Square_copyFrom_69 : decode b_Square_copyFrom 69 = .ok (.iconst 0, 1) := by decide +kernel
theorem d_Square_copyFrom_70 : decode b_Square_copyFrom 70 = .ok (.iconst 4, 1) := by decide +kernel
theorem d_Square_copyFrom_71 : decode b_Square_copyFrom 71 = .ok (.invokestatic 69, 3) := by decide +kernel
theorem d_Square_copyFrom_74 : decode b_Square_copyFrom 74 = .ok (.aload_n 0, 1) := by decide +kernel
theorem d_Square_copyFrom_75 : decode b_Square_copyFrom 75 = .ok (.getfield 31, 3) := by decide +kernel
theorem d_Square_copyFrom_78 : decode b_Square_copyFrom 78 = .ok (.aload_n 1, 1) := by decide +kernel
theorem d_Square_copyFrom_79 : decode b_Square_copyFrom 79 = .ok (.getfield 31, 3) := by decide +kernel
theorem d_Square_copyFrom_82 : decode b_Square_copyFrom 82 = .ok (.invokevirtual 75, 3) := by decide +kernel
theorem d_Square_copyFrom_85 : decode b_Square_copyFrom 85 = .ok (.aload_n 0, 1) := by decide +kernel
theorem d_Square_copyFrom_86 : decode b_Square_copyFrom 86 = .ok (.aload_n 1, 1) := by decide +kernel
theorem d_Square_copyFrom_87 : decode b_Square_copyFrom 87 = .ok (.getfield 35, 3) := by decide +kernel
theorem d_Square_copyFrom_90 : decode b_Square_copyFrom 90 = .ok (.putfield 35, 3) := by decide +kernel
theorem d_Square_copyFrom_93 : decode b_Square_copyFrom 93 = .ok (.aload_n 0, 1) := by decide +kernel
theorem d_Square_copyFrom_94 : decode b_Square_copyFrom 94 = .ok (.aload_n 1, 1) := by decide +kernel
theorem d_Square_copyFrom_95 : decode b_Square_copyFrom 95 = .ok (.getfield 39, 3) := by decide +kernel
theorem d_Square_copyFrom_98 : decode b_Square_copyFrom 98 = .ok (.putfield 39, 3) := by decide +kernel
theorem d_Square_copyFrom_101 : decode b_Square_copyFrom 101 = .ok (.aload_n 0, 1) := by decide +kernel
theorem d_Square_copyFrom_102 : decode b_Square_copyFrom 102 = .ok (.aload_n 1, 1) := by decide +kernel
theorem d_Square_copyFrom_103 : decode b_Square_copyFrom 103 = .ok (.getfield 42, 3) := by decide +kernel
theorem d_Square_copyFrom_106 : decode b_Square_copyFrom 106 = .ok (.putfield 42, 3) := by decide +kernel
theorem d_Square_copyFrom_109 : decode b_Square_copyFrom 109 = .ok (.aload_n 0, 1) := by decide +kernel
theorem d_Square_copyFrom_110 : decode b_Square_copyFrom 110 = .ok (.aload_n 1, 1) := by decide +kernel
theorem d_Square_copyFrom_111 : decode b_Square_copyFrom 111 = .ok (.getfield 45, 3) := by decide +kernel
theorem d_Square_copyFrom_114 : decode b_Square_copyFrom 114 = .ok (.putfield 45, 3) := by decide +kernel
theorem d_Square_copyFrom_117 : decode b_Square_copyFrom 117 = .ok (.aload_n 0, 1) := by decide +kernel
theorem d_Square_copyFrom_118 : decode b_Square_copyFrom 118 = .ok (.aload_n 1, 1) := by decide +kernel
theorem d_Square_copyFrom_119 : decode b_Square_copyFrom 119 = .ok (.getfield 48, 3) := by decide +kernel
theorem d_Square_copyFrom_122 : decode b_Square_copyFrom 122 = .ok (.putfield 48, 3) := by decide +kernel
theorem d_Square_copyFrom_125 : decode b_Square_copyFrom 125 = .ok (.aload_n 0, 1) := by decide +kernel
theorem d_Square_copyFrom_126 : decode b_Square_copyFrom 126 = .ok (.aload_n 1, 1) := by decide +kernel
theorem d_Square_copyFrom_127 : decode b_Square_copyFrom 127 = .ok (.getfield 51, 3) := by decide +kernel
theorem d_Square_copyFrom_130 : decode b_Square_copyFrom 130 = .ok (.putfield 51, 3) := by decide +kernel
theorem d_Square_copyFrom_133 : decode b_Square_copyFrom 133 = .ok (.aload_n 0, 1) := by decide +kernel
theorem d_Square_copyFrom_134 : decode b_Square_copyFrom 134 = .ok (.aload_n 1, 1) := by decide +kernel
theorem d_Square_copyFrom_135 : decode b_Square_copyFrom 135 = .ok (.getfield 54, 3) := by decide +kernel
theorem d_Square_copyFrom_138 : decode b_Square_copyFrom 138 = .ok (.putfield 54, 3) := by decide +kernel
theorem d_Square_copyFrom_141 : decode b_Square_copyFrom 141 = .ok (.aload_n 0, 1) := by decide +kernel
theorem d_Square_copyFrom_142 : decode b_Square_copyFrom 142 = .ok (.aload_n 1, 1) := by decide +kernel
theorem d_Square_copyFrom_143 : decode b_Square_copyFrom 143 = .ok (.getfield 57, 3) := by decide +kernel
theorem d_Square_copyFrom_146 : decode b_Square_copyFrom 146 = .ok (.putfield 57, 3) := by decide +kernel
theorem d_Square_copyFrom_149 : decode b_Square_copyFrom 149 = .ok (.aload_n 0, 1) := by decide +kernel
theorem d_Square_copyFrom_150 : decode b_Square_copyFrom 150 = .ok (.aload_n 1, 1) := by decide +kernel
theorem d_Square_copyFrom_151 : decode b_Square_copyFrom 151 = .ok (.getfield 60, 3) := by decide +kernel
theorem d_Square_copyFrom_154 : decode b_Square_copyFrom 154 = .ok (.putfield 60, 3) := by decide +kernel
theorem d_Square_copyFrom_157 : decode b_Square_copyFrom 157 = .ok (.aload_n 0, 1) := by decide +kernel
theorem d_Square_copyFrom_158 : decode b_Square_copyFrom 158 = .ok (.aload_n 1, 1) := by decide +kernel
theorem d_Square_copyFrom_159 : decode b_Square_copyFrom 159 = .ok (.getfield 63, 3) := by decide +kernel
theorem d_Square_copyFrom_162 : decode b_Square_copyFrom 162 = .ok (.putfield 63, 3) := by decide +kernel
theorem d_Square_copyFrom_165 : decode b_Square_copyFrom 165 = .ok (.return_, 1) := by decide +kernel
theorem d_Days_copyFrom_0 : decode b_Days_copyFrom 0 = .ok (.aload_n 1, 1) := by decide +kernel
theorem d_Days_copyFrom_1 : decode b_Days_copyFrom 1 = .ok (.getfield 9, 3) := by decide +kernel
theorem d_Days_copyFrom_4 : decode b_Days_copyFrom 4 = .ok (.iconst 0, 1) := by decide +kernel
theorem d_Days_copyFrom_5 : decode b_Days_copyFrom 5 = .ok (.aload_n 0, 1) := by decide +kernel
theorem d_Days_copyFrom_6 : decode b_Days_copyFrom 6 = .ok (.getfield 9, 3) := by decide +kernel
theorem d_Days_copyFrom_9 : decode b_Days_copyFrom 9 = .ok (.iconst 0, 1) := by decide +kernel
theorem d_Days_copyFrom_10 : decode b_Days_copyFrom 10 = .ok (.aload_n 1, 1) := by decide +kernel
theorem d_Days_copyFrom_11 : decode b_Days_copyFrom 11 = .ok (.getfield 29, 3) := by decide +kernel
theorem d_Days_copyFrom_14 : decode b_Days_copyFrom 14 = .ok (.invokestatic 36, 3) := by decide +kernel
theorem d_Days_copyFrom_17 : decode b_Days_copyFrom 17 = .ok (.aload_n 1, 1) := by decide +kernel
theorem d_Days_copyFrom_18 : decode b_Days_copyFrom 18 = .ok (.getfield 13, 3) := by decide +kernel
theorem d_Days_copyFrom_21 : decode b_Days_copyFrom 21 = .ok (.iconst 0, 1) := by decide +kernel
theorem d_Days_copyFrom_22 : decode b_Days_copyFrom 22 = .ok (.aload_n 0, 1) := by decide +kernel
theorem d_Days_copyFrom_23 : decode b_Days_copyFrom 23 = .ok (.getfield 13, 3) := by decide +kernel
theorem d_Days_copyFrom_26 : decode b_Days_copyFrom 26 = .ok (.iconst 0, 1) := by decide +kernel
theorem d_Days_copyFrom_27 : decode b_Days_copyFrom 27 = .ok (.aload_n 1, 1) := by decide +kernel
theorem d_Days_copyFrom_28 : decode b_Days_copyFrom 28 = .ok (.getfield 29, 3) := by decide +kernel
theorem d_Days_copyFrom_31 : decode b_Days_copyFrom 31 = .ok (.invokestatic 36, 3) := by decide +kernel
theorem d_Days_copyFrom_34 : decode b_Days_copyFrom 34 = .ok (.aload_n 1, 1) := by decide +kernel
theorem d_Days_copyFrom_35 : decode b_Days_copyFrom 35 = .ok (.getfield 16, 3) := by decide +kernel
theorem d_Days_copyFrom_38 : decode b_Days_copyFrom 38 = .ok (.iconst 0, 1) := by decide +kernel
theorem d_Days_copyFrom_39 : decode b_Days_copyFrom 39 = .ok (.aload_n 0, 1) := by decide +kernel
theorem d_Days_copyFrom_40 : decode b_Days_copyFrom 40 = .ok (.getfield 16, 3) := by decide +kernel
theorem d_Days_copyFrom_43 : decode b_Days_copyFrom 43 = .ok (.iconst 0, 1) := by decide +kernel
theorem d_Days_copyFrom_44 : decode b_Days_copyFrom 44 = .ok (.aload_n 1, 1) := by decide +kernel
theorem d_Days_copyFrom_45 : decode b_Days_copyFrom 45 = .ok (.getfield 29, 3) := by decide +kernel
theorem d_Days_copyFrom_48 : decode b_Days_copyFrom 48 = .ok (.invokestatic 36, 3) := by decide +kernel
theorem d_Days_copyFrom_51 : decode b_Days_copyFrom 51 = .ok (.aload_n 1, 1) := by decide +kernel
theorem d_Days_copyFrom_52 : decode b_Days_copyFrom 52 = .ok (.getfield 19, 3) := by decide +kernel
theorem d_Days_copyFrom_55 : decode b_Days_copyFrom 55 = .ok (.iconst 0, 1) := by decide +kernel
theorem d_Days_copyFrom_56 : decode b_Days_copyFrom 56 = .ok (.aload_n 0, 1) := by decide +kernel
theorem d_Days_copyFrom_57 : decode b_Days_copyFrom 57 = .ok (.getfield 19, 3) := by decide +kernel
theorem d_Days_copyFrom_60 : decode b_Days_copyFrom 60 = .ok (.iconst 0, 1) := by decide +kernel
theorem d_Days_copyFrom_61 : decode b_Days_copyFrom 61 = .ok (.aload_n 1, 1) := by decide +kernel
theorem d_Days_copyFrom_62 : decode b_Days_copyFrom 62 = .ok (.getfield 29, 3) := by decide +kernel
theorem d_Days_copyFrom_65 : decode b_Days_copyFrom 65 = .ok (.invokestatic 36, 3) := by decide +kernel
theorem d_Days_copyFrom_68 : decode b_Days_copyFrom 68 = .ok (.aload_n 1, 1) := by decide +kernel
theorem d_Days_copyFrom_69 : decode b_Days_copyFrom 69 = .ok (.getfield 22, 3) := by decide +kernel
theorem d_Days_copyFrom_72 : decode b_Days_copyFrom 72 = .ok (.iconst 0, 1) := by decide +kernel
theorem d_Days_copyFrom_73 : decode b_Days_copyFrom 73 = .ok (.aload_n 0, 1) := by decide +kernel
theorem d_Days_copyFrom_74 : decode b_Days_copyFrom 74 = .ok (.getfield 22, 3) := by decide +kernel
theorem d_Days_copyFrom_77 : decode b_Days_copyFrom 77 = .ok (.iconst 0, 1) := by decide +kernel
theorem d_Days_copyFrom_78 : decode b_Days_copyFrom 78 = .ok (.aload_n 1, 1) := by decide +kernel
theorem d_Days_copyFrom_79 : decode b_Days_copyFrom 79 = .ok (.getfield 29, 3) := by decide +kernel
theorem d_Days_copyFrom_82 : decode b_Days_copyFrom 82 = .ok (.invokestatic 36, 3) := by decide +kernel
theorem d_Days_copyFrom_85 : decode b_Days_copyFrom 85 = .ok (.aload_n 0, 1) := by decide +kernel
theorem d_Days_copyFrom_86 : decode b_Days_copyFrom 86 = .ok (.aload_n 1, 1) := by decide +kernel
theorem d_Days_copyFrom_87 : decode b_Days_copyFrom 87 = .ok (.getfield 25, 3) := by decide +kernel
theorem d_Days_copyFrom_90 : decode b_Days_copyFrom 90 = .ok (.putfield 25, 3) := by decide +kernel
theorem d_Days_copyFrom_93 : decode b_Days_copyFrom 93 = .ok (.aload_n 0, 1) := by decide +kernel
theorem d_Days_copyFrom_94 : decode b_Days_copyFrom 94 = .ok (.aload_n 1, 1) := by decide +kernel
theorem d_Days_copyFrom_95 : decode b_Days_copyFrom 95 = .ok (.getfield 29, 3) := by decide +kernel
theorem d_Days_copyFrom_98 : decode b_Days_copyFrom 98 = .ok (.putfield 29, 3) := by decide +kernel
theorem d_Days_copyFrom_101 : decode b_Days_copyFrom 101 = .ok (.aload_n 0, 1) := by decide +kernel
theorem d_Days_copyFrom_102 : decode b_Days_copyFrom 102 = .ok (.aload_n 1, 1) := by decide +kernel
theorem d_Days_copyFrom_103 : decode b_Days_copyFrom 103 = .ok (.getfield 33, 3) := by decide +kernel
theorem d_Days_copyFrom_106 : decode b_Days_copyFrom 106 = .ok (.putfield 33, 3) := by decide +kernel
theorem d_Days_copyFrom_109 : decode b_Days_copyFrom 109 = .ok (.return_, 1) := by decide +kernel
