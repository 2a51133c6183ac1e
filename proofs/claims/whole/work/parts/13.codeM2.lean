theorem d_M_brush_0 : decode b_M_brush 0 = .ok (.aload_n 0, 1) := by decide +kernel
theorem d_M_brush_1 : decode b_M_brush 1 = .ok (.invokevirtual 361, 3) := by decide +kernel
theorem d_M_brush_4 : decode b_M_brush 4 = .ok (.istore_n 1, 1) := by decide +kernel
theorem d_M_brush_5 : decode b_M_brush 5 = .ok (.iload_n 1, 1) := by decide +kernel
theorem d_M_brush_6 : decode b_M_brush 6 = .ok (.ifCond .ne 12, 3) := by decide +kernel
theorem d_M_brush_9 : decode b_M_brush 9 = .ok (.aload_n 0, 1) := by decide +kernel
theorem d_M_brush_10 : decode b_M_brush 10 = .ok (.bipush 7, 2) := by decide +kernel
theorem d_M_brush_12 : decode b_M_brush 12 = .ok (.invokevirtual 121, 3) := by decide +kernel
theorem d_M_brush_15 : decode b_M_brush 15 = .ok (.goto 8, 3) := by decide +kernel
theorem d_M_brush_18 : decode b_M_brush 18 = .ok (.aload_n 0, 1) := by decide +kernel
theorem d_M_brush_19 : decode b_M_brush 19 = .ok (.iload_n 1, 1) := by decide +kernel
theorem d_M_brush_20 : decode b_M_brush 20 = .ok (.invokevirtual 125, 3) := by decide +kernel
theorem d_M_brush_23 : decode b_M_brush 23 = .ok (.ireturn, 1) := by decide +kernel
theorem d_M_brushes_0 : decode b_M_brushes 0 = .ok (.aload_n 0, 1) := by decide +kernel
theorem d_M_brushes_1 : decode b_M_brushes 1 = .ok (.invokevirtual 322, 3) := by decide +kernel
theorem d_M_brushes_4 : decode b_M_brushes 4 = .ok (.invokestatic 358, 3) := by decide +kernel
theorem d_M_brushes_7 : decode b_M_brushes 7 = .ok (.istore_n 1, 1) := by decide +kernel
theorem d_M_brushes_8 : decode b_M_brushes 8 = .ok (.iconst 0, 1) := by decide +kernel
theorem d_M_brushes_9 : decode b_M_brushes 9 = .ok (.istore_n 2, 1) := by decide +kernel
theorem d_M_brushes_10 : decode b_M_brushes 10 = .ok (.iload_n 2, 1) := by decide +kernel
theorem d_M_brushes_11 : decode b_M_brushes 11 = .ok (.aload_n 0, 1) := by decide +kernel
theorem d_M_brushes_12 : decode b_M_brushes 12 = .ok (.getfield 7, 3) := by decide +kernel
theorem d_M_brushes_15 : decode b_M_brushes 15 = .ok (.iconst 3, 1) := by decide +kernel
theorem d_M_brushes_16 : decode b_M_brushes 16 = .ok (.iaload, 1) := by decide +kernel
theorem d_M_brushes_17 : decode b_M_brushes 17 = .ok (.if_icmp .ge 21, 3) := by decide +kernel
theorem d_M_brushes_20 : decode b_M_brushes 20 = .ok (.aload_n 0, 1) := by decide +kernel
theorem d_M_brushes_21 : decode b_M_brushes 21 = .ok (.getfield 7, 3) := by decide +kernel
theorem d_M_brushes_24 : decode b_M_brushes 24 = .ok (.iload_n 2, 1) := by decide +kernel
theorem d_M_brushes_25 : decode b_M_brushes 25 = .ok (.invokestatic 241, 3) := by decide +kernel
theorem d_M_brushes_28 : decode b_M_brushes 28 = .ok (.iconst 3, 1) := by decide +kernel
theorem d_M_brushes_29 : decode b_M_brushes 29 = .ok (.iadd, 1) := by decide +kernel
theorem d_M_brushes_30 : decode b_M_brushes 30 = .ok (.iconst 0, 1) := by decide +kernel
theorem d_M_brushes_31 : decode b_M_brushes 31 = .ok (.iastore, 1) := by decide +kernel
theorem d_M_brushes_32 : decode b_M_brushes 32 = .ok (.iinc 2 1, 3) := by decide +kernel
theorem d_M_brushes_35 : decode b_M_brushes 35 = .ok (.goto (-25), 3) := by decide +kernel
theorem d_M_brushes_38 : decode b_M_brushes 38 = .ok (.iload_n 1, 1) := by decide +kernel
theorem d_M_brushes_39 : decode b_M_brushes 39 = .ok (.ireturn, 1) := by decide +kernel
theorem d_M_bits_0 : decode b_M_bits 0 = .ok (.iconst 0, 1) := by decide +kernel
theorem d_M_bits_1 : decode b_M_bits 1 = .ok (.istore_n 1, 1) := by decide +kernel
theorem d_M_bits_2 : decode b_M_bits 2 = .ok (.iload_n 0, 1) := by decide +kernel
theorem d_M_bits_3 : decode b_M_bits 3 = .ok (.istore_n 2, 1) := by decide +kernel
theorem d_M_bits_4 : decode b_M_bits 4 = .ok (.iload_n 2, 1) := by decide +kernel
theorem d_M_bits_5 : decode b_M_bits 5 = .ok (.ifCond .eq 15, 3) := by decide +kernel
theorem d_M_bits_8 : decode b_M_bits 8 = .ok (.iinc 1 1, 3) := by decide +kernel
theorem d_M_bits_11 : decode b_M_bits 11 = .ok (.iload_n 2, 1) := by decide +kernel
theorem d_M_bits_12 : decode b_M_bits 12 = .ok (.iload_n 2, 1) := by decide +kernel
theorem d_M_bits_13 : decode b_M_bits 13 = .ok (.iconst 1, 1) := by decide +kernel
theorem d_M_bits_14 : decode b_M_bits 14 = .ok (.isub, 1) := by decide +kernel
theorem d_M_bits_15 : decode b_M_bits 15 = .ok (.iand, 1) := by decide +kernel
theorem d_M_bits_16 : decode b_M_bits 16 = .ok (.istore_n 2, 1) := by decide +kernel
theorem d_M_bits_17 : decode b_M_bits 17 = .ok (.goto (-13), 3) := by decide +kernel
theorem d_M_bits_20 : decode b_M_bits 20 = .ok (.iload_n 1, 1) := by decide +kernel
theorem d_M_bits_21 : decode b_M_bits 21 = .ok (.ireturn, 1) := by decide +kernel
theorem d_M_send_0 : decode b_M_send 0 = .ok (.aload_n 0, 1) := by decide +kernel
theorem d_M_send_1 : decode b_M_send 1 = .ok (.iload_n 1, 1) := by decide +kernel
theorem d_M_send_2 : decode b_M_send 2 = .ok (.invokevirtual 328, 3) := by decide +kernel
theorem d_M_send_5 : decode b_M_send 5 = .ok (.ifCond .eq 11, 3) := by decide +kernel
theorem d_M_send_8 : decode b_M_send 8 = .ok (.aload_n 0, 1) := by decide +kernel
theorem d_M_send_9 : decode b_M_send 9 = .ok (.iload_n 2, 1) := by decide +kernel
theorem d_M_send_10 : decode b_M_send 10 = .ok (.invokevirtual 334, 3) := by decide +kernel
theorem d_M_send_13 : decode b_M_send 13 = .ok (.ifCond .ne 9, 3) := by decide +kernel
theorem d_M_send_16 : decode b_M_send 16 = .ok (.aload_n 0, 1) := by decide +kernel
theorem d_M_send_17 : decode b_M_send 17 = .ok (.iconst 1, 1) := by decide +kernel
theorem d_M_send_18 : decode b_M_send 18 = .ok (.invokevirtual 121, 3) := by decide +kernel
theorem d_M_send_21 : decode b_M_send 21 = .ok (.ireturn, 1) := by decide +kernel
theorem d_M_send_22 : decode b_M_send 22 = .ok (.aload_n 0, 1) := by decide +kernel
theorem d_M_send_23 : decode b_M_send 23 = .ok (.iload_n 2, 1) := by decide +kernel
theorem d_M_send_24 : decode b_M_send 24 = .ok (.aload_n 0, 1) := by decide +kernel
theorem d_M_send_25 : decode b_M_send 25 = .ok (.iload_n 1, 1) := by decide +kernel
theorem d_M_send_26 : decode b_M_send 26 = .ok (.iconst 0, 1) := by decide +kernel
theorem d_M_send_27 : decode b_M_send 27 = .ok (.invokevirtual 313, 3) := by decide +kernel
theorem d_M_send_30 : decode b_M_send 30 = .ok (.invokevirtual 316, 3) := by decide +kernel
theorem d_M_send_33 : decode b_M_send 33 = .ok (.istore_n 3, 1) := by decide +kernel
theorem d_M_send_34 : decode b_M_send 34 = .ok (.aload_n 0, 1) := by decide +kernel
theorem d_M_send_35 : decode b_M_send 35 = .ok (.iload_n 1, 1) := by decide +kernel
theorem d_M_send_36 : decode b_M_send 36 = .ok (.iload_n 2, 1) := by decide +kernel
theorem d_M_send_37 : decode b_M_send 37 = .ok (.invokevirtual 364, 3) := by decide +kernel
theorem d_M_send_40 : decode b_M_send 40 = .ok (.ifCond .eq 11, 3) := by decide +kernel
theorem d_M_send_43 : decode b_M_send 43 = .ok (.aload_n 0, 1) := by decide +kernel
theorem d_M_send_44 : decode b_M_send 44 = .ok (.iload_n 3, 1) := by decide +kernel
theorem d_M_send_45 : decode b_M_send 45 = .ok (.invokevirtual 125, 3) := by decide +kernel
theorem d_M_send_48 : decode b_M_send 48 = .ok (.goto 9, 3) := by decide +kernel
theorem d_M_send_51 : decode b_M_send 51 = .ok (.aload_n 0, 1) := by decide +kernel
theorem d_M_send_52 : decode b_M_send 52 = .ok (.bipush 7, 2) := by decide +kernel
theorem d_M_send_54 : decode b_M_send 54 = .ok (.invokevirtual 121, 3) := by decide +kernel
theorem d_M_send_57 : decode b_M_send 57 = .ok (.ireturn, 1) := by decide +kernel
theorem d_M_sends_0 : decode b_M_sends 0 = .ok (.aload_n 0, 1) := by decide +kernel
theorem d_M_sends_1 : decode b_M_sends 1 = .ok (.iload_n 1, 1) := by decide +kernel
theorem d_M_sends_2 : decode b_M_sends 2 = .ok (.iconst 0, 1) := by decide +kernel
theorem d_M_sends_3 : decode b_M_sends 3 = .ok (.invokevirtual 313, 3) := by decide +kernel
theorem d_M_sends_6 : decode b_M_sends 6 = .ok (.iload_n 2, 1) := by decide +kernel
theorem d_M_sends_7 : decode b_M_sends 7 = .ok (.if_icmp .eq 7, 3) := by decide +kernel
theorem d_M_sends_10 : decode b_M_sends 10 = .ok (.iconst 1, 1) := by decide +kernel
theorem d_M_sends_11 : decode b_M_sends 11 = .ok (.goto 4, 3) := by decide +kernel
theorem d_M_sends_14 : decode b_M_sends 14 = .ok (.iconst 0, 1) := by decide +kernel
theorem d_M_sends_15 : decode b_M_sends 15 = .ok (.istore_n 3, 1) := by decide +kernel
theorem d_M_sends_16 : decode b_M_sends 16 = .ok (.aload_n 0, 1) := by decide +kernel
theorem d_M_sends_17 : decode b_M_sends 17 = .ok (.getfield 7, 3) := by decide +kernel
theorem d_M_sends_20 : decode b_M_sends 20 = .ok (.iload_n 1, 1) := by decide +kernel
theorem d_M_sends_21 : decode b_M_sends 21 = .ok (.invokestatic 241, 3) := by decide +kernel
theorem d_M_sends_24 : decode b_M_sends 24 = .ok (.iload_n 2, 1) := by decide +kernel
theorem d_M_sends_25 : decode b_M_sends 25 = .ok (.iastore, 1) := by decide +kernel
theorem d_M_sends_26 : decode b_M_sends 26 = .ok (.iload_n 3, 1) := by decide +kernel
theorem d_M_sends_27 : decode b_M_sends 27 = .ok (.ireturn, 1) := by decide +kernel
theorem d_M_give_0 : decode b_M_give 0 = .ok (.aload_n 0, 1) := by decide +kernel
theorem d_M_give_1 : decode b_M_give 1 = .ok (.iload_n 1, 1) := by decide +kernel
theorem d_M_give_2 : decode b_M_give 2 = .ok (.invokevirtual 328, 3) := by decide +kernel
theorem d_M_give_5 : decode b_M_give 5 = .ok (.ifCond .eq 15, 3) := by decide +kernel
theorem d_M_give_8 : decode b_M_give 8 = .ok (.iload_n 2, 1) := by decide +kernel
theorem d_M_give_9 : decode b_M_give 9 = .ok (.i2l, 1) := by decide +kernel
theorem d_M_give_10 : decode b_M_give 10 = .ok (.lconst 0, 1) := by decide +kernel
theorem d_M_give_11 : decode b_M_give 11 = .ok (.ldc2_w 367, 3) := by decide +kernel
theorem d_M_give_14 : decode b_M_give 14 = .ok (.invokestatic 306, 3) := by decide +kernel
theorem d_M_give_17 : decode b_M_give 17 = .ok (.ifCond .ne 9, 3) := by decide +kernel
theorem d_M_give_20 : decode b_M_give 20 = .ok (.aload_n 0, 1) := by decide +kernel
theorem d_M_give_21 : decode b_M_give 21 = .ok (.iconst 1, 1) := by decide +kernel
theorem d_M_give_22 : decode b_M_give 22 = .ok (.invokevirtual 121, 3) := by decide +kernel
theorem d_M_give_25 : decode b_M_give 25 = .ok (.ireturn, 1) := by decide +kernel
theorem d_M_give_26 : decode b_M_give 26 = .ok (.aload_n 0, 1) := by decide +kernel
theorem d_M_give_27 : decode b_M_give 27 = .ok (.iload_n 1, 1) := by decide +kernel
theorem d_M_give_28 : decode b_M_give 28 = .ok (.iconst 2, 1) := by decide +kernel
theorem d_M_give_29 : decode b_M_give 29 = .ok (.invokevirtual 313, 3) := by decide +kernel
theorem d_M_give_32 : decode b_M_give 32 = .ok (.istore_n 3, 1) := by decide +kernel
theorem d_M_give_33 : decode b_M_give 33 = .ok (.aload_n 0, 1) := by decide +kernel
theorem d_M_give_34 : decode b_M_give 34 = .ok (.getfield 7, 3) := by decide +kernel
theorem d_M_give_37 : decode b_M_give 37 = .ok (.iload_n 1, 1) := by decide +kernel
theorem d_M_give_38 : decode b_M_give 38 = .ok (.invokestatic 241, 3) := by decide +kernel
theorem d_M_give_41 : decode b_M_give 41 = .ok (.iconst 2, 1) := by decide +kernel
theorem d_M_give_42 : decode b_M_give 42 = .ok (.iadd, 1) := by decide +kernel
theorem d_M_give_43 : decode b_M_give 43 = .ok (.iload_n 2, 1) := by decide +kernel
theorem d_M_give_44 : decode b_M_give 44 = .ok (.iastore, 1) := by decide +kernel
theorem d_M_give_45 : decode b_M_give 45 = .ok (.aload_n 0, 1) := by decide +kernel
theorem d_M_give_46 : decode b_M_give 46 = .ok (.iload_n 3, 1) := by decide +kernel
theorem d_M_give_47 : decode b_M_give 47 = .ok (.invokevirtual 125, 3) := by decide +kernel
theorem d_M_give_50 : decode b_M_give 50 = .ok (.ireturn, 1) := by decide +kernel
theorem d_M_isFrom_0 : decode b_M_isFrom 0 = .ok (.lload_n 0, 1) := by decide +kernel
theorem d_M_isFrom_1 : decode b_M_isFrom 1 = .ok (.lload_n 2, 1) := by decide +kernel
theorem d_M_isFrom_2 : decode b_M_isFrom 2 = .ok (.lcmp, 1) := by decide +kernel
theorem d_M_isFrom_3 : decode b_M_isFrom 3 = .ok (.ifCond .lt 14, 3) := by decide +kernel
theorem d_M_isFrom_6 : decode b_M_isFrom 6 = .ok (.lload_n 0, 1) := by decide +kernel
theorem d_M_isFrom_7 : decode b_M_isFrom 7 = .ok (.lload 4, 2) := by decide +kernel
theorem d_M_isFrom_9 : decode b_M_isFrom 9 = .ok (.lcmp, 1) := by decide +kernel
theorem d_M_isFrom_10 : decode b_M_isFrom 10 = .ok (.ifCond .gt 7, 3) := by decide +kernel
theorem d_M_isFrom_13 : decode b_M_isFrom 13 = .ok (.iconst 1, 1) := by decide +kernel
theorem d_M_isFrom_14 : decode b_M_isFrom 14 = .ok (.goto 4, 3) := by decide +kernel
theorem d_M_isFrom_17 : decode b_M_isFrom 17 = .ok (.iconst 0, 1) := by decide +kernel
theorem d_M_isFrom_18 : decode b_M_isFrom 18 = .ok (.ireturn, 1) := by decide +kernel
theorem d_M_teach_0 : decode b_M_teach 0 = .ok (.aload_n 0, 1) := by decide +kernel
theorem d_M_teach_1 : decode b_M_teach 1 = .ok (.iload_n 1, 1) := by decide +kernel
theorem d_M_teach_2 : decode b_M_teach 2 = .ok (.invokevirtual 328, 3) := by decide +kernel
theorem d_M_teach_5 : decode b_M_teach 5 = .ok (.ifCond .eq 11, 3) := by decide +kernel
theorem d_M_teach_8 : decode b_M_teach 8 = .ok (.aload_n 0, 1) := by decide +kernel
theorem d_M_teach_9 : decode b_M_teach 9 = .ok (.iload_n 2, 1) := by decide +kernel
theorem d_M_teach_10 : decode b_M_teach 10 = .ok (.invokevirtual 340, 3) := by decide +kernel
theorem d_M_teach_13 : decode b_M_teach 13 = .ok (.ifCond .ne 9, 3) := by decide +kernel
theorem d_M_teach_16 : decode b_M_teach 16 = .ok (.aload_n 0, 1) := by decide +kernel
theorem d_M_teach_17 : decode b_M_teach 17 = .ok (.iconst 1, 1) := by decide +kernel
theorem d_M_teach_18 : decode b_M_teach 18 = .ok (.invokevirtual 128, 3) := by decide +kernel
theorem d_M_teach_21 : decode b_M_teach 21 = .ok (.ireturn, 1) := by decide +kernel
theorem d_M_teach_22 : decode b_M_teach 22 = .ok (.aload_n 0, 1) := by decide +kernel
theorem d_M_teach_23 : decode b_M_teach 23 = .ok (.aload_n 0, 1) := by decide +kernel
theorem d_M_teach_24 : decode b_M_teach 24 = .ok (.iload_n 1, 1) := by decide +kernel
theorem d_M_teach_25 : decode b_M_teach 25 = .ok (.iconst 1, 1) := by decide +kernel
theorem d_M_teach_26 : decode b_M_teach 26 = .ok (.invokevirtual 313, 3) := by decide +kernel
theorem d_M_teach_29 : decode b_M_teach 29 = .ok (.iload_n 2, 1) := by decide +kernel
theorem d_M_teach_30 : decode b_M_teach 30 = .ok (.invokevirtual 251, 3) := by decide +kernel
theorem d_M_teach_33 : decode b_M_teach 33 = .ok (.iload_n 3, 1) := by decide +kernel
theorem d_M_teach_34 : decode b_M_teach 34 = .ok (.if_icmp .ne 10, 3) := by decide +kernel
theorem d_M_teach_37 : decode b_M_teach 37 = .ok (.aload_n 0, 1) := by decide +kernel
theorem d_M_teach_38 : decode b_M_teach 38 = .ok (.bipush 7, 2) := by decide +kernel
theorem d_M_teach_40 : decode b_M_teach 40 = .ok (.invokevirtual 128, 3) := by decide +kernel
theorem d_M_teach_43 : decode b_M_teach 43 = .ok (.ireturn, 1) := by decide +kernel
theorem d_M_teach_44 : decode b_M_teach 44 = .ok (.aload_n 0, 1) := by decide +kernel
theorem d_M_teach_45 : decode b_M_teach 45 = .ok (.getfield 7, 3) := by decide +kernel
theorem d_M_teach_48 : decode b_M_teach 48 = .ok (.iload_n 1, 1) := by decide +kernel
theorem d_M_teach_49 : decode b_M_teach 49 = .ok (.invokestatic 241, 3) := by decide +kernel
theorem d_M_teach_52 : decode b_M_teach 52 = .ok (.iconst 1, 1) := by decide +kernel
theorem d_M_teach_53 : decode b_M_teach 53 = .ok (.iadd, 1) := by decide +kernel
theorem d_M_teach_54 : decode b_M_teach 54 = .ok (.dup2, 1) := by decide +kernel
theorem d_M_teach_55 : decode b_M_teach 55 = .ok (.iaload, 1) := by decide +kernel
theorem d_M_teach_56 : decode b_M_teach 56 = .ok (.iconst 1, 1) := by decide +kernel
theorem d_M_teach_57 : decode b_M_teach 57 = .ok (.iload_n 2, 1) := by decide +kernel
theorem d_M_teach_58 : decode b_M_teach 58 = .ok (.ishl, 1) := by decide +kernel
theorem d_M_teach_59 : decode b_M_teach 59 = .ok (.ixor, 1) := by decide +kernel
theorem d_M_teach_60 : decode b_M_teach 60 = .ok (.iastore, 1) := by decide +kernel
theorem d_M_teach_61 : decode b_M_teach 61 = .ok (.aload_n 0, 1) := by decide +kernel
theorem d_M_teach_62 : decode b_M_teach 62 = .ok (.iconst 0, 1) := by decide +kernel
theorem d_M_teach_63 : decode b_M_teach 63 = .ok (.invokevirtual 128, 3) := by decide +kernel
theorem d_M_teach_66 : decode b_M_teach 66 = .ok (.ireturn, 1) := by decide +kernel
theorem d_M_come_0 : decode b_M_come 0 = .ok (.aload_n 0, 1) := by decide +kernel
theorem d_M_come_1 : decode b_M_come 1 = .ok (.iload_n 1, 1) := by decide +kernel
theorem d_M_come_2 : decode b_M_come 2 = .ok (.invokevirtual 334, 3) := by decide +kernel
theorem d_M_come_5 : decode b_M_come 5 = .ok (.ifCond .ne 9, 3) := by decide +kernel
theorem d_M_come_8 : decode b_M_come 8 = .ok (.aload_n 0, 1) := by decide +kernel
theorem d_M_come_9 : decode b_M_come 9 = .ok (.iconst 1, 1) := by decide +kernel
theorem d_M_come_10 : decode b_M_come 10 = .ok (.invokevirtual 121, 3) := by decide +kernel
theorem d_M_come_13 : decode b_M_come 13 = .ok (.ireturn, 1) := by decide +kernel
theorem d_M_come_14 : decode b_M_come 14 = .ok (.aload_n 0, 1) := by decide +kernel
theorem d_M_come_15 : decode b_M_come 15 = .ok (.getfield 7, 3) := by decide +kernel
theorem d_M_come_18 : decode b_M_come 18 = .ok (.iconst 3, 1) := by decide +kernel
theorem d_M_come_19 : decode b_M_come 19 = .ok (.iaload, 1) := by decide +kernel
theorem d_M_come_20 : decode b_M_come 20 = .ok (.istore_n 2, 1) := by decide +kernel
theorem d_M_come_21 : decode b_M_come 21 = .ok (.iload_n 2, 1) := by decide +kernel
theorem d_M_come_22 : decode b_M_come 22 = .ok (.bipush 6, 2) := by decide +kernel
theorem d_M_come_24 : decode b_M_come 24 = .ok (.if_icmp .ne 9, 3) := by decide +kernel
theorem d_M_come_27 : decode b_M_come 27 = .ok (.aload_n 0, 1) := by decide +kernel
theorem d_M_come_28 : decode b_M_come 28 = .ok (.iconst 4, 1) := by decide +kernel
theorem d_M_come_29 : decode b_M_come 29 = .ok (.invokevirtual 121, 3) := by decide +kernel
theorem d_M_come_32 : decode b_M_come 32 = .ok (.ireturn, 1) := by decide +kernel
theorem d_M_come_33 : decode b_M_come 33 = .ok (.aload_n 0, 1) := by decide +kernel
theorem d_M_come_34 : decode b_M_come 34 = .ok (.getfield 7, 3) := by decide +kernel
theorem d_M_come_37 : decode b_M_come 37 = .ok (.iconst 3, 1) := by decide +kernel
theorem d_M_come_38 : decode b_M_come 38 = .ok (.dup2, 1) := by decide +kernel
theorem d_M_come_39 : decode b_M_come 39 = .ok (.iaload, 1) := by decide +kernel
theorem d_M_come_40 : decode b_M_come 40 = .ok (.iconst 1, 1) := by decide +kernel
theorem d_M_come_41 : decode b_M_come 41 = .ok (.iadd, 1) := by decide +kernel
theorem d_M_come_42 : decode b_M_come 42 = .ok (.iastore, 1) := by decide +kernel
theorem d_M_come_43 : decode b_M_come 43 = .ok (.aload_n 0, 1) := by decide +kernel
theorem d_M_come_44 : decode b_M_come 44 = .ok (.getfield 7, 3) := by decide +kernel
theorem d_M_come_47 : decode b_M_come 47 = .ok (.iload_n 2, 1) := by decide +kernel
theorem d_M_come_48 : decode b_M_come 48 = .ok (.invokestatic 241, 3) := by decide +kernel
theorem d_M_come_51 : decode b_M_come 51 = .ok (.iload_n 1, 1) := by decide +kernel
theorem d_M_come_52 : decode b_M_come 52 = .ok (.iastore, 1) := by decide +kernel
theorem d_M_come_53 : decode b_M_come 53 = .ok (.aload_n 0, 1) := by decide +kernel
theorem d_M_come_54 : decode b_M_come 54 = .ok (.getfield 7, 3) := by decide +kernel
theorem d_M_come_57 : decode b_M_come 57 = .ok (.iload_n 2, 1) := by decide +kernel
theorem d_M_come_58 : decode b_M_come 58 = .ok (.invokestatic 241, 3) := by decide +kernel
theorem d_M_come_61 : decode b_M_come 61 = .ok (.iconst 1, 1) := by decide +kernel
theorem d_M_come_62 : decode b_M_come 62 = .ok (.iadd, 1) := by decide +kernel
theorem d_M_come_63 : decode b_M_come 63 = .ok (.iconst 0, 1) := by decide +kernel
theorem d_M_come_64 : decode b_M_come 64 = .ok (.iastore, 1) := by decide +kernel
theorem d_M_come_65 : decode b_M_come 65 = .ok (.aload_n 0, 1) := by decide +kernel
theorem d_M_come_66 : decode b_M_come 66 = .ok (.getfield 7, 3) := by decide +kernel
theorem d_M_come_69 : decode b_M_come 69 = .ok (.iload_n 2, 1) := by decide +kernel
theorem d_M_come_70 : decode b_M_come 70 = .ok (.invokestatic 241, 3) := by decide +kernel
theorem d_M_come_73 : decode b_M_come 73 = .ok (.iconst 2, 1) := by decide +kernel
theorem d_M_come_74 : decode b_M_come 74 = .ok (.iadd, 1) := by decide +kernel
theorem d_M_come_75 : decode b_M_come 75 = .ok (.iconst 3, 1) := by decide +kernel
theorem d_M_come_76 : decode b_M_come 76 = .ok (.iastore, 1) := by decide +kernel
theorem d_M_come_77 : decode b_M_come 77 = .ok (.aload_n 0, 1) := by decide +kernel
theorem d_M_come_78 : decode b_M_come 78 = .ok (.getfield 7, 3) := by decide +kernel
theorem d_M_come_81 : decode b_M_come 81 = .ok (.iload_n 2, 1) := by decide +kernel
theorem d_M_come_82 : decode b_M_come 82 = .ok (.invokestatic 241, 3) := by decide +kernel
theorem d_M_come_85 : decode b_M_come 85 = .ok (.iconst 3, 1) := by decide +kernel
theorem d_M_come_86 : decode b_M_come 86 = .ok (.iadd, 1) := by decide +kernel
theorem d_M_come_87 : decode b_M_come 87 = .ok (.iconst 0, 1) := by decide +kernel
theorem d_M_come_88 : decode b_M_come 88 = .ok (.iastore, 1) := by decide +kernel
theorem d_M_come_89 : decode b_M_come 89 = .ok (.aload_n 0, 1) := by decide +kernel
theorem d_M_come_90 : decode b_M_come 90 = .ok (.iload_n 2, 1) := by decide +kernel
theorem d_M_come_91 : decode b_M_come 91 = .ok (.invokevirtual 125, 3) := by decide +kernel
theorem d_M_come_94 : decode b_M_come 94 = .ok (.ireturn, 1) := by decide +kernel
theorem d_M_empty_0 : decode b_M_empty 0 = .ok (.aload_n 0, 1) := by decide +kernel
theorem d_M_empty_1 : decode b_M_empty 1 = .ok (.invokevirtual 369, 3) := by decide +kernel
theorem d_M_empty_4 : decode b_M_empty 4 = .ok (.istore_n 1, 1) := by decide +kernel
theorem d_M_empty_5 : decode b_M_empty 5 = .ok (.iload_n 1, 1) := by decide +kernel
theorem d_M_empty_6 : decode b_M_empty 6 = .ok (.ifCond .ne 12, 3) := by decide +kernel
theorem d_M_empty_9 : decode b_M_empty 9 = .ok (.aload_n 0, 1) := by decide +kernel
theorem d_M_empty_10 : decode b_M_empty 10 = .ok (.bipush 7, 2) := by decide +kernel
theorem d_M_empty_12 : decode b_M_empty 12 = .ok (.invokevirtual 121, 3) := by decide +kernel
theorem d_M_empty_15 : decode b_M_empty 15 = .ok (.goto 8, 3) := by decide +kernel
theorem d_M_empty_18 : decode b_M_empty 18 = .ok (.aload_n 0, 1) := by decide +kernel
theorem d_M_empty_19 : decode b_M_empty 19 = .ok (.iload_n 1, 1) := by decide +kernel
theorem d_M_empty_20 : decode b_M_empty 20 = .ok (.invokevirtual 125, 3) := by decide +kernel
theorem d_M_empty_23 : decode b_M_empty 23 = .ok (.ireturn, 1) := by decide +kernel
theorem d_M_empties_0 : decode b_M_empties 0 = .ok (.aload_n 0, 1) := by decide +kernel
theorem d_M_empties_1 : decode b_M_empties 1 = .ok (.getfield 7, 3) := by decide +kernel
theorem d_M_empties_4 : decode b_M_empties 4 = .ok (.bipush 8, 2) := by decide +kernel
theorem d_M_empties_6 : decode b_M_empties 6 = .ok (.iaload, 1) := by decide +kernel
theorem d_M_empties_7 : decode b_M_empties 7 = .ok (.istore_n 1, 1) := by decide +kernel
theorem d_M_empties_8 : decode b_M_empties 8 = .ok (.aload_n 0, 1) := by decide +kernel
theorem d_M_empties_9 : decode b_M_empties 9 = .ok (.getfield 7, 3) := by decide +kernel
theorem d_M_empties_12 : decode b_M_empties 12 = .ok (.bipush 8, 2) := by decide +kernel
theorem d_M_empties_14 : decode b_M_empties 14 = .ok (.iconst 0, 1) := by decide +kernel
theorem d_M_empties_15 : decode b_M_empties 15 = .ok (.iastore, 1) := by decide +kernel
theorem d_M_empties_16 : decode b_M_empties 16 = .ok (.iload_n 1, 1) := by decide +kernel
theorem d_M_empties_17 : decode b_M_empties 17 = .ok (.ireturn, 1) := by decide +kernel
theorem d_M_rule_0 : decode b_M_rule 0 = .ok (.iload_n 1, 1) := by decide +kernel
theorem d_M_rule_1 : decode b_M_rule 1 = .ok (.i2l, 1) := by decide +kernel
theorem d_M_rule_2 : decode b_M_rule 2 = .ok (.lconst 0, 1) := by decide +kernel
theorem d_M_rule_3 : decode b_M_rule 3 = .ok (.ldc2_w 372, 3) := by decide +kernel
theorem d_M_rule_6 : decode b_M_rule 6 = .ok (.invokestatic 306, 3) := by decide +kernel
theorem d_M_rule_9 : decode b_M_rule 9 = .ok (.ifCond .ne 9, 3) := by decide +kernel
theorem d_M_rule_12 : decode b_M_rule 12 = .ok (.aload_n 0, 1) := by decide +kernel
theorem d_M_rule_13 : decode b_M_rule 13 = .ok (.iconst 1, 1) := by decide +kernel
theorem d_M_rule_14 : decode b_M_rule 14 = .ok (.invokevirtual 128, 3) := by decide +kernel
theorem d_M_rule_17 : decode b_M_rule 17 = .ok (.ireturn, 1) := by decide +kernel
theorem d_M_rule_18 : decode b_M_rule 18 = .ok (.aload_n 0, 1) := by decide +kernel
theorem d_M_rule_19 : decode b_M_rule 19 = .ok (.getfield 7, 3) := by decide +kernel
theorem d_M_rule_22 : decode b_M_rule 22 = .ok (.iconst 5, 1) := by decide +kernel
theorem d_M_rule_23 : decode b_M_rule 23 = .ok (.iload_n 1, 1) := by decide +kernel
theorem d_M_rule_24 : decode b_M_rule 24 = .ok (.iastore, 1) := by decide +kernel
theorem d_M_rule_25 : decode b_M_rule 25 = .ok (.aload_n 0, 1) := by decide +kernel
theorem d_M_rule_26 : decode b_M_rule 26 = .ok (.iconst 0, 1) := by decide +kernel
theorem d_M_rule_27 : decode b_M_rule 27 = .ok (.invokevirtual 128, 3) := by decide +kernel
theorem d_M_rule_30 : decode b_M_rule 30 = .ok (.ireturn, 1) := by decide +kernel
theorem d_M_takings_0 : decode b_M_takings 0 = .ok (.aload_n 0, 1) := by decide +kernel
theorem d_M_takings_1 : decode b_M_takings 1 = .ok (.iload_n 1, 1) := by decide +kernel
theorem d_M_takings_2 : decode b_M_takings 2 = .ok (.iload_n 2, 1) := by decide +kernel
theorem d_M_takings_3 : decode b_M_takings 3 = .ok (.invokevirtual 382, 3) := by decide +kernel
theorem d_M_takings_6 : decode b_M_takings 6 = .ok (.ifCond .eq 23, 3) := by decide +kernel
theorem d_M_takings_9 : decode b_M_takings 9 = .ok (.aload_n 0, 1) := by decide +kernel
theorem d_M_takings_10 : decode b_M_takings 10 = .ok (.aload_n 0, 1) := by decide +kernel
theorem d_M_takings_11 : decode b_M_takings 11 = .ok (.aload_n 0, 1) := by decide +kernel
theorem d_M_takings_12 : decode b_M_takings 12 = .ok (.getfield 7, 3) := by decide +kernel
theorem d_M_takings_15 : decode b_M_takings 15 = .ok (.bipush 6, 2) := by decide +kernel
theorem d_M_takings_17 : decode b_M_takings 17 = .ok (.iaload, 1) := by decide +kernel
theorem d_M_takings_18 : decode b_M_takings 18 = .ok (.iload_n 1, 1) := by decide +kernel
theorem d_M_takings_19 : decode b_M_takings 19 = .ok (.iload_n 2, 1) := by decide +kernel
theorem d_M_takings_20 : decode b_M_takings 20 = .ok (.invokevirtual 385, 3) := by decide +kernel
theorem d_M_takings_23 : decode b_M_takings 23 = .ok (.invokevirtual 125, 3) := by decide +kernel
theorem d_M_takings_26 : decode b_M_takings 26 = .ok (.goto 8, 3) := by decide +kernel
theorem d_M_takings_29 : decode b_M_takings 29 = .ok (.aload_n 0, 1) := by decide +kernel
theorem d_M_takings_30 : decode b_M_takings 30 = .ok (.iconst 1, 1) := by decide +kernel
theorem d_M_takings_31 : decode b_M_takings 31 = .ok (.invokevirtual 121, 3) := by decide +kernel
theorem d_M_takings_34 : decode b_M_takings 34 = .ok (.ireturn, 1) := by decide +kernel
theorem d_M_isPlay_0 : decode b_M_isPlay 0 = .ok (.aload_n 0, 1) := by decide +kernel
theorem d_M_isPlay_1 : decode b_M_isPlay 1 = .ok (.iload_n 1, 1) := by decide +kernel
theorem d_M_isPlay_2 : decode b_M_isPlay 2 = .ok (.invokevirtual 340, 3) := by decide +kernel
theorem d_M_isPlay_5 : decode b_M_isPlay 5 = .ok (.ifCond .eq 19, 3) := by decide +kernel
theorem d_M_isPlay_8 : decode b_M_isPlay 8 = .ok (.iload_n 2, 1) := by decide +kernel
theorem d_M_isPlay_9 : decode b_M_isPlay 9 = .ok (.i2l, 1) := by decide +kernel
theorem d_M_isPlay_10 : decode b_M_isPlay 10 = .ok (.lconst 0, 1) := by decide +kernel
theorem d_M_isPlay_11 : decode b_M_isPlay 11 = .ok (.ldc2_w 380, 3) := by decide +kernel
theorem d_M_isPlay_14 : decode b_M_isPlay 14 = .ok (.invokestatic 306, 3) := by decide +kernel
theorem d_M_isPlay_17 : decode b_M_isPlay 17 = .ok (.ifCond .eq 7, 3) := by decide +kernel
theorem d_M_isPlay_20 : decode b_M_isPlay 20 = .ok (.iconst 1, 1) := by decide +kernel
theorem d_M_isPlay_21 : decode b_M_isPlay 21 = .ok (.goto 4, 3) := by decide +kernel
theorem d_M_isPlay_24 : decode b_M_isPlay 24 = .ok (.iconst 0, 1) := by decide +kernel
theorem d_M_isPlay_25 : decode b_M_isPlay 25 = .ok (.ireturn, 1) := by decide +kernel
theorem d_M_comesBy_0 : decode b_M_comesBy 0 = .ok (.iconst 0, 1) := by decide +kernel
theorem d_M_comesBy_1 : decode b_M_comesBy 1 = .ok (.istore 4, 2) := by decide +kernel
theorem d_M_comesBy_3 : decode b_M_comesBy 3 = .ok (.aload_n 0, 1) := by decide +kernel
theorem d_M_comesBy_4 : decode b_M_comesBy 4 = .ok (.sipush 2030, 3) := by decide +kernel
theorem d_M_comesBy_7 : decode b_M_comesBy 7 = .ok (.invokevirtual 374, 3) := by decide +kernel
theorem d_M_comesBy_10 : decode b_M_comesBy 10 = .ok (.aload_n 0, 1) := by decide +kernel
theorem d_M_comesBy_11 : decode b_M_comesBy 11 = .ok (.getfield 7, 3) := by decide +kernel
theorem d_M_comesBy_14 : decode b_M_comesBy 14 = .ok (.bipush 6, 2) := by decide +kernel
theorem d_M_comesBy_16 : decode b_M_comesBy 16 = .ok (.iload_n 1, 1) := by decide +kernel
theorem d_M_comesBy_17 : decode b_M_comesBy 17 = .ok (.iastore, 1) := by decide +kernel
theorem d_M_comesBy_18 : decode b_M_comesBy 18 = .ok (.iconst 0, 1) := by decide +kernel
theorem d_M_comesBy_19 : decode b_M_comesBy 19 = .ok (.istore 5, 2) := by decide +kernel
theorem d_M_comesBy_21 : decode b_M_comesBy 21 = .ok (.iload 5, 2) := by decide +kernel
theorem d_M_comesBy_23 : decode b_M_comesBy 23 = .ok (.iload_n 3, 1) := by decide +kernel
theorem d_M_comesBy_24 : decode b_M_comesBy 24 = .ok (.if_icmp .ge 19, 3) := by decide +kernel
theorem d_M_comesBy_27 : decode b_M_comesBy 27 = .ok (.iload 4, 2) := by decide +kernel
theorem d_M_comesBy_29 : decode b_M_comesBy 29 = .ok (.aload_n 0, 1) := by decide +kernel
theorem d_M_comesBy_30 : decode b_M_comesBy 30 = .ok (.iload_n 2, 1) := by decide +kernel
theorem d_M_comesBy_31 : decode b_M_comesBy 31 = .ok (.invokevirtual 349, 3) := by decide +kernel
theorem d_M_comesBy_34 : decode b_M_comesBy 34 = .ok (.iadd, 1) := by decide +kernel
theorem d_M_comesBy_35 : decode b_M_comesBy 35 = .ok (.istore 4, 2) := by decide +kernel
theorem d_M_comesBy_37 : decode b_M_comesBy 37 = .ok (.iinc 5 1, 3) := by decide +kernel
theorem d_M_comesBy_40 : decode b_M_comesBy 40 = .ok (.goto (-19), 3) := by decide +kernel
theorem d_M_comesBy_43 : decode b_M_comesBy 43 = .ok (.aload_n 0, 1) := by decide +kernel
theorem d_M_comesBy_44 : decode b_M_comesBy 44 = .ok (.sipush 2030, 3) := by decide +kernel
theorem d_M_comesBy_47 : decode b_M_comesBy 47 = .ok (.invokevirtual 377, 3) := by decide +kernel
theorem d_M_comesBy_50 : decode b_M_comesBy 50 = .ok (.iload 4, 2) := by decide +kernel
theorem d_M_comesBy_52 : decode b_M_comesBy 52 = .ok (.ireturn, 1) := by decide +kernel
theorem d_M_keeps_0 : decode b_M_keeps 0 = .ok (.iconst 0, 1) := by decide +kernel
theorem d_M_keeps_1 : decode b_M_keeps 1 = .ok (.istore_n 2, 1) := by decide +kernel
theorem d_M_keeps_2 : decode b_M_keeps 2 = .ok (.iload_n 2, 1) := by decide +kernel
theorem d_M_keeps_3 : decode b_M_keeps 3 = .ok (.bipush 38, 2) := by decide +kernel
theorem d_M_keeps_5 : decode b_M_keeps 5 = .ok (.if_icmp .ge 23, 3) := by decide +kernel
theorem d_M_keeps_8 : decode b_M_keeps 8 = .ok (.aload_n 0, 1) := by decide +kernel
theorem d_M_keeps_9 : decode b_M_keeps 9 = .ok (.getfield 7, 3) := by decide +kernel
theorem d_M_keeps_12 : decode b_M_keeps 12 = .ok (.iload_n 1, 1) := by decide +kernel
theorem d_M_keeps_13 : decode b_M_keeps 13 = .ok (.iload_n 2, 1) := by decide +kernel
theorem d_M_keeps_14 : decode b_M_keeps 14 = .ok (.iadd, 1) := by decide +kernel
theorem d_M_keeps_15 : decode b_M_keeps 15 = .ok (.aload_n 0, 1) := by decide +kernel
theorem d_M_keeps_16 : decode b_M_keeps 16 = .ok (.getfield 7, 3) := by decide +kernel
theorem d_M_keeps_19 : decode b_M_keeps 19 = .ok (.iload_n 2, 1) := by decide +kernel
theorem d_M_keeps_20 : decode b_M_keeps 20 = .ok (.iaload, 1) := by decide +kernel
theorem d_M_keeps_21 : decode b_M_keeps 21 = .ok (.iastore, 1) := by decide +kernel
theorem d_M_keeps_22 : decode b_M_keeps 22 = .ok (.iinc 2 1, 3) := by decide +kernel
theorem d_M_keeps_25 : decode b_M_keeps 25 = .ok (.goto (-23), 3) := by decide +kernel
theorem d_M_keeps_28 : decode b_M_keeps 28 = .ok (.return_, 1) := by decide +kernel
theorem d_M_restores_0 : decode b_M_restores 0 = .ok (.iconst 0, 1) := by decide +kernel
theorem d_M_restores_1 : decode b_M_restores 1 = .ok (.istore_n 2, 1) := by decide +kernel
theorem d_M_restores_2 : decode b_M_restores 2 = .ok (.iload_n 2, 1) := by decide +kernel
theorem d_M_restores_3 : decode b_M_restores 3 = .ok (.bipush 38, 2) := by decide +kernel
theorem d_M_restores_5 : decode b_M_restores 5 = .ok (.if_icmp .ge 23, 3) := by decide +kernel
theorem d_M_restores_8 : decode b_M_restores 8 = .ok (.aload_n 0, 1) := by decide +kernel
theorem d_M_restores_9 : decode b_M_restores 9 = .ok (.getfield 7, 3) := by decide +kernel
theorem d_M_restores_12 : decode b_M_restores 12 = .ok (.iload_n 2, 1) := by decide +kernel
theorem d_M_restores_13 : decode b_M_restores 13 = .ok (.aload_n 0, 1) := by decide +kernel
theorem d_M_restores_14 : decode b_M_restores 14 = .ok (.getfield 7, 3) := by decide +kernel
theorem d_M_restores_17 : decode b_M_restores 17 = .ok (.iload_n 1, 1) := by decide +kernel
theorem d_M_restores_18 : decode b_M_restores 18 = .ok (.iload_n 2, 1) := by decide +kernel
theorem d_M_restores_19 : decode b_M_restores 19 = .ok (.iadd, 1) := by decide +kernel
theorem d_M_restores_20 : decode b_M_restores 20 = .ok (.iaload, 1) := by decide +kernel
theorem d_M_restores_21 : decode b_M_restores 21 = .ok (.iastore, 1) := by decide +kernel
theorem d_M_restores_22 : decode b_M_restores 22 = .ok (.iinc 2 1, 3) := by decide +kernel
theorem d_M_restores_25 : decode b_M_restores 25 = .ok (.goto (-23), 3) := by decide +kernel
theorem d_M_restores_28 : decode b_M_restores 28 = .ok (.return_, 1) := by decide +kernel
theorem d_M_pitch_0 : decode b_M_pitch 0 = .ok (.aload_n 0, 1) := by decide +kernel
theorem d_M_pitch_1 : decode b_M_pitch 1 = .ok (.iload_n 1, 1) := by decide +kernel
theorem d_M_pitch_2 : decode b_M_pitch 2 = .ok (.invokevirtual 334, 3) := by decide +kernel
theorem d_M_pitch_5 : decode b_M_pitch 5 = .ok (.ifCond .eq 12, 3) := by decide +kernel
theorem d_M_pitch_8 : decode b_M_pitch 8 = .ok (.aload_n 0, 1) := by decide +kernel
theorem d_M_pitch_9 : decode b_M_pitch 9 = .ok (.iload_n 2, 1) := by decide +kernel
theorem d_M_pitch_10 : decode b_M_pitch 10 = .ok (.iload_n 3, 1) := by decide +kernel
theorem d_M_pitch_11 : decode b_M_pitch 11 = .ok (.invokevirtual 382, 3) := by decide +kernel
theorem d_M_pitch_14 : decode b_M_pitch 14 = .ok (.ifCond .ne 9, 3) := by decide +kernel
theorem d_M_pitch_17 : decode b_M_pitch 17 = .ok (.aload_n 0, 1) := by decide +kernel
theorem d_M_pitch_18 : decode b_M_pitch 18 = .ok (.iconst 1, 1) := by decide +kernel
theorem d_M_pitch_19 : decode b_M_pitch 19 = .ok (.invokevirtual 121, 3) := by decide +kernel
theorem d_M_pitch_22 : decode b_M_pitch 22 = .ok (.ireturn, 1) := by decide +kernel
theorem d_M_pitch_23 : decode b_M_pitch 23 = .ok (.aload_n 0, 1) := by decide +kernel
theorem d_M_pitch_24 : decode b_M_pitch 24 = .ok (.aload_n 0, 1) := by decide +kernel
theorem d_M_pitch_25 : decode b_M_pitch 25 = .ok (.iload_n 1, 1) := by decide +kernel
theorem d_M_pitch_26 : decode b_M_pitch 26 = .ok (.iload_n 2, 1) := by decide +kernel
theorem d_M_pitch_27 : decode b_M_pitch 27 = .ok (.iload_n 3, 1) := by decide +kernel
theorem d_M_pitch_28 : decode b_M_pitch 28 = .ok (.invokevirtual 385, 3) := by decide +kernel
theorem d_M_pitch_31 : decode b_M_pitch 31 = .ok (.invokevirtual 125, 3) := by decide +kernel
theorem d_M_pitch_34 : decode b_M_pitch 34 = .ok (.ireturn, 1) := by decide +kernel
theorem d_M_bestPitch_0 : decode b_M_bestPitch 0 = .ok (.aload_n 0, 1) := by decide +kernel
theorem d_M_bestPitch_1 : decode b_M_bestPitch 1 = .ok (.iload_n 1, 1) := by decide +kernel
theorem d_M_bestPitch_2 : decode b_M_bestPitch 2 = .ok (.iload_n 2, 1) := by decide +kernel
theorem d_M_bestPitch_3 : decode b_M_bestPitch 3 = .ok (.invokevirtual 382, 3) := by decide +kernel
theorem d_M_bestPitch_6 : decode b_M_bestPitch 6 = .ok (.ifCond .ne 9, 3) := by decide +kernel
theorem d_M_bestPitch_9 : decode b_M_bestPitch 9 = .ok (.aload_n 0, 1) := by decide +kernel
theorem d_M_bestPitch_10 : decode b_M_bestPitch 10 = .ok (.iconst 1, 1) := by decide +kernel
theorem d_M_bestPitch_11 : decode b_M_bestPitch 11 = .ok (.invokevirtual 121, 3) := by decide +kernel
theorem d_M_bestPitch_14 : decode b_M_bestPitch 14 = .ok (.ireturn, 1) := by decide +kernel
theorem d_M_bestPitch_15 : decode b_M_bestPitch 15 = .ok (.iconst 0, 1) := by decide +kernel
theorem d_M_bestPitch_16 : decode b_M_bestPitch 16 = .ok (.istore_n 3, 1) := by decide +kernel
theorem d_M_bestPitch_17 : decode b_M_bestPitch 17 = .ok (.iconst 1, 1) := by decide +kernel
theorem d_M_bestPitch_18 : decode b_M_bestPitch 18 = .ok (.istore 4, 2) := by decide +kernel
theorem d_M_bestPitch_20 : decode b_M_bestPitch 20 = .ok (.iload 4, 2) := by decide +kernel
theorem d_M_bestPitch_22 : decode b_M_bestPitch 22 = .ok (.aload_n 0, 1) := by decide +kernel
theorem d_M_bestPitch_23 : decode b_M_bestPitch 23 = .ok (.iconst 0, 1) := by decide +kernel
theorem d_M_bestPitch_24 : decode b_M_bestPitch 24 = .ok (.invokevirtual 223, 3) := by decide +kernel
theorem d_M_bestPitch_27 : decode b_M_bestPitch 27 = .ok (.if_icmp .ge 30, 3) := by decide +kernel
theorem d_M_bestPitch_30 : decode b_M_bestPitch 30 = .ok (.aload_n 0, 1) := by decide +kernel
theorem d_M_bestPitch_31 : decode b_M_bestPitch 31 = .ok (.iload 4, 2) := by decide +kernel
theorem d_M_bestPitch_33 : decode b_M_bestPitch 33 = .ok (.iload_n 1, 1) := by decide +kernel
theorem d_M_bestPitch_34 : decode b_M_bestPitch 34 = .ok (.iload_n 2, 1) := by decide +kernel
theorem d_M_bestPitch_35 : decode b_M_bestPitch 35 = .ok (.invokevirtual 385, 3) := by decide +kernel
theorem d_M_bestPitch_38 : decode b_M_bestPitch 38 = .ok (.aload_n 0, 1) := by decide +kernel
theorem d_M_bestPitch_39 : decode b_M_bestPitch 39 = .ok (.iload_n 3, 1) := by decide +kernel
theorem d_M_bestPitch_40 : decode b_M_bestPitch 40 = .ok (.iload_n 1, 1) := by decide +kernel
theorem d_M_bestPitch_41 : decode b_M_bestPitch 41 = .ok (.iload_n 2, 1) := by decide +kernel
theorem d_M_bestPitch_42 : decode b_M_bestPitch 42 = .ok (.invokevirtual 385, 3) := by decide +kernel
theorem d_M_bestPitch_45 : decode b_M_bestPitch 45 = .ok (.if_icmp .le 6, 3) := by decide +kernel
theorem d_M_bestPitch_48 : decode b_M_bestPitch 48 = .ok (.iload 4, 2) := by decide +kernel
theorem d_M_bestPitch_50 : decode b_M_bestPitch 50 = .ok (.istore_n 3, 1) := by decide +kernel
theorem d_M_bestPitch_51 : decode b_M_bestPitch 51 = .ok (.iinc 4 1, 3) := by decide +kernel
theorem d_M_bestPitch_54 : decode b_M_bestPitch 54 = .ok (.goto (-34), 3) := by decide +kernel
theorem d_M_bestPitch_57 : decode b_M_bestPitch 57 = .ok (.aload_n 0, 1) := by decide +kernel
theorem d_M_bestPitch_58 : decode b_M_bestPitch 58 = .ok (.iload_n 3, 1) := by decide +kernel
theorem d_M_bestPitch_59 : decode b_M_bestPitch 59 = .ok (.invokevirtual 125, 3) := by decide +kernel
theorem d_M_bestPitch_62 : decode b_M_bestPitch 62 = .ok (.ireturn, 1) := by decide +kernel
theorem d_M_soon_0 : decode b_M_soon 0 = .ok (.aload_n 0, 1) := by decide +kernel
theorem d_M_soon_1 : decode b_M_soon 1 = .ok (.iload_n 1, 1) := by decide +kernel
theorem d_M_soon_2 : decode b_M_soon 2 = .ok (.invokevirtual 328, 3) := by decide +kernel
theorem d_M_soon_5 : decode b_M_soon 5 = .ok (.ifCond .ne 9, 3) := by decide +kernel
theorem d_M_soon_8 : decode b_M_soon 8 = .ok (.aload_n 0, 1) := by decide +kernel
theorem d_M_soon_9 : decode b_M_soon 9 = .ok (.iconst 1, 1) := by decide +kernel
theorem d_M_soon_10 : decode b_M_soon 10 = .ok (.invokevirtual 121, 3) := by decide +kernel
theorem d_M_soon_13 : decode b_M_soon 13 = .ok (.ireturn, 1) := by decide +kernel
theorem d_M_soon_14 : decode b_M_soon 14 = .ok (.aload_n 0, 1) := by decide +kernel
theorem d_M_soon_15 : decode b_M_soon 15 = .ok (.iload_n 1, 1) := by decide +kernel
theorem d_M_soon_16 : decode b_M_soon 16 = .ok (.invokevirtual 331, 3) := by decide +kernel
theorem d_M_soon_19 : decode b_M_soon 19 = .ok (.istore_n 2, 1) := by decide +kernel
theorem d_M_soon_20 : decode b_M_soon 20 = .ok (.iload_n 2, 1) := by decide +kernel
theorem d_M_soon_21 : decode b_M_soon 21 = .ok (.ifCond .le 21, 3) := by decide +kernel
theorem d_M_soon_24 : decode b_M_soon 24 = .ok (.aload_n 0, 1) := by decide +kernel
theorem d_M_soon_25 : decode b_M_soon 25 = .ok (.iload_n 1, 1) := by decide +kernel
theorem d_M_soon_26 : decode b_M_soon 26 = .ok (.iconst 1, 1) := by decide +kernel
theorem d_M_soon_27 : decode b_M_soon 27 = .ok (.invokevirtual 313, 3) := by decide +kernel
theorem d_M_soon_30 : decode b_M_soon 30 = .ok (.ifCond .ne 12, 3) := by decide +kernel
theorem d_M_soon_33 : decode b_M_soon 33 = .ok (.aload_n 0, 1) := by decide +kernel
theorem d_M_soon_34 : decode b_M_soon 34 = .ok (.bipush 6, 2) := by decide +kernel
theorem d_M_soon_36 : decode b_M_soon 36 = .ok (.invokevirtual 121, 3) := by decide +kernel
theorem d_M_soon_39 : decode b_M_soon 39 = .ok (.goto 8, 3) := by decide +kernel
theorem d_M_soon_42 : decode b_M_soon 42 = .ok (.aload_n 0, 1) := by decide +kernel
theorem d_M_soon_43 : decode b_M_soon 43 = .ok (.iload_n 2, 1) := by decide +kernel
theorem d_M_soon_44 : decode b_M_soon 44 = .ok (.invokevirtual 125, 3) := by decide +kernel
theorem d_M_soon_47 : decode b_M_soon 47 = .ok (.ireturn, 1) := by decide +kernel
theorem d_M_gather_0 : decode b_M_gather 0 = .ok (.aload_n 0, 1) := by decide +kernel
theorem d_M_gather_1 : decode b_M_gather 1 = .ok (.iload_n 1, 1) := by decide +kernel
theorem d_M_gather_2 : decode b_M_gather 2 = .ok (.invokevirtual 400, 3) := by decide +kernel
theorem d_M_gather_5 : decode b_M_gather 5 = .ok (.ifCond .ne 9, 3) := by decide +kernel
theorem d_M_gather_8 : decode b_M_gather 8 = .ok (.aload_n 0, 1) := by decide +kernel
theorem d_M_gather_9 : decode b_M_gather 9 = .ok (.iconst 1, 1) := by decide +kernel
theorem d_M_gather_10 : decode b_M_gather 10 = .ok (.invokevirtual 121, 3) := by decide +kernel
theorem d_M_gather_13 : decode b_M_gather 13 = .ok (.ireturn, 1) := by decide +kernel
theorem d_M_gather_14 : decode b_M_gather 14 = .ok (.aload_n 0, 1) := by decide +kernel
theorem d_M_gather_15 : decode b_M_gather 15 = .ok (.iload_n 1, 1) := by decide +kernel
theorem d_M_gather_16 : decode b_M_gather 16 = .ok (.invokevirtual 403, 3) := by decide +kernel
theorem d_M_gather_19 : decode b_M_gather 19 = .ok (.istore_n 2, 1) := by decide +kernel
theorem d_M_gather_20 : decode b_M_gather 20 = .ok (.aload_n 0, 1) := by decide +kernel
theorem d_M_gather_21 : decode b_M_gather 21 = .ok (.getfield 47, 3) := by decide +kernel
theorem d_M_gather_24 : decode b_M_gather 24 = .ok (.iload_n 2, 1) := by decide +kernel
theorem d_M_gather_25 : decode b_M_gather 25 = .ok (.iaload, 1) := by decide +kernel
theorem d_M_gather_26 : decode b_M_gather 26 = .ok (.ldc_w 392, 3) := by decide +kernel
theorem d_M_gather_29 : decode b_M_gather 29 = .ok (.if_icmp .lt 12, 3) := by decide +kernel
theorem d_M_gather_32 : decode b_M_gather 32 = .ok (.aload_n 0, 1) := by decide +kernel
theorem d_M_gather_33 : decode b_M_gather 33 = .ok (.bipush 6, 2) := by decide +kernel
theorem d_M_gather_35 : decode b_M_gather 35 = .ok (.invokevirtual 121, 3) := by decide +kernel
theorem d_M_gather_38 : decode b_M_gather 38 = .ok (.goto 13, 3) := by decide +kernel
theorem d_M_gather_41 : decode b_M_gather 41 = .ok (.aload_n 0, 1) := by decide +kernel
theorem d_M_gather_42 : decode b_M_gather 42 = .ok (.aload_n 0, 1) := by decide +kernel
theorem d_M_gather_43 : decode b_M_gather 43 = .ok (.getfield 47, 3) := by decide +kernel
theorem d_M_gather_46 : decode b_M_gather 46 = .ok (.iload_n 2, 1) := by decide +kernel
theorem d_M_gather_47 : decode b_M_gather 47 = .ok (.iaload, 1) := by decide +kernel
theorem d_M_gather_48 : decode b_M_gather 48 = .ok (.invokevirtual 125, 3) := by decide +kernel
theorem d_M_gather_51 : decode b_M_gather 51 = .ok (.ireturn, 1) := by decide +kernel
theorem d_M_isGather_0 : decode b_M_isGather 0 = .ok (.aload_n 0, 1) := by decide +kernel
theorem d_M_isGather_1 : decode b_M_isGather 1 = .ok (.iload_n 1, 1) := by decide +kernel
theorem d_M_isGather_2 : decode b_M_isGather 2 = .ok (.i2l, 1) := by decide +kernel
theorem d_M_isGather_3 : decode b_M_isGather 3 = .ok (.invokevirtual 396, 3) := by decide +kernel
theorem d_M_isGather_6 : decode b_M_isGather 6 = .ok (.ifCond .eq 19, 3) := by decide +kernel
theorem d_M_isGather_9 : decode b_M_isGather 9 = .ok (.iload_n 1, 1) := by decide +kernel
theorem d_M_isGather_10 : decode b_M_isGather 10 = .ok (.ifCond .eq 15, 3) := by decide +kernel
theorem d_M_isGather_13 : decode b_M_isGather 13 = .ok (.iload_n 1, 1) := by decide +kernel
theorem d_M_isGather_14 : decode b_M_isGather 14 = .ok (.invokestatic 358, 3) := by decide +kernel
theorem d_M_isGather_17 : decode b_M_isGather 17 = .ok (.iconst 4, 1) := by decide +kernel
theorem d_M_isGather_18 : decode b_M_isGather 18 = .ok (.if_icmp .ge 7, 3) := by decide +kernel
theorem d_M_isGather_21 : decode b_M_isGather 21 = .ok (.iconst 1, 1) := by decide +kernel
theorem d_M_isGather_22 : decode b_M_isGather 22 = .ok (.goto 4, 3) := by decide +kernel
theorem d_M_isGather_25 : decode b_M_isGather 25 = .ok (.iconst 0, 1) := by decide +kernel
theorem d_M_isGather_26 : decode b_M_isGather 26 = .ok (.ireturn, 1) := by decide +kernel
theorem d_M_areHearers_0 : decode b_M_areHearers 0 = .ok (.lload_n 1, 1) := by decide +kernel
theorem d_M_areHearers_1 : decode b_M_areHearers 1 = .ok (.lconst 0, 1) := by decide +kernel
theorem d_M_areHearers_2 : decode b_M_areHearers 2 = .ok (.lconst 1, 1) := by decide +kernel
theorem d_M_areHearers_3 : decode b_M_areHearers 3 = .ok (.aload_n 0, 1) := by decide +kernel
theorem d_M_areHearers_4 : decode b_M_areHearers 4 = .ok (.getfield 7, 3) := by decide +kernel
theorem d_M_areHearers_7 : decode b_M_areHearers 7 = .ok (.iconst 3, 1) := by decide +kernel
theorem d_M_areHearers_8 : decode b_M_areHearers 8 = .ok (.iaload, 1) := by decide +kernel
theorem d_M_areHearers_9 : decode b_M_areHearers 9 = .ok (.lshl, 1) := by decide +kernel
theorem d_M_areHearers_10 : decode b_M_areHearers 10 = .ok (.lconst 1, 1) := by decide +kernel
theorem d_M_areHearers_11 : decode b_M_areHearers 11 = .ok (.lsub, 1) := by decide +kernel
theorem d_M_areHearers_12 : decode b_M_areHearers 12 = .ok (.invokestatic 306, 3) := by decide +kernel
theorem d_M_areHearers_15 : decode b_M_areHearers 15 = .ok (.ireturn, 1) := by decide +kernel
theorem d_M_laysGather_0 : decode b_M_laysGather 0 = .ok (.iconst 0, 1) := by decide +kernel
theorem d_M_laysGather_1 : decode b_M_laysGather 1 = .ok (.istore_n 2, 1) := by decide +kernel
theorem d_M_laysGather_2 : decode b_M_laysGather 2 = .ok (.iconst 1, 1) := by decide +kernel
theorem d_M_laysGather_3 : decode b_M_laysGather 3 = .ok (.istore_n 3, 1) := by decide +kernel
theorem d_M_laysGather_4 : decode b_M_laysGather 4 = .ok (.aload_n 0, 1) := by decide +kernel
theorem d_M_laysGather_5 : decode b_M_laysGather 5 = .ok (.iconst 0, 1) := by decide +kernel
theorem d_M_laysGather_6 : decode b_M_laysGather 6 = .ok (.putfield 389, 3) := by decide +kernel
theorem d_M_laysGather_9 : decode b_M_laysGather 9 = .ok (.iconst 0, 1) := by decide +kernel
theorem d_M_laysGather_10 : decode b_M_laysGather 10 = .ok (.istore 4, 2) := by decide +kernel
theorem d_M_laysGather_12 : decode b_M_laysGather 12 = .ok (.iload 4, 2) := by decide +kernel
theorem d_M_laysGather_14 : decode b_M_laysGather 14 = .ok (.aload_n 0, 1) := by decide +kernel
theorem d_M_laysGather_15 : decode b_M_laysGather 15 = .ok (.getfield 7, 3) := by decide +kernel
theorem d_M_laysGather_18 : decode b_M_laysGather 18 = .ok (.iconst 3, 1) := by decide +kernel
theorem d_M_laysGather_19 : decode b_M_laysGather 19 = .ok (.iaload, 1) := by decide +kernel
theorem d_M_laysGather_20 : decode b_M_laysGather 20 = .ok (.if_icmp .ge 59, 3) := by decide +kernel
theorem d_M_laysGather_23 : decode b_M_laysGather 23 = .ok (.aload_n 0, 1) := by decide +kernel
theorem d_M_laysGather_24 : decode b_M_laysGather 24 = .ok (.iload_n 1, 1) := by decide +kernel
theorem d_M_laysGather_25 : decode b_M_laysGather 25 = .ok (.iload 4, 2) := by decide +kernel
theorem d_M_laysGather_27 : decode b_M_laysGather 27 = .ok (.invokevirtual 251, 3) := by decide +kernel
theorem d_M_laysGather_30 : decode b_M_laysGather 30 = .ok (.ifCond .ne 6, 3) := by decide +kernel
theorem d_M_laysGather_33 : decode b_M_laysGather 33 = .ok (.goto 40, 3) := by decide +kernel
theorem d_M_laysGather_36 : decode b_M_laysGather 36 = .ok (.iload_n 2, 1) := by decide +kernel
theorem d_M_laysGather_37 : decode b_M_laysGather 37 = .ok (.iload_n 3, 1) := by decide +kernel
theorem d_M_laysGather_38 : decode b_M_laysGather 38 = .ok (.aload_n 0, 1) := by decide +kernel
theorem d_M_laysGather_39 : decode b_M_laysGather 39 = .ok (.iload 4, 2) := by decide +kernel
theorem d_M_laysGather_41 : decode b_M_laysGather 41 = .ok (.invokevirtual 331, 3) := by decide +kernel
theorem d_M_laysGather_44 : decode b_M_laysGather 44 = .ok (.imul, 1) := by decide +kernel
theorem d_M_laysGather_45 : decode b_M_laysGather 45 = .ok (.iadd, 1) := by decide +kernel
theorem d_M_laysGather_46 : decode b_M_laysGather 46 = .ok (.istore_n 2, 1) := by decide +kernel
theorem d_M_laysGather_47 : decode b_M_laysGather 47 = .ok (.iload_n 3, 1) := by decide +kernel
theorem d_M_laysGather_48 : decode b_M_laysGather 48 = .ok (.bipush 9, 2) := by decide +kernel
theorem d_M_laysGather_50 : decode b_M_laysGather 50 = .ok (.imul, 1) := by decide +kernel
theorem d_M_laysGather_51 : decode b_M_laysGather 51 = .ok (.istore_n 3, 1) := by decide +kernel
theorem d_M_laysGather_52 : decode b_M_laysGather 52 = .ok (.aload_n 0, 1) := by decide +kernel
theorem d_M_laysGather_53 : decode b_M_laysGather 53 = .ok (.getfield 50, 3) := by decide +kernel
theorem d_M_laysGather_56 : decode b_M_laysGather 56 = .ok (.aload_n 0, 1) := by decide +kernel
theorem d_M_laysGather_57 : decode b_M_laysGather 57 = .ok (.getfield 389, 3) := by decide +kernel
theorem d_M_laysGather_60 : decode b_M_laysGather 60 = .ok (.iload 4, 2) := by decide +kernel
theorem d_M_laysGather_62 : decode b_M_laysGather 62 = .ok (.iastore, 1) := by decide +kernel
theorem d_M_laysGather_63 : decode b_M_laysGather 63 = .ok (.aload_n 0, 1) := by decide +kernel
theorem d_M_laysGather_64 : decode b_M_laysGather 64 = .ok (.dup, 1) := by decide +kernel
theorem d_M_laysGather_65 : decode b_M_laysGather 65 = .ok (.getfield 389, 3) := by decide +kernel
theorem d_M_laysGather_68 : decode b_M_laysGather 68 = .ok (.iconst 1, 1) := by decide +kernel
theorem d_M_laysGather_69 : decode b_M_laysGather 69 = .ok (.iadd, 1) := by decide +kernel
theorem d_M_laysGather_70 : decode b_M_laysGather 70 = .ok (.putfield 389, 3) := by decide +kernel
theorem d_M_laysGather_73 : decode b_M_laysGather 73 = .ok (.iinc 4 1, 3) := by decide +kernel
theorem d_M_laysGather_76 : decode b_M_laysGather 76 = .ok (.goto (-64), 3) := by decide +kernel
theorem d_M_laysGather_79 : decode b_M_laysGather 79 = .ok (.aload_n 0, 1) := by decide +kernel
theorem d_M_laysGather_80 : decode b_M_laysGather 80 = .ok (.getfield 47, 3) := by decide +kernel
theorem d_M_laysGather_83 : decode b_M_laysGather 83 = .ok (.iconst 0, 1) := by decide +kernel
theorem d_M_laysGather_84 : decode b_M_laysGather 84 = .ok (.iconst 0, 1) := by decide +kernel
theorem d_M_laysGather_85 : decode b_M_laysGather 85 = .ok (.iastore, 1) := by decide +kernel
theorem d_M_laysGather_86 : decode b_M_laysGather 86 = .ok (.iconst 1, 1) := by decide +kernel
theorem d_M_laysGather_87 : decode b_M_laysGather 87 = .ok (.istore 4, 2) := by decide +kernel
theorem d_M_laysGather_89 : decode b_M_laysGather 89 = .ok (.iload 4, 2) := by decide +kernel
theorem d_M_laysGather_91 : decode b_M_laysGather 91 = .ok (.iload_n 3, 1) := by decide +kernel
theorem d_M_laysGather_92 : decode b_M_laysGather 92 = .ok (.if_icmp .ge 82, 3) := by decide +kernel
theorem d_M_laysGather_95 : decode b_M_laysGather 95 = .ok (.aload_n 0, 1) := by decide +kernel
theorem d_M_laysGather_96 : decode b_M_laysGather 96 = .ok (.getfield 47, 3) := by decide +kernel
theorem d_M_laysGather_99 : decode b_M_laysGather 99 = .ok (.iload 4, 2) := by decide +kernel
theorem d_M_laysGather_101 : decode b_M_laysGather 101 = .ok (.ldc_w 392, 3) := by decide +kernel
theorem d_M_laysGather_104 : decode b_M_laysGather 104 = .ok (.iastore, 1) := by decide +kernel
theorem d_M_laysGather_105 : decode b_M_laysGather 105 = .ok (.iconst 0, 1) := by decide +kernel
theorem d_M_laysGather_106 : decode b_M_laysGather 106 = .ok (.istore 5, 2) := by decide +kernel
theorem d_M_laysGather_108 : decode b_M_laysGather 108 = .ok (.iload 5, 2) := by decide +kernel
theorem d_M_laysGather_110 : decode b_M_laysGather 110 = .ok (.aload_n 0, 1) := by decide +kernel
theorem d_M_laysGather_111 : decode b_M_laysGather 111 = .ok (.getfield 7, 3) := by decide +kernel
theorem d_M_laysGather_114 : decode b_M_laysGather 114 = .ok (.iconst 2, 1) := by decide +kernel
theorem d_M_laysGather_115 : decode b_M_laysGather 115 = .ok (.iaload, 1) := by decide +kernel
theorem d_M_laysGather_116 : decode b_M_laysGather 116 = .ok (.if_icmp .ge 52, 3) := by decide +kernel
theorem d_M_laysGather_119 : decode b_M_laysGather 119 = .ok (.aload_n 0, 1) := by decide +kernel
theorem d_M_laysGather_120 : decode b_M_laysGather 120 = .ok (.iload 4, 2) := by decide +kernel
theorem d_M_laysGather_122 : decode b_M_laysGather 122 = .ok (.iload 5, 2) := by decide +kernel
theorem d_M_laysGather_124 : decode b_M_laysGather 124 = .ok (.invokevirtual 393, 3) := by decide +kernel
theorem d_M_laysGather_127 : decode b_M_laysGather 127 = .ok (.istore 6, 2) := by decide +kernel
theorem d_M_laysGather_129 : decode b_M_laysGather 129 = .ok (.iload 6, 2) := by decide +kernel
theorem d_M_laysGather_131 : decode b_M_laysGather 131 = .ok (.iload 4, 2) := by decide +kernel
theorem d_M_laysGather_133 : decode b_M_laysGather 133 = .ok (.if_icmp .eq 29, 3) := by decide +kernel
theorem d_M_laysGather_136 : decode b_M_laysGather 136 = .ok (.aload_n 0, 1) := by decide +kernel
theorem d_M_laysGather_137 : decode b_M_laysGather 137 = .ok (.getfield 47, 3) := by decide +kernel
theorem d_M_laysGather_140 : decode b_M_laysGather 140 = .ok (.iload 4, 2) := by decide +kernel
theorem d_M_laysGather_142 : decode b_M_laysGather 142 = .ok (.aload_n 0, 1) := by decide +kernel
theorem d_M_laysGather_143 : decode b_M_laysGather 143 = .ok (.getfield 47, 3) := by decide +kernel
theorem d_M_laysGather_146 : decode b_M_laysGather 146 = .ok (.iload 4, 2) := by decide +kernel
theorem d_M_laysGather_148 : decode b_M_laysGather 148 = .ok (.iaload, 1) := by decide +kernel
theorem d_M_laysGather_149 : decode b_M_laysGather 149 = .ok (.iconst 1, 1) := by decide +kernel
theorem d_M_laysGather_150 : decode b_M_laysGather 150 = .ok (.aload_n 0, 1) := by decide +kernel
theorem d_M_laysGather_151 : decode b_M_laysGather 151 = .ok (.getfield 47, 3) := by decide +kernel
theorem d_M_laysGather_154 : decode b_M_laysGather 154 = .ok (.iload 6, 2) := by decide +kernel
theorem d_M_laysGather_156 : decode b_M_laysGather 156 = .ok (.iaload, 1) := by decide +kernel
theorem d_M_laysGather_157 : decode b_M_laysGather 157 = .ok (.iadd, 1) := by decide +kernel
theorem d_M_laysGather_158 : decode b_M_laysGather 158 = .ok (.invokestatic 176, 3) := by decide +kernel
theorem d_M_laysGather_161 : decode b_M_laysGather 161 = .ok (.iastore, 1) := by decide +kernel
theorem d_M_laysGather_162 : decode b_M_laysGather 162 = .ok (.iinc 5 1, 3) := by decide +kernel
theorem d_M_laysGather_165 : decode b_M_laysGather 165 = .ok (.goto (-57), 3) := by decide +kernel
theorem d_M_laysGather_168 : decode b_M_laysGather 168 = .ok (.iinc 4 1, 3) := by decide +kernel
theorem d_M_laysGather_171 : decode b_M_laysGather 171 = .ok (.goto (-82), 3) := by decide +kernel
theorem d_M_laysGather_174 : decode b_M_laysGather 174 = .ok (.iload_n 2, 1) := by decide +kernel
theorem d_M_laysGather_175 : decode b_M_laysGather 175 = .ok (.ireturn, 1) := by decide +kernel
theorem d_M_behindTune_0 : decode b_M_behindTune 0 = .ok (.iconst 0, 1) := by decide +kernel
theorem d_M_behindTune_1 : decode b_M_behindTune 1 = .ok (.istore_n 3, 1) := by decide +kernel
theorem d_M_behindTune_2 : decode b_M_behindTune 2 = .ok (.iconst 1, 1) := by decide +kernel
theorem d_M_behindTune_3 : decode b_M_behindTune 3 = .ok (.istore 4, 2) := by decide +kernel
theorem d_M_behindTune_5 : decode b_M_behindTune 5 = .ok (.iload_n 1, 1) := by decide +kernel
theorem d_M_behindTune_6 : decode b_M_behindTune 6 = .ok (.istore 5, 2) := by decide +kernel
theorem d_M_behindTune_8 : decode b_M_behindTune 8 = .ok (.iconst 0, 1) := by decide +kernel
theorem d_M_behindTune_9 : decode b_M_behindTune 9 = .ok (.istore 6, 2) := by decide +kernel
theorem d_M_behindTune_11 : decode b_M_behindTune 11 = .ok (.iload 6, 2) := by decide +kernel
theorem d_M_behindTune_13 : decode b_M_behindTune 13 = .ok (.aload_n 0, 1) := by decide +kernel
theorem d_M_behindTune_14 : decode b_M_behindTune 14 = .ok (.getfield 389, 3) := by decide +kernel
theorem d_M_behindTune_17 : decode b_M_behindTune 17 = .ok (.if_icmp .ge 82, 3) := by decide +kernel
theorem d_M_behindTune_20 : decode b_M_behindTune 20 = .ok (.iload 5, 2) := by decide +kernel
theorem d_M_behindTune_22 : decode b_M_behindTune 22 = .ok (.bipush 9, 2) := by decide +kernel
theorem d_M_behindTune_24 : decode b_M_behindTune 24 = .ok (.irem, 1) := by decide +kernel
theorem d_M_behindTune_25 : decode b_M_behindTune 25 = .ok (.istore 7, 2) := by decide +kernel
theorem d_M_behindTune_27 : decode b_M_behindTune 27 = .ok (.iload 7, 2) := by decide +kernel
theorem d_M_behindTune_29 : decode b_M_behindTune 29 = .ok (.ifCond .le 27, 3) := by decide +kernel
theorem d_M_behindTune_32 : decode b_M_behindTune 32 = .ok (.aload_n 0, 1) := by decide +kernel
theorem d_M_behindTune_33 : decode b_M_behindTune 33 = .ok (.aload_n 0, 1) := by decide +kernel
theorem d_M_behindTune_34 : decode b_M_behindTune 34 = .ok (.aload_n 0, 1) := by decide +kernel
theorem d_M_behindTune_35 : decode b_M_behindTune 35 = .ok (.getfield 50, 3) := by decide +kernel
theorem d_M_behindTune_38 : decode b_M_behindTune 38 = .ok (.iload 6, 2) := by decide +kernel
theorem d_M_behindTune_40 : decode b_M_behindTune 40 = .ok (.iaload, 1) := by decide +kernel
theorem d_M_behindTune_41 : decode b_M_behindTune 41 = .ok (.iconst 1, 1) := by decide +kernel
theorem d_M_behindTune_42 : decode b_M_behindTune 42 = .ok (.invokevirtual 313, 3) := by decide +kernel
theorem d_M_behindTune_45 : decode b_M_behindTune 45 = .ok (.iload_n 2, 1) := by decide +kernel
theorem d_M_behindTune_46 : decode b_M_behindTune 46 = .ok (.invokevirtual 251, 3) := by decide +kernel
theorem d_M_behindTune_49 : decode b_M_behindTune 49 = .ok (.ifCond .eq 7, 3) := by decide +kernel
theorem d_M_behindTune_52 : decode b_M_behindTune 52 = .ok (.iconst 1, 1) := by decide +kernel
theorem d_M_behindTune_53 : decode b_M_behindTune 53 = .ok (.goto 4, 3) := by decide +kernel
theorem d_M_behindTune_56 : decode b_M_behindTune 56 = .ok (.iconst 0, 1) := by decide +kernel
theorem d_M_behindTune_57 : decode b_M_behindTune 57 = .ok (.istore 8, 2) := by decide +kernel
theorem d_M_behindTune_59 : decode b_M_behindTune 59 = .ok (.iload_n 3, 1) := by decide +kernel
theorem d_M_behindTune_60 : decode b_M_behindTune 60 = .ok (.iload 4, 2) := by decide +kernel
theorem d_M_behindTune_62 : decode b_M_behindTune 62 = .ok (.iload 8, 2) := by decide +kernel
theorem d_M_behindTune_64 : decode b_M_behindTune 64 = .ok (.ifCond .eq 10, 3) := by decide +kernel
theorem d_M_behindTune_67 : decode b_M_behindTune 67 = .ok (.iload 7, 2) := by decide +kernel
theorem d_M_behindTune_69 : decode b_M_behindTune 69 = .ok (.iconst 1, 1) := by decide +kernel
theorem d_M_behindTune_70 : decode b_M_behindTune 70 = .ok (.isub, 1) := by decide +kernel
theorem d_M_behindTune_71 : decode b_M_behindTune 71 = .ok (.goto 5, 3) := by decide +kernel
theorem d_M_behindTune_74 : decode b_M_behindTune 74 = .ok (.iload 7, 2) := by decide +kernel
theorem d_M_behindTune_76 : decode b_M_behindTune 76 = .ok (.imul, 1) := by decide +kernel
theorem d_M_behindTune_77 : decode b_M_behindTune 77 = .ok (.iadd, 1) := by decide +kernel
theorem d_M_behindTune_78 : decode b_M_behindTune 78 = .ok (.istore_n 3, 1) := by decide +kernel
theorem d_M_behindTune_79 : decode b_M_behindTune 79 = .ok (.iload 4, 2) := by decide +kernel
theorem d_M_behindTune_81 : decode b_M_behindTune 81 = .ok (.bipush 9, 2) := by decide +kernel
theorem d_M_behindTune_83 : decode b_M_behindTune 83 = .ok (.imul, 1) := by decide +kernel
theorem d_M_behindTune_84 : decode b_M_behindTune 84 = .ok (.istore 4, 2) := by decide +kernel
theorem d_M_behindTune_86 : decode b_M_behindTune 86 = .ok (.iload 5, 2) := by decide +kernel
theorem d_M_behindTune_88 : decode b_M_behindTune 88 = .ok (.bipush 9, 2) := by decide +kernel
theorem d_M_behindTune_90 : decode b_M_behindTune 90 = .ok (.idiv, 1) := by decide +kernel
theorem d_M_behindTune_91 : decode b_M_behindTune 91 = .ok (.istore 5, 2) := by decide +kernel
theorem d_M_behindTune_93 : decode b_M_behindTune 93 = .ok (.iinc 6 1, 3) := by decide +kernel
theorem d_M_behindTune_96 : decode b_M_behindTune 96 = .ok (.goto (-85), 3) := by decide +kernel
theorem d_M_behindTune_99 : decode b_M_behindTune 99 = .ok (.iload_n 3, 1) := by decide +kernel
theorem d_M_behindTune_100 : decode b_M_behindTune 100 = .ok (.ireturn, 1) := by decide +kernel
theorem d_M_gatherAt_0 : decode b_M_gatherAt 0 = .ok (.aload_n 0, 1) := by decide +kernel
theorem d_M_gatherAt_1 : decode b_M_gatherAt 1 = .ok (.iload_n 1, 1) := by decide +kernel
theorem d_M_gatherAt_2 : decode b_M_gatherAt 2 = .ok (.invokevirtual 400, 3) := by decide +kernel
theorem d_M_gatherAt_5 : decode b_M_gatherAt 5 = .ok (.ifCond .eq 7, 3) := by decide +kernel
theorem d_M_gatherAt_8 : decode b_M_gatherAt 8 = .ok (.iload_n 2, 1) := by decide +kernel
theorem d_M_gatherAt_9 : decode b_M_gatherAt 9 = .ok (.ifCond .ge 9, 3) := by decide +kernel
theorem d_M_gatherAt_12 : decode b_M_gatherAt 12 = .ok (.aload_n 0, 1) := by decide +kernel
theorem d_M_gatherAt_13 : decode b_M_gatherAt 13 = .ok (.iconst 1, 1) := by decide +kernel
theorem d_M_gatherAt_14 : decode b_M_gatherAt 14 = .ok (.invokevirtual 121, 3) := by decide +kernel
theorem d_M_gatherAt_17 : decode b_M_gatherAt 17 = .ok (.ireturn, 1) := by decide +kernel
theorem d_M_gatherAt_18 : decode b_M_gatherAt 18 = .ok (.aload_n 0, 1) := by decide +kernel
theorem d_M_gatherAt_19 : decode b_M_gatherAt 19 = .ok (.iload_n 1, 1) := by decide +kernel
theorem d_M_gatherAt_20 : decode b_M_gatherAt 20 = .ok (.invokevirtual 403, 3) := by decide +kernel
theorem d_M_gatherAt_23 : decode b_M_gatherAt 23 = .ok (.istore_n 3, 1) := by decide +kernel
theorem d_M_gatherAt_24 : decode b_M_gatherAt 24 = .ok (.iload_n 2, 1) := by decide +kernel
theorem d_M_gatherAt_25 : decode b_M_gatherAt 25 = .ok (.aload_n 0, 1) := by decide +kernel
theorem d_M_gatherAt_26 : decode b_M_gatherAt 26 = .ok (.getfield 47, 3) := by decide +kernel
theorem d_M_gatherAt_29 : decode b_M_gatherAt 29 = .ok (.iload_n 3, 1) := by decide +kernel
theorem d_M_gatherAt_30 : decode b_M_gatherAt 30 = .ok (.iaload, 1) := by decide +kernel
theorem d_M_gatherAt_31 : decode b_M_gatherAt 31 = .ok (.if_icmp .ge 15, 3) := by decide +kernel
theorem d_M_gatherAt_34 : decode b_M_gatherAt 34 = .ok (.aload_n 0, 1) := by decide +kernel
theorem d_M_gatherAt_35 : decode b_M_gatherAt 35 = .ok (.getfield 47, 3) := by decide +kernel
theorem d_M_gatherAt_38 : decode b_M_gatherAt 38 = .ok (.iload_n 3, 1) := by decide +kernel
theorem d_M_gatherAt_39 : decode b_M_gatherAt 39 = .ok (.iaload, 1) := by decide +kernel
theorem d_M_gatherAt_40 : decode b_M_gatherAt 40 = .ok (.ldc_w 392, 3) := by decide +kernel
theorem d_M_gatherAt_43 : decode b_M_gatherAt 43 = .ok (.if_icmp .lt 10, 3) := by decide +kernel
theorem d_M_gatherAt_46 : decode b_M_gatherAt 46 = .ok (.aload_n 0, 1) := by decide +kernel
theorem d_M_gatherAt_47 : decode b_M_gatherAt 47 = .ok (.bipush 6, 2) := by decide +kernel
theorem d_M_gatherAt_49 : decode b_M_gatherAt 49 = .ok (.invokevirtual 121, 3) := by decide +kernel
theorem d_M_gatherAt_52 : decode b_M_gatherAt 52 = .ok (.ireturn, 1) := by decide +kernel
theorem d_M_gatherAt_53 : decode b_M_gatherAt 53 = .ok (.iconst 0, 1) := by decide +kernel
theorem d_M_gatherAt_54 : decode b_M_gatherAt 54 = .ok (.istore 4, 2) := by decide +kernel
theorem d_M_gatherAt_56 : decode b_M_gatherAt 56 = .ok (.iconst 0, 1) := by decide +kernel
theorem d_M_gatherAt_57 : decode b_M_gatherAt 57 = .ok (.istore 5, 2) := by decide +kernel
theorem d_M_gatherAt_59 : decode b_M_gatherAt 59 = .ok (.iload 5, 2) := by decide +kernel
theorem d_M_gatherAt_61 : decode b_M_gatherAt 61 = .ok (.iload_n 2, 1) := by decide +kernel
theorem d_M_gatherAt_62 : decode b_M_gatherAt 62 = .ok (.if_icmp .gt 49, 3) := by decide +kernel
theorem d_M_gatherAt_65 : decode b_M_gatherAt 65 = .ok (.iconst 0, 1) := by decide +kernel
theorem d_M_gatherAt_66 : decode b_M_gatherAt 66 = .ok (.istore 4, 2) := by decide +kernel
theorem d_M_gatherAt_68 : decode b_M_gatherAt 68 = .ok (.aload_n 0, 1) := by decide +kernel
theorem d_M_gatherAt_69 : decode b_M_gatherAt 69 = .ok (.getfield 47, 3) := by decide +kernel
theorem d_M_gatherAt_72 : decode b_M_gatherAt 72 = .ok (.aload_n 0, 1) := by decide +kernel
theorem d_M_gatherAt_73 : decode b_M_gatherAt 73 = .ok (.iload_n 3, 1) := by decide +kernel
theorem d_M_gatherAt_74 : decode b_M_gatherAt 74 = .ok (.iload 4, 2) := by decide +kernel
theorem d_M_gatherAt_76 : decode b_M_gatherAt 76 = .ok (.invokevirtual 393, 3) := by decide +kernel
theorem d_M_gatherAt_79 : decode b_M_gatherAt 79 = .ok (.iaload, 1) := by decide +kernel
theorem d_M_gatherAt_80 : decode b_M_gatherAt 80 = .ok (.aload_n 0, 1) := by decide +kernel
theorem d_M_gatherAt_81 : decode b_M_gatherAt 81 = .ok (.getfield 47, 3) := by decide +kernel
theorem d_M_gatherAt_84 : decode b_M_gatherAt 84 = .ok (.iload_n 3, 1) := by decide +kernel
theorem d_M_gatherAt_85 : decode b_M_gatherAt 85 = .ok (.iaload, 1) := by decide +kernel
theorem d_M_gatherAt_86 : decode b_M_gatherAt 86 = .ok (.iconst 1, 1) := by decide +kernel
theorem d_M_gatherAt_87 : decode b_M_gatherAt 87 = .ok (.isub, 1) := by decide +kernel
theorem d_M_gatherAt_88 : decode b_M_gatherAt 88 = .ok (.if_icmp .eq 9, 3) := by decide +kernel
theorem d_M_gatherAt_91 : decode b_M_gatherAt 91 = .ok (.iinc 4 1, 3) := by decide +kernel
theorem d_M_gatherAt_94 : decode b_M_gatherAt 94 = .ok (.goto (-26), 3) := by decide +kernel
theorem d_M_gatherAt_97 : decode b_M_gatherAt 97 = .ok (.aload_n 0, 1) := by decide +kernel
theorem d_M_gatherAt_98 : decode b_M_gatherAt 98 = .ok (.iload_n 3, 1) := by decide +kernel
theorem d_M_gatherAt_99 : decode b_M_gatherAt 99 = .ok (.iload 4, 2) := by decide +kernel
theorem d_M_gatherAt_101 : decode b_M_gatherAt 101 = .ok (.invokevirtual 393, 3) := by decide +kernel
theorem d_M_gatherAt_104 : decode b_M_gatherAt 104 = .ok (.istore_n 3, 1) := by decide +kernel
theorem d_M_gatherAt_105 : decode b_M_gatherAt 105 = .ok (.iinc 5 1, 3) := by decide +kernel
theorem d_M_gatherAt_108 : decode b_M_gatherAt 108 = .ok (.goto (-49), 3) := by decide +kernel
theorem d_M_gatherAt_111 : decode b_M_gatherAt 111 = .ok (.aload_n 0, 1) := by decide +kernel
theorem d_M_gatherAt_112 : decode b_M_gatherAt 112 = .ok (.iload 4, 2) := by decide +kernel
theorem d_M_gatherAt_114 : decode b_M_gatherAt 114 = .ok (.invokevirtual 125, 3) := by decide +kernel
theorem d_M_gatherAt_117 : decode b_M_gatherAt 117 = .ok (.ireturn, 1) := by decide +kernel
theorem d_M_explain_0 : decode b_M_explain 0 = .ok (.aload_n 0, 1) := by decide +kernel
theorem d_M_explain_1 : decode b_M_explain 1 = .ok (.iload_n 1, 1) := by decide +kernel
theorem d_M_explain_2 : decode b_M_explain 2 = .ok (.i2l, 1) := by decide +kernel
theorem d_M_explain_3 : decode b_M_explain 3 = .ok (.invokevirtual 412, 3) := by decide +kernel
theorem d_M_explain_6 : decode b_M_explain 6 = .ok (.ifCond .ne 9, 3) := by decide +kernel
theorem d_M_explain_9 : decode b_M_explain 9 = .ok (.aload_n 0, 1) := by decide +kernel
theorem d_M_explain_10 : decode b_M_explain 10 = .ok (.iconst 1, 1) := by decide +kernel
theorem d_M_explain_11 : decode b_M_explain 11 = .ok (.invokevirtual 121, 3) := by decide +kernel
theorem d_M_explain_14 : decode b_M_explain 14 = .ok (.ireturn, 1) := by decide +kernel
theorem d_M_explain_15 : decode b_M_explain 15 = .ok (.iconst 0, 1) := by decide +kernel
theorem d_M_explain_16 : decode b_M_explain 16 = .ok (.istore_n 2, 1) := by decide +kernel
theorem d_M_explain_17 : decode b_M_explain 17 = .ok (.iload_n 2, 1) := by decide +kernel
theorem d_M_explain_18 : decode b_M_explain 18 = .ok (.iconst 4, 1) := by decide +kernel
theorem d_M_explain_19 : decode b_M_explain 19 = .ok (.if_icmp .gt 28, 3) := by decide +kernel
theorem d_M_explain_22 : decode b_M_explain 22 = .ok (.aload_n 0, 1) := by decide +kernel
theorem d_M_explain_23 : decode b_M_explain 23 = .ok (.iload_n 1, 1) := by decide +kernel
theorem d_M_explain_24 : decode b_M_explain 24 = .ok (.iload_n 2, 1) := by decide +kernel
theorem d_M_explain_25 : decode b_M_explain 25 = .ok (.invokevirtual 415, 3) := by decide +kernel
theorem d_M_explain_28 : decode b_M_explain 28 = .ok (.aload_n 0, 1) := by decide +kernel
theorem d_M_explain_29 : decode b_M_explain 29 = .ok (.getfield 406, 3) := by decide +kernel
theorem d_M_explain_32 : decode b_M_explain 32 = .ok (.ifCond .le 9, 3) := by decide +kernel
theorem d_M_explain_35 : decode b_M_explain 35 = .ok (.aload_n 0, 1) := by decide +kernel
theorem d_M_explain_36 : decode b_M_explain 36 = .ok (.iload_n 2, 1) := by decide +kernel
theorem d_M_explain_37 : decode b_M_explain 37 = .ok (.invokevirtual 125, 3) := by decide +kernel
theorem d_M_explain_40 : decode b_M_explain 40 = .ok (.ireturn, 1) := by decide +kernel
theorem d_M_explain_41 : decode b_M_explain 41 = .ok (.iinc 2 1, 3) := by decide +kernel
theorem d_M_explain_44 : decode b_M_explain 44 = .ok (.goto (-27), 3) := by decide +kernel
theorem d_M_explain_47 : decode b_M_explain 47 = .ok (.aload_n 0, 1) := by decide +kernel
theorem d_M_explain_48 : decode b_M_explain 48 = .ok (.bipush 6, 2) := by decide +kernel
theorem d_M_explain_50 : decode b_M_explain 50 = .ok (.invokevirtual 121, 3) := by decide +kernel
theorem d_M_explain_53 : decode b_M_explain 53 = .ok (.ireturn, 1) := by decide +kernel
theorem d_M_areDogs_0 : decode b_M_areDogs 0 = .ok (.lload_n 1, 1) := by decide +kernel
theorem d_M_areDogs_1 : decode b_M_areDogs 1 = .ok (.lconst 0, 1) := by decide +kernel
theorem d_M_areDogs_2 : decode b_M_areDogs 2 = .ok (.lconst 1, 1) := by decide +kernel
theorem d_M_areDogs_3 : decode b_M_areDogs 3 = .ok (.aload_n 0, 1) := by decide +kernel
theorem d_M_areDogs_4 : decode b_M_areDogs 4 = .ok (.getfield 7, 3) := by decide +kernel
theorem d_M_areDogs_7 : decode b_M_areDogs 7 = .ok (.iconst 4, 1) := by decide +kernel
theorem d_M_areDogs_8 : decode b_M_areDogs 8 = .ok (.iaload, 1) := by decide +kernel
theorem d_M_areDogs_9 : decode b_M_areDogs 9 = .ok (.lshl, 1) := by decide +kernel
theorem d_M_areDogs_10 : decode b_M_areDogs 10 = .ok (.lconst 1, 1) := by decide +kernel
theorem d_M_areDogs_11 : decode b_M_areDogs 11 = .ok (.lsub, 1) := by decide +kernel
theorem d_M_areDogs_12 : decode b_M_areDogs 12 = .ok (.invokestatic 306, 3) := by decide +kernel
theorem d_M_areDogs_15 : decode b_M_areDogs 15 = .ok (.ireturn, 1) := by decide +kernel
theorem d_M_laysPlacings_0 : decode b_M_laysPlacings 0 = .ok (.iconst 0, 1) := by decide +kernel
theorem d_M_laysPlacings_1 : decode b_M_laysPlacings 1 = .ok (.istore_n 3, 1) := by decide +kernel
theorem d_M_laysPlacings_2 : decode b_M_laysPlacings 2 = .ok (.aload_n 0, 1) := by decide +kernel
theorem d_M_laysPlacings_3 : decode b_M_laysPlacings 3 = .ok (.iconst 0, 1) := by decide +kernel
theorem d_M_laysPlacings_4 : decode b_M_laysPlacings 4 = .ok (.putfield 406, 3) := by decide +kernel
theorem d_M_laysPlacings_7 : decode b_M_laysPlacings 7 = .ok (.iconst 0, 1) := by decide +kernel
theorem d_M_laysPlacings_8 : decode b_M_laysPlacings 8 = .ok (.istore 4, 2) := by decide +kernel
theorem d_M_laysPlacings_10 : decode b_M_laysPlacings 10 = .ok (.iload 4, 2) := by decide +kernel
theorem d_M_laysPlacings_12 : decode b_M_laysPlacings 12 = .ok (.bipush 25, 2) := by decide +kernel
theorem d_M_laysPlacings_14 : decode b_M_laysPlacings 14 = .ok (.if_icmp .ge 25, 3) := by decide +kernel
theorem d_M_laysPlacings_17 : decode b_M_laysPlacings 17 = .ok (.aload_n 0, 1) := by decide +kernel
theorem d_M_laysPlacings_18 : decode b_M_laysPlacings 18 = .ok (.getfield 59, 3) := by decide +kernel
theorem d_M_laysPlacings_21 : decode b_M_laysPlacings 21 = .ok (.iload 4, 2) := by decide +kernel
theorem d_M_laysPlacings_23 : decode b_M_laysPlacings 23 = .ok (.iconst 0, 1) := by decide +kernel
theorem d_M_laysPlacings_24 : decode b_M_laysPlacings 24 = .ok (.iastore, 1) := by decide +kernel
theorem d_M_laysPlacings_25 : decode b_M_laysPlacings 25 = .ok (.aload_n 0, 1) := by decide +kernel
theorem d_M_laysPlacings_26 : decode b_M_laysPlacings 26 = .ok (.getfield 62, 3) := by decide +kernel
theorem d_M_laysPlacings_29 : decode b_M_laysPlacings 29 = .ok (.iload 4, 2) := by decide +kernel
theorem d_M_laysPlacings_31 : decode b_M_laysPlacings 31 = .ok (.iconst 0, 1) := by decide +kernel
theorem d_M_laysPlacings_32 : decode b_M_laysPlacings 32 = .ok (.iastore, 1) := by decide +kernel
theorem d_M_laysPlacings_33 : decode b_M_laysPlacings 33 = .ok (.iinc 4 1, 3) := by decide +kernel
theorem d_M_laysPlacings_36 : decode b_M_laysPlacings 36 = .ok (.goto (-26), 3) := by decide +kernel
theorem d_M_laysPlacings_39 : decode b_M_laysPlacings 39 = .ok (.iload_n 2, 1) := by decide +kernel
theorem d_M_laysPlacings_40 : decode b_M_laysPlacings 40 = .ok (.ifCond .ne 12, 3) := by decide +kernel
theorem d_M_laysPlacings_43 : decode b_M_laysPlacings 43 = .ok (.iload_n 1, 1) := by decide +kernel
theorem d_M_laysPlacings_44 : decode b_M_laysPlacings 44 = .ok (.ifCond .ne 8, 3) := by decide +kernel
theorem d_M_laysPlacings_47 : decode b_M_laysPlacings 47 = .ok (.aload_n 0, 1) := by decide +kernel
theorem d_M_laysPlacings_48 : decode b_M_laysPlacings 48 = .ok (.iconst 0, 1) := by decide +kernel
theorem d_M_laysPlacings_49 : decode b_M_laysPlacings 49 = .ok (.invokevirtual 409, 3) := by decide +kernel
theorem d_M_laysPlacings_52 : decode b_M_laysPlacings 52 = .ok (.aload_n 0, 1) := by decide +kernel
theorem d_M_laysPlacings_53 : decode b_M_laysPlacings 53 = .ok (.getfield 53, 3) := by decide +kernel
theorem d_M_laysPlacings_56 : decode b_M_laysPlacings 56 = .ok (.iconst 0, 1) := by decide +kernel
theorem d_M_laysPlacings_57 : decode b_M_laysPlacings 57 = .ok (.iconst (-1), 1) := by decide +kernel
theorem d_M_laysPlacings_58 : decode b_M_laysPlacings 58 = .ok (.iastore, 1) := by decide +kernel
theorem d_M_laysPlacings_59 : decode b_M_laysPlacings 59 = .ok (.aload_n 0, 1) := by decide +kernel
theorem d_M_laysPlacings_60 : decode b_M_laysPlacings 60 = .ok (.getfield 56, 3) := by decide +kernel
theorem d_M_laysPlacings_63 : decode b_M_laysPlacings 63 = .ok (.iconst 0, 1) := by decide +kernel
theorem d_M_laysPlacings_64 : decode b_M_laysPlacings 64 = .ok (.iconst 0, 1) := by decide +kernel
theorem d_M_laysPlacings_65 : decode b_M_laysPlacings 65 = .ok (.iastore, 1) := by decide +kernel
theorem d_M_laysPlacings_66 : decode b_M_laysPlacings 66 = .ok (.iload_n 3, 1) := by decide +kernel
theorem d_M_laysPlacings_67 : decode b_M_laysPlacings 67 = .ok (.ifCond .lt 105, 3) := by decide +kernel
theorem d_M_laysPlacings_70 : decode b_M_laysPlacings 70 = .ok (.iload_n 2, 1) := by decide +kernel
theorem d_M_laysPlacings_71 : decode b_M_laysPlacings 71 = .ok (.ifCond .le 101, 3) := by decide +kernel
theorem d_M_laysPlacings_74 : decode b_M_laysPlacings 74 = .ok (.aload_n 0, 1) := by decide +kernel
theorem d_M_laysPlacings_75 : decode b_M_laysPlacings 75 = .ok (.getfield 53, 3) := by decide +kernel
theorem d_M_laysPlacings_78 : decode b_M_laysPlacings 78 = .ok (.iload_n 3, 1) := by decide +kernel
theorem d_M_laysPlacings_79 : decode b_M_laysPlacings 79 = .ok (.dup2, 1) := by decide +kernel
theorem d_M_laysPlacings_80 : decode b_M_laysPlacings 80 = .ok (.iaload, 1) := by decide +kernel
theorem d_M_laysPlacings_81 : decode b_M_laysPlacings 81 = .ok (.iconst 1, 1) := by decide +kernel
theorem d_M_laysPlacings_82 : decode b_M_laysPlacings 82 = .ok (.iadd, 1) := by decide +kernel
theorem d_M_laysPlacings_83 : decode b_M_laysPlacings 83 = .ok (.iastore, 1) := by decide +kernel
theorem d_M_laysPlacings_84 : decode b_M_laysPlacings 84 = .ok (.aload_n 0, 1) := by decide +kernel
theorem d_M_laysPlacings_85 : decode b_M_laysPlacings 85 = .ok (.getfield 53, 3) := by decide +kernel
theorem d_M_laysPlacings_88 : decode b_M_laysPlacings 88 = .ok (.iload_n 3, 1) := by decide +kernel
theorem d_M_laysPlacings_89 : decode b_M_laysPlacings 89 = .ok (.iaload, 1) := by decide +kernel
theorem d_M_laysPlacings_90 : decode b_M_laysPlacings 90 = .ok (.aload_n 0, 1) := by decide +kernel
theorem d_M_laysPlacings_91 : decode b_M_laysPlacings 91 = .ok (.iconst 0, 1) := by decide +kernel
theorem d_M_laysPlacings_92 : decode b_M_laysPlacings 92 = .ok (.invokevirtual 223, 3) := by decide +kernel
theorem d_M_laysPlacings_95 : decode b_M_laysPlacings 95 = .ok (.if_icmp .ne 9, 3) := by decide +kernel
theorem d_M_laysPlacings_98 : decode b_M_laysPlacings 98 = .ok (.iinc 3 (-1), 3) := by decide +kernel
theorem d_M_laysPlacings_101 : decode b_M_laysPlacings 101 = .ok (.goto (-35), 3) := by decide +kernel
theorem d_M_laysPlacings_104 : decode b_M_laysPlacings 104 = .ok (.aload_n 0, 1) := by decide +kernel
theorem d_M_laysPlacings_105 : decode b_M_laysPlacings 105 = .ok (.getfield 56, 3) := by decide +kernel
theorem d_M_laysPlacings_108 : decode b_M_laysPlacings 108 = .ok (.iload_n 3, 1) := by decide +kernel
theorem d_M_laysPlacings_109 : decode b_M_laysPlacings 109 = .ok (.iaload, 1) := by decide +kernel
theorem d_M_laysPlacings_110 : decode b_M_laysPlacings 110 = .ok (.aload_n 0, 1) := by decide +kernel
theorem d_M_laysPlacings_111 : decode b_M_laysPlacings 111 = .ok (.aload_n 0, 1) := by decide +kernel
theorem d_M_laysPlacings_112 : decode b_M_laysPlacings 112 = .ok (.getfield 53, 3) := by decide +kernel
theorem d_M_laysPlacings_115 : decode b_M_laysPlacings 115 = .ok (.iload_n 3, 1) := by decide +kernel
theorem d_M_laysPlacings_116 : decode b_M_laysPlacings 116 = .ok (.iaload, 1) := by decide +kernel
theorem d_M_laysPlacings_117 : decode b_M_laysPlacings 117 = .ok (.invokevirtual 319, 3) := by decide +kernel
theorem d_M_laysPlacings_120 : decode b_M_laysPlacings 120 = .ok (.ior, 1) := by decide +kernel
theorem d_M_laysPlacings_121 : decode b_M_laysPlacings 121 = .ok (.istore 4, 2) := by decide +kernel
theorem d_M_laysPlacings_123 : decode b_M_laysPlacings 123 = .ok (.iload_n 3, 1) := by decide +kernel
theorem d_M_laysPlacings_124 : decode b_M_laysPlacings 124 = .ok (.iconst 1, 1) := by decide +kernel
theorem d_M_laysPlacings_125 : decode b_M_laysPlacings 125 = .ok (.iadd, 1) := by decide +kernel
theorem d_M_laysPlacings_126 : decode b_M_laysPlacings 126 = .ok (.iload_n 2, 1) := by decide +kernel
theorem d_M_laysPlacings_127 : decode b_M_laysPlacings 127 = .ok (.if_icmp .ne 17, 3) := by decide +kernel
theorem d_M_laysPlacings_130 : decode b_M_laysPlacings 130 = .ok (.iload 4, 2) := by decide +kernel
theorem d_M_laysPlacings_132 : decode b_M_laysPlacings 132 = .ok (.iload_n 1, 1) := by decide +kernel
theorem d_M_laysPlacings_133 : decode b_M_laysPlacings 133 = .ok (.if_icmp .ne 36, 3) := by decide +kernel
theorem d_M_laysPlacings_136 : decode b_M_laysPlacings 136 = .ok (.aload_n 0, 1) := by decide +kernel
theorem d_M_laysPlacings_137 : decode b_M_laysPlacings 137 = .ok (.iload_n 2, 1) := by decide +kernel
theorem d_M_laysPlacings_138 : decode b_M_laysPlacings 138 = .ok (.invokevirtual 409, 3) := by decide +kernel
theorem d_M_laysPlacings_141 : decode b_M_laysPlacings 141 = .ok (.goto 28, 3) := by decide +kernel
theorem d_M_laysPlacings_144 : decode b_M_laysPlacings 144 = .ok (.iinc 3 1, 3) := by decide +kernel
theorem d_M_laysPlacings_147 : decode b_M_laysPlacings 147 = .ok (.aload_n 0, 1) := by decide +kernel
theorem d_M_laysPlacings_148 : decode b_M_laysPlacings 148 = .ok (.getfield 53, 3) := by decide +kernel
theorem d_M_laysPlacings_151 : decode b_M_laysPlacings 151 = .ok (.iload_n 3, 1) := by decide +kernel
theorem d_M_laysPlacings_152 : decode b_M_laysPlacings 152 = .ok (.aload_n 0, 1) := by decide +kernel
theorem d_M_laysPlacings_153 : decode b_M_laysPlacings 153 = .ok (.getfield 53, 3) := by decide +kernel
theorem d_M_laysPlacings_156 : decode b_M_laysPlacings 156 = .ok (.iload_n 3, 1) := by decide +kernel
theorem d_M_laysPlacings_157 : decode b_M_laysPlacings 157 = .ok (.iconst 1, 1) := by decide +kernel
theorem d_M_laysPlacings_158 : decode b_M_laysPlacings 158 = .ok (.isub, 1) := by decide +kernel
theorem d_M_laysPlacings_159 : decode b_M_laysPlacings 159 = .ok (.iaload, 1) := by decide +kernel
theorem d_M_laysPlacings_160 : decode b_M_laysPlacings 160 = .ok (.iastore, 1) := by decide +kernel
theorem d_M_laysPlacings_161 : decode b_M_laysPlacings 161 = .ok (.aload_n 0, 1) := by decide +kernel
theorem d_M_laysPlacings_162 : decode b_M_laysPlacings 162 = .ok (.getfield 56, 3) := by decide +kernel
theorem d_M_laysPlacings_165 : decode b_M_laysPlacings 165 = .ok (.iload_n 3, 1) := by decide +kernel
theorem d_M_laysPlacings_166 : decode b_M_laysPlacings 166 = .ok (.iload 4, 2) := by decide +kernel
theorem d_M_laysPlacings_168 : decode b_M_laysPlacings 168 = .ok (.iastore, 1) := by decide +kernel
theorem d_M_laysPlacings_169 : decode b_M_laysPlacings 169 = .ok (.goto (-103), 3) := by decide +kernel
theorem d_M_laysPlacings_172 : decode b_M_laysPlacings 172 = .ok (.return_, 1) := by decide +kernel
theorem d_M_counts_0 : decode b_M_counts 0 = .ok (.aload_n 0, 1) := by decide +kernel
theorem d_M_counts_1 : decode b_M_counts 1 = .ok (.dup, 1) := by decide +kernel
theorem d_M_counts_2 : decode b_M_counts 2 = .ok (.getfield 406, 3) := by decide +kernel
theorem d_M_counts_5 : decode b_M_counts 5 = .ok (.iconst 1, 1) := by decide +kernel
theorem d_M_counts_6 : decode b_M_counts 6 = .ok (.iadd, 1) := by decide +kernel
theorem d_M_counts_7 : decode b_M_counts 7 = .ok (.putfield 406, 3) := by decide +kernel
theorem d_M_counts_10 : decode b_M_counts 10 = .ok (.iconst 0, 1) := by decide +kernel
theorem d_M_counts_11 : decode b_M_counts 11 = .ok (.istore_n 2, 1) := by decide +kernel
theorem d_M_counts_12 : decode b_M_counts 12 = .ok (.iload_n 2, 1) := by decide +kernel
theorem d_M_counts_13 : decode b_M_counts 13 = .ok (.aload_n 0, 1) := by decide +kernel
theorem d_M_counts_14 : decode b_M_counts 14 = .ok (.iconst 0, 1) := by decide +kernel
theorem d_M_counts_15 : decode b_M_counts 15 = .ok (.invokevirtual 223, 3) := by decide +kernel
theorem d_M_counts_18 : decode b_M_counts 18 = .ok (.if_icmp .ge 93, 3) := by decide +kernel
theorem d_M_counts_21 : decode b_M_counts 21 = .ok (.iconst 0, 1) := by decide +kernel
theorem d_M_counts_22 : decode b_M_counts 22 = .ok (.istore_n 3, 1) := by decide +kernel
theorem d_M_counts_23 : decode b_M_counts 23 = .ok (.iconst 0, 1) := by decide +kernel
theorem d_M_counts_24 : decode b_M_counts 24 = .ok (.istore 4, 2) := by decide +kernel
theorem d_M_counts_26 : decode b_M_counts 26 = .ok (.iload 4, 2) := by decide +kernel
theorem d_M_counts_28 : decode b_M_counts 28 = .ok (.iload_n 1, 1) := by decide +kernel
theorem d_M_counts_29 : decode b_M_counts 29 = .ok (.if_icmp .ge 58, 3) := by decide +kernel
theorem d_M_counts_32 : decode b_M_counts 32 = .ok (.aload_n 0, 1) := by decide +kernel
theorem d_M_counts_33 : decode b_M_counts 33 = .ok (.getfield 59, 3) := by decide +kernel
theorem d_M_counts_36 : decode b_M_counts 36 = .ok (.iload_n 2, 1) := by decide +kernel
theorem d_M_counts_37 : decode b_M_counts 37 = .ok (.dup2, 1) := by decide +kernel
theorem d_M_counts_38 : decode b_M_counts 38 = .ok (.iaload, 1) := by decide +kernel
theorem d_M_counts_39 : decode b_M_counts 39 = .ok (.aload_n 0, 1) := by decide +kernel
theorem d_M_counts_40 : decode b_M_counts 40 = .ok (.getfield 53, 3) := by decide +kernel
theorem d_M_counts_43 : decode b_M_counts 43 = .ok (.iload 4, 2) := by decide +kernel
theorem d_M_counts_45 : decode b_M_counts 45 = .ok (.iaload, 1) := by decide +kernel
theorem d_M_counts_46 : decode b_M_counts 46 = .ok (.iload_n 2, 1) := by decide +kernel
theorem d_M_counts_47 : decode b_M_counts 47 = .ok (.if_icmp .ne 7, 3) := by decide +kernel
theorem d_M_counts_50 : decode b_M_counts 50 = .ok (.iconst 1, 1) := by decide +kernel
theorem d_M_counts_51 : decode b_M_counts 51 = .ok (.goto 4, 3) := by decide +kernel
theorem d_M_counts_54 : decode b_M_counts 54 = .ok (.iconst 0, 1) := by decide +kernel
theorem d_M_counts_55 : decode b_M_counts 55 = .ok (.iadd, 1) := by decide +kernel
theorem d_M_counts_56 : decode b_M_counts 56 = .ok (.iastore, 1) := by decide +kernel
theorem d_M_counts_57 : decode b_M_counts 57 = .ok (.iload_n 3, 1) := by decide +kernel
theorem d_M_counts_58 : decode b_M_counts 58 = .ok (.aload_n 0, 1) := by decide +kernel
theorem d_M_counts_59 : decode b_M_counts 59 = .ok (.aload_n 0, 1) := by decide +kernel
theorem d_M_counts_60 : decode b_M_counts 60 = .ok (.getfield 53, 3) := by decide +kernel
theorem d_M_counts_63 : decode b_M_counts 63 = .ok (.iload 4, 2) := by decide +kernel
theorem d_M_counts_65 : decode b_M_counts 65 = .ok (.iaload, 1) := by decide +kernel
theorem d_M_counts_66 : decode b_M_counts 66 = .ok (.iload_n 2, 1) := by decide +kernel
theorem d_M_counts_67 : decode b_M_counts 67 = .ok (.invokevirtual 316, 3) := by decide +kernel
theorem d_M_counts_70 : decode b_M_counts 70 = .ok (.iconst 2, 1) := by decide +kernel
theorem d_M_counts_71 : decode b_M_counts 71 = .ok (.if_icmp .ge 7, 3) := by decide +kernel
theorem d_M_counts_74 : decode b_M_counts 74 = .ok (.iconst 1, 1) := by decide +kernel
theorem d_M_counts_75 : decode b_M_counts 75 = .ok (.goto 4, 3) := by decide +kernel
theorem d_M_counts_78 : decode b_M_counts 78 = .ok (.iconst 0, 1) := by decide +kernel
theorem d_M_counts_79 : decode b_M_counts 79 = .ok (.iadd, 1) := by decide +kernel
theorem d_M_counts_80 : decode b_M_counts 80 = .ok (.istore_n 3, 1) := by decide +kernel
theorem d_M_counts_81 : decode b_M_counts 81 = .ok (.iinc 4 1, 3) := by decide +kernel
theorem d_M_counts_84 : decode b_M_counts 84 = .ok (.goto (-58), 3) := by decide +kernel
theorem d_M_counts_87 : decode b_M_counts 87 = .ok (.aload_n 0, 1) := by decide +kernel
theorem d_M_counts_88 : decode b_M_counts 88 = .ok (.getfield 62, 3) := by decide +kernel
theorem d_M_counts_91 : decode b_M_counts 91 = .ok (.iload_n 2, 1) := by decide +kernel
theorem d_M_counts_92 : decode b_M_counts 92 = .ok (.dup2, 1) := by decide +kernel
theorem d_M_counts_93 : decode b_M_counts 93 = .ok (.iaload, 1) := by decide +kernel
theorem d_M_counts_94 : decode b_M_counts 94 = .ok (.iload_n 3, 1) := by decide +kernel
theorem d_M_counts_95 : decode b_M_counts 95 = .ok (.ifCond .le 7, 3) := by decide +kernel
theorem d_M_counts_98 : decode b_M_counts 98 = .ok (.iconst 1, 1) := by decide +kernel
theorem d_M_counts_99 : decode b_M_counts 99 = .ok (.goto 4, 3) := by decide +kernel
theorem d_M_counts_102 : decode b_M_counts 102 = .ok (.iconst 0, 1) := by decide +kernel
theorem d_M_counts_103 : decode b_M_counts 103 = .ok (.iadd, 1) := by decide +kernel
theorem d_M_counts_104 : decode b_M_counts 104 = .ok (.iastore, 1) := by decide +kernel
theorem d_M_counts_105 : decode b_M_counts 105 = .ok (.iinc 2 1, 3) := by decide +kernel
theorem d_M_counts_108 : decode b_M_counts 108 = .ok (.goto (-96), 3) := by decide +kernel
theorem d_M_counts_111 : decode b_M_counts 111 = .ok (.return_, 1) := by decide +kernel
theorem d_M_placings_0 : decode b_M_placings 0 = .ok (.aload_n 0, 1) := by decide +kernel
theorem d_M_placings_1 : decode b_M_placings 1 = .ok (.iload_n 1, 1) := by decide +kernel
theorem d_M_placings_2 : decode b_M_placings 2 = .ok (.iload_n 2, 1) := by decide +kernel
theorem d_M_placings_3 : decode b_M_placings 3 = .ok (.invokevirtual 421, 3) := by decide +kernel
theorem d_M_placings_6 : decode b_M_placings 6 = .ok (.ifCond .eq 16, 3) := by decide +kernel
theorem d_M_placings_9 : decode b_M_placings 9 = .ok (.aload_n 0, 1) := by decide +kernel
theorem d_M_placings_10 : decode b_M_placings 10 = .ok (.aload_n 0, 1) := by decide +kernel
theorem d_M_placings_11 : decode b_M_placings 11 = .ok (.iload_n 1, 1) := by decide +kernel
theorem d_M_placings_12 : decode b_M_placings 12 = .ok (.iload_n 2, 1) := by decide +kernel
theorem d_M_placings_13 : decode b_M_placings 13 = .ok (.invokevirtual 424, 3) := by decide +kernel
theorem d_M_placings_16 : decode b_M_placings 16 = .ok (.invokevirtual 125, 3) := by decide +kernel
theorem d_M_placings_19 : decode b_M_placings 19 = .ok (.goto 8, 3) := by decide +kernel
theorem d_M_placings_22 : decode b_M_placings 22 = .ok (.aload_n 0, 1) := by decide +kernel
theorem d_M_placings_23 : decode b_M_placings 23 = .ok (.iconst 1, 1) := by decide +kernel
theorem d_M_placings_24 : decode b_M_placings 24 = .ok (.invokevirtual 121, 3) := by decide +kernel
theorem d_M_placings_27 : decode b_M_placings 27 = .ok (.ireturn, 1) := by decide +kernel
theorem d_M_isPlacing_0 : decode b_M_isPlacing 0 = .ok (.aload_n 0, 1) := by decide +kernel
theorem d_M_isPlacing_1 : decode b_M_isPlacing 1 = .ok (.iload_n 1, 1) := by decide +kernel
theorem d_M_isPlacing_2 : decode b_M_isPlacing 2 = .ok (.i2l, 1) := by decide +kernel
theorem d_M_isPlacing_3 : decode b_M_isPlacing 3 = .ok (.invokevirtual 412, 3) := by decide +kernel
theorem d_M_isPlacing_6 : decode b_M_isPlacing 6 = .ok (.ifCond .eq 19, 3) := by decide +kernel
theorem d_M_isPlacing_9 : decode b_M_isPlacing 9 = .ok (.iload_n 2, 1) := by decide +kernel
theorem d_M_isPlacing_10 : decode b_M_isPlacing 10 = .ok (.i2l, 1) := by decide +kernel
theorem d_M_isPlacing_11 : decode b_M_isPlacing 11 = .ok (.lconst 0, 1) := by decide +kernel
theorem d_M_isPlacing_12 : decode b_M_isPlacing 12 = .ok (.ldc2_w 419, 3) := by decide +kernel
theorem d_M_isPlacing_15 : decode b_M_isPlacing 15 = .ok (.invokestatic 306, 3) := by decide +kernel
theorem d_M_isPlacing_18 : decode b_M_isPlacing 18 = .ok (.ifCond .eq 7, 3) := by decide +kernel
theorem d_M_isPlacing_21 : decode b_M_isPlacing 21 = .ok (.iconst 1, 1) := by decide +kernel
theorem d_M_isPlacing_22 : decode b_M_isPlacing 22 = .ok (.goto 4, 3) := by decide +kernel
theorem d_M_isPlacing_25 : decode b_M_isPlacing 25 = .ok (.iconst 0, 1) := by decide +kernel
theorem d_M_isPlacing_26 : decode b_M_isPlacing 26 = .ok (.ireturn, 1) := by decide +kernel
theorem d_M_placingsOf_0 : decode b_M_placingsOf 0 = .ok (.iconst 0, 1) := by decide +kernel
theorem d_M_placingsOf_1 : decode b_M_placingsOf 1 = .ok (.istore_n 3, 1) := by decide +kernel
theorem d_M_placingsOf_2 : decode b_M_placingsOf 2 = .ok (.iload_n 3, 1) := by decide +kernel
theorem d_M_placingsOf_3 : decode b_M_placingsOf 3 = .ok (.bipush 80, 2) := by decide +kernel
theorem d_M_placingsOf_5 : decode b_M_placingsOf 5 = .ok (.if_icmp .ge 24, 3) := by decide +kernel
theorem d_M_placingsOf_8 : decode b_M_placingsOf 8 = .ok (.aload_n 0, 1) := by decide +kernel
theorem d_M_placingsOf_9 : decode b_M_placingsOf 9 = .ok (.getfield 65, 3) := by decide +kernel
theorem d_M_placingsOf_12 : decode b_M_placingsOf 12 = .ok (.iload_n 3, 1) := by decide +kernel
theorem d_M_placingsOf_13 : decode b_M_placingsOf 13 = .ok (.iload_n 3, 1) := by decide +kernel
theorem d_M_placingsOf_14 : decode b_M_placingsOf 14 = .ok (.ifCond .ne 7, 3) := by decide +kernel
theorem d_M_placingsOf_17 : decode b_M_placingsOf 17 = .ok (.iconst 1, 1) := by decide +kernel
theorem d_M_placingsOf_18 : decode b_M_placingsOf 18 = .ok (.goto 4, 3) := by decide +kernel
theorem d_M_placingsOf_21 : decode b_M_placingsOf 21 = .ok (.iconst 0, 1) := by decide +kernel
theorem d_M_placingsOf_22 : decode b_M_placingsOf 22 = .ok (.iastore, 1) := by decide +kernel
theorem d_M_placingsOf_23 : decode b_M_placingsOf 23 = .ok (.iinc 3 1, 3) := by decide +kernel
theorem d_M_placingsOf_26 : decode b_M_placingsOf 26 = .ok (.goto (-24), 3) := by decide +kernel
theorem d_M_placingsOf_29 : decode b_M_placingsOf 29 = .ok (.iconst 0, 1) := by decide +kernel
theorem d_M_placingsOf_30 : decode b_M_placingsOf 30 = .ok (.istore_n 3, 1) := by decide +kernel
theorem d_M_placingsOf_31 : decode b_M_placingsOf 31 = .ok (.iload_n 3, 1) := by decide +kernel
theorem d_M_placingsOf_32 : decode b_M_placingsOf 32 = .ok (.aload_n 0, 1) := by decide +kernel
theorem d_M_placingsOf_33 : decode b_M_placingsOf 33 = .ok (.iconst 0, 1) := by decide +kernel
theorem d_M_placingsOf_34 : decode b_M_placingsOf 34 = .ok (.invokevirtual 223, 3) := by decide +kernel
theorem d_M_placingsOf_37 : decode b_M_placingsOf 37 = .ok (.if_icmp .ge 115, 3) := by decide +kernel
theorem d_M_placingsOf_40 : decode b_M_placingsOf 40 = .ok (.aload_n 0, 1) := by decide +kernel
theorem d_M_placingsOf_41 : decode b_M_placingsOf 41 = .ok (.iload_n 3, 1) := by decide +kernel
theorem d_M_placingsOf_42 : decode b_M_placingsOf 42 = .ok (.invokevirtual 319, 3) := by decide +kernel
theorem d_M_placingsOf_45 : decode b_M_placingsOf 45 = .ok (.istore 4, 2) := by decide +kernel
theorem d_M_placingsOf_47 : decode b_M_placingsOf 47 = .ok (.iconst 0, 1) := by decide +kernel
theorem d_M_placingsOf_48 : decode b_M_placingsOf 48 = .ok (.istore 5, 2) := by decide +kernel
theorem d_M_placingsOf_50 : decode b_M_placingsOf 50 = .ok (.iload 5, 2) := by decide +kernel
theorem d_M_placingsOf_52 : decode b_M_placingsOf 52 = .ok (.bipush 80, 2) := by decide +kernel
theorem d_M_placingsOf_54 : decode b_M_placingsOf 54 = .ok (.if_icmp .ge 23, 3) := by decide +kernel
theorem d_M_placingsOf_57 : decode b_M_placingsOf 57 = .ok (.aload_n 0, 1) := by decide +kernel
theorem d_M_placingsOf_58 : decode b_M_placingsOf 58 = .ok (.getfield 68, 3) := by decide +kernel
theorem d_M_placingsOf_61 : decode b_M_placingsOf 61 = .ok (.iload 5, 2) := by decide +kernel
theorem d_M_placingsOf_63 : decode b_M_placingsOf 63 = .ok (.aload_n 0, 1) := by decide +kernel
theorem d_M_placingsOf_64 : decode b_M_placingsOf 64 = .ok (.getfield 65, 3) := by decide +kernel
theorem d_M_placingsOf_67 : decode b_M_placingsOf 67 = .ok (.iload 5, 2) := by decide +kernel
theorem d_M_placingsOf_69 : decode b_M_placingsOf 69 = .ok (.iaload, 1) := by decide +kernel
theorem d_M_placingsOf_70 : decode b_M_placingsOf 70 = .ok (.iastore, 1) := by decide +kernel
theorem d_M_placingsOf_71 : decode b_M_placingsOf 71 = .ok (.iinc 5 1, 3) := by decide +kernel
theorem d_M_placingsOf_74 : decode b_M_placingsOf 74 = .ok (.goto (-24), 3) := by decide +kernel
theorem d_M_placingsOf_77 : decode b_M_placingsOf 77 = .ok (.iconst 0, 1) := by decide +kernel
theorem d_M_placingsOf_78 : decode b_M_placingsOf 78 = .ok (.istore 5, 2) := by decide +kernel
theorem d_M_placingsOf_80 : decode b_M_placingsOf 80 = .ok (.iload 5, 2) := by decide +kernel
theorem d_M_placingsOf_82 : decode b_M_placingsOf 82 = .ok (.bipush 64, 2) := by decide +kernel
theorem d_M_placingsOf_84 : decode b_M_placingsOf 84 = .ok (.if_icmp .ge 32, 3) := by decide +kernel
theorem d_M_placingsOf_87 : decode b_M_placingsOf 87 = .ok (.aload_n 0, 1) := by decide +kernel
theorem d_M_placingsOf_88 : decode b_M_placingsOf 88 = .ok (.getfield 68, 3) := by decide +kernel
theorem d_M_placingsOf_91 : decode b_M_placingsOf 91 = .ok (.bipush 16, 2) := by decide +kernel
theorem d_M_placingsOf_93 : decode b_M_placingsOf 93 = .ok (.iload 5, 2) := by decide +kernel
theorem d_M_placingsOf_95 : decode b_M_placingsOf 95 = .ok (.iload 4, 2) := by decide +kernel
theorem d_M_placingsOf_97 : decode b_M_placingsOf 97 = .ok (.ior, 1) := by decide +kernel
theorem d_M_placingsOf_98 : decode b_M_placingsOf 98 = .ok (.iadd, 1) := by decide +kernel
theorem d_M_placingsOf_99 : decode b_M_placingsOf 99 = .ok (.dup2, 1) := by decide +kernel
theorem d_M_placingsOf_100 : decode b_M_placingsOf 100 = .ok (.iaload, 1) := by decide +kernel
theorem d_M_placingsOf_101 : decode b_M_placingsOf 101 = .ok (.aload_n 0, 1) := by decide +kernel
theorem d_M_placingsOf_102 : decode b_M_placingsOf 102 = .ok (.getfield 65, 3) := by decide +kernel
theorem d_M_placingsOf_105 : decode b_M_placingsOf 105 = .ok (.iload 5, 2) := by decide +kernel
theorem d_M_placingsOf_107 : decode b_M_placingsOf 107 = .ok (.iaload, 1) := by decide +kernel
theorem d_M_placingsOf_108 : decode b_M_placingsOf 108 = .ok (.iadd, 1) := by decide +kernel
theorem d_M_placingsOf_109 : decode b_M_placingsOf 109 = .ok (.iastore, 1) := by decide +kernel
theorem d_M_placingsOf_110 : decode b_M_placingsOf 110 = .ok (.iinc 5 1, 3) := by decide +kernel
theorem d_M_placingsOf_113 : decode b_M_placingsOf 113 = .ok (.goto (-33), 3) := by decide +kernel
theorem d_M_placingsOf_116 : decode b_M_placingsOf 116 = .ok (.iconst 0, 1) := by decide +kernel
theorem d_M_placingsOf_117 : decode b_M_placingsOf 117 = .ok (.istore 5, 2) := by decide +kernel
theorem d_M_placingsOf_119 : decode b_M_placingsOf 119 = .ok (.iload 5, 2) := by decide +kernel
theorem d_M_placingsOf_121 : decode b_M_placingsOf 121 = .ok (.bipush 80, 2) := by decide +kernel
theorem d_M_placingsOf_123 : decode b_M_placingsOf 123 = .ok (.if_icmp .ge 23, 3) := by decide +kernel
theorem d_M_placingsOf_126 : decode b_M_placingsOf 126 = .ok (.aload_n 0, 1) := by decide +kernel
theorem d_M_placingsOf_127 : decode b_M_placingsOf 127 = .ok (.getfield 65, 3) := by decide +kernel
theorem d_M_placingsOf_130 : decode b_M_placingsOf 130 = .ok (.iload 5, 2) := by decide +kernel
theorem d_M_placingsOf_132 : decode b_M_placingsOf 132 = .ok (.aload_n 0, 1) := by decide +kernel
theorem d_M_placingsOf_133 : decode b_M_placingsOf 133 = .ok (.getfield 68, 3) := by decide +kernel
theorem d_M_placingsOf_136 : decode b_M_placingsOf 136 = .ok (.iload 5, 2) := by decide +kernel
theorem d_M_placingsOf_138 : decode b_M_placingsOf 138 = .ok (.iaload, 1) := by decide +kernel
theorem d_M_placingsOf_139 : decode b_M_placingsOf 139 = .ok (.iastore, 1) := by decide +kernel
theorem d_M_placingsOf_140 : decode b_M_placingsOf 140 = .ok (.iinc 5 1, 3) := by decide +kernel
theorem d_M_placingsOf_143 : decode b_M_placingsOf 143 = .ok (.goto (-24), 3) := by decide +kernel
theorem d_M_placingsOf_146 : decode b_M_placingsOf 146 = .ok (.iinc 3 1, 3) := by decide +kernel
theorem d_M_placingsOf_149 : decode b_M_placingsOf 149 = .ok (.goto (-118), 3) := by decide +kernel
theorem d_M_placingsOf_152 : decode b_M_placingsOf 152 = .ok (.aload_n 0, 1) := by decide +kernel
theorem d_M_placingsOf_153 : decode b_M_placingsOf 153 = .ok (.getfield 65, 3) := by decide +kernel
theorem d_M_placingsOf_156 : decode b_M_placingsOf 156 = .ok (.bipush 16, 2) := by decide +kernel
theorem d_M_placingsOf_158 : decode b_M_placingsOf 158 = .ok (.iload_n 2, 1) := by decide +kernel
theorem d_M_placingsOf_159 : decode b_M_placingsOf 159 = .ok (.imul, 1) := by decide +kernel
theorem d_M_placingsOf_160 : decode b_M_placingsOf 160 = .ok (.iload_n 1, 1) := by decide +kernel
theorem d_M_placingsOf_161 : decode b_M_placingsOf 161 = .ok (.iadd, 1) := by decide +kernel
theorem d_M_placingsOf_162 : decode b_M_placingsOf 162 = .ok (.iaload, 1) := by decide +kernel
theorem d_M_placingsOf_163 : decode b_M_placingsOf 163 = .ok (.ireturn, 1) := by decide +kernel
theorem d_M_oddsThat_0 : decode b_M_oddsThat 0 = .ok (.aload_n 0, 1) := by decide +kernel
theorem d_M_oddsThat_1 : decode b_M_oddsThat 1 = .ok (.iload_n 1, 1) := by decide +kernel
theorem d_M_oddsThat_2 : decode b_M_oddsThat 2 = .ok (.iload_n 2, 1) := by decide +kernel
theorem d_M_oddsThat_3 : decode b_M_oddsThat 3 = .ok (.invokevirtual 421, 3) := by decide +kernel
theorem d_M_oddsThat_6 : decode b_M_oddsThat 6 = .ok (.ifCond .eq 11, 3) := by decide +kernel
theorem d_M_oddsThat_9 : decode b_M_oddsThat 9 = .ok (.aload_n 0, 1) := by decide +kernel
theorem d_M_oddsThat_10 : decode b_M_oddsThat 10 = .ok (.iload_n 3, 1) := by decide +kernel
theorem d_M_oddsThat_11 : decode b_M_oddsThat 11 = .ok (.invokevirtual 334, 3) := by decide +kernel
theorem d_M_oddsThat_14 : decode b_M_oddsThat 14 = .ok (.ifCond .ne 9, 3) := by decide +kernel
theorem d_M_oddsThat_17 : decode b_M_oddsThat 17 = .ok (.aload_n 0, 1) := by decide +kernel
theorem d_M_oddsThat_18 : decode b_M_oddsThat 18 = .ok (.iconst 1, 1) := by decide +kernel
theorem d_M_oddsThat_19 : decode b_M_oddsThat 19 = .ok (.invokevirtual 128, 3) := by decide +kernel
theorem d_M_oddsThat_22 : decode b_M_oddsThat 22 = .ok (.ireturn, 1) := by decide +kernel
theorem d_M_oddsThat_23 : decode b_M_oddsThat 23 = .ok (.aload_n 0, 1) := by decide +kernel
theorem d_M_oddsThat_24 : decode b_M_oddsThat 24 = .ok (.iload_n 1, 1) := by decide +kernel
theorem d_M_oddsThat_25 : decode b_M_oddsThat 25 = .ok (.iload_n 2, 1) := by decide +kernel
theorem d_M_oddsThat_26 : decode b_M_oddsThat 26 = .ok (.invokevirtual 415, 3) := by decide +kernel
theorem d_M_oddsThat_29 : decode b_M_oddsThat 29 = .ok (.aload_n 0, 1) := by decide +kernel
theorem d_M_oddsThat_30 : decode b_M_oddsThat 30 = .ok (.getfield 406, 3) := by decide +kernel
theorem d_M_oddsThat_33 : decode b_M_oddsThat 33 = .ok (.ifCond .ne 12, 3) := by decide +kernel
theorem d_M_oddsThat_36 : decode b_M_oddsThat 36 = .ok (.aload_n 0, 1) := by decide +kernel
theorem d_M_oddsThat_37 : decode b_M_oddsThat 37 = .ok (.bipush 6, 2) := by decide +kernel
theorem d_M_oddsThat_39 : decode b_M_oddsThat 39 = .ok (.invokevirtual 128, 3) := by decide +kernel
theorem d_M_oddsThat_42 : decode b_M_oddsThat 42 = .ok (.goto 19, 3) := by decide +kernel
theorem d_M_oddsThat_45 : decode b_M_oddsThat 45 = .ok (.aload_n 0, 1) := by decide +kernel
theorem d_M_oddsThat_46 : decode b_M_oddsThat 46 = .ok (.aload_n 0, 1) := by decide +kernel
theorem d_M_oddsThat_47 : decode b_M_oddsThat 47 = .ok (.getfield 59, 3) := by decide +kernel
theorem d_M_oddsThat_50 : decode b_M_oddsThat 50 = .ok (.iload_n 3, 1) := by decide +kernel
theorem d_M_oddsThat_51 : decode b_M_oddsThat 51 = .ok (.iaload, 1) := by decide +kernel
theorem d_M_oddsThat_52 : decode b_M_oddsThat 52 = .ok (.i2l, 1) := by decide +kernel
theorem d_M_oddsThat_53 : decode b_M_oddsThat 53 = .ok (.aload_n 0, 1) := by decide +kernel
theorem d_M_oddsThat_54 : decode b_M_oddsThat 54 = .ok (.getfield 406, 3) := by decide +kernel
theorem d_M_oddsThat_57 : decode b_M_oddsThat 57 = .ok (.i2l, 1) := by decide +kernel
theorem d_M_oddsThat_58 : decode b_M_oddsThat 58 = .ok (.invokevirtual 427, 3) := by decide +kernel
theorem d_M_oddsThat_61 : decode b_M_oddsThat 61 = .ok (.ireturn, 1) := by decide +kernel
theorem d_M_tellsBy_0 : decode b_M_tellsBy 0 = .ok (.lload_n 1, 1) := by decide +kernel
theorem d_M_tellsBy_1 : decode b_M_tellsBy 1 = .ok (.lstore 5, 2) := by decide +kernel
theorem d_M_tellsBy_3 : decode b_M_tellsBy 3 = .ok (.lload_n 3, 1) := by decide +kernel
theorem d_M_tellsBy_4 : decode b_M_tellsBy 4 = .ok (.lstore 7, 2) := by decide +kernel
theorem d_M_tellsBy_6 : decode b_M_tellsBy 6 = .ok (.lload 7, 2) := by decide +kernel
theorem d_M_tellsBy_8 : decode b_M_tellsBy 8 = .ok (.lconst 0, 1) := by decide +kernel
theorem d_M_tellsBy_9 : decode b_M_tellsBy 9 = .ok (.lcmp, 1) := by decide +kernel
theorem d_M_tellsBy_10 : decode b_M_tellsBy 10 = .ok (.ifCond .eq 21, 3) := by decide +kernel
theorem d_M_tellsBy_13 : decode b_M_tellsBy 13 = .ok (.lload 5, 2) := by decide +kernel
theorem d_M_tellsBy_15 : decode b_M_tellsBy 15 = .ok (.lload 7, 2) := by decide +kernel
theorem d_M_tellsBy_17 : decode b_M_tellsBy 17 = .ok (.lrem, 1) := by decide +kernel
theorem d_M_tellsBy_18 : decode b_M_tellsBy 18 = .ok (.lstore 9, 2) := by decide +kernel
theorem d_M_tellsBy_20 : decode b_M_tellsBy 20 = .ok (.lload 7, 2) := by decide +kernel
theorem d_M_tellsBy_22 : decode b_M_tellsBy 22 = .ok (.lstore 5, 2) := by decide +kernel
theorem d_M_tellsBy_24 : decode b_M_tellsBy 24 = .ok (.lload 9, 2) := by decide +kernel
theorem d_M_tellsBy_26 : decode b_M_tellsBy 26 = .ok (.lstore 7, 2) := by decide +kernel
theorem d_M_tellsBy_28 : decode b_M_tellsBy 28 = .ok (.goto (-22), 3) := by decide +kernel
theorem d_M_tellsBy_31 : decode b_M_tellsBy 31 = .ok (.aload_n 0, 1) := by decide +kernel
theorem d_M_tellsBy_32 : decode b_M_tellsBy 32 = .ok (.lload_n 1, 1) := by decide +kernel
theorem d_M_tellsBy_33 : decode b_M_tellsBy 33 = .ok (.lload 5, 2) := by decide +kernel
theorem d_M_tellsBy_35 : decode b_M_tellsBy 35 = .ok (.ldiv, 1) := by decide +kernel
theorem d_M_tellsBy_36 : decode b_M_tellsBy 36 = .ok (.putfield 118, 3) := by decide +kernel
theorem d_M_tellsBy_39 : decode b_M_tellsBy 39 = .ok (.aload_n 0, 1) := by decide +kernel
theorem d_M_tellsBy_40 : decode b_M_tellsBy 40 = .ok (.lload_n 3, 1) := by decide +kernel
theorem d_M_tellsBy_41 : decode b_M_tellsBy 41 = .ok (.lload 5, 2) := by decide +kernel
theorem d_M_tellsBy_43 : decode b_M_tellsBy 43 = .ok (.ldiv, 1) := by decide +kernel
theorem d_M_tellsBy_44 : decode b_M_tellsBy 44 = .ok (.putfield 17, 3) := by decide +kernel
theorem d_M_tellsBy_47 : decode b_M_tellsBy 47 = .ok (.aload_n 0, 1) := by decide +kernel
theorem d_M_tellsBy_48 : decode b_M_tellsBy 48 = .ok (.iconst 0, 1) := by decide +kernel
theorem d_M_tellsBy_49 : decode b_M_tellsBy 49 = .ok (.invokevirtual 128, 3) := by decide +kernel
theorem d_M_tellsBy_52 : decode b_M_tellsBy 52 = .ok (.ireturn, 1) := by decide +kernel
theorem d_M_aim_0 : decode b_M_aim 0 = .ok (.aload_n 0, 1) := by decide +kernel
theorem d_M_aim_1 : decode b_M_aim 1 = .ok (.iload_n 1, 1) := by decide +kernel
theorem d_M_aim_2 : decode b_M_aim 2 = .ok (.iload_n 2, 1) := by decide +kernel
theorem d_M_aim_3 : decode b_M_aim 3 = .ok (.invokevirtual 421, 3) := by decide +kernel
theorem d_M_aim_6 : decode b_M_aim 6 = .ok (.ifCond .ne 9, 3) := by decide +kernel
theorem d_M_aim_9 : decode b_M_aim 9 = .ok (.aload_n 0, 1) := by decide +kernel
theorem d_M_aim_10 : decode b_M_aim 10 = .ok (.iconst 1, 1) := by decide +kernel
theorem d_M_aim_11 : decode b_M_aim 11 = .ok (.invokevirtual 121, 3) := by decide +kernel
theorem d_M_aim_14 : decode b_M_aim 14 = .ok (.ireturn, 1) := by decide +kernel
theorem d_M_aim_15 : decode b_M_aim 15 = .ok (.aload_n 0, 1) := by decide +kernel
theorem d_M_aim_16 : decode b_M_aim 16 = .ok (.iload_n 1, 1) := by decide +kernel
theorem d_M_aim_17 : decode b_M_aim 17 = .ok (.iload_n 2, 1) := by decide +kernel
theorem d_M_aim_18 : decode b_M_aim 18 = .ok (.invokevirtual 415, 3) := by decide +kernel
theorem d_M_aim_21 : decode b_M_aim 21 = .ok (.aload_n 0, 1) := by decide +kernel
theorem d_M_aim_22 : decode b_M_aim 22 = .ok (.getfield 406, 3) := by decide +kernel
theorem d_M_aim_25 : decode b_M_aim 25 = .ok (.ifCond .ne 10, 3) := by decide +kernel
theorem d_M_aim_28 : decode b_M_aim 28 = .ok (.aload_n 0, 1) := by decide +kernel
theorem d_M_aim_29 : decode b_M_aim 29 = .ok (.bipush 6, 2) := by decide +kernel
theorem d_M_aim_31 : decode b_M_aim 31 = .ok (.invokevirtual 121, 3) := by decide +kernel
theorem d_M_aim_34 : decode b_M_aim 34 = .ok (.ireturn, 1) := by decide +kernel
theorem d_M_aim_35 : decode b_M_aim 35 = .ok (.iconst 0, 1) := by decide +kernel
theorem d_M_aim_36 : decode b_M_aim 36 = .ok (.istore_n 3, 1) := by decide +kernel
theorem d_M_aim_37 : decode b_M_aim 37 = .ok (.iconst 1, 1) := by decide +kernel
theorem d_M_aim_38 : decode b_M_aim 38 = .ok (.istore 4, 2) := by decide +kernel
theorem d_M_aim_40 : decode b_M_aim 40 = .ok (.iload 4, 2) := by decide +kernel
theorem d_M_aim_42 : decode b_M_aim 42 = .ok (.aload_n 0, 1) := by decide +kernel
theorem d_M_aim_43 : decode b_M_aim 43 = .ok (.iconst 0, 1) := by decide +kernel
theorem d_M_aim_44 : decode b_M_aim 44 = .ok (.invokevirtual 223, 3) := by decide +kernel
theorem d_M_aim_47 : decode b_M_aim 47 = .ok (.if_icmp .ge 28, 3) := by decide +kernel
theorem d_M_aim_50 : decode b_M_aim 50 = .ok (.aload_n 0, 1) := by decide +kernel
theorem d_M_aim_51 : decode b_M_aim 51 = .ok (.getfield 62, 3) := by decide +kernel
theorem d_M_aim_54 : decode b_M_aim 54 = .ok (.iload 4, 2) := by decide +kernel
theorem d_M_aim_56 : decode b_M_aim 56 = .ok (.iaload, 1) := by decide +kernel
theorem d_M_aim_57 : decode b_M_aim 57 = .ok (.aload_n 0, 1) := by decide +kernel
theorem d_M_aim_58 : decode b_M_aim 58 = .ok (.getfield 62, 3) := by decide +kernel
theorem d_M_aim_61 : decode b_M_aim 61 = .ok (.iload_n 3, 1) := by decide +kernel
theorem d_M_aim_62 : decode b_M_aim 62 = .ok (.iaload, 1) := by decide +kernel
theorem d_M_aim_63 : decode b_M_aim 63 = .ok (.if_icmp .le 6, 3) := by decide +kernel
theorem d_M_aim_66 : decode b_M_aim 66 = .ok (.iload 4, 2) := by decide +kernel
theorem d_M_aim_68 : decode b_M_aim 68 = .ok (.istore_n 3, 1) := by decide +kernel
theorem d_M_aim_69 : decode b_M_aim 69 = .ok (.iinc 4 1, 3) := by decide +kernel
theorem d_M_aim_72 : decode b_M_aim 72 = .ok (.goto (-32), 3) := by decide +kernel
theorem d_M_aim_75 : decode b_M_aim 75 = .ok (.aload_n 0, 1) := by decide +kernel
theorem d_M_aim_76 : decode b_M_aim 76 = .ok (.iload_n 3, 1) := by decide +kernel
theorem d_M_aim_77 : decode b_M_aim 77 = .ok (.invokevirtual 125, 3) := by decide +kernel
theorem d_M_aim_80 : decode b_M_aim 80 = .ok (.ireturn, 1) := by decide +kernel
theorem d_M_cover_0 : decode b_M_cover 0 = .ok (.aload_n 0, 1) := by decide +kernel
theorem d_M_cover_1 : decode b_M_cover 1 = .ok (.iload_n 1, 1) := by decide +kernel
theorem d_M_cover_2 : decode b_M_cover 2 = .ok (.iload_n 2, 1) := by decide +kernel
theorem d_M_cover_3 : decode b_M_cover 3 = .ok (.invokevirtual 436, 3) := by decide +kernel
theorem d_M_cover_6 : decode b_M_cover 6 = .ok (.istore_n 3, 1) := by decide +kernel
theorem d_M_cover_7 : decode b_M_cover 7 = .ok (.iload_n 3, 1) := by decide +kernel
theorem d_M_cover_8 : decode b_M_cover 8 = .ok (.ifCond .le 9, 3) := by decide +kernel
theorem d_M_cover_11 : decode b_M_cover 11 = .ok (.aload_n 0, 1) := by decide +kernel
theorem d_M_cover_12 : decode b_M_cover 12 = .ok (.iload_n 3, 1) := by decide +kernel
theorem d_M_cover_13 : decode b_M_cover 13 = .ok (.invokevirtual 121, 3) := by decide +kernel
theorem d_M_cover_16 : decode b_M_cover 16 = .ok (.ireturn, 1) := by decide +kernel
theorem d_M_cover_17 : decode b_M_cover 17 = .ok (.aload_n 0, 1) := by decide +kernel
theorem d_M_cover_18 : decode b_M_cover 18 = .ok (.iload_n 1, 1) := by decide +kernel
theorem d_M_cover_19 : decode b_M_cover 19 = .ok (.iload_n 2, 1) := by decide +kernel
theorem d_M_cover_20 : decode b_M_cover 20 = .ok (.invokevirtual 439, 3) := by decide +kernel
theorem d_M_cover_23 : decode b_M_cover 23 = .ok (.aload_n 0, 1) := by decide +kernel
theorem d_M_cover_24 : decode b_M_cover 24 = .ok (.aload_n 0, 1) := by decide +kernel
theorem d_M_cover_25 : decode b_M_cover 25 = .ok (.getfield 71, 3) := by decide +kernel
theorem d_M_cover_28 : decode b_M_cover 28 = .ok (.iconst 0, 1) := by decide +kernel
theorem d_M_cover_29 : decode b_M_cover 29 = .ok (.iaload, 1) := by decide +kernel
theorem d_M_cover_30 : decode b_M_cover 30 = .ok (.invokevirtual 125, 3) := by decide +kernel
theorem d_M_cover_33 : decode b_M_cover 33 = .ok (.ireturn, 1) := by decide +kernel
theorem d_M_wrongCells_0 : decode b_M_wrongCells 0 = .ok (.iload_n 1, 1) := by decide +kernel
theorem d_M_wrongCells_1 : decode b_M_wrongCells 1 = .ok (.invokestatic 132, 3) := by decide +kernel
theorem d_M_wrongCells_4 : decode b_M_wrongCells 4 = .ok (.ifCond .eq 15, 3) := by decide +kernel
theorem d_M_wrongCells_7 : decode b_M_wrongCells 7 = .ok (.iload_n 2, 1) := by decide +kernel
theorem d_M_wrongCells_8 : decode b_M_wrongCells 8 = .ok (.i2l, 1) := by decide +kernel
theorem d_M_wrongCells_9 : decode b_M_wrongCells 9 = .ok (.lconst 0, 1) := by decide +kernel
theorem d_M_wrongCells_10 : decode b_M_wrongCells 10 = .ok (.ldc2_w 431, 3) := by decide +kernel
theorem d_M_wrongCells_13 : decode b_M_wrongCells 13 = .ok (.invokestatic 306, 3) := by decide +kernel
theorem d_M_wrongCells_16 : decode b_M_wrongCells 16 = .ok (.ifCond .ne 5, 3) := by decide +kernel
theorem d_M_wrongCells_19 : decode b_M_wrongCells 19 = .ok (.iconst 1, 1) := by decide +kernel
theorem d_M_wrongCells_20 : decode b_M_wrongCells 20 = .ok (.ireturn, 1) := by decide +kernel
theorem d_M_wrongCells_21 : decode b_M_wrongCells 21 = .ok (.aload_n 0, 1) := by decide +kernel
theorem d_M_wrongCells_22 : decode b_M_wrongCells 22 = .ok (.getfield 24, 3) := by decide +kernel
theorem d_M_wrongCells_25 : decode b_M_wrongCells 25 = .ok (.iload_n 1, 1) := by decide +kernel
theorem d_M_wrongCells_26 : decode b_M_wrongCells 26 = .ok (.iaload, 1) := by decide +kernel
theorem d_M_wrongCells_27 : decode b_M_wrongCells 27 = .ok (.iconst (-1), 1) := by decide +kernel
theorem d_M_wrongCells_28 : decode b_M_wrongCells 28 = .ok (.if_icmp .ne 5, 3) := by decide +kernel
theorem d_M_wrongCells_31 : decode b_M_wrongCells 31 = .ok (.iconst 2, 1) := by decide +kernel
theorem d_M_wrongCells_32 : decode b_M_wrongCells 32 = .ok (.ireturn, 1) := by decide +kernel
theorem d_M_wrongCells_33 : decode b_M_wrongCells 33 = .ok (.aload_n 0, 1) := by decide +kernel
theorem d_M_wrongCells_34 : decode b_M_wrongCells 34 = .ok (.getfield 24, 3) := by decide +kernel
theorem d_M_wrongCells_37 : decode b_M_wrongCells 37 = .ok (.iload_n 1, 1) := by decide +kernel
theorem d_M_wrongCells_38 : decode b_M_wrongCells 38 = .ok (.iaload, 1) := by decide +kernel
theorem d_M_wrongCells_39 : decode b_M_wrongCells 39 = .ok (.iload_n 2, 1) := by decide +kernel
theorem d_M_wrongCells_40 : decode b_M_wrongCells 40 = .ok (.if_icmp .ge 5, 3) := by decide +kernel
theorem d_M_wrongCells_43 : decode b_M_wrongCells 43 = .ok (.iconst 3, 1) := by decide +kernel
theorem d_M_wrongCells_44 : decode b_M_wrongCells 44 = .ok (.ireturn, 1) := by decide +kernel
theorem d_M_wrongCells_45 : decode b_M_wrongCells 45 = .ok (.iconst 0, 1) := by decide +kernel
theorem d_M_wrongCells_46 : decode b_M_wrongCells 46 = .ok (.istore_n 3, 1) := by decide +kernel
theorem d_M_wrongCells_47 : decode b_M_wrongCells 47 = .ok (.iload_n 3, 1) := by decide +kernel
theorem d_M_wrongCells_48 : decode b_M_wrongCells 48 = .ok (.iload_n 2, 1) := by decide +kernel
theorem d_M_wrongCells_49 : decode b_M_wrongCells 49 = .ok (.if_icmp .ge 37, 3) := by decide +kernel
theorem d_M_wrongCells_52 : decode b_M_wrongCells 52 = .ok (.aload_n 0, 1) := by decide +kernel
theorem d_M_wrongCells_53 : decode b_M_wrongCells 53 = .ok (.getfield 27, 3) := by decide +kernel
theorem d_M_wrongCells_56 : decode b_M_wrongCells 56 = .ok (.bipush 60, 2) := by decide +kernel
theorem d_M_wrongCells_58 : decode b_M_wrongCells 58 = .ok (.iload_n 1, 1) := by decide +kernel
theorem d_M_wrongCells_59 : decode b_M_wrongCells 59 = .ok (.imul, 1) := by decide +kernel
theorem d_M_wrongCells_60 : decode b_M_wrongCells 60 = .ok (.iload_n 3, 1) := by decide +kernel
theorem d_M_wrongCells_61 : decode b_M_wrongCells 61 = .ok (.iadd, 1) := by decide +kernel
theorem d_M_wrongCells_62 : decode b_M_wrongCells 62 = .ok (.laload, 1) := by decide +kernel
theorem d_M_wrongCells_63 : decode b_M_wrongCells 63 = .ok (.lconst 0, 1) := by decide +kernel
theorem d_M_wrongCells_64 : decode b_M_wrongCells 64 = .ok (.aload_n 0, 1) := by decide +kernel
theorem d_M_wrongCells_65 : decode b_M_wrongCells 65 = .ok (.iconst 0, 1) := by decide +kernel
theorem d_M_wrongCells_66 : decode b_M_wrongCells 66 = .ok (.invokevirtual 223, 3) := by decide +kernel
theorem d_M_wrongCells_69 : decode b_M_wrongCells 69 = .ok (.i2l, 1) := by decide +kernel
theorem d_M_wrongCells_70 : decode b_M_wrongCells 70 = .ok (.lconst 1, 1) := by decide +kernel
theorem d_M_wrongCells_71 : decode b_M_wrongCells 71 = .ok (.lsub, 1) := by decide +kernel
theorem d_M_wrongCells_72 : decode b_M_wrongCells 72 = .ok (.invokestatic 306, 3) := by decide +kernel
theorem d_M_wrongCells_75 : decode b_M_wrongCells 75 = .ok (.ifCond .ne 5, 3) := by decide +kernel
theorem d_M_wrongCells_78 : decode b_M_wrongCells 78 = .ok (.iconst 5, 1) := by decide +kernel
theorem d_M_wrongCells_79 : decode b_M_wrongCells 79 = .ok (.ireturn, 1) := by decide +kernel
theorem d_M_wrongCells_80 : decode b_M_wrongCells 80 = .ok (.iinc 3 1, 3) := by decide +kernel
theorem d_M_wrongCells_83 : decode b_M_wrongCells 83 = .ok (.goto (-36), 3) := by decide +kernel
theorem d_M_wrongCells_86 : decode b_M_wrongCells 86 = .ok (.iconst 0, 1) := by decide +kernel
theorem d_M_wrongCells_87 : decode b_M_wrongCells 87 = .ok (.ireturn, 1) := by decide +kernel
theorem d_M_laysThrows_0 : decode b_M_laysThrows 0 = .ok (.iconst 1, 1) := by decide +kernel
theorem d_M_laysThrows_1 : decode b_M_laysThrows 1 = .ok (.iload_n 2, 1) := by decide +kernel
theorem d_M_laysThrows_2 : decode b_M_laysThrows 2 = .ok (.ishl, 1) := by decide +kernel
theorem d_M_laysThrows_3 : decode b_M_laysThrows 3 = .ok (.iconst 1, 1) := by decide +kernel
theorem d_M_laysThrows_4 : decode b_M_laysThrows 4 = .ok (.isub, 1) := by decide +kernel
theorem d_M_laysThrows_5 : decode b_M_laysThrows 5 = .ok (.istore_n 3, 1) := by decide +kernel
theorem d_M_laysThrows_6 : decode b_M_laysThrows 6 = .ok (.aload_n 0, 1) := by decide +kernel
theorem d_M_laysThrows_7 : decode b_M_laysThrows 7 = .ok (.iconst 0, 1) := by decide +kernel
theorem d_M_laysThrows_8 : decode b_M_laysThrows 8 = .ok (.invokevirtual 223, 3) := by decide +kernel
theorem d_M_laysThrows_11 : decode b_M_laysThrows 11 = .ok (.istore 4, 2) := by decide +kernel
theorem d_M_laysThrows_13 : decode b_M_laysThrows 13 = .ok (.iload 4, 2) := by decide +kernel
theorem d_M_laysThrows_15 : decode b_M_laysThrows 15 = .ok (.ifCond .lt 152, 3) := by decide +kernel
theorem d_M_laysThrows_18 : decode b_M_laysThrows 18 = .ok (.iload 4, 2) := by decide +kernel
theorem d_M_laysThrows_20 : decode b_M_laysThrows 20 = .ok (.aload_n 0, 1) := by decide +kernel
theorem d_M_laysThrows_21 : decode b_M_laysThrows 21 = .ok (.iconst 0, 1) := by decide +kernel
theorem d_M_laysThrows_22 : decode b_M_laysThrows 22 = .ok (.invokevirtual 223, 3) := by decide +kernel
theorem d_M_laysThrows_25 : decode b_M_laysThrows 25 = .ok (.if_icmp .ne 7, 3) := by decide +kernel
theorem d_M_laysThrows_28 : decode b_M_laysThrows 28 = .ok (.iconst 0, 1) := by decide +kernel
theorem d_M_laysThrows_29 : decode b_M_laysThrows 29 = .ok (.goto 11, 3) := by decide +kernel
theorem d_M_laysThrows_32 : decode b_M_laysThrows 32 = .ok (.aload_n 0, 1) := by decide +kernel
theorem d_M_laysThrows_33 : decode b_M_laysThrows 33 = .ok (.iload 4, 2) := by decide +kernel
theorem d_M_laysThrows_35 : decode b_M_laysThrows 35 = .ok (.iload_n 1, 1) := by decide +kernel
theorem d_M_laysThrows_36 : decode b_M_laysThrows 36 = .ok (.iload_n 2, 1) := by decide +kernel
theorem d_M_laysThrows_37 : decode b_M_laysThrows 37 = .ok (.invokevirtual 433, 3) := by decide +kernel
theorem d_M_laysThrows_40 : decode b_M_laysThrows 40 = .ok (.istore 5, 2) := by decide +kernel
theorem d_M_laysThrows_42 : decode b_M_laysThrows 42 = .ok (.iconst 0, 1) := by decide +kernel
theorem d_M_laysThrows_43 : decode b_M_laysThrows 43 = .ok (.istore 6, 2) := by decide +kernel
theorem d_M_laysThrows_45 : decode b_M_laysThrows 45 = .ok (.iload 6, 2) := by decide +kernel
theorem d_M_laysThrows_47 : decode b_M_laysThrows 47 = .ok (.iload_n 3, 1) := by decide +kernel
theorem d_M_laysThrows_48 : decode b_M_laysThrows 48 = .ok (.if_icmp .gt 113, 3) := by decide +kernel
theorem d_M_laysThrows_51 : decode b_M_laysThrows 51 = .ok (.iload 4, 2) := by decide +kernel
theorem d_M_laysThrows_53 : decode b_M_laysThrows 53 = .ok (.aload_n 0, 1) := by decide +kernel
theorem d_M_laysThrows_54 : decode b_M_laysThrows 54 = .ok (.iconst 0, 1) := by decide +kernel
theorem d_M_laysThrows_55 : decode b_M_laysThrows 55 = .ok (.invokevirtual 223, 3) := by decide +kernel
theorem d_M_laysThrows_58 : decode b_M_laysThrows 58 = .ok (.if_icmp .ne 9, 3) := by decide +kernel
theorem d_M_laysThrows_61 : decode b_M_laysThrows 61 = .ok (.ldc_w 392, 3) := by decide +kernel
theorem d_M_laysThrows_64 : decode b_M_laysThrows 64 = .ok (.goto 19, 3) := by decide +kernel
theorem d_M_laysThrows_67 : decode b_M_laysThrows 67 = .ok (.aload_n 0, 1) := by decide +kernel
theorem d_M_laysThrows_68 : decode b_M_laysThrows 68 = .ok (.getfield 71, 3) := by decide +kernel
theorem d_M_laysThrows_71 : decode b_M_laysThrows 71 = .ok (.sipush 256, 3) := by decide +kernel
theorem d_M_laysThrows_74 : decode b_M_laysThrows 74 = .ok (.iload 4, 2) := by decide +kernel
theorem d_M_laysThrows_76 : decode b_M_laysThrows 76 = .ok (.iconst 1, 1) := by decide +kernel
theorem d_M_laysThrows_77 : decode b_M_laysThrows 77 = .ok (.iadd, 1) := by decide +kernel
theorem d_M_laysThrows_78 : decode b_M_laysThrows 78 = .ok (.imul, 1) := by decide +kernel
theorem d_M_laysThrows_79 : decode b_M_laysThrows 79 = .ok (.iload 6, 2) := by decide +kernel
theorem d_M_laysThrows_81 : decode b_M_laysThrows 81 = .ok (.iadd, 1) := by decide +kernel
theorem d_M_laysThrows_82 : decode b_M_laysThrows 82 = .ok (.iaload, 1) := by decide +kernel
theorem d_M_laysThrows_83 : decode b_M_laysThrows 83 = .ok (.istore 7, 2) := by decide +kernel
theorem d_M_laysThrows_85 : decode b_M_laysThrows 85 = .ok (.iload 4, 2) := by decide +kernel
theorem d_M_laysThrows_87 : decode b_M_laysThrows 87 = .ok (.aload_n 0, 1) := by decide +kernel
theorem d_M_laysThrows_88 : decode b_M_laysThrows 88 = .ok (.iconst 0, 1) := by decide +kernel
theorem d_M_laysThrows_89 : decode b_M_laysThrows 89 = .ok (.invokevirtual 223, 3) := by decide +kernel
theorem d_M_laysThrows_92 : decode b_M_laysThrows 92 = .ok (.if_icmp .ne 9, 3) := by decide +kernel
theorem d_M_laysThrows_95 : decode b_M_laysThrows 95 = .ok (.ldc_w 392, 3) := by decide +kernel
theorem d_M_laysThrows_98 : decode b_M_laysThrows 98 = .ok (.goto 24, 3) := by decide +kernel
theorem d_M_laysThrows_101 : decode b_M_laysThrows 101 = .ok (.iconst 1, 1) := by decide +kernel
theorem d_M_laysThrows_102 : decode b_M_laysThrows 102 = .ok (.aload_n 0, 1) := by decide +kernel
theorem d_M_laysThrows_103 : decode b_M_laysThrows 103 = .ok (.getfield 71, 3) := by decide +kernel
theorem d_M_laysThrows_106 : decode b_M_laysThrows 106 = .ok (.sipush 256, 3) := by decide +kernel
theorem d_M_laysThrows_109 : decode b_M_laysThrows 109 = .ok (.iload 4, 2) := by decide +kernel
theorem d_M_laysThrows_111 : decode b_M_laysThrows 111 = .ok (.iconst 1, 1) := by decide +kernel
theorem d_M_laysThrows_112 : decode b_M_laysThrows 112 = .ok (.iadd, 1) := by decide +kernel
theorem d_M_laysThrows_113 : decode b_M_laysThrows 113 = .ok (.imul, 1) := by decide +kernel
theorem d_M_laysThrows_114 : decode b_M_laysThrows 114 = .ok (.iload 6, 2) := by decide +kernel
theorem d_M_laysThrows_116 : decode b_M_laysThrows 116 = .ok (.iload 5, 2) := by decide +kernel
theorem d_M_laysThrows_118 : decode b_M_laysThrows 118 = .ok (.ior, 1) := by decide +kernel
theorem d_M_laysThrows_119 : decode b_M_laysThrows 119 = .ok (.iadd, 1) := by decide +kernel
theorem d_M_laysThrows_120 : decode b_M_laysThrows 120 = .ok (.iaload, 1) := by decide +kernel
theorem d_M_laysThrows_121 : decode b_M_laysThrows 121 = .ok (.iadd, 1) := by decide +kernel
theorem d_M_laysThrows_122 : decode b_M_laysThrows 122 = .ok (.istore 8, 2) := by decide +kernel
theorem d_M_laysThrows_124 : decode b_M_laysThrows 124 = .ok (.aload_n 0, 1) := by decide +kernel
theorem d_M_laysThrows_125 : decode b_M_laysThrows 125 = .ok (.getfield 71, 3) := by decide +kernel
theorem d_M_laysThrows_128 : decode b_M_laysThrows 128 = .ok (.sipush 256, 3) := by decide +kernel
theorem d_M_laysThrows_131 : decode b_M_laysThrows 131 = .ok (.iload 4, 2) := by decide +kernel
theorem d_M_laysThrows_133 : decode b_M_laysThrows 133 = .ok (.imul, 1) := by decide +kernel
theorem d_M_laysThrows_134 : decode b_M_laysThrows 134 = .ok (.iload 6, 2) := by decide +kernel
theorem d_M_laysThrows_136 : decode b_M_laysThrows 136 = .ok (.iadd, 1) := by decide +kernel
theorem d_M_laysThrows_137 : decode b_M_laysThrows 137 = .ok (.iload 6, 2) := by decide +kernel
theorem d_M_laysThrows_139 : decode b_M_laysThrows 139 = .ok (.iload_n 3, 1) := by decide +kernel
theorem d_M_laysThrows_140 : decode b_M_laysThrows 140 = .ok (.if_icmp .ne 7, 3) := by decide +kernel
theorem d_M_laysThrows_143 : decode b_M_laysThrows 143 = .ok (.iconst 0, 1) := by decide +kernel
theorem d_M_laysThrows_144 : decode b_M_laysThrows 144 = .ok (.goto 10, 3) := by decide +kernel
theorem d_M_laysThrows_147 : decode b_M_laysThrows 147 = .ok (.iload 7, 2) := by decide +kernel
theorem d_M_laysThrows_149 : decode b_M_laysThrows 149 = .ok (.iload 8, 2) := by decide +kernel
theorem d_M_laysThrows_151 : decode b_M_laysThrows 151 = .ok (.invokestatic 176, 3) := by decide +kernel
theorem d_M_laysThrows_154 : decode b_M_laysThrows 154 = .ok (.iastore, 1) := by decide +kernel
theorem d_M_laysThrows_155 : decode b_M_laysThrows 155 = .ok (.iinc 6 1, 3) := by decide +kernel
theorem d_M_laysThrows_158 : decode b_M_laysThrows 158 = .ok (.goto (-113), 3) := by decide +kernel
theorem d_M_laysThrows_161 : decode b_M_laysThrows 161 = .ok (.iinc 4 (-1), 3) := by decide +kernel
theorem d_M_laysThrows_164 : decode b_M_laysThrows 164 = .ok (.goto (-151), 3) := by decide +kernel
theorem d_M_laysThrows_167 : decode b_M_laysThrows 167 = .ok (.return_, 1) := by decide +kernel
theorem d_M_hitFrom_0 : decode b_M_hitFrom 0 = .ok (.iconst 0, 1) := by decide +kernel
theorem d_M_hitFrom_1 : decode b_M_hitFrom 1 = .ok (.istore 4, 2) := by decide +kernel
theorem d_M_hitFrom_3 : decode b_M_hitFrom 3 = .ok (.iconst 0, 1) := by decide +kernel
theorem d_M_hitFrom_4 : decode b_M_hitFrom 4 = .ok (.istore 5, 2) := by decide +kernel
theorem d_M_hitFrom_6 : decode b_M_hitFrom 6 = .ok (.iload 5, 2) := by decide +kernel
theorem d_M_hitFrom_8 : decode b_M_hitFrom 8 = .ok (.iload_n 3, 1) := by decide +kernel
theorem d_M_hitFrom_9 : decode b_M_hitFrom 9 = .ok (.if_icmp .ge 44, 3) := by decide +kernel
theorem d_M_hitFrom_12 : decode b_M_hitFrom 12 = .ok (.iload 4, 2) := by decide +kernel
theorem d_M_hitFrom_14 : decode b_M_hitFrom 14 = .ok (.aload_n 0, 1) := by decide +kernel
theorem d_M_hitFrom_15 : decode b_M_hitFrom 15 = .ok (.aload_n 0, 1) := by decide +kernel
theorem d_M_hitFrom_16 : decode b_M_hitFrom 16 = .ok (.getfield 27, 3) := by decide +kernel
theorem d_M_hitFrom_19 : decode b_M_hitFrom 19 = .ok (.bipush 60, 2) := by decide +kernel
theorem d_M_hitFrom_21 : decode b_M_hitFrom 21 = .ok (.iload_n 2, 1) := by decide +kernel
theorem d_M_hitFrom_22 : decode b_M_hitFrom 22 = .ok (.imul, 1) := by decide +kernel
theorem d_M_hitFrom_23 : decode b_M_hitFrom 23 = .ok (.iload 5, 2) := by decide +kernel
theorem d_M_hitFrom_25 : decode b_M_hitFrom 25 = .ok (.iadd, 1) := by decide +kernel
theorem d_M_hitFrom_26 : decode b_M_hitFrom 26 = .ok (.laload, 1) := by decide +kernel
theorem d_M_hitFrom_27 : decode b_M_hitFrom 27 = .ok (.l2i, 1) := by decide +kernel
theorem d_M_hitFrom_28 : decode b_M_hitFrom 28 = .ok (.iload_n 1, 1) := by decide +kernel
theorem d_M_hitFrom_29 : decode b_M_hitFrom 29 = .ok (.invokevirtual 316, 3) := by decide +kernel
theorem d_M_hitFrom_32 : decode b_M_hitFrom 32 = .ok (.iconst 2, 1) := by decide +kernel
theorem d_M_hitFrom_33 : decode b_M_hitFrom 33 = .ok (.if_icmp .ge 10, 3) := by decide +kernel
theorem d_M_hitFrom_36 : decode b_M_hitFrom 36 = .ok (.iconst 1, 1) := by decide +kernel
theorem d_M_hitFrom_37 : decode b_M_hitFrom 37 = .ok (.iload 5, 2) := by decide +kernel
theorem d_M_hitFrom_39 : decode b_M_hitFrom 39 = .ok (.ishl, 1) := by decide +kernel
theorem d_M_hitFrom_40 : decode b_M_hitFrom 40 = .ok (.goto 4, 3) := by decide +kernel
theorem d_M_hitFrom_43 : decode b_M_hitFrom 43 = .ok (.iconst 0, 1) := by decide +kernel
theorem d_M_hitFrom_44 : decode b_M_hitFrom 44 = .ok (.ior, 1) := by decide +kernel
theorem d_M_hitFrom_45 : decode b_M_hitFrom 45 = .ok (.istore 4, 2) := by decide +kernel
theorem d_M_hitFrom_47 : decode b_M_hitFrom 47 = .ok (.iinc 5 1, 3) := by decide +kernel
theorem d_M_hitFrom_50 : decode b_M_hitFrom 50 = .ok (.goto (-44), 3) := by decide +kernel
theorem d_M_hitFrom_53 : decode b_M_hitFrom 53 = .ok (.iload 4, 2) := by decide +kernel
theorem d_M_hitFrom_55 : decode b_M_hitFrom 55 = .ok (.ireturn, 1) := by decide +kernel
theorem d_M_coverAt_0 : decode b_M_coverAt 0 = .ok (.iload_n 3, 1) := by decide +kernel
theorem d_M_coverAt_1 : decode b_M_coverAt 1 = .ok (.ifCond .ge 7, 3) := by decide +kernel
theorem d_M_coverAt_4 : decode b_M_coverAt 4 = .ok (.iconst 1, 1) := by decide +kernel
theorem d_M_coverAt_5 : decode b_M_coverAt 5 = .ok (.goto 9, 3) := by decide +kernel
theorem d_M_coverAt_8 : decode b_M_coverAt 8 = .ok (.aload_n 0, 1) := by decide +kernel
theorem d_M_coverAt_9 : decode b_M_coverAt 9 = .ok (.iload_n 1, 1) := by decide +kernel
theorem d_M_coverAt_10 : decode b_M_coverAt 10 = .ok (.iload_n 2, 1) := by decide +kernel
theorem d_M_coverAt_11 : decode b_M_coverAt 11 = .ok (.invokevirtual 436, 3) := by decide +kernel
theorem d_M_coverAt_14 : decode b_M_coverAt 14 = .ok (.istore 4, 2) := by decide +kernel
theorem d_M_coverAt_16 : decode b_M_coverAt 16 = .ok (.iload 4, 2) := by decide +kernel
theorem d_M_coverAt_18 : decode b_M_coverAt 18 = .ok (.ifCond .le 10, 3) := by decide +kernel
theorem d_M_coverAt_21 : decode b_M_coverAt 21 = .ok (.aload_n 0, 1) := by decide +kernel
theorem d_M_coverAt_22 : decode b_M_coverAt 22 = .ok (.iload 4, 2) := by decide +kernel
theorem d_M_coverAt_24 : decode b_M_coverAt 24 = .ok (.invokevirtual 121, 3) := by decide +kernel
theorem d_M_coverAt_27 : decode b_M_coverAt 27 = .ok (.ireturn, 1) := by decide +kernel
theorem d_M_coverAt_28 : decode b_M_coverAt 28 = .ok (.aload_n 0, 1) := by decide +kernel
theorem d_M_coverAt_29 : decode b_M_coverAt 29 = .ok (.iload_n 1, 1) := by decide +kernel
theorem d_M_coverAt_30 : decode b_M_coverAt 30 = .ok (.iload_n 2, 1) := by decide +kernel
theorem d_M_coverAt_31 : decode b_M_coverAt 31 = .ok (.invokevirtual 439, 3) := by decide +kernel
theorem d_M_coverAt_34 : decode b_M_coverAt 34 = .ok (.iconst 0, 1) := by decide +kernel
theorem d_M_coverAt_35 : decode b_M_coverAt 35 = .ok (.istore 5, 2) := by decide +kernel
theorem d_M_coverAt_37 : decode b_M_coverAt 37 = .ok (.iload_n 3, 1) := by decide +kernel
theorem d_M_coverAt_38 : decode b_M_coverAt 38 = .ok (.istore 6, 2) := by decide +kernel
theorem d_M_coverAt_40 : decode b_M_coverAt 40 = .ok (.iconst 0, 1) := by decide +kernel
theorem d_M_coverAt_41 : decode b_M_coverAt 41 = .ok (.istore 7, 2) := by decide +kernel
theorem d_M_coverAt_43 : decode b_M_coverAt 43 = .ok (.iload 7, 2) := by decide +kernel
theorem d_M_coverAt_45 : decode b_M_coverAt 45 = .ok (.aload_n 0, 1) := by decide +kernel
theorem d_M_coverAt_46 : decode b_M_coverAt 46 = .ok (.iconst 0, 1) := by decide +kernel
theorem d_M_coverAt_47 : decode b_M_coverAt 47 = .ok (.invokevirtual 223, 3) := by decide +kernel
theorem d_M_coverAt_50 : decode b_M_coverAt 50 = .ok (.if_icmp .ge 89, 3) := by decide +kernel
theorem d_M_coverAt_53 : decode b_M_coverAt 53 = .ok (.iload 5, 2) := by decide +kernel
theorem d_M_coverAt_55 : decode b_M_coverAt 55 = .ok (.iconst 1, 1) := by decide +kernel
theorem d_M_coverAt_56 : decode b_M_coverAt 56 = .ok (.iload_n 2, 1) := by decide +kernel
theorem d_M_coverAt_57 : decode b_M_coverAt 57 = .ok (.ishl, 1) := by decide +kernel
theorem d_M_coverAt_58 : decode b_M_coverAt 58 = .ok (.iconst 1, 1) := by decide +kernel
theorem d_M_coverAt_59 : decode b_M_coverAt 59 = .ok (.isub, 1) := by decide +kernel
theorem d_M_coverAt_60 : decode b_M_coverAt 60 = .ok (.if_icmp .eq 79, 3) := by decide +kernel
theorem d_M_coverAt_63 : decode b_M_coverAt 63 = .ok (.iload 5, 2) := by decide +kernel
theorem d_M_coverAt_65 : decode b_M_coverAt 65 = .ok (.aload_n 0, 1) := by decide +kernel
theorem d_M_coverAt_66 : decode b_M_coverAt 66 = .ok (.iload 7, 2) := by decide +kernel
theorem d_M_coverAt_68 : decode b_M_coverAt 68 = .ok (.iload_n 1, 1) := by decide +kernel
theorem d_M_coverAt_69 : decode b_M_coverAt 69 = .ok (.iload_n 2, 1) := by decide +kernel
theorem d_M_coverAt_70 : decode b_M_coverAt 70 = .ok (.invokevirtual 433, 3) := by decide +kernel
theorem d_M_coverAt_73 : decode b_M_coverAt 73 = .ok (.ior, 1) := by decide +kernel
theorem d_M_coverAt_74 : decode b_M_coverAt 74 = .ok (.istore 8, 2) := by decide +kernel
theorem d_M_coverAt_76 : decode b_M_coverAt 76 = .ok (.iconst 1, 1) := by decide +kernel
theorem d_M_coverAt_77 : decode b_M_coverAt 77 = .ok (.aload_n 0, 1) := by decide +kernel
theorem d_M_coverAt_78 : decode b_M_coverAt 78 = .ok (.getfield 71, 3) := by decide +kernel
theorem d_M_coverAt_81 : decode b_M_coverAt 81 = .ok (.sipush 256, 3) := by decide +kernel
theorem d_M_coverAt_84 : decode b_M_coverAt 84 = .ok (.iload 7, 2) := by decide +kernel
theorem d_M_coverAt_86 : decode b_M_coverAt 86 = .ok (.iconst 1, 1) := by decide +kernel
theorem d_M_coverAt_87 : decode b_M_coverAt 87 = .ok (.iadd, 1) := by decide +kernel
theorem d_M_coverAt_88 : decode b_M_coverAt 88 = .ok (.imul, 1) := by decide +kernel
theorem d_M_coverAt_89 : decode b_M_coverAt 89 = .ok (.iload 8, 2) := by decide +kernel
theorem d_M_coverAt_91 : decode b_M_coverAt 91 = .ok (.iadd, 1) := by decide +kernel
theorem d_M_coverAt_92 : decode b_M_coverAt 92 = .ok (.iaload, 1) := by decide +kernel
theorem d_M_coverAt_93 : decode b_M_coverAt 93 = .ok (.iadd, 1) := by decide +kernel
theorem d_M_coverAt_94 : decode b_M_coverAt 94 = .ok (.aload_n 0, 1) := by decide +kernel
theorem d_M_coverAt_95 : decode b_M_coverAt 95 = .ok (.getfield 71, 3) := by decide +kernel
theorem d_M_coverAt_98 : decode b_M_coverAt 98 = .ok (.sipush 256, 3) := by decide +kernel
theorem d_M_coverAt_101 : decode b_M_coverAt 101 = .ok (.iload 7, 2) := by decide +kernel
theorem d_M_coverAt_103 : decode b_M_coverAt 103 = .ok (.imul, 1) := by decide +kernel
theorem d_M_coverAt_104 : decode b_M_coverAt 104 = .ok (.iload 5, 2) := by decide +kernel
theorem d_M_coverAt_106 : decode b_M_coverAt 106 = .ok (.iadd, 1) := by decide +kernel
theorem d_M_coverAt_107 : decode b_M_coverAt 107 = .ok (.iaload, 1) := by decide +kernel
theorem d_M_coverAt_108 : decode b_M_coverAt 108 = .ok (.if_icmp .eq 6, 3) := by decide +kernel
theorem d_M_coverAt_111 : decode b_M_coverAt 111 = .ok (.goto 22, 3) := by decide +kernel
theorem d_M_coverAt_114 : decode b_M_coverAt 114 = .ok (.iload 6, 2) := by decide +kernel
theorem d_M_coverAt_116 : decode b_M_coverAt 116 = .ok (.ifCond .ne 10, 3) := by decide +kernel
theorem d_M_coverAt_119 : decode b_M_coverAt 119 = .ok (.aload_n 0, 1) := by decide +kernel
theorem d_M_coverAt_120 : decode b_M_coverAt 120 = .ok (.iload 7, 2) := by decide +kernel
theorem d_M_coverAt_122 : decode b_M_coverAt 122 = .ok (.invokevirtual 125, 3) := by decide +kernel
theorem d_M_coverAt_125 : decode b_M_coverAt 125 = .ok (.ireturn, 1) := by decide +kernel
theorem d_M_coverAt_126 : decode b_M_coverAt 126 = .ok (.iinc 6 (-1), 3) := by decide +kernel
theorem d_M_coverAt_129 : decode b_M_coverAt 129 = .ok (.iload 8, 2) := by decide +kernel
theorem d_M_coverAt_131 : decode b_M_coverAt 131 = .ok (.istore 5, 2) := by decide +kernel
theorem d_M_coverAt_133 : decode b_M_coverAt 133 = .ok (.iinc 7 1, 3) := by decide +kernel
theorem d_M_coverAt_136 : decode b_M_coverAt 136 = .ok (.goto (-93), 3) := by decide +kernel
theorem d_M_coverAt_139 : decode b_M_coverAt 139 = .ok (.aload_n 0, 1) := by decide +kernel
theorem d_M_coverAt_140 : decode b_M_coverAt 140 = .ok (.bipush 6, 2) := by decide +kernel
theorem d_M_coverAt_142 : decode b_M_coverAt 142 = .ok (.invokevirtual 121, 3) := by decide +kernel
theorem d_M_coverAt_145 : decode b_M_coverAt 145 = .ok (.ireturn, 1) := by decide +kernel
theorem d_M_fits_0 : decode b_M_fits 0 = .ok (.aload_n 0, 1) := by decide +kernel
theorem d_M_fits_1 : decode b_M_fits 1 = .ok (.iload_n 1, 1) := by decide +kernel
theorem d_M_fits_2 : decode b_M_fits 2 = .ok (.iload_n 2, 1) := by decide +kernel
theorem d_M_fits_3 : decode b_M_fits 3 = .ok (.iload_n 3, 1) := by decide +kernel
theorem d_M_fits_4 : decode b_M_fits 4 = .ok (.invokevirtual 442, 3) := by decide +kernel
theorem d_M_fits_7 : decode b_M_fits 7 = .ok (.istore 4, 2) := by decide +kernel
theorem d_M_fits_9 : decode b_M_fits 9 = .ok (.iload 4, 2) := by decide +kernel
theorem d_M_fits_11 : decode b_M_fits 11 = .ok (.ifCond .le 10, 3) := by decide +kernel
theorem d_M_fits_14 : decode b_M_fits 14 = .ok (.aload_n 0, 1) := by decide +kernel
theorem d_M_fits_15 : decode b_M_fits 15 = .ok (.iload 4, 2) := by decide +kernel
theorem d_M_fits_17 : decode b_M_fits 17 = .ok (.invokevirtual 121, 3) := by decide +kernel
theorem d_M_fits_20 : decode b_M_fits 20 = .ok (.ireturn, 1) := by decide +kernel
theorem d_M_fits_21 : decode b_M_fits 21 = .ok (.iconst 0, 1) := by decide +kernel
theorem d_M_fits_22 : decode b_M_fits 22 = .ok (.istore 5, 2) := by decide +kernel
theorem d_M_fits_24 : decode b_M_fits 24 = .ok (.iconst 0, 1) := by decide +kernel
theorem d_M_fits_25 : decode b_M_fits 25 = .ok (.istore 6, 2) := by decide +kernel
theorem d_M_fits_27 : decode b_M_fits 27 = .ok (.iload 6, 2) := by decide +kernel
theorem d_M_fits_29 : decode b_M_fits 29 = .ok (.iconst 1, 1) := by decide +kernel
theorem d_M_fits_30 : decode b_M_fits 30 = .ok (.aload_n 0, 1) := by decide +kernel
theorem d_M_fits_31 : decode b_M_fits 31 = .ok (.getfield 7, 3) := by decide +kernel
theorem d_M_fits_34 : decode b_M_fits 34 = .ok (.iconst 2, 1) := by decide +kernel
theorem d_M_fits_35 : decode b_M_fits 35 = .ok (.iaload, 1) := by decide +kernel
theorem d_M_fits_36 : decode b_M_fits 36 = .ok (.ishl, 1) := by decide +kernel
theorem d_M_fits_37 : decode b_M_fits 37 = .ok (.if_icmp .ge 31, 3) := by decide +kernel
theorem d_M_fits_40 : decode b_M_fits 40 = .ok (.iload 5, 2) := by decide +kernel
theorem d_M_fits_42 : decode b_M_fits 42 = .ok (.aload_n 0, 1) := by decide +kernel
theorem d_M_fits_43 : decode b_M_fits 43 = .ok (.iload_n 1, 1) := by decide +kernel
theorem d_M_fits_44 : decode b_M_fits 44 = .ok (.iload 6, 2) := by decide +kernel
theorem d_M_fits_46 : decode b_M_fits 46 = .ok (.iload_n 2, 1) := by decide +kernel
theorem d_M_fits_47 : decode b_M_fits 47 = .ok (.iload_n 3, 1) := by decide +kernel
theorem d_M_fits_48 : decode b_M_fits 48 = .ok (.invokevirtual 445, 3) := by decide +kernel
theorem d_M_fits_51 : decode b_M_fits 51 = .ok (.ifCond .eq 7, 3) := by decide +kernel
theorem d_M_fits_54 : decode b_M_fits 54 = .ok (.iconst 1, 1) := by decide +kernel
theorem d_M_fits_55 : decode b_M_fits 55 = .ok (.goto 4, 3) := by decide +kernel
theorem d_M_fits_58 : decode b_M_fits 58 = .ok (.iconst 0, 1) := by decide +kernel
theorem d_M_fits_59 : decode b_M_fits 59 = .ok (.iadd, 1) := by decide +kernel
theorem d_M_fits_60 : decode b_M_fits 60 = .ok (.istore 5, 2) := by decide +kernel
theorem d_M_fits_62 : decode b_M_fits 62 = .ok (.iinc 6 1, 3) := by decide +kernel
theorem d_M_fits_65 : decode b_M_fits 65 = .ok (.goto (-38), 3) := by decide +kernel
theorem d_M_fits_68 : decode b_M_fits 68 = .ok (.aload_n 0, 1) := by decide +kernel
theorem d_M_fits_69 : decode b_M_fits 69 = .ok (.iload 5, 2) := by decide +kernel
theorem d_M_fits_71 : decode b_M_fits 71 = .ok (.invokevirtual 125, 3) := by decide +kernel
theorem d_M_fits_74 : decode b_M_fits 74 = .ok (.ireturn, 1) := by decide +kernel
theorem d_M_wrongSeen_0 : decode b_M_wrongSeen 0 = .ok (.aload_n 0, 1) := by decide +kernel
theorem d_M_wrongSeen_1 : decode b_M_wrongSeen 1 = .ok (.iload_n 1, 1) := by decide +kernel
theorem d_M_wrongSeen_2 : decode b_M_wrongSeen 2 = .ok (.invokevirtual 328, 3) := by decide +kernel
theorem d_M_wrongSeen_5 : decode b_M_wrongSeen 5 = .ok (.ifCond .eq 22, 3) := by decide +kernel
theorem d_M_wrongSeen_8 : decode b_M_wrongSeen 8 = .ok (.iload_n 2, 1) := by decide +kernel
theorem d_M_wrongSeen_9 : decode b_M_wrongSeen 9 = .ok (.invokestatic 132, 3) := by decide +kernel
theorem d_M_wrongSeen_12 : decode b_M_wrongSeen 12 = .ok (.ifCond .eq 15, 3) := by decide +kernel
theorem d_M_wrongSeen_15 : decode b_M_wrongSeen 15 = .ok (.iload_n 3, 1) := by decide +kernel
theorem d_M_wrongSeen_16 : decode b_M_wrongSeen 16 = .ok (.i2l, 1) := by decide +kernel
theorem d_M_wrongSeen_17 : decode b_M_wrongSeen 17 = .ok (.lconst 0, 1) := by decide +kernel
theorem d_M_wrongSeen_18 : decode b_M_wrongSeen 18 = .ok (.ldc2_w 380, 3) := by decide +kernel
theorem d_M_wrongSeen_21 : decode b_M_wrongSeen 21 = .ok (.invokestatic 306, 3) := by decide +kernel
theorem d_M_wrongSeen_24 : decode b_M_wrongSeen 24 = .ok (.ifCond .ne 5, 3) := by decide +kernel
theorem d_M_wrongSeen_27 : decode b_M_wrongSeen 27 = .ok (.iconst 1, 1) := by decide +kernel
theorem d_M_wrongSeen_28 : decode b_M_wrongSeen 28 = .ok (.ireturn, 1) := by decide +kernel
theorem d_M_wrongSeen_29 : decode b_M_wrongSeen 29 = .ok (.aload_n 0, 1) := by decide +kernel
theorem d_M_wrongSeen_30 : decode b_M_wrongSeen 30 = .ok (.getfield 24, 3) := by decide +kernel
theorem d_M_wrongSeen_33 : decode b_M_wrongSeen 33 = .ok (.iload_n 2, 1) := by decide +kernel
theorem d_M_wrongSeen_34 : decode b_M_wrongSeen 34 = .ok (.iaload, 1) := by decide +kernel
theorem d_M_wrongSeen_35 : decode b_M_wrongSeen 35 = .ok (.iconst (-1), 1) := by decide +kernel
theorem d_M_wrongSeen_36 : decode b_M_wrongSeen 36 = .ok (.if_icmp .ne 5, 3) := by decide +kernel
theorem d_M_wrongSeen_39 : decode b_M_wrongSeen 39 = .ok (.iconst 2, 1) := by decide +kernel
theorem d_M_wrongSeen_40 : decode b_M_wrongSeen 40 = .ok (.ireturn, 1) := by decide +kernel
theorem d_M_wrongSeen_41 : decode b_M_wrongSeen 41 = .ok (.aload_n 0, 1) := by decide +kernel
theorem d_M_wrongSeen_42 : decode b_M_wrongSeen 42 = .ok (.getfield 24, 3) := by decide +kernel
theorem d_M_wrongSeen_45 : decode b_M_wrongSeen 45 = .ok (.iload_n 2, 1) := by decide +kernel
theorem d_M_wrongSeen_46 : decode b_M_wrongSeen 46 = .ok (.iaload, 1) := by decide +kernel
theorem d_M_wrongSeen_47 : decode b_M_wrongSeen 47 = .ok (.iconst 2, 1) := by decide +kernel
theorem d_M_wrongSeen_48 : decode b_M_wrongSeen 48 = .ok (.iload_n 3, 1) := by decide +kernel
theorem d_M_wrongSeen_49 : decode b_M_wrongSeen 49 = .ok (.imul, 1) := by decide +kernel
theorem d_M_wrongSeen_50 : decode b_M_wrongSeen 50 = .ok (.if_icmp .ge 5, 3) := by decide +kernel
theorem d_M_wrongSeen_53 : decode b_M_wrongSeen 53 = .ok (.iconst 3, 1) := by decide +kernel
theorem d_M_wrongSeen_54 : decode b_M_wrongSeen 54 = .ok (.ireturn, 1) := by decide +kernel
theorem d_M_wrongSeen_55 : decode b_M_wrongSeen 55 = .ok (.iconst 0, 1) := by decide +kernel
theorem d_M_wrongSeen_56 : decode b_M_wrongSeen 56 = .ok (.istore 4, 2) := by decide +kernel
theorem d_M_wrongSeen_58 : decode b_M_wrongSeen 58 = .ok (.iload 4, 2) := by decide +kernel
theorem d_M_wrongSeen_60 : decode b_M_wrongSeen 60 = .ok (.iload_n 3, 1) := by decide +kernel
theorem d_M_wrongSeen_61 : decode b_M_wrongSeen 61 = .ok (.if_icmp .ge 64, 3) := by decide +kernel
theorem d_M_wrongSeen_64 : decode b_M_wrongSeen 64 = .ok (.bipush 60, 2) := by decide +kernel
theorem d_M_wrongSeen_66 : decode b_M_wrongSeen 66 = .ok (.iload_n 2, 1) := by decide +kernel
theorem d_M_wrongSeen_67 : decode b_M_wrongSeen 67 = .ok (.imul, 1) := by decide +kernel
theorem d_M_wrongSeen_68 : decode b_M_wrongSeen 68 = .ok (.iconst 2, 1) := by decide +kernel
theorem d_M_wrongSeen_69 : decode b_M_wrongSeen 69 = .ok (.iload 4, 2) := by decide +kernel
theorem d_M_wrongSeen_71 : decode b_M_wrongSeen 71 = .ok (.imul, 1) := by decide +kernel
theorem d_M_wrongSeen_72 : decode b_M_wrongSeen 72 = .ok (.iadd, 1) := by decide +kernel
theorem d_M_wrongSeen_73 : decode b_M_wrongSeen 73 = .ok (.istore 5, 2) := by decide +kernel
theorem d_M_wrongSeen_75 : decode b_M_wrongSeen 75 = .ok (.aload_n 0, 1) := by decide +kernel
theorem d_M_wrongSeen_76 : decode b_M_wrongSeen 76 = .ok (.getfield 27, 3) := by decide +kernel
theorem d_M_wrongSeen_79 : decode b_M_wrongSeen 79 = .ok (.iload 5, 2) := by decide +kernel
theorem d_M_wrongSeen_81 : decode b_M_wrongSeen 81 = .ok (.laload, 1) := by decide +kernel
theorem d_M_wrongSeen_82 : decode b_M_wrongSeen 82 = .ok (.lconst 0, 1) := by decide +kernel
theorem d_M_wrongSeen_83 : decode b_M_wrongSeen 83 = .ok (.aload_n 0, 1) := by decide +kernel
theorem d_M_wrongSeen_84 : decode b_M_wrongSeen 84 = .ok (.getfield 7, 3) := by decide +kernel
theorem d_M_wrongSeen_87 : decode b_M_wrongSeen 87 = .ok (.iconst 2, 1) := by decide +kernel
theorem d_M_wrongSeen_88 : decode b_M_wrongSeen 88 = .ok (.iaload, 1) := by decide +kernel
theorem d_M_wrongSeen_89 : decode b_M_wrongSeen 89 = .ok (.i2l, 1) := by decide +kernel
theorem d_M_wrongSeen_90 : decode b_M_wrongSeen 90 = .ok (.lconst 1, 1) := by decide +kernel
theorem d_M_wrongSeen_91 : decode b_M_wrongSeen 91 = .ok (.lsub, 1) := by decide +kernel
theorem d_M_wrongSeen_92 : decode b_M_wrongSeen 92 = .ok (.invokestatic 306, 3) := by decide +kernel
theorem d_M_wrongSeen_95 : decode b_M_wrongSeen 95 = .ok (.ifCond .eq 22, 3) := by decide +kernel
theorem d_M_wrongSeen_98 : decode b_M_wrongSeen 98 = .ok (.aload_n 0, 1) := by decide +kernel
theorem d_M_wrongSeen_99 : decode b_M_wrongSeen 99 = .ok (.getfield 27, 3) := by decide +kernel
theorem d_M_wrongSeen_102 : decode b_M_wrongSeen 102 = .ok (.iload 5, 2) := by decide +kernel
theorem d_M_wrongSeen_104 : decode b_M_wrongSeen 104 = .ok (.iconst 1, 1) := by decide +kernel
theorem d_M_wrongSeen_105 : decode b_M_wrongSeen 105 = .ok (.iadd, 1) := by decide +kernel
theorem d_M_wrongSeen_106 : decode b_M_wrongSeen 106 = .ok (.laload, 1) := by decide +kernel
theorem d_M_wrongSeen_107 : decode b_M_wrongSeen 107 = .ok (.lconst 0, 1) := by decide +kernel
theorem d_M_wrongSeen_108 : decode b_M_wrongSeen 108 = .ok (.ldc2_w 431, 3) := by decide +kernel
theorem d_M_wrongSeen_111 : decode b_M_wrongSeen 111 = .ok (.invokestatic 306, 3) := by decide +kernel
theorem d_M_wrongSeen_114 : decode b_M_wrongSeen 114 = .ok (.ifCond .ne 5, 3) := by decide +kernel
theorem d_M_wrongSeen_117 : decode b_M_wrongSeen 117 = .ok (.iconst 5, 1) := by decide +kernel
theorem d_M_wrongSeen_118 : decode b_M_wrongSeen 118 = .ok (.ireturn, 1) := by decide +kernel
theorem d_M_wrongSeen_119 : decode b_M_wrongSeen 119 = .ok (.iinc 4 1, 3) := by decide +kernel
theorem d_M_wrongSeen_122 : decode b_M_wrongSeen 122 = .ok (.goto (-64), 3) := by decide +kernel
theorem d_M_wrongSeen_125 : decode b_M_wrongSeen 125 = .ok (.iconst 0, 1) := by decide +kernel
theorem d_M_wrongSeen_126 : decode b_M_wrongSeen 126 = .ok (.ireturn, 1) := by decide +kernel
theorem d_M_isLiking_0 : decode b_M_isLiking 0 = .ok (.aload_n 0, 1) := by decide +kernel
theorem d_M_isLiking_1 : decode b_M_isLiking 1 = .ok (.iload_n 1, 1) := by decide +kernel
theorem d_M_isLiking_2 : decode b_M_isLiking 2 = .ok (.invokevirtual 331, 3) := by decide +kernel
theorem d_M_isLiking_5 : decode b_M_isLiking 5 = .ok (.istore 5, 2) := by decide +kernel
theorem d_M_isLiking_7 : decode b_M_isLiking 7 = .ok (.iconst 0, 1) := by decide +kernel
theorem d_M_isLiking_8 : decode b_M_isLiking 8 = .ok (.istore 6, 2) := by decide +kernel
theorem d_M_isLiking_10 : decode b_M_isLiking 10 = .ok (.iload 6, 2) := by decide +kernel
theorem d_M_isLiking_12 : decode b_M_isLiking 12 = .ok (.iload 4, 2) := by decide +kernel
theorem d_M_isLiking_14 : decode b_M_isLiking 14 = .ok (.if_icmp .ge 62, 3) := by decide +kernel
theorem d_M_isLiking_17 : decode b_M_isLiking 17 = .ok (.bipush 60, 2) := by decide +kernel
theorem d_M_isLiking_19 : decode b_M_isLiking 19 = .ok (.iload_n 3, 1) := by decide +kernel
theorem d_M_isLiking_20 : decode b_M_isLiking 20 = .ok (.imul, 1) := by decide +kernel
theorem d_M_isLiking_21 : decode b_M_isLiking 21 = .ok (.iconst 2, 1) := by decide +kernel
theorem d_M_isLiking_22 : decode b_M_isLiking 22 = .ok (.iload 6, 2) := by decide +kernel
theorem d_M_isLiking_24 : decode b_M_isLiking 24 = .ok (.imul, 1) := by decide +kernel
theorem d_M_isLiking_25 : decode b_M_isLiking 25 = .ok (.iadd, 1) := by decide +kernel
theorem d_M_isLiking_26 : decode b_M_isLiking 26 = .ok (.istore 7, 2) := by decide +kernel
theorem d_M_isLiking_28 : decode b_M_isLiking 28 = .ok (.iload 5, 2) := by decide +kernel
theorem d_M_isLiking_30 : decode b_M_isLiking 30 = .ok (.ifCond .le 22, 3) := by decide +kernel
theorem d_M_isLiking_33 : decode b_M_isLiking 33 = .ok (.aload_n 0, 1) := by decide +kernel
theorem d_M_isLiking_34 : decode b_M_isLiking 34 = .ok (.iload_n 2, 1) := by decide +kernel
theorem d_M_isLiking_35 : decode b_M_isLiking 35 = .ok (.aload_n 0, 1) := by decide +kernel
theorem d_M_isLiking_36 : decode b_M_isLiking 36 = .ok (.getfield 27, 3) := by decide +kernel
theorem d_M_isLiking_39 : decode b_M_isLiking 39 = .ok (.iload 7, 2) := by decide +kernel
theorem d_M_isLiking_41 : decode b_M_isLiking 41 = .ok (.laload, 1) := by decide +kernel
theorem d_M_isLiking_42 : decode b_M_isLiking 42 = .ok (.l2i, 1) := by decide +kernel
theorem d_M_isLiking_43 : decode b_M_isLiking 43 = .ok (.invokevirtual 251, 3) := by decide +kernel
theorem d_M_isLiking_46 : decode b_M_isLiking 46 = .ok (.ifCond .eq 6, 3) := by decide +kernel
theorem d_M_isLiking_49 : decode b_M_isLiking 49 = .ok (.iinc 5 (-1), 3) := by decide +kernel
theorem d_M_isLiking_52 : decode b_M_isLiking 52 = .ok (.iload 5, 2) := by decide +kernel
theorem d_M_isLiking_54 : decode b_M_isLiking 54 = .ok (.i2l, 1) := by decide +kernel
theorem d_M_isLiking_55 : decode b_M_isLiking 55 = .ok (.aload_n 0, 1) := by decide +kernel
theorem d_M_isLiking_56 : decode b_M_isLiking 56 = .ok (.getfield 27, 3) := by decide +kernel
theorem d_M_isLiking_59 : decode b_M_isLiking 59 = .ok (.iload 7, 2) := by decide +kernel
theorem d_M_isLiking_61 : decode b_M_isLiking 61 = .ok (.iconst 1, 1) := by decide +kernel
theorem d_M_isLiking_62 : decode b_M_isLiking 62 = .ok (.iadd, 1) := by decide +kernel
theorem d_M_isLiking_63 : decode b_M_isLiking 63 = .ok (.laload, 1) := by decide +kernel
theorem d_M_isLiking_64 : decode b_M_isLiking 64 = .ok (.lcmp, 1) := by decide +kernel
theorem d_M_isLiking_65 : decode b_M_isLiking 65 = .ok (.ifCond .eq 5, 3) := by decide +kernel
theorem d_M_isLiking_68 : decode b_M_isLiking 68 = .ok (.iconst 0, 1) := by decide +kernel
theorem d_M_isLiking_69 : decode b_M_isLiking 69 = .ok (.ireturn, 1) := by decide +kernel
theorem d_M_isLiking_70 : decode b_M_isLiking 70 = .ok (.iinc 6 1, 3) := by decide +kernel
theorem d_M_isLiking_73 : decode b_M_isLiking 73 = .ok (.goto (-63), 3) := by decide +kernel
theorem d_M_isLiking_76 : decode b_M_isLiking 76 = .ok (.iconst 1, 1) := by decide +kernel
theorem d_M_isLiking_77 : decode b_M_isLiking 77 = .ok (.ireturn, 1) := by decide +kernel
theorem d_M_sure_0 : decode b_M_sure 0 = .ok (.aload_n 0, 1) := by decide +kernel
theorem d_M_sure_1 : decode b_M_sure 1 = .ok (.iload_n 1, 1) := by decide +kernel
theorem d_M_sure_2 : decode b_M_sure 2 = .ok (.iload_n 2, 1) := by decide +kernel
theorem d_M_sure_3 : decode b_M_sure 3 = .ok (.iload_n 3, 1) := by decide +kernel
theorem d_M_sure_4 : decode b_M_sure 4 = .ok (.invokevirtual 442, 3) := by decide +kernel
theorem d_M_sure_7 : decode b_M_sure 7 = .ok (.istore 4, 2) := by decide +kernel
theorem d_M_sure_9 : decode b_M_sure 9 = .ok (.iload 4, 2) := by decide +kernel
theorem d_M_sure_11 : decode b_M_sure 11 = .ok (.ifCond .le 10, 3) := by decide +kernel
theorem d_M_sure_14 : decode b_M_sure 14 = .ok (.aload_n 0, 1) := by decide +kernel
theorem d_M_sure_15 : decode b_M_sure 15 = .ok (.iload 4, 2) := by decide +kernel
theorem d_M_sure_17 : decode b_M_sure 17 = .ok (.invokevirtual 121, 3) := by decide +kernel
theorem d_M_sure_20 : decode b_M_sure 20 = .ok (.ireturn, 1) := by decide +kernel
theorem d_M_sure_21 : decode b_M_sure 21 = .ok (.iconst 1, 1) := by decide +kernel
theorem d_M_sure_22 : decode b_M_sure 22 = .ok (.aload_n 0, 1) := by decide +kernel
theorem d_M_sure_23 : decode b_M_sure 23 = .ok (.getfield 7, 3) := by decide +kernel
theorem d_M_sure_26 : decode b_M_sure 26 = .ok (.iconst 2, 1) := by decide +kernel
theorem d_M_sure_27 : decode b_M_sure 27 = .ok (.iaload, 1) := by decide +kernel
theorem d_M_sure_28 : decode b_M_sure 28 = .ok (.ishl, 1) := by decide +kernel
theorem d_M_sure_29 : decode b_M_sure 29 = .ok (.iconst 1, 1) := by decide +kernel
theorem d_M_sure_30 : decode b_M_sure 30 = .ok (.isub, 1) := by decide +kernel
theorem d_M_sure_31 : decode b_M_sure 31 = .ok (.istore 5, 2) := by decide +kernel
theorem d_M_sure_33 : decode b_M_sure 33 = .ok (.iconst (-1), 1) := by decide +kernel
theorem d_M_sure_34 : decode b_M_sure 34 = .ok (.istore 6, 2) := by decide +kernel
theorem d_M_sure_36 : decode b_M_sure 36 = .ok (.iconst 0, 1) := by decide +kernel
theorem d_M_sure_37 : decode b_M_sure 37 = .ok (.istore 7, 2) := by decide +kernel
theorem d_M_sure_39 : decode b_M_sure 39 = .ok (.iload 7, 2) := by decide +kernel
theorem d_M_sure_41 : decode b_M_sure 41 = .ok (.iload 5, 2) := by decide +kernel
theorem d_M_sure_43 : decode b_M_sure 43 = .ok (.if_icmp .gt 39, 3) := by decide +kernel
theorem d_M_sure_46 : decode b_M_sure 46 = .ok (.aload_n 0, 1) := by decide +kernel
theorem d_M_sure_47 : decode b_M_sure 47 = .ok (.iload_n 1, 1) := by decide +kernel
theorem d_M_sure_48 : decode b_M_sure 48 = .ok (.iload 7, 2) := by decide +kernel
theorem d_M_sure_50 : decode b_M_sure 50 = .ok (.iload_n 2, 1) := by decide +kernel
theorem d_M_sure_51 : decode b_M_sure 51 = .ok (.iload_n 3, 1) := by decide +kernel
theorem d_M_sure_52 : decode b_M_sure 52 = .ok (.invokevirtual 445, 3) := by decide +kernel
theorem d_M_sure_55 : decode b_M_sure 55 = .ok (.ifCond .eq 21, 3) := by decide +kernel
theorem d_M_sure_58 : decode b_M_sure 58 = .ok (.iload 6, 2) := by decide +kernel
theorem d_M_sure_60 : decode b_M_sure 60 = .ok (.iconst (-1), 1) := by decide +kernel
theorem d_M_sure_61 : decode b_M_sure 61 = .ok (.if_icmp .ne 8, 3) := by decide +kernel
theorem d_M_sure_64 : decode b_M_sure 64 = .ok (.iload 7, 2) := by decide +kernel
theorem d_M_sure_66 : decode b_M_sure 66 = .ok (.goto 8, 3) := by decide +kernel
theorem d_M_sure_69 : decode b_M_sure 69 = .ok (.iload 6, 2) := by decide +kernel
theorem d_M_sure_71 : decode b_M_sure 71 = .ok (.iload 7, 2) := by decide +kernel
theorem d_M_sure_73 : decode b_M_sure 73 = .ok (.iand, 1) := by decide +kernel
theorem d_M_sure_74 : decode b_M_sure 74 = .ok (.istore 6, 2) := by decide +kernel
theorem d_M_sure_76 : decode b_M_sure 76 = .ok (.iinc 7 1, 3) := by decide +kernel
theorem d_M_sure_79 : decode b_M_sure 79 = .ok (.goto (-40), 3) := by decide +kernel
theorem d_M_sure_82 : decode b_M_sure 82 = .ok (.aload_n 0, 1) := by decide +kernel
theorem d_M_sure_83 : decode b_M_sure 83 = .ok (.iload 6, 2) := by decide +kernel
theorem d_M_sure_85 : decode b_M_sure 85 = .ok (.invokevirtual 449, 3) := by decide +kernel
theorem d_M_sure_88 : decode b_M_sure 88 = .ok (.ireturn, 1) := by decide +kernel
theorem d_M_orNone_0 : decode b_M_orNone 0 = .ok (.iload_n 1, 1) := by decide +kernel
theorem d_M_orNone_1 : decode b_M_orNone 1 = .ok (.iconst (-1), 1) := by decide +kernel
theorem d_M_orNone_2 : decode b_M_orNone 2 = .ok (.if_icmp .ne 10, 3) := by decide +kernel
theorem d_M_orNone_5 : decode b_M_orNone 5 = .ok (.aload_n 0, 1) := by decide +kernel
theorem d_M_orNone_6 : decode b_M_orNone 6 = .ok (.bipush 6, 2) := by decide +kernel
theorem d_M_orNone_8 : decode b_M_orNone 8 = .ok (.invokevirtual 121, 3) := by decide +kernel
theorem d_M_orNone_11 : decode b_M_orNone 11 = .ok (.ireturn, 1) := by decide +kernel
theorem d_M_orNone_12 : decode b_M_orNone 12 = .ok (.aload_n 0, 1) := by decide +kernel
theorem d_M_orNone_13 : decode b_M_orNone 13 = .ok (.iload_n 1, 1) := by decide +kernel
theorem d_M_orNone_14 : decode b_M_orNone 14 = .ok (.invokevirtual 125, 3) := by decide +kernel
theorem d_M_orNone_17 : decode b_M_orNone 17 = .ok (.ireturn, 1) := by decide +kernel
theorem d_M_rounds_0 : decode b_M_rounds 0 = .ok (.aload_n 0, 1) := by decide +kernel
theorem d_M_rounds_1 : decode b_M_rounds 1 = .ok (.iload_n 1, 1) := by decide +kernel
theorem d_M_rounds_2 : decode b_M_rounds 2 = .ok (.iload_n 2, 1) := by decide +kernel
theorem d_M_rounds_3 : decode b_M_rounds 3 = .ok (.invokevirtual 455, 3) := by decide +kernel
theorem d_M_rounds_6 : decode b_M_rounds 6 = .ok (.ifCond .ne 9, 3) := by decide +kernel
theorem d_M_rounds_9 : decode b_M_rounds 9 = .ok (.aload_n 0, 1) := by decide +kernel
theorem d_M_rounds_10 : decode b_M_rounds 10 = .ok (.iconst 1, 1) := by decide +kernel
theorem d_M_rounds_11 : decode b_M_rounds 11 = .ok (.invokevirtual 121, 3) := by decide +kernel
theorem d_M_rounds_14 : decode b_M_rounds 14 = .ok (.ireturn, 1) := by decide +kernel
theorem d_M_rounds_15 : decode b_M_rounds 15 = .ok (.aload_n 0, 1) := by decide +kernel
theorem d_M_rounds_16 : decode b_M_rounds 16 = .ok (.iload_n 2, 1) := by decide +kernel
theorem d_M_rounds_17 : decode b_M_rounds 17 = .ok (.invokevirtual 458, 3) := by decide +kernel
theorem d_M_rounds_20 : decode b_M_rounds 20 = .ok (.iconst 1, 1) := by decide +kernel
theorem d_M_rounds_21 : decode b_M_rounds 21 = .ok (.istore_n 3, 1) := by decide +kernel
theorem d_M_rounds_22 : decode b_M_rounds 22 = .ok (.aload_n 0, 1) := by decide +kernel
theorem d_M_rounds_23 : decode b_M_rounds 23 = .ok (.iload_n 1, 1) := by decide +kernel
theorem d_M_rounds_24 : decode b_M_rounds 24 = .ok (.invokevirtual 452, 3) := by decide +kernel
theorem d_M_rounds_27 : decode b_M_rounds 27 = .ok (.ifCond .ne 24, 3) := by decide +kernel
theorem d_M_rounds_30 : decode b_M_rounds 30 = .ok (.aload_n 0, 1) := by decide +kernel
theorem d_M_rounds_31 : decode b_M_rounds 31 = .ok (.iconst 0, 1) := by decide +kernel
theorem d_M_rounds_32 : decode b_M_rounds 32 = .ok (.invokevirtual 461, 3) := by decide +kernel
theorem d_M_rounds_35 : decode b_M_rounds 35 = .ok (.ifCond .ne 10, 3) := by decide +kernel
theorem d_M_rounds_38 : decode b_M_rounds 38 = .ok (.aload_n 0, 1) := by decide +kernel
theorem d_M_rounds_39 : decode b_M_rounds 39 = .ok (.bipush 6, 2) := by decide +kernel
theorem d_M_rounds_41 : decode b_M_rounds 41 = .ok (.invokevirtual 121, 3) := by decide +kernel
theorem d_M_rounds_44 : decode b_M_rounds 44 = .ok (.ireturn, 1) := by decide +kernel
theorem d_M_rounds_45 : decode b_M_rounds 45 = .ok (.iinc 3 1, 3) := by decide +kernel
theorem d_M_rounds_48 : decode b_M_rounds 48 = .ok (.goto (-26), 3) := by decide +kernel
theorem d_M_rounds_51 : decode b_M_rounds 51 = .ok (.aload_n 0, 1) := by decide +kernel
theorem d_M_rounds_52 : decode b_M_rounds 52 = .ok (.iload_n 3, 1) := by decide +kernel
theorem d_M_rounds_53 : decode b_M_rounds 53 = .ok (.invokevirtual 125, 3) := by decide +kernel
theorem d_M_rounds_56 : decode b_M_rounds 56 = .ok (.ireturn, 1) := by decide +kernel
theorem d_M_isKnowing_0 : decode b_M_isKnowing 0 = .ok (.aload_n 0, 1) := by decide +kernel
theorem d_M_isKnowing_1 : decode b_M_isKnowing 1 = .ok (.iload_n 1, 1) := by decide +kernel
theorem d_M_isKnowing_2 : decode b_M_isKnowing 2 = .ok (.i2l, 1) := by decide +kernel
theorem d_M_isKnowing_3 : decode b_M_isKnowing 3 = .ok (.invokevirtual 396, 3) := by decide +kernel
theorem d_M_isKnowing_6 : decode b_M_isKnowing 6 = .ok (.ifCond .eq 23, 3) := by decide +kernel
theorem d_M_isKnowing_9 : decode b_M_isKnowing 9 = .ok (.iload_n 1, 1) := by decide +kernel
theorem d_M_isKnowing_10 : decode b_M_isKnowing 10 = .ok (.ifCond .eq 19, 3) := by decide +kernel
theorem d_M_isKnowing_13 : decode b_M_isKnowing 13 = .ok (.iload_n 2, 1) := by decide +kernel
theorem d_M_isKnowing_14 : decode b_M_isKnowing 14 = .ok (.i2l, 1) := by decide +kernel
theorem d_M_isKnowing_15 : decode b_M_isKnowing 15 = .ok (.lconst 0, 1) := by decide +kernel
theorem d_M_isKnowing_16 : decode b_M_isKnowing 16 = .ok (.ldc2_w 431, 3) := by decide +kernel
theorem d_M_isKnowing_19 : decode b_M_isKnowing 19 = .ok (.invokestatic 306, 3) := by decide +kernel
theorem d_M_isKnowing_22 : decode b_M_isKnowing 22 = .ok (.ifCond .eq 7, 3) := by decide +kernel
theorem d_M_isKnowing_25 : decode b_M_isKnowing 25 = .ok (.iconst 1, 1) := by decide +kernel
theorem d_M_isKnowing_26 : decode b_M_isKnowing 26 = .ok (.goto 4, 3) := by decide +kernel
theorem d_M_isKnowing_29 : decode b_M_isKnowing 29 = .ok (.iconst 0, 1) := by decide +kernel
theorem d_M_isKnowing_30 : decode b_M_isKnowing 30 = .ok (.ireturn, 1) := by decide +kernel
theorem d_M_laysWorlds_0 : decode b_M_laysWorlds 0 = .ok (.iconst 0, 1) := by decide +kernel
theorem d_M_laysWorlds_1 : decode b_M_laysWorlds 1 = .ok (.istore_n 2, 1) := by decide +kernel
theorem d_M_laysWorlds_2 : decode b_M_laysWorlds 2 = .ok (.iload_n 2, 1) := by decide +kernel
theorem d_M_laysWorlds_3 : decode b_M_laysWorlds 3 = .ok (.bipush 64, 2) := by decide +kernel
theorem d_M_laysWorlds_5 : decode b_M_laysWorlds 5 = .ok (.if_icmp .ge 36, 3) := by decide +kernel
theorem d_M_laysWorlds_8 : decode b_M_laysWorlds 8 = .ok (.aload_n 0, 1) := by decide +kernel
theorem d_M_laysWorlds_9 : decode b_M_laysWorlds 9 = .ok (.getfield 74, 3) := by decide +kernel
theorem d_M_laysWorlds_12 : decode b_M_laysWorlds 12 = .ok (.iload_n 2, 1) := by decide +kernel
theorem d_M_laysWorlds_13 : decode b_M_laysWorlds 13 = .ok (.iload_n 2, 1) := by decide +kernel
theorem d_M_laysWorlds_14 : decode b_M_laysWorlds 14 = .ok (.ifCond .le 19, 3) := by decide +kernel
theorem d_M_laysWorlds_17 : decode b_M_laysWorlds 17 = .ok (.iload_n 2, 1) := by decide +kernel
theorem d_M_laysWorlds_18 : decode b_M_laysWorlds 18 = .ok (.iconst 1, 1) := by decide +kernel
theorem d_M_laysWorlds_19 : decode b_M_laysWorlds 19 = .ok (.aload_n 0, 1) := by decide +kernel
theorem d_M_laysWorlds_20 : decode b_M_laysWorlds 20 = .ok (.getfield 7, 3) := by decide +kernel
theorem d_M_laysWorlds_23 : decode b_M_laysWorlds 23 = .ok (.iconst 3, 1) := by decide +kernel
theorem d_M_laysWorlds_24 : decode b_M_laysWorlds 24 = .ok (.iaload, 1) := by decide +kernel
theorem d_M_laysWorlds_25 : decode b_M_laysWorlds 25 = .ok (.ishl, 1) := by decide +kernel
theorem d_M_laysWorlds_26 : decode b_M_laysWorlds 26 = .ok (.if_icmp .ge 7, 3) := by decide +kernel
theorem d_M_laysWorlds_29 : decode b_M_laysWorlds 29 = .ok (.iconst 1, 1) := by decide +kernel
theorem d_M_laysWorlds_30 : decode b_M_laysWorlds 30 = .ok (.goto 4, 3) := by decide +kernel
theorem d_M_laysWorlds_33 : decode b_M_laysWorlds 33 = .ok (.iconst 0, 1) := by decide +kernel
theorem d_M_laysWorlds_34 : decode b_M_laysWorlds 34 = .ok (.bastore, 1) := by decide +kernel
theorem d_M_laysWorlds_35 : decode b_M_laysWorlds 35 = .ok (.iinc 2 1, 3) := by decide +kernel
theorem d_M_laysWorlds_38 : decode b_M_laysWorlds 38 = .ok (.goto (-36), 3) := by decide +kernel
theorem d_M_laysWorlds_41 : decode b_M_laysWorlds 41 = .ok (.iconst 0, 1) := by decide +kernel
theorem d_M_laysWorlds_42 : decode b_M_laysWorlds 42 = .ok (.istore_n 2, 1) := by decide +kernel
theorem d_M_laysWorlds_43 : decode b_M_laysWorlds 43 = .ok (.iload_n 2, 1) := by decide +kernel
theorem d_M_laysWorlds_44 : decode b_M_laysWorlds 44 = .ok (.aload_n 0, 1) := by decide +kernel
theorem d_M_laysWorlds_45 : decode b_M_laysWorlds 45 = .ok (.getfield 7, 3) := by decide +kernel
theorem d_M_laysWorlds_48 : decode b_M_laysWorlds 48 = .ok (.iconst 3, 1) := by decide +kernel
theorem d_M_laysWorlds_49 : decode b_M_laysWorlds 49 = .ok (.iaload, 1) := by decide +kernel
theorem d_M_laysWorlds_50 : decode b_M_laysWorlds 50 = .ok (.if_icmp .ge 32, 3) := by decide +kernel
theorem d_M_laysWorlds_53 : decode b_M_laysWorlds 53 = .ok (.aload_n 0, 1) := by decide +kernel
theorem d_M_laysWorlds_54 : decode b_M_laysWorlds 54 = .ok (.getfield 81, 3) := by decide +kernel
theorem d_M_laysWorlds_57 : decode b_M_laysWorlds 57 = .ok (.iload_n 2, 1) := by decide +kernel
theorem d_M_laysWorlds_58 : decode b_M_laysWorlds 58 = .ok (.aload_n 0, 1) := by decide +kernel
theorem d_M_laysWorlds_59 : decode b_M_laysWorlds 59 = .ok (.aload_n 0, 1) := by decide +kernel
theorem d_M_laysWorlds_60 : decode b_M_laysWorlds 60 = .ok (.iload_n 2, 1) := by decide +kernel
theorem d_M_laysWorlds_61 : decode b_M_laysWorlds 61 = .ok (.iconst 0, 1) := by decide +kernel
theorem d_M_laysWorlds_62 : decode b_M_laysWorlds 62 = .ok (.invokevirtual 313, 3) := by decide +kernel
theorem d_M_laysWorlds_65 : decode b_M_laysWorlds 65 = .ok (.iload_n 1, 1) := by decide +kernel
theorem d_M_laysWorlds_66 : decode b_M_laysWorlds 66 = .ok (.invokevirtual 337, 3) := by decide +kernel
theorem d_M_laysWorlds_69 : decode b_M_laysWorlds 69 = .ok (.iconst 1, 1) := by decide +kernel
theorem d_M_laysWorlds_70 : decode b_M_laysWorlds 70 = .ok (.iload_n 2, 1) := by decide +kernel
theorem d_M_laysWorlds_71 : decode b_M_laysWorlds 71 = .ok (.ishl, 1) := by decide +kernel
theorem d_M_laysWorlds_72 : decode b_M_laysWorlds 72 = .ok (.iconst (-1), 1) := by decide +kernel
theorem d_M_laysWorlds_73 : decode b_M_laysWorlds 73 = .ok (.ixor, 1) := by decide +kernel
theorem d_M_laysWorlds_74 : decode b_M_laysWorlds 74 = .ok (.iand, 1) := by decide +kernel
theorem d_M_laysWorlds_75 : decode b_M_laysWorlds 75 = .ok (.iastore, 1) := by decide +kernel
theorem d_M_laysWorlds_76 : decode b_M_laysWorlds 76 = .ok (.iinc 2 1, 3) := by decide +kernel
theorem d_M_laysWorlds_79 : decode b_M_laysWorlds 79 = .ok (.goto (-36), 3) := by decide +kernel
theorem d_M_laysWorlds_82 : decode b_M_laysWorlds 82 = .ok (.return_, 1) := by decide +kernel
theorem d_M_knowing_0 : decode b_M_knowing 0 = .ok (.iconst 0, 1) := by decide +kernel
theorem d_M_knowing_1 : decode b_M_knowing 1 = .ok (.istore_n 2, 1) := by decide +kernel
theorem d_M_knowing_2 : decode b_M_knowing 2 = .ok (.iconst 0, 1) := by decide +kernel
theorem d_M_knowing_3 : decode b_M_knowing 3 = .ok (.istore_n 3, 1) := by decide +kernel
theorem d_M_knowing_4 : decode b_M_knowing 4 = .ok (.iload_n 3, 1) := by decide +kernel
theorem d_M_knowing_5 : decode b_M_knowing 5 = .ok (.aload_n 0, 1) := by decide +kernel
theorem d_M_knowing_6 : decode b_M_knowing 6 = .ok (.getfield 7, 3) := by decide +kernel
theorem d_M_knowing_9 : decode b_M_knowing 9 = .ok (.iconst 3, 1) := by decide +kernel
theorem d_M_knowing_10 : decode b_M_knowing 10 = .ok (.iaload, 1) := by decide +kernel
theorem d_M_knowing_11 : decode b_M_knowing 11 = .ok (.if_icmp .ge 106, 3) := by decide +kernel
theorem d_M_knowing_14 : decode b_M_knowing 14 = .ok (.aload_n 0, 1) := by decide +kernel
theorem d_M_knowing_15 : decode b_M_knowing 15 = .ok (.iload_n 1, 1) := by decide +kernel
theorem d_M_knowing_16 : decode b_M_knowing 16 = .ok (.iload_n 3, 1) := by decide +kernel
theorem d_M_knowing_17 : decode b_M_knowing 17 = .ok (.invokevirtual 251, 3) := by decide +kernel
theorem d_M_knowing_20 : decode b_M_knowing 20 = .ok (.istore 4, 2) := by decide +kernel
theorem d_M_knowing_22 : decode b_M_knowing 22 = .ok (.iload_n 1, 1) := by decide +kernel
theorem d_M_knowing_23 : decode b_M_knowing 23 = .ok (.iconst 1, 1) := by decide +kernel
theorem d_M_knowing_24 : decode b_M_knowing 24 = .ok (.iload_n 3, 1) := by decide +kernel
theorem d_M_knowing_25 : decode b_M_knowing 25 = .ok (.ishl, 1) := by decide +kernel
theorem d_M_knowing_26 : decode b_M_knowing 26 = .ok (.iconst (-1), 1) := by decide +kernel
theorem d_M_knowing_27 : decode b_M_knowing 27 = .ok (.ixor, 1) := by decide +kernel
theorem d_M_knowing_28 : decode b_M_knowing 28 = .ok (.iand, 1) := by decide +kernel
theorem d_M_knowing_29 : decode b_M_knowing 29 = .ok (.istore 5, 2) := by decide +kernel
theorem d_M_knowing_31 : decode b_M_knowing 31 = .ok (.iconst 1, 1) := by decide +kernel
theorem d_M_knowing_32 : decode b_M_knowing 32 = .ok (.istore 6, 2) := by decide +kernel
theorem d_M_knowing_34 : decode b_M_knowing 34 = .ok (.iload 6, 2) := by decide +kernel
theorem d_M_knowing_36 : decode b_M_knowing 36 = .ok (.iconst 1, 1) := by decide +kernel
theorem d_M_knowing_37 : decode b_M_knowing 37 = .ok (.aload_n 0, 1) := by decide +kernel
theorem d_M_knowing_38 : decode b_M_knowing 38 = .ok (.getfield 7, 3) := by decide +kernel
theorem d_M_knowing_41 : decode b_M_knowing 41 = .ok (.iconst 3, 1) := by decide +kernel
theorem d_M_knowing_42 : decode b_M_knowing 42 = .ok (.iaload, 1) := by decide +kernel
theorem d_M_knowing_43 : decode b_M_knowing 43 = .ok (.ishl, 1) := by decide +kernel
theorem d_M_knowing_44 : decode b_M_knowing 44 = .ok (.if_icmp .ge 52, 3) := by decide +kernel
theorem d_M_knowing_47 : decode b_M_knowing 47 = .ok (.iload 4, 2) := by decide +kernel
theorem d_M_knowing_49 : decode b_M_knowing 49 = .ok (.ifCond .eq 47, 3) := by decide +kernel
theorem d_M_knowing_52 : decode b_M_knowing 52 = .ok (.aload_n 0, 1) := by decide +kernel
theorem d_M_knowing_53 : decode b_M_knowing 53 = .ok (.getfield 74, 3) := by decide +kernel
theorem d_M_knowing_56 : decode b_M_knowing 56 = .ok (.iload 6, 2) := by decide +kernel
theorem d_M_knowing_58 : decode b_M_knowing 58 = .ok (.baload, 1) := by decide +kernel
theorem d_M_knowing_59 : decode b_M_knowing 59 = .ok (.ifCond .eq 31, 3) := by decide +kernel
theorem d_M_knowing_62 : decode b_M_knowing 62 = .ok (.iload 6, 2) := by decide +kernel
theorem d_M_knowing_64 : decode b_M_knowing 64 = .ok (.iload 5, 2) := by decide +kernel
theorem d_M_knowing_66 : decode b_M_knowing 66 = .ok (.ixor, 1) := by decide +kernel
theorem d_M_knowing_67 : decode b_M_knowing 67 = .ok (.aload_n 0, 1) := by decide +kernel
theorem d_M_knowing_68 : decode b_M_knowing 68 = .ok (.getfield 81, 3) := by decide +kernel
theorem d_M_knowing_71 : decode b_M_knowing 71 = .ok (.iload_n 3, 1) := by decide +kernel
theorem d_M_knowing_72 : decode b_M_knowing 72 = .ok (.iaload, 1) := by decide +kernel
theorem d_M_knowing_73 : decode b_M_knowing 73 = .ok (.iand, 1) := by decide +kernel
theorem d_M_knowing_74 : decode b_M_knowing 74 = .ok (.ifCond .ne 16, 3) := by decide +kernel
theorem d_M_knowing_77 : decode b_M_knowing 77 = .ok (.aload_n 0, 1) := by decide +kernel
theorem d_M_knowing_78 : decode b_M_knowing 78 = .ok (.iload 6, 2) := by decide +kernel
theorem d_M_knowing_80 : decode b_M_knowing 80 = .ok (.iload_n 3, 1) := by decide +kernel
theorem d_M_knowing_81 : decode b_M_knowing 81 = .ok (.invokevirtual 251, 3) := by decide +kernel
theorem d_M_knowing_84 : decode b_M_knowing 84 = .ok (.ifCond .ne 6, 3) := by decide +kernel
theorem d_M_knowing_87 : decode b_M_knowing 87 = .ok (.iconst 0, 1) := by decide +kernel
theorem d_M_knowing_88 : decode b_M_knowing 88 = .ok (.istore 4, 2) := by decide +kernel
theorem d_M_knowing_90 : decode b_M_knowing 90 = .ok (.iinc 6 1, 3) := by decide +kernel
theorem d_M_knowing_93 : decode b_M_knowing 93 = .ok (.goto (-59), 3) := by decide +kernel
theorem d_M_knowing_96 : decode b_M_knowing 96 = .ok (.iload_n 2, 1) := by decide +kernel
theorem d_M_knowing_97 : decode b_M_knowing 97 = .ok (.iload 4, 2) := by decide +kernel
theorem d_M_knowing_99 : decode b_M_knowing 99 = .ok (.ifCond .eq 9, 3) := by decide +kernel
theorem d_M_knowing_102 : decode b_M_knowing 102 = .ok (.iconst 1, 1) := by decide +kernel
theorem d_M_knowing_103 : decode b_M_knowing 103 = .ok (.iload_n 3, 1) := by decide +kernel
theorem d_M_knowing_104 : decode b_M_knowing 104 = .ok (.ishl, 1) := by decide +kernel
theorem d_M_knowing_105 : decode b_M_knowing 105 = .ok (.goto 4, 3) := by decide +kernel
theorem d_M_knowing_108 : decode b_M_knowing 108 = .ok (.iconst 0, 1) := by decide +kernel
theorem d_M_knowing_109 : decode b_M_knowing 109 = .ok (.ior, 1) := by decide +kernel
theorem d_M_knowing_110 : decode b_M_knowing 110 = .ok (.istore_n 2, 1) := by decide +kernel
theorem d_M_knowing_111 : decode b_M_knowing 111 = .ok (.iinc 3 1, 3) := by decide +kernel
theorem d_M_knowing_114 : decode b_M_knowing 114 = .ok (.goto (-110), 3) := by decide +kernel
theorem d_M_knowing_117 : decode b_M_knowing 117 = .ok (.iload_n 2, 1) := by decide +kernel
theorem d_M_knowing_118 : decode b_M_knowing 118 = .ok (.ireturn, 1) := by decide +kernel
theorem d_M_tellsAll_0 : decode b_M_tellsAll 0 = .ok (.iconst 0, 1) := by decide +kernel
theorem d_M_tellsAll_1 : decode b_M_tellsAll 1 = .ok (.istore_n 2, 1) := by decide +kernel
theorem d_M_tellsAll_2 : decode b_M_tellsAll 2 = .ok (.iconst 0, 1) := by decide +kernel
theorem d_M_tellsAll_3 : decode b_M_tellsAll 3 = .ok (.istore_n 3, 1) := by decide +kernel
theorem d_M_tellsAll_4 : decode b_M_tellsAll 4 = .ok (.iload_n 3, 1) := by decide +kernel
theorem d_M_tellsAll_5 : decode b_M_tellsAll 5 = .ok (.bipush 64, 2) := by decide +kernel
theorem d_M_tellsAll_7 : decode b_M_tellsAll 7 = .ok (.if_icmp .ge 63, 3) := by decide +kernel
theorem d_M_tellsAll_10 : decode b_M_tellsAll 10 = .ok (.aload_n 0, 1) := by decide +kernel
theorem d_M_tellsAll_11 : decode b_M_tellsAll 11 = .ok (.getfield 78, 3) := by decide +kernel
theorem d_M_tellsAll_14 : decode b_M_tellsAll 14 = .ok (.iload_n 3, 1) := by decide +kernel
theorem d_M_tellsAll_15 : decode b_M_tellsAll 15 = .ok (.aload_n 0, 1) := by decide +kernel
theorem d_M_tellsAll_16 : decode b_M_tellsAll 16 = .ok (.getfield 74, 3) := by decide +kernel
theorem d_M_tellsAll_19 : decode b_M_tellsAll 19 = .ok (.iload_n 3, 1) := by decide +kernel
theorem d_M_tellsAll_20 : decode b_M_tellsAll 20 = .ok (.baload, 1) := by decide +kernel
theorem d_M_tellsAll_21 : decode b_M_tellsAll 21 = .ok (.ifCond .eq 16, 3) := by decide +kernel
theorem d_M_tellsAll_24 : decode b_M_tellsAll 24 = .ok (.aload_n 0, 1) := by decide +kernel
theorem d_M_tellsAll_25 : decode b_M_tellsAll 25 = .ok (.iload_n 3, 1) := by decide +kernel
theorem d_M_tellsAll_26 : decode b_M_tellsAll 26 = .ok (.invokevirtual 452, 3) := by decide +kernel
theorem d_M_tellsAll_29 : decode b_M_tellsAll 29 = .ok (.iload_n 1, 1) := by decide +kernel
theorem d_M_tellsAll_30 : decode b_M_tellsAll 30 = .ok (.if_icmp .ne 7, 3) := by decide +kernel
theorem d_M_tellsAll_33 : decode b_M_tellsAll 33 = .ok (.iconst 1, 1) := by decide +kernel
theorem d_M_tellsAll_34 : decode b_M_tellsAll 34 = .ok (.goto 4, 3) := by decide +kernel
theorem d_M_tellsAll_37 : decode b_M_tellsAll 37 = .ok (.iconst 0, 1) := by decide +kernel
theorem d_M_tellsAll_38 : decode b_M_tellsAll 38 = .ok (.bastore, 1) := by decide +kernel
theorem d_M_tellsAll_39 : decode b_M_tellsAll 39 = .ok (.iload_n 2, 1) := by decide +kernel
theorem d_M_tellsAll_40 : decode b_M_tellsAll 40 = .ok (.ifCond .ne 18, 3) := by decide +kernel
theorem d_M_tellsAll_43 : decode b_M_tellsAll 43 = .ok (.aload_n 0, 1) := by decide +kernel
theorem d_M_tellsAll_44 : decode b_M_tellsAll 44 = .ok (.getfield 74, 3) := by decide +kernel
theorem d_M_tellsAll_47 : decode b_M_tellsAll 47 = .ok (.iload_n 3, 1) := by decide +kernel
theorem d_M_tellsAll_48 : decode b_M_tellsAll 48 = .ok (.baload, 1) := by decide +kernel
theorem d_M_tellsAll_49 : decode b_M_tellsAll 49 = .ok (.aload_n 0, 1) := by decide +kernel
theorem d_M_tellsAll_50 : decode b_M_tellsAll 50 = .ok (.getfield 78, 3) := by decide +kernel
theorem d_M_tellsAll_53 : decode b_M_tellsAll 53 = .ok (.iload_n 3, 1) := by decide +kernel
theorem d_M_tellsAll_54 : decode b_M_tellsAll 54 = .ok (.baload, 1) := by decide +kernel
theorem d_M_tellsAll_55 : decode b_M_tellsAll 55 = .ok (.if_icmp .eq 7, 3) := by decide +kernel
theorem d_M_tellsAll_58 : decode b_M_tellsAll 58 = .ok (.iconst 1, 1) := by decide +kernel
theorem d_M_tellsAll_59 : decode b_M_tellsAll 59 = .ok (.goto 4, 3) := by decide +kernel
theorem d_M_tellsAll_62 : decode b_M_tellsAll 62 = .ok (.iconst 0, 1) := by decide +kernel
theorem d_M_tellsAll_63 : decode b_M_tellsAll 63 = .ok (.istore_n 2, 1) := by decide +kernel
theorem d_M_tellsAll_64 : decode b_M_tellsAll 64 = .ok (.iinc 3 1, 3) := by decide +kernel
theorem d_M_tellsAll_67 : decode b_M_tellsAll 67 = .ok (.goto (-63), 3) := by decide +kernel
theorem d_M_tellsAll_70 : decode b_M_tellsAll 70 = .ok (.iconst 0, 1) := by decide +kernel
theorem d_M_tellsAll_71 : decode b_M_tellsAll 71 = .ok (.istore_n 3, 1) := by decide +kernel
theorem d_M_tellsAll_72 : decode b_M_tellsAll 72 = .ok (.iload_n 3, 1) := by decide +kernel
theorem d_M_tellsAll_73 : decode b_M_tellsAll 73 = .ok (.bipush 64, 2) := by decide +kernel
theorem d_M_tellsAll_75 : decode b_M_tellsAll 75 = .ok (.if_icmp .ge 21, 3) := by decide +kernel
theorem d_M_tellsAll_78 : decode b_M_tellsAll 78 = .ok (.aload_n 0, 1) := by decide +kernel
theorem d_M_tellsAll_79 : decode b_M_tellsAll 79 = .ok (.getfield 74, 3) := by decide +kernel
theorem d_M_tellsAll_82 : decode b_M_tellsAll 82 = .ok (.iload_n 3, 1) := by decide +kernel
theorem d_M_tellsAll_83 : decode b_M_tellsAll 83 = .ok (.aload_n 0, 1) := by decide +kernel
theorem d_M_tellsAll_84 : decode b_M_tellsAll 84 = .ok (.getfield 78, 3) := by decide +kernel
theorem d_M_tellsAll_87 : decode b_M_tellsAll 87 = .ok (.iload_n 3, 1) := by decide +kernel
theorem d_M_tellsAll_88 : decode b_M_tellsAll 88 = .ok (.baload, 1) := by decide +kernel
theorem d_M_tellsAll_89 : decode b_M_tellsAll 89 = .ok (.bastore, 1) := by decide +kernel
theorem d_M_tellsAll_90 : decode b_M_tellsAll 90 = .ok (.iinc 3 1, 3) := by decide +kernel
theorem d_M_tellsAll_93 : decode b_M_tellsAll 93 = .ok (.goto (-21), 3) := by decide +kernel
theorem d_M_tellsAll_96 : decode b_M_tellsAll 96 = .ok (.iload_n 2, 1) := by decide +kernel
theorem d_M_tellsAll_97 : decode b_M_tellsAll 97 = .ok (.ireturn, 1) := by decide +kernel
theorem d_M_knowers_0 : decode b_M_knowers 0 = .ok (.aload_n 0, 1) := by decide +kernel
theorem d_M_knowers_1 : decode b_M_knowers 1 = .ok (.iload_n 1, 1) := by decide +kernel
theorem d_M_knowers_2 : decode b_M_knowers 2 = .ok (.iload_n 2, 1) := by decide +kernel
theorem d_M_knowers_3 : decode b_M_knowers 3 = .ok (.invokevirtual 455, 3) := by decide +kernel
theorem d_M_knowers_6 : decode b_M_knowers 6 = .ok (.ifCond .eq 15, 3) := by decide +kernel
theorem d_M_knowers_9 : decode b_M_knowers 9 = .ok (.iload_n 3, 1) := by decide +kernel
theorem d_M_knowers_10 : decode b_M_knowers 10 = .ok (.i2l, 1) := by decide +kernel
theorem d_M_knowers_11 : decode b_M_knowers 11 = .ok (.lconst 1, 1) := by decide +kernel
theorem d_M_knowers_12 : decode b_M_knowers 12 = .ok (.ldc2_w 431, 3) := by decide +kernel
theorem d_M_knowers_15 : decode b_M_knowers 15 = .ok (.invokestatic 306, 3) := by decide +kernel
theorem d_M_knowers_18 : decode b_M_knowers 18 = .ok (.ifCond .ne 9, 3) := by decide +kernel
theorem d_M_knowers_21 : decode b_M_knowers 21 = .ok (.aload_n 0, 1) := by decide +kernel
theorem d_M_knowers_22 : decode b_M_knowers 22 = .ok (.iconst 1, 1) := by decide +kernel
theorem d_M_knowers_23 : decode b_M_knowers 23 = .ok (.invokevirtual 121, 3) := by decide +kernel
theorem d_M_knowers_26 : decode b_M_knowers 26 = .ok (.ireturn, 1) := by decide +kernel
theorem d_M_knowers_27 : decode b_M_knowers 27 = .ok (.aload_n 0, 1) := by decide +kernel
theorem d_M_knowers_28 : decode b_M_knowers 28 = .ok (.iload_n 2, 1) := by decide +kernel
theorem d_M_knowers_29 : decode b_M_knowers 29 = .ok (.invokevirtual 458, 3) := by decide +kernel
theorem d_M_knowers_32 : decode b_M_knowers 32 = .ok (.iconst 1, 1) := by decide +kernel
theorem d_M_knowers_33 : decode b_M_knowers 33 = .ok (.istore 4, 2) := by decide +kernel
theorem d_M_knowers_35 : decode b_M_knowers 35 = .ok (.iload 4, 2) := by decide +kernel
theorem d_M_knowers_37 : decode b_M_knowers 37 = .ok (.iload_n 3, 1) := by decide +kernel
theorem d_M_knowers_38 : decode b_M_knowers 38 = .ok (.if_icmp .ge 19, 3) := by decide +kernel
theorem d_M_knowers_41 : decode b_M_knowers 41 = .ok (.aload_n 0, 1) := by decide +kernel
theorem d_M_knowers_42 : decode b_M_knowers 42 = .ok (.aload_n 0, 1) := by decide +kernel
theorem d_M_knowers_43 : decode b_M_knowers 43 = .ok (.iload_n 1, 1) := by decide +kernel
theorem d_M_knowers_44 : decode b_M_knowers 44 = .ok (.invokevirtual 452, 3) := by decide +kernel
theorem d_M_knowers_47 : decode b_M_knowers 47 = .ok (.invokevirtual 461, 3) := by decide +kernel
theorem d_M_knowers_50 : decode b_M_knowers 50 = .ok (.pop, 1) := by decide +kernel
theorem d_M_knowers_51 : decode b_M_knowers 51 = .ok (.iinc 4 1, 3) := by decide +kernel
theorem d_M_knowers_54 : decode b_M_knowers 54 = .ok (.goto (-19), 3) := by decide +kernel
theorem d_M_knowers_57 : decode b_M_knowers 57 = .ok (.aload_n 0, 1) := by decide +kernel
theorem d_M_knowers_58 : decode b_M_knowers 58 = .ok (.aload_n 0, 1) := by decide +kernel
theorem d_M_knowers_59 : decode b_M_knowers 59 = .ok (.iload_n 1, 1) := by decide +kernel
theorem d_M_knowers_60 : decode b_M_knowers 60 = .ok (.invokevirtual 452, 3) := by decide +kernel
theorem d_M_knowers_63 : decode b_M_knowers 63 = .ok (.invokevirtual 125, 3) := by decide +kernel
theorem d_M_knowers_66 : decode b_M_knowers 66 = .ok (.ireturn, 1) := by decide +kernel
theorem d_M_game_0 : decode b_M_game 0 = .ok (.iload_n 1, 1) := by decide +kernel
theorem d_M_game_1 : decode b_M_game 1 = .ok (.i2l, 1) := by decide +kernel
theorem d_M_game_2 : decode b_M_game 2 = .ok (.lconst 0, 1) := by decide +kernel
theorem d_M_game_3 : decode b_M_game 3 = .ok (.ldc2_w 419, 3) := by decide +kernel
theorem d_M_game_6 : decode b_M_game 6 = .ok (.invokestatic 306, 3) := by decide +kernel
theorem d_M_game_9 : decode b_M_game 9 = .ok (.ifCond .eq 15, 3) := by decide +kernel
theorem d_M_game_12 : decode b_M_game 12 = .ok (.aload_n 0, 1) := by decide +kernel
theorem d_M_game_13 : decode b_M_game 13 = .ok (.aload_n 0, 1) := by decide +kernel
theorem d_M_game_14 : decode b_M_game 14 = .ok (.iload_n 1, 1) := by decide +kernel
theorem d_M_game_15 : decode b_M_game 15 = .ok (.invokevirtual 474, 3) := by decide +kernel
theorem d_M_game_18 : decode b_M_game 18 = .ok (.invokevirtual 125, 3) := by decide +kernel
theorem d_M_game_21 : decode b_M_game 21 = .ok (.goto 8, 3) := by decide +kernel
theorem d_M_game_24 : decode b_M_game 24 = .ok (.aload_n 0, 1) := by decide +kernel
theorem d_M_game_25 : decode b_M_game 25 = .ok (.iconst 1, 1) := by decide +kernel
theorem d_M_game_26 : decode b_M_game 26 = .ok (.invokevirtual 121, 3) := by decide +kernel
theorem d_M_game_29 : decode b_M_game 29 = .ok (.ireturn, 1) := by decide +kernel
theorem d_M_playing_0 : decode b_M_playing 0 = .ok (.iload_n 1, 1) := by decide +kernel
theorem d_M_playing_1 : decode b_M_playing 1 = .ok (.ifCond .ne 5, 3) := by decide +kernel
theorem d_M_playing_4 : decode b_M_playing 4 = .ok (.iconst 0, 1) := by decide +kernel
theorem d_M_playing_5 : decode b_M_playing 5 = .ok (.ireturn, 1) := by decide +kernel
theorem d_M_playing_6 : decode b_M_playing 6 = .ok (.iconst 0, 1) := by decide +kernel
theorem d_M_playing_7 : decode b_M_playing 7 = .ok (.istore_n 2, 1) := by decide +kernel
theorem d_M_playing_8 : decode b_M_playing 8 = .ok (.aload_n 0, 1) := by decide +kernel
theorem d_M_playing_9 : decode b_M_playing 9 = .ok (.iconst 0, 1) := by decide +kernel
theorem d_M_playing_10 : decode b_M_playing 10 = .ok (.iconst 0, 1) := by decide +kernel
theorem d_M_playing_11 : decode b_M_playing 11 = .ok (.iconst 0, 1) := by decide +kernel
theorem d_M_playing_12 : decode b_M_playing 12 = .ok (.invokevirtual 467, 3) := by decide +kernel
theorem d_M_playing_15 : decode b_M_playing 15 = .ok (.aload_n 0, 1) := by decide +kernel
theorem d_M_playing_16 : decode b_M_playing 16 = .ok (.iload_n 2, 1) := by decide +kernel
theorem d_M_playing_17 : decode b_M_playing 17 = .ok (.invokestatic 464, 3) := by decide +kernel
theorem d_M_playing_20 : decode b_M_playing 20 = .ok (.invokevirtual 377, 3) := by decide +kernel
theorem d_M_playing_23 : decode b_M_playing 23 = .ok (.aload_n 0, 1) := by decide +kernel
theorem d_M_playing_24 : decode b_M_playing 24 = .ok (.getfield 84, 3) := by decide +kernel
theorem d_M_playing_27 : decode b_M_playing 27 = .ok (.iload_n 2, 1) := by decide +kernel
theorem d_M_playing_28 : decode b_M_playing 28 = .ok (.dup2, 1) := by decide +kernel
theorem d_M_playing_29 : decode b_M_playing 29 = .ok (.iaload, 1) := by decide +kernel
theorem d_M_playing_30 : decode b_M_playing 30 = .ok (.iconst 1, 1) := by decide +kernel
theorem d_M_playing_31 : decode b_M_playing 31 = .ok (.iadd, 1) := by decide +kernel
theorem d_M_playing_32 : decode b_M_playing 32 = .ok (.iastore, 1) := by decide +kernel
theorem d_M_playing_33 : decode b_M_playing 33 = .ok (.aload_n 0, 1) := by decide +kernel
theorem d_M_playing_34 : decode b_M_playing 34 = .ok (.getfield 84, 3) := by decide +kernel
theorem d_M_playing_37 : decode b_M_playing 37 = .ok (.iload_n 2, 1) := by decide +kernel
theorem d_M_playing_38 : decode b_M_playing 38 = .ok (.iaload, 1) := by decide +kernel
theorem d_M_playing_39 : decode b_M_playing 39 = .ok (.istore_n 3, 1) := by decide +kernel
theorem d_M_playing_40 : decode b_M_playing 40 = .ok (.iload_n 3, 1) := by decide +kernel
theorem d_M_playing_41 : decode b_M_playing 41 = .ok (.aload_n 0, 1) := by decide +kernel
theorem d_M_playing_42 : decode b_M_playing 42 = .ok (.getfield 7, 3) := by decide +kernel
theorem d_M_playing_45 : decode b_M_playing 45 = .ok (.iconst 2, 1) := by decide +kernel
theorem d_M_playing_46 : decode b_M_playing 46 = .ok (.iaload, 1) := by decide +kernel
theorem d_M_playing_47 : decode b_M_playing 47 = .ok (.if_icmp .le 29, 3) := by decide +kernel
theorem d_M_playing_50 : decode b_M_playing 50 = .ok (.iload_n 2, 1) := by decide +kernel
theorem d_M_playing_51 : decode b_M_playing 51 = .ok (.ifCond .ne 6, 3) := by decide +kernel
theorem d_M_playing_54 : decode b_M_playing 54 = .ok (.goto 150, 3) := by decide +kernel
theorem d_M_playing_57 : decode b_M_playing 57 = .ok (.iinc 2 (-1), 3) := by decide +kernel
theorem d_M_playing_60 : decode b_M_playing 60 = .ok (.aload_n 0, 1) := by decide +kernel
theorem d_M_playing_61 : decode b_M_playing 61 = .ok (.iload_n 2, 1) := by decide +kernel
theorem d_M_playing_62 : decode b_M_playing 62 = .ok (.aload_n 0, 1) := by decide +kernel
theorem d_M_playing_63 : decode b_M_playing 63 = .ok (.getfield 93, 3) := by decide +kernel
theorem d_M_playing_66 : decode b_M_playing 66 = .ok (.iload_n 2, 1) := by decide +kernel
theorem d_M_playing_67 : decode b_M_playing 67 = .ok (.iconst 1, 1) := by decide +kernel
theorem d_M_playing_68 : decode b_M_playing 68 = .ok (.iadd, 1) := by decide +kernel
theorem d_M_playing_69 : decode b_M_playing 69 = .ok (.iaload, 1) := by decide +kernel
theorem d_M_playing_70 : decode b_M_playing 70 = .ok (.invokevirtual 471, 3) := by decide +kernel
theorem d_M_playing_73 : decode b_M_playing 73 = .ok (.goto (-58), 3) := by decide +kernel
theorem d_M_playing_76 : decode b_M_playing 76 = .ok (.iload_n 3, 1) := by decide +kernel
theorem d_M_playing_77 : decode b_M_playing 77 = .ok (.aload_n 0, 1) := by decide +kernel
theorem d_M_playing_78 : decode b_M_playing 78 = .ok (.getfield 7, 3) := by decide +kernel
theorem d_M_playing_81 : decode b_M_playing 81 = .ok (.iconst 2, 1) := by decide +kernel
theorem d_M_playing_82 : decode b_M_playing 82 = .ok (.iaload, 1) := by decide +kernel
theorem d_M_playing_83 : decode b_M_playing 83 = .ok (.if_icmp .ge 7, 3) := by decide +kernel
theorem d_M_playing_86 : decode b_M_playing 86 = .ok (.iconst 1, 1) := by decide +kernel
theorem d_M_playing_87 : decode b_M_playing 87 = .ok (.goto 4, 3) := by decide +kernel
theorem d_M_playing_90 : decode b_M_playing 90 = .ok (.iconst 0, 1) := by decide +kernel
theorem d_M_playing_91 : decode b_M_playing 91 = .ok (.istore 4, 2) := by decide +kernel
theorem d_M_playing_93 : decode b_M_playing 93 = .ok (.iload 4, 2) := by decide +kernel
theorem d_M_playing_95 : decode b_M_playing 95 = .ok (.ifCond .eq 20, 3) := by decide +kernel
theorem d_M_playing_98 : decode b_M_playing 98 = .ok (.aload_n 0, 1) := by decide +kernel
theorem d_M_playing_99 : decode b_M_playing 99 = .ok (.aload_n 0, 1) := by decide +kernel
theorem d_M_playing_100 : decode b_M_playing 100 = .ok (.getfield 90, 3) := by decide +kernel
theorem d_M_playing_103 : decode b_M_playing 103 = .ok (.iload_n 2, 1) := by decide +kernel
theorem d_M_playing_104 : decode b_M_playing 104 = .ok (.iaload, 1) := by decide +kernel
theorem d_M_playing_105 : decode b_M_playing 105 = .ok (.iload_n 3, 1) := by decide +kernel
theorem d_M_playing_106 : decode b_M_playing 106 = .ok (.invokevirtual 251, 3) := by decide +kernel
theorem d_M_playing_109 : decode b_M_playing 109 = .ok (.ifCond .eq 6, 3) := by decide +kernel
theorem d_M_playing_112 : decode b_M_playing 112 = .ok (.goto (-97), 3) := by decide +kernel
theorem d_M_playing_115 : decode b_M_playing 115 = .ok (.aload_n 0, 1) := by decide +kernel
theorem d_M_playing_116 : decode b_M_playing 116 = .ok (.getfield 87, 3) := by decide +kernel
theorem d_M_playing_119 : decode b_M_playing 119 = .ok (.iload_n 2, 1) := by decide +kernel
theorem d_M_playing_120 : decode b_M_playing 120 = .ok (.iaload, 1) := by decide +kernel
theorem d_M_playing_121 : decode b_M_playing 121 = .ok (.iload 4, 2) := by decide +kernel
theorem d_M_playing_123 : decode b_M_playing 123 = .ok (.ifCond .eq 17, 3) := by decide +kernel
theorem d_M_playing_126 : decode b_M_playing 126 = .ok (.iload_n 2, 1) := by decide +kernel
theorem d_M_playing_127 : decode b_M_playing 127 = .ok (.iconst 2, 1) := by decide +kernel
theorem d_M_playing_128 : decode b_M_playing 128 = .ok (.irem, 1) := by decide +kernel
theorem d_M_playing_129 : decode b_M_playing 129 = .ok (.ifCond .ne 11, 3) := by decide +kernel
theorem d_M_playing_132 : decode b_M_playing 132 = .ok (.aload_n 0, 1) := by decide +kernel
theorem d_M_playing_133 : decode b_M_playing 133 = .ok (.iload_n 3, 1) := by decide +kernel
theorem d_M_playing_134 : decode b_M_playing 134 = .ok (.invokevirtual 349, 3) := by decide +kernel
theorem d_M_playing_137 : decode b_M_playing 137 = .ok (.goto 4, 3) := by decide +kernel
theorem d_M_playing_140 : decode b_M_playing 140 = .ok (.iconst 0, 1) := by decide +kernel
theorem d_M_playing_141 : decode b_M_playing 141 = .ok (.iadd, 1) := by decide +kernel
theorem d_M_playing_142 : decode b_M_playing 142 = .ok (.istore 5, 2) := by decide +kernel
theorem d_M_playing_144 : decode b_M_playing 144 = .ok (.aload_n 0, 1) := by decide +kernel
theorem d_M_playing_145 : decode b_M_playing 145 = .ok (.getfield 90, 3) := by decide +kernel
theorem d_M_playing_148 : decode b_M_playing 148 = .ok (.iload_n 2, 1) := by decide +kernel
theorem d_M_playing_149 : decode b_M_playing 149 = .ok (.iaload, 1) := by decide +kernel
theorem d_M_playing_150 : decode b_M_playing 150 = .ok (.iload 4, 2) := by decide +kernel
theorem d_M_playing_152 : decode b_M_playing 152 = .ok (.ifCond .eq 16, 3) := by decide +kernel
theorem d_M_playing_155 : decode b_M_playing 155 = .ok (.iload_n 2, 1) := by decide +kernel
theorem d_M_playing_156 : decode b_M_playing 156 = .ok (.iconst 2, 1) := by decide +kernel
theorem d_M_playing_157 : decode b_M_playing 157 = .ok (.irem, 1) := by decide +kernel
theorem d_M_playing_158 : decode b_M_playing 158 = .ok (.iconst 1, 1) := by decide +kernel
theorem d_M_playing_159 : decode b_M_playing 159 = .ok (.if_icmp .ne 9, 3) := by decide +kernel
theorem d_M_playing_162 : decode b_M_playing 162 = .ok (.iconst 1, 1) := by decide +kernel
theorem d_M_playing_163 : decode b_M_playing 163 = .ok (.iload_n 3, 1) := by decide +kernel
theorem d_M_playing_164 : decode b_M_playing 164 = .ok (.ishl, 1) := by decide +kernel
theorem d_M_playing_165 : decode b_M_playing 165 = .ok (.goto 4, 3) := by decide +kernel
theorem d_M_playing_168 : decode b_M_playing 168 = .ok (.iconst 0, 1) := by decide +kernel
theorem d_M_playing_169 : decode b_M_playing 169 = .ok (.ior, 1) := by decide +kernel
theorem d_M_playing_170 : decode b_M_playing 170 = .ok (.istore 6, 2) := by decide +kernel
theorem d_M_playing_172 : decode b_M_playing 172 = .ok (.iload_n 2, 1) := by decide +kernel
theorem d_M_playing_173 : decode b_M_playing 173 = .ok (.iconst 1, 1) := by decide +kernel
theorem d_M_playing_174 : decode b_M_playing 174 = .ok (.iadd, 1) := by decide +kernel
theorem d_M_playing_175 : decode b_M_playing 175 = .ok (.iload_n 1, 1) := by decide +kernel
theorem d_M_playing_176 : decode b_M_playing 176 = .ok (.if_icmp .ne 13, 3) := by decide +kernel
theorem d_M_playing_179 : decode b_M_playing 179 = .ok (.aload_n 0, 1) := by decide +kernel
theorem d_M_playing_180 : decode b_M_playing 180 = .ok (.iload_n 2, 1) := by decide +kernel
theorem d_M_playing_181 : decode b_M_playing 181 = .ok (.iload 5, 2) := by decide +kernel
theorem d_M_playing_183 : decode b_M_playing 183 = .ok (.invokevirtual 471, 3) := by decide +kernel
theorem d_M_playing_186 : decode b_M_playing 186 = .ok (.goto 15, 3) := by decide +kernel
theorem d_M_playing_189 : decode b_M_playing 189 = .ok (.iinc 2 1, 3) := by decide +kernel
theorem d_M_playing_192 : decode b_M_playing 192 = .ok (.aload_n 0, 1) := by decide +kernel
theorem d_M_playing_193 : decode b_M_playing 193 = .ok (.iload_n 2, 1) := by decide +kernel
theorem d_M_playing_194 : decode b_M_playing 194 = .ok (.iload 5, 2) := by decide +kernel
theorem d_M_playing_196 : decode b_M_playing 196 = .ok (.iload 6, 2) := by decide +kernel
theorem d_M_playing_198 : decode b_M_playing 198 = .ok (.invokevirtual 467, 3) := by decide +kernel
theorem d_M_playing_201 : decode b_M_playing 201 = .ok (.goto (-186), 3) := by decide +kernel
theorem d_M_playing_204 : decode b_M_playing 204 = .ok (.aload_n 0, 1) := by decide +kernel
theorem d_M_playing_205 : decode b_M_playing 205 = .ok (.iconst 0, 1) := by decide +kernel
theorem d_M_playing_206 : decode b_M_playing 206 = .ok (.invokestatic 464, 3) := by decide +kernel
theorem d_M_playing_209 : decode b_M_playing 209 = .ok (.invokevirtual 377, 3) := by decide +kernel
theorem d_M_playing_212 : decode b_M_playing 212 = .ok (.aload_n 0, 1) := by decide +kernel
theorem d_M_playing_213 : decode b_M_playing 213 = .ok (.getfield 93, 3) := by decide +kernel
theorem d_M_playing_216 : decode b_M_playing 216 = .ok (.iconst 0, 1) := by decide +kernel
theorem d_M_playing_217 : decode b_M_playing 217 = .ok (.iaload, 1) := by decide +kernel
theorem d_M_playing_218 : decode b_M_playing 218 = .ok (.ireturn, 1) := by decide +kernel
theorem d_M_beginsAt_0 : decode b_M_beginsAt 0 = .ok (.aload_n 0, 1) := by decide +kernel
theorem d_M_beginsAt_1 : decode b_M_beginsAt 1 = .ok (.iload_n 1, 1) := by decide +kernel
theorem d_M_beginsAt_2 : decode b_M_beginsAt 2 = .ok (.invokestatic 464, 3) := by decide +kernel
theorem d_M_beginsAt_5 : decode b_M_beginsAt 5 = .ok (.invokevirtual 374, 3) := by decide +kernel
theorem d_M_beginsAt_8 : decode b_M_beginsAt 8 = .ok (.aload_n 0, 1) := by decide +kernel
theorem d_M_beginsAt_9 : decode b_M_beginsAt 9 = .ok (.getfield 84, 3) := by decide +kernel
theorem d_M_beginsAt_12 : decode b_M_beginsAt 12 = .ok (.iload_n 1, 1) := by decide +kernel
theorem d_M_beginsAt_13 : decode b_M_beginsAt 13 = .ok (.iconst (-1), 1) := by decide +kernel
theorem d_M_beginsAt_14 : decode b_M_beginsAt 14 = .ok (.iastore, 1) := by decide +kernel
theorem d_M_beginsAt_15 : decode b_M_beginsAt 15 = .ok (.aload_n 0, 1) := by decide +kernel
theorem d_M_beginsAt_16 : decode b_M_beginsAt 16 = .ok (.getfield 96, 3) := by decide +kernel
theorem d_M_beginsAt_19 : decode b_M_beginsAt 19 = .ok (.iload_n 1, 1) := by decide +kernel
theorem d_M_beginsAt_20 : decode b_M_beginsAt 20 = .ok (.iconst (-1), 1) := by decide +kernel
theorem d_M_beginsAt_21 : decode b_M_beginsAt 21 = .ok (.iastore, 1) := by decide +kernel
theorem d_M_beginsAt_22 : decode b_M_beginsAt 22 = .ok (.aload_n 0, 1) := by decide +kernel
theorem d_M_beginsAt_23 : decode b_M_beginsAt 23 = .ok (.getfield 87, 3) := by decide +kernel
theorem d_M_beginsAt_26 : decode b_M_beginsAt 26 = .ok (.iload_n 1, 1) := by decide +kernel
theorem d_M_beginsAt_27 : decode b_M_beginsAt 27 = .ok (.iload_n 2, 1) := by decide +kernel
theorem d_M_beginsAt_28 : decode b_M_beginsAt 28 = .ok (.iastore, 1) := by decide +kernel
theorem d_M_beginsAt_29 : decode b_M_beginsAt 29 = .ok (.aload_n 0, 1) := by decide +kernel
theorem d_M_beginsAt_30 : decode b_M_beginsAt 30 = .ok (.getfield 90, 3) := by decide +kernel
theorem d_M_beginsAt_33 : decode b_M_beginsAt 33 = .ok (.iload_n 1, 1) := by decide +kernel
theorem d_M_beginsAt_34 : decode b_M_beginsAt 34 = .ok (.iload_n 3, 1) := by decide +kernel
theorem d_M_beginsAt_35 : decode b_M_beginsAt 35 = .ok (.iastore, 1) := by decide +kernel
theorem d_M_beginsAt_36 : decode b_M_beginsAt 36 = .ok (.return_, 1) := by decide +kernel
theorem d_M_levelAt_0 : decode b_M_levelAt 0 = .ok (.sipush 2068, 3) := by decide +kernel
theorem d_M_levelAt_3 : decode b_M_levelAt 3 = .ok (.bipush 38, 2) := by decide +kernel
theorem d_M_levelAt_5 : decode b_M_levelAt 5 = .ok (.iload_n 0, 1) := by decide +kernel
theorem d_M_levelAt_6 : decode b_M_levelAt 6 = .ok (.imul, 1) := by decide +kernel
theorem d_M_levelAt_7 : decode b_M_levelAt 7 = .ok (.iadd, 1) := by decide +kernel
theorem d_M_levelAt_8 : decode b_M_levelAt 8 = .ok (.ireturn, 1) := by decide +kernel
theorem d_M_settles_0 : decode b_M_settles 0 = .ok (.aload_n 0, 1) := by decide +kernel
theorem d_M_settles_1 : decode b_M_settles 1 = .ok (.getfield 96, 3) := by decide +kernel
theorem d_M_settles_4 : decode b_M_settles 4 = .ok (.iload_n 1, 1) := by decide +kernel
theorem d_M_settles_5 : decode b_M_settles 5 = .ok (.iaload, 1) := by decide +kernel
theorem d_M_settles_6 : decode b_M_settles 6 = .ok (.iconst (-1), 1) := by decide +kernel
theorem d_M_settles_7 : decode b_M_settles 7 = .ok (.if_icmp .ne 7, 3) := by decide +kernel
theorem d_M_settles_10 : decode b_M_settles 10 = .ok (.iconst 1, 1) := by decide +kernel
theorem d_M_settles_11 : decode b_M_settles 11 = .ok (.goto 4, 3) := by decide +kernel
theorem d_M_settles_14 : decode b_M_settles 14 = .ok (.iconst 0, 1) := by decide +kernel
theorem d_M_settles_15 : decode b_M_settles 15 = .ok (.istore_n 3, 1) := by decide +kernel
theorem d_M_settles_16 : decode b_M_settles 16 = .ok (.iload_n 3, 1) := by decide +kernel
theorem d_M_settles_17 : decode b_M_settles 17 = .ok (.ifCond .ne 33, 3) := by decide +kernel
theorem d_M_settles_20 : decode b_M_settles 20 = .ok (.iload_n 1, 1) := by decide +kernel
theorem d_M_settles_21 : decode b_M_settles 21 = .ok (.iconst 2, 1) := by decide +kernel
theorem d_M_settles_22 : decode b_M_settles 22 = .ok (.irem, 1) := by decide +kernel
theorem d_M_settles_23 : decode b_M_settles 23 = .ok (.ifCond .ne 16, 3) := by decide +kernel
theorem d_M_settles_26 : decode b_M_settles 26 = .ok (.iload_n 2, 1) := by decide +kernel
theorem d_M_settles_27 : decode b_M_settles 27 = .ok (.aload_n 0, 1) := by decide +kernel
theorem d_M_settles_28 : decode b_M_settles 28 = .ok (.getfield 93, 3) := by decide +kernel
theorem d_M_settles_31 : decode b_M_settles 31 = .ok (.iload_n 1, 1) := by decide +kernel
theorem d_M_settles_32 : decode b_M_settles 32 = .ok (.iaload, 1) := by decide +kernel
theorem d_M_settles_33 : decode b_M_settles 33 = .ok (.if_icmp .gt 17, 3) := by decide +kernel
theorem d_M_settles_36 : decode b_M_settles 36 = .ok (.goto 13, 3) := by decide +kernel
theorem d_M_settles_39 : decode b_M_settles 39 = .ok (.iload_n 2, 1) := by decide +kernel
theorem d_M_settles_40 : decode b_M_settles 40 = .ok (.aload_n 0, 1) := by decide +kernel
theorem d_M_settles_41 : decode b_M_settles 41 = .ok (.getfield 93, 3) := by decide +kernel
theorem d_M_settles_44 : decode b_M_settles 44 = .ok (.iload_n 1, 1) := by decide +kernel
theorem d_M_settles_45 : decode b_M_settles 45 = .ok (.iaload, 1) := by decide +kernel
theorem d_M_settles_46 : decode b_M_settles 46 = .ok (.if_icmp .lt 4, 3) := by decide +kernel
theorem d_M_settles_49 : decode b_M_settles 49 = .ok (.return_, 1) := by decide +kernel
theorem d_M_settles_50 : decode b_M_settles 50 = .ok (.aload_n 0, 1) := by decide +kernel
theorem d_M_settles_51 : decode b_M_settles 51 = .ok (.getfield 93, 3) := by decide +kernel
theorem d_M_settles_54 : decode b_M_settles 54 = .ok (.iload_n 1, 1) := by decide +kernel
theorem d_M_settles_55 : decode b_M_settles 55 = .ok (.iload_n 2, 1) := by decide +kernel
theorem d_M_settles_56 : decode b_M_settles 56 = .ok (.iastore, 1) := by decide +kernel
theorem d_M_settles_57 : decode b_M_settles 57 = .ok (.aload_n 0, 1) := by decide +kernel
theorem d_M_settles_58 : decode b_M_settles 58 = .ok (.getfield 96, 3) := by decide +kernel
theorem d_M_settles_61 : decode b_M_settles 61 = .ok (.iload_n 1, 1) := by decide +kernel
theorem d_M_settles_62 : decode b_M_settles 62 = .ok (.aload_n 0, 1) := by decide +kernel
theorem d_M_settles_63 : decode b_M_settles 63 = .ok (.getfield 84, 3) := by decide +kernel
theorem d_M_settles_66 : decode b_M_settles 66 = .ok (.iload_n 1, 1) := by decide +kernel
theorem d_M_settles_67 : decode b_M_settles 67 = .ok (.iaload, 1) := by decide +kernel
theorem d_M_settles_68 : decode b_M_settles 68 = .ok (.iastore, 1) := by decide +kernel
theorem d_M_settles_69 : decode b_M_settles 69 = .ok (.return_, 1) := by decide +kernel
theorem d_M_moveOf_0 : decode b_M_moveOf 0 = .ok (.iload_n 1, 1) := by decide +kernel
theorem d_M_moveOf_1 : decode b_M_moveOf 1 = .ok (.i2l, 1) := by decide +kernel
theorem d_M_moveOf_2 : decode b_M_moveOf 2 = .ok (.lconst 1, 1) := by decide +kernel
theorem d_M_moveOf_3 : decode b_M_moveOf 3 = .ok (.ldc2_w 419, 3) := by decide +kernel
theorem d_M_moveOf_6 : decode b_M_moveOf 6 = .ok (.invokestatic 306, 3) := by decide +kernel
theorem d_M_moveOf_9 : decode b_M_moveOf 9 = .ok (.ifCond .ne 9, 3) := by decide +kernel
theorem d_M_moveOf_12 : decode b_M_moveOf 12 = .ok (.aload_n 0, 1) := by decide +kernel
theorem d_M_moveOf_13 : decode b_M_moveOf 13 = .ok (.iconst 1, 1) := by decide +kernel
theorem d_M_moveOf_14 : decode b_M_moveOf 14 = .ok (.invokevirtual 121, 3) := by decide +kernel
theorem d_M_moveOf_17 : decode b_M_moveOf 17 = .ok (.ireturn, 1) := by decide +kernel
theorem d_M_moveOf_18 : decode b_M_moveOf 18 = .ok (.aload_n 0, 1) := by decide +kernel
theorem d_M_moveOf_19 : decode b_M_moveOf 19 = .ok (.iload_n 1, 1) := by decide +kernel
theorem d_M_moveOf_20 : decode b_M_moveOf 20 = .ok (.invokevirtual 474, 3) := by decide +kernel
theorem d_M_moveOf_23 : decode b_M_moveOf 23 = .ok (.pop, 1) := by decide +kernel
theorem d_M_moveOf_24 : decode b_M_moveOf 24 = .ok (.aload_n 0, 1) := by decide +kernel
theorem d_M_moveOf_25 : decode b_M_moveOf 25 = .ok (.getfield 96, 3) := by decide +kernel
theorem d_M_moveOf_28 : decode b_M_moveOf 28 = .ok (.iconst 0, 1) := by decide +kernel
theorem d_M_moveOf_29 : decode b_M_moveOf 29 = .ok (.iaload, 1) := by decide +kernel
theorem d_M_moveOf_30 : decode b_M_moveOf 30 = .ok (.aload_n 0, 1) := by decide +kernel
theorem d_M_moveOf_31 : decode b_M_moveOf 31 = .ok (.getfield 7, 3) := by decide +kernel
theorem d_M_moveOf_34 : decode b_M_moveOf 34 = .ok (.iconst 2, 1) := by decide +kernel
theorem d_M_moveOf_35 : decode b_M_moveOf 35 = .ok (.iaload, 1) := by decide +kernel
theorem d_M_moveOf_36 : decode b_M_moveOf 36 = .ok (.if_icmp .ne 12, 3) := by decide +kernel
theorem d_M_moveOf_39 : decode b_M_moveOf 39 = .ok (.aload_n 0, 1) := by decide +kernel
theorem d_M_moveOf_40 : decode b_M_moveOf 40 = .ok (.bipush 6, 2) := by decide +kernel
theorem d_M_moveOf_42 : decode b_M_moveOf 42 = .ok (.invokevirtual 121, 3) := by decide +kernel
theorem d_M_moveOf_45 : decode b_M_moveOf 45 = .ok (.goto 13, 3) := by decide +kernel
theorem d_M_moveOf_48 : decode b_M_moveOf 48 = .ok (.aload_n 0, 1) := by decide +kernel
theorem d_M_moveOf_49 : decode b_M_moveOf 49 = .ok (.aload_n 0, 1) := by decide +kernel
theorem d_M_moveOf_50 : decode b_M_moveOf 50 = .ok (.getfield 96, 3) := by decide +kernel
theorem d_M_moveOf_53 : decode b_M_moveOf 53 = .ok (.iconst 0, 1) := by decide +kernel
theorem d_M_moveOf_54 : decode b_M_moveOf 54 = .ok (.iaload, 1) := by decide +kernel
theorem d_M_moveOf_55 : decode b_M_moveOf 55 = .ok (.invokevirtual 125, 3) := by decide +kernel
theorem d_M_moveOf_58 : decode b_M_moveOf 58 = .ok (.ireturn, 1) := by decide +kernel
theorem d_M_crowd_0 : decode b_M_crowd 0 = .ok (.iload_n 1, 1) := by decide +kernel
theorem d_M_crowd_1 : decode b_M_crowd 1 = .ok (.i2l, 1) := by decide +kernel
theorem d_M_crowd_2 : decode b_M_crowd 2 = .ok (.lconst 0, 1) := by decide +kernel
theorem d_M_crowd_3 : decode b_M_crowd 3 = .ok (.ldc2_w 477, 3) := by decide +kernel
theorem d_M_crowd_6 : decode b_M_crowd 6 = .ok (.invokestatic 306, 3) := by decide +kernel
theorem d_M_crowd_9 : decode b_M_crowd 9 = .ok (.ifCond .ne 9, 3) := by decide +kernel
theorem d_M_crowd_12 : decode b_M_crowd 12 = .ok (.aload_n 0, 1) := by decide +kernel
theorem d_M_crowd_13 : decode b_M_crowd 13 = .ok (.iconst 1, 1) := by decide +kernel
theorem d_M_crowd_14 : decode b_M_crowd 14 = .ok (.invokevirtual 128, 3) := by decide +kernel
theorem d_M_crowd_17 : decode b_M_crowd 17 = .ok (.ireturn, 1) := by decide +kernel
theorem d_M_crowd_18 : decode b_M_crowd 18 = .ok (.lconst 1, 1) := by decide +kernel
theorem d_M_crowd_19 : decode b_M_crowd 19 = .ok (.lstore_n 2, 1) := by decide +kernel
theorem d_M_crowd_20 : decode b_M_crowd 20 = .ok (.iconst 0, 1) := by decide +kernel
theorem d_M_crowd_21 : decode b_M_crowd 21 = .ok (.istore 4, 2) := by decide +kernel
theorem d_M_crowd_23 : decode b_M_crowd 23 = .ok (.iload 4, 2) := by decide +kernel
theorem d_M_crowd_25 : decode b_M_crowd 25 = .ok (.bipush 7, 2) := by decide +kernel
theorem d_M_crowd_27 : decode b_M_crowd 27 = .ok (.if_icmp .ge 26, 3) := by decide +kernel
theorem d_M_crowd_30 : decode b_M_crowd 30 = .ok (.aload_n 0, 1) := by decide +kernel
theorem d_M_crowd_31 : decode b_M_crowd 31 = .ok (.getfield 99, 3) := by decide +kernel
theorem d_M_crowd_34 : decode b_M_crowd 34 = .ok (.iload 4, 2) := by decide +kernel
theorem d_M_crowd_36 : decode b_M_crowd 36 = .ok (.iload 4, 2) := by decide +kernel
theorem d_M_crowd_38 : decode b_M_crowd 38 = .ok (.ifCond .ne 7, 3) := by decide +kernel
theorem d_M_crowd_41 : decode b_M_crowd 41 = .ok (.lconst 1, 1) := by decide +kernel
theorem d_M_crowd_42 : decode b_M_crowd 42 = .ok (.goto 4, 3) := by decide +kernel
theorem d_M_crowd_45 : decode b_M_crowd 45 = .ok (.lconst 0, 1) := by decide +kernel
theorem d_M_crowd_46 : decode b_M_crowd 46 = .ok (.lastore, 1) := by decide +kernel
theorem d_M_crowd_47 : decode b_M_crowd 47 = .ok (.iinc 4 1, 3) := by decide +kernel
theorem d_M_crowd_50 : decode b_M_crowd 50 = .ok (.goto (-27), 3) := by decide +kernel
theorem d_M_crowd_53 : decode b_M_crowd 53 = .ok (.iconst 0, 1) := by decide +kernel
theorem d_M_crowd_54 : decode b_M_crowd 54 = .ok (.istore 4, 2) := by decide +kernel
theorem d_M_crowd_56 : decode b_M_crowd 56 = .ok (.iload 4, 2) := by decide +kernel
theorem d_M_crowd_58 : decode b_M_crowd 58 = .ok (.aload_n 0, 1) := by decide +kernel
theorem d_M_crowd_59 : decode b_M_crowd 59 = .ok (.getfield 7, 3) := by decide +kernel
theorem d_M_crowd_62 : decode b_M_crowd 62 = .ok (.iconst 3, 1) := by decide +kernel
theorem d_M_crowd_63 : decode b_M_crowd 63 = .ok (.iaload, 1) := by decide +kernel
theorem d_M_crowd_64 : decode b_M_crowd 64 = .ok (.if_icmp .ge 82, 3) := by decide +kernel
theorem d_M_crowd_67 : decode b_M_crowd 67 = .ok (.bipush 6, 2) := by decide +kernel
theorem d_M_crowd_69 : decode b_M_crowd 69 = .ok (.istore 5, 2) := by decide +kernel
theorem d_M_crowd_71 : decode b_M_crowd 71 = .ok (.iload 5, 2) := by decide +kernel
theorem d_M_crowd_73 : decode b_M_crowd 73 = .ok (.ifCond .lt 61, 3) := by decide +kernel
theorem d_M_crowd_76 : decode b_M_crowd 76 = .ok (.aload_n 0, 1) := by decide +kernel
theorem d_M_crowd_77 : decode b_M_crowd 77 = .ok (.getfield 99, 3) := by decide +kernel
theorem d_M_crowd_80 : decode b_M_crowd 80 = .ok (.iload 5, 2) := by decide +kernel
theorem d_M_crowd_82 : decode b_M_crowd 82 = .ok (.aload_n 0, 1) := by decide +kernel
theorem d_M_crowd_83 : decode b_M_crowd 83 = .ok (.getfield 99, 3) := by decide +kernel
theorem d_M_crowd_86 : decode b_M_crowd 86 = .ok (.iload 5, 2) := by decide +kernel
theorem d_M_crowd_88 : decode b_M_crowd 88 = .ok (.laload, 1) := by decide +kernel
theorem d_M_crowd_89 : decode b_M_crowd 89 = .ok (.bipush 16, 2) := by decide +kernel
theorem d_M_crowd_91 : decode b_M_crowd 91 = .ok (.aload_n 0, 1) := by decide +kernel
theorem d_M_crowd_92 : decode b_M_crowd 92 = .ok (.getfield 7, 3) := by decide +kernel
theorem d_M_crowd_95 : decode b_M_crowd 95 = .ok (.iconst 5, 1) := by decide +kernel
theorem d_M_crowd_96 : decode b_M_crowd 96 = .ok (.iaload, 1) := by decide +kernel
theorem d_M_crowd_97 : decode b_M_crowd 97 = .ok (.isub, 1) := by decide +kernel
theorem d_M_crowd_98 : decode b_M_crowd 98 = .ok (.i2l, 1) := by decide +kernel
theorem d_M_crowd_99 : decode b_M_crowd 99 = .ok (.lmul, 1) := by decide +kernel
theorem d_M_crowd_100 : decode b_M_crowd 100 = .ok (.iload 5, 2) := by decide +kernel
theorem d_M_crowd_102 : decode b_M_crowd 102 = .ok (.ifCond .ne 7, 3) := by decide +kernel
theorem d_M_crowd_105 : decode b_M_crowd 105 = .ok (.lconst 0, 1) := by decide +kernel
theorem d_M_crowd_106 : decode b_M_crowd 106 = .ok (.goto 20, 3) := by decide +kernel
theorem d_M_crowd_109 : decode b_M_crowd 109 = .ok (.aload_n 0, 1) := by decide +kernel
theorem d_M_crowd_110 : decode b_M_crowd 110 = .ok (.getfield 99, 3) := by decide +kernel
theorem d_M_crowd_113 : decode b_M_crowd 113 = .ok (.iload 5, 2) := by decide +kernel
theorem d_M_crowd_115 : decode b_M_crowd 115 = .ok (.iconst 1, 1) := by decide +kernel
theorem d_M_crowd_116 : decode b_M_crowd 116 = .ok (.isub, 1) := by decide +kernel
theorem d_M_crowd_117 : decode b_M_crowd 117 = .ok (.laload, 1) := by decide +kernel
theorem d_M_crowd_118 : decode b_M_crowd 118 = .ok (.aload_n 0, 1) := by decide +kernel
theorem d_M_crowd_119 : decode b_M_crowd 119 = .ok (.getfield 7, 3) := by decide +kernel
theorem d_M_crowd_122 : decode b_M_crowd 122 = .ok (.iconst 5, 1) := by decide +kernel
theorem d_M_crowd_123 : decode b_M_crowd 123 = .ok (.iaload, 1) := by decide +kernel
theorem d_M_crowd_124 : decode b_M_crowd 124 = .ok (.i2l, 1) := by decide +kernel
theorem d_M_crowd_125 : decode b_M_crowd 125 = .ok (.lmul, 1) := by decide +kernel
theorem d_M_crowd_126 : decode b_M_crowd 126 = .ok (.ladd, 1) := by decide +kernel
theorem d_M_crowd_127 : decode b_M_crowd 127 = .ok (.lastore, 1) := by decide +kernel
theorem d_M_crowd_128 : decode b_M_crowd 128 = .ok (.iinc 5 (-1), 3) := by decide +kernel
theorem d_M_crowd_131 : decode b_M_crowd 131 = .ok (.goto (-60), 3) := by decide +kernel
theorem d_M_crowd_134 : decode b_M_crowd 134 = .ok (.lload_n 2, 1) := by decide +kernel
theorem d_M_crowd_135 : decode b_M_crowd 135 = .ok (.ldc2_w 372, 3) := by decide +kernel
theorem d_M_crowd_138 : decode b_M_crowd 138 = .ok (.lmul, 1) := by decide +kernel
theorem d_M_crowd_139 : decode b_M_crowd 139 = .ok (.lstore_n 2, 1) := by decide +kernel
theorem d_M_crowd_140 : decode b_M_crowd 140 = .ok (.iinc 4 1, 3) := by decide +kernel
theorem d_M_crowd_143 : decode b_M_crowd 143 = .ok (.goto (-87), 3) := by decide +kernel
theorem d_M_crowd_146 : decode b_M_crowd 146 = .ok (.lconst 0, 1) := by decide +kernel
theorem d_M_crowd_147 : decode b_M_crowd 147 = .ok (.lstore 4, 2) := by decide +kernel
theorem d_M_crowd_149 : decode b_M_crowd 149 = .ok (.iload_n 1, 1) := by decide +kernel
theorem d_M_crowd_150 : decode b_M_crowd 150 = .ok (.istore 6, 2) := by decide +kernel
theorem d_M_crowd_152 : decode b_M_crowd 152 = .ok (.iload 6, 2) := by decide +kernel
theorem d_M_crowd_154 : decode b_M_crowd 154 = .ok (.bipush 7, 2) := by decide +kernel
theorem d_M_crowd_156 : decode b_M_crowd 156 = .ok (.if_icmp .ge 21, 3) := by decide +kernel
theorem d_M_crowd_159 : decode b_M_crowd 159 = .ok (.lload 4, 2) := by decide +kernel
theorem d_M_crowd_161 : decode b_M_crowd 161 = .ok (.aload_n 0, 1) := by decide +kernel
theorem d_M_crowd_162 : decode b_M_crowd 162 = .ok (.getfield 99, 3) := by decide +kernel
theorem d_M_crowd_165 : decode b_M_crowd 165 = .ok (.iload 6, 2) := by decide +kernel
theorem d_M_crowd_167 : decode b_M_crowd 167 = .ok (.laload, 1) := by decide +kernel
theorem d_M_crowd_168 : decode b_M_crowd 168 = .ok (.ladd, 1) := by decide +kernel
theorem d_M_crowd_169 : decode b_M_crowd 169 = .ok (.lstore 4, 2) := by decide +kernel
theorem d_M_crowd_171 : decode b_M_crowd 171 = .ok (.iinc 6 1, 3) := by decide +kernel
theorem d_M_crowd_174 : decode b_M_crowd 174 = .ok (.goto (-22), 3) := by decide +kernel
theorem d_M_crowd_177 : decode b_M_crowd 177 = .ok (.aload_n 0, 1) := by decide +kernel
theorem d_M_crowd_178 : decode b_M_crowd 178 = .ok (.lload 4, 2) := by decide +kernel
theorem d_M_crowd_180 : decode b_M_crowd 180 = .ok (.lload_n 2, 1) := by decide +kernel
theorem d_M_crowd_181 : decode b_M_crowd 181 = .ok (.invokevirtual 427, 3) := by decide +kernel
theorem d_M_crowd_184 : decode b_M_crowd 184 = .ok (.ireturn, 1) := by decide +kernel
theorem d_M_share_0 : decode b_M_share 0 = .ok (.aload_n 0, 1) := by decide +kernel
theorem d_M_share_1 : decode b_M_share 1 = .ok (.iload_n 1, 1) := by decide +kernel
theorem d_M_share_2 : decode b_M_share 2 = .ok (.invokevirtual 328, 3) := by decide +kernel
theorem d_M_share_5 : decode b_M_share 5 = .ok (.ifCond .ne 9, 3) := by decide +kernel
theorem d_M_share_8 : decode b_M_share 8 = .ok (.aload_n 0, 1) := by decide +kernel
theorem d_M_share_9 : decode b_M_share 9 = .ok (.iconst 1, 1) := by decide +kernel
theorem d_M_share_10 : decode b_M_share 10 = .ok (.invokevirtual 128, 3) := by decide +kernel
theorem d_M_share_13 : decode b_M_share 13 = .ok (.ireturn, 1) := by decide +kernel
theorem d_M_share_14 : decode b_M_share 14 = .ok (.aload_n 0, 1) := by decide +kernel
theorem d_M_share_15 : decode b_M_share 15 = .ok (.invokevirtual 479, 3) := by decide +kernel
theorem d_M_share_18 : decode b_M_share 18 = .ok (.ifCond .ne 12, 3) := by decide +kernel
theorem d_M_share_21 : decode b_M_share 21 = .ok (.aload_n 0, 1) := by decide +kernel
theorem d_M_share_22 : decode b_M_share 22 = .ok (.bipush 6, 2) := by decide +kernel
theorem d_M_share_24 : decode b_M_share 24 = .ok (.invokevirtual 128, 3) := by decide +kernel
theorem d_M_share_27 : decode b_M_share 27 = .ok (.goto 19, 3) := by decide +kernel
theorem d_M_share_30 : decode b_M_share 30 = .ok (.aload_n 0, 1) := by decide +kernel
theorem d_M_share_31 : decode b_M_share 31 = .ok (.aload_n 0, 1) := by decide +kernel
theorem d_M_share_32 : decode b_M_share 32 = .ok (.iload_n 1, 1) := by decide +kernel
theorem d_M_share_33 : decode b_M_share 33 = .ok (.iconst 2, 1) := by decide +kernel
theorem d_M_share_34 : decode b_M_share 34 = .ok (.invokevirtual 313, 3) := by decide +kernel
theorem d_M_share_37 : decode b_M_share 37 = .ok (.i2l, 1) := by decide +kernel
theorem d_M_share_38 : decode b_M_share 38 = .ok (.aload_n 0, 1) := by decide +kernel
theorem d_M_share_39 : decode b_M_share 39 = .ok (.invokevirtual 479, 3) := by decide +kernel
theorem d_M_share_42 : decode b_M_share 42 = .ok (.i2l, 1) := by decide +kernel
theorem d_M_share_43 : decode b_M_share 43 = .ok (.invokevirtual 427, 3) := by decide +kernel
theorem d_M_share_46 : decode b_M_share 46 = .ok (.ireturn, 1) := by decide +kernel
theorem d_M_allCoins_0 : decode b_M_allCoins 0 = .ok (.iconst 0, 1) := by decide +kernel
theorem d_M_allCoins_1 : decode b_M_allCoins 1 = .ok (.istore_n 1, 1) := by decide +kernel
theorem d_M_allCoins_2 : decode b_M_allCoins 2 = .ok (.iconst 0, 1) := by decide +kernel
theorem d_M_allCoins_3 : decode b_M_allCoins 3 = .ok (.istore_n 2, 1) := by decide +kernel
theorem d_M_allCoins_4 : decode b_M_allCoins 4 = .ok (.iload_n 2, 1) := by decide +kernel
theorem d_M_allCoins_5 : decode b_M_allCoins 5 = .ok (.aload_n 0, 1) := by decide +kernel
theorem d_M_allCoins_6 : decode b_M_allCoins 6 = .ok (.getfield 7, 3) := by decide +kernel
theorem d_M_allCoins_9 : decode b_M_allCoins 9 = .ok (.iconst 3, 1) := by decide +kernel
theorem d_M_allCoins_10 : decode b_M_allCoins 10 = .ok (.iaload, 1) := by decide +kernel
theorem d_M_allCoins_11 : decode b_M_allCoins 11 = .ok (.if_icmp .ge 18, 3) := by decide +kernel
theorem d_M_allCoins_14 : decode b_M_allCoins 14 = .ok (.iload_n 1, 1) := by decide +kernel
theorem d_M_allCoins_15 : decode b_M_allCoins 15 = .ok (.aload_n 0, 1) := by decide +kernel
theorem d_M_allCoins_16 : decode b_M_allCoins 16 = .ok (.iload_n 2, 1) := by decide +kernel
theorem d_M_allCoins_17 : decode b_M_allCoins 17 = .ok (.iconst 2, 1) := by decide +kernel
theorem d_M_allCoins_18 : decode b_M_allCoins 18 = .ok (.invokevirtual 313, 3) := by decide +kernel
theorem d_M_allCoins_21 : decode b_M_allCoins 21 = .ok (.iadd, 1) := by decide +kernel
theorem d_M_allCoins_22 : decode b_M_allCoins 22 = .ok (.istore_n 1, 1) := by decide +kernel
theorem d_M_allCoins_23 : decode b_M_allCoins 23 = .ok (.iinc 2 1, 3) := by decide +kernel
theorem d_M_allCoins_26 : decode b_M_allCoins 26 = .ok (.goto (-22), 3) := by decide +kernel
theorem d_M_allCoins_29 : decode b_M_allCoins 29 = .ok (.iload_n 1, 1) := by decide +kernel
theorem d_M_allCoins_30 : decode b_M_allCoins 30 = .ok (.ireturn, 1) := by decide +kernel
theorem d_M_copyCells_0 : decode b_M_copyCells 0 = .ok (.iload_n 1, 1) := by decide +kernel
theorem d_M_copyCells_1 : decode b_M_copyCells 1 = .ok (.invokestatic 132, 3) := by decide +kernel
theorem d_M_copyCells_4 : decode b_M_copyCells 4 = .ok (.ifCond .ne 9, 3) := by decide +kernel
theorem d_M_copyCells_7 : decode b_M_copyCells 7 = .ok (.aload_n 0, 1) := by decide +kernel
theorem d_M_copyCells_8 : decode b_M_copyCells 8 = .ok (.iconst 1, 1) := by decide +kernel
theorem d_M_copyCells_9 : decode b_M_copyCells 9 = .ok (.invokevirtual 121, 3) := by decide +kernel
theorem d_M_copyCells_12 : decode b_M_copyCells 12 = .ok (.ireturn, 1) := by decide +kernel
theorem d_M_copyCells_13 : decode b_M_copyCells 13 = .ok (.aload_n 0, 1) := by decide +kernel
theorem d_M_copyCells_14 : decode b_M_copyCells 14 = .ok (.getfield 24, 3) := by decide +kernel
theorem d_M_copyCells_17 : decode b_M_copyCells 17 = .ok (.iload_n 1, 1) := by decide +kernel
theorem d_M_copyCells_18 : decode b_M_copyCells 18 = .ok (.iaload, 1) := by decide +kernel
theorem d_M_copyCells_19 : decode b_M_copyCells 19 = .ok (.iconst (-1), 1) := by decide +kernel
theorem d_M_copyCells_20 : decode b_M_copyCells 20 = .ok (.if_icmp .ne 9, 3) := by decide +kernel
theorem d_M_copyCells_23 : decode b_M_copyCells 23 = .ok (.aload_n 0, 1) := by decide +kernel
theorem d_M_copyCells_24 : decode b_M_copyCells 24 = .ok (.iconst 2, 1) := by decide +kernel
theorem d_M_copyCells_25 : decode b_M_copyCells 25 = .ok (.invokevirtual 121, 3) := by decide +kernel
theorem d_M_copyCells_28 : decode b_M_copyCells 28 = .ok (.ireturn, 1) := by decide +kernel
theorem d_M_copyCells_29 : decode b_M_copyCells 29 = .ok (.aload_n 0, 1) := by decide +kernel
theorem d_M_copyCells_30 : decode b_M_copyCells 30 = .ok (.getfield 24, 3) := by decide +kernel
theorem d_M_copyCells_33 : decode b_M_copyCells 33 = .ok (.iload_n 1, 1) := by decide +kernel
theorem d_M_copyCells_34 : decode b_M_copyCells 34 = .ok (.iaload, 1) := by decide +kernel
theorem d_M_copyCells_35 : decode b_M_copyCells 35 = .ok (.aload_n 0, 1) := by decide +kernel
theorem d_M_copyCells_36 : decode b_M_copyCells 36 = .ok (.getfield 7, 3) := by decide +kernel
theorem d_M_copyCells_39 : decode b_M_copyCells 39 = .ok (.iconst 3, 1) := by decide +kernel
theorem d_M_copyCells_40 : decode b_M_copyCells 40 = .ok (.iaload, 1) := by decide +kernel
theorem d_M_copyCells_41 : decode b_M_copyCells 41 = .ok (.if_icmp .ge 9, 3) := by decide +kernel
theorem d_M_copyCells_44 : decode b_M_copyCells 44 = .ok (.aload_n 0, 1) := by decide +kernel
theorem d_M_copyCells_45 : decode b_M_copyCells 45 = .ok (.iconst 3, 1) := by decide +kernel
theorem d_M_copyCells_46 : decode b_M_copyCells 46 = .ok (.invokevirtual 121, 3) := by decide +kernel
theorem d_M_copyCells_49 : decode b_M_copyCells 49 = .ok (.ireturn, 1) := by decide +kernel
theorem d_M_copyCells_50 : decode b_M_copyCells 50 = .ok (.iconst 0, 1) := by decide +kernel
theorem d_M_copyCells_51 : decode b_M_copyCells 51 = .ok (.istore_n 2, 1) := by decide +kernel
theorem d_M_copyCells_52 : decode b_M_copyCells 52 = .ok (.iload_n 2, 1) := by decide +kernel
theorem d_M_copyCells_53 : decode b_M_copyCells 53 = .ok (.aload_n 0, 1) := by decide +kernel
theorem d_M_copyCells_54 : decode b_M_copyCells 54 = .ok (.getfield 7, 3) := by decide +kernel
theorem d_M_copyCells_57 : decode b_M_copyCells 57 = .ok (.iconst 3, 1) := by decide +kernel
theorem d_M_copyCells_58 : decode b_M_copyCells 58 = .ok (.iaload, 1) := by decide +kernel
theorem d_M_copyCells_59 : decode b_M_copyCells 59 = .ok (.if_icmp .ge 36, 3) := by decide +kernel
theorem d_M_copyCells_62 : decode b_M_copyCells 62 = .ok (.aload_n 0, 1) := by decide +kernel
theorem d_M_copyCells_63 : decode b_M_copyCells 63 = .ok (.getfield 27, 3) := by decide +kernel
theorem d_M_copyCells_66 : decode b_M_copyCells 66 = .ok (.bipush 60, 2) := by decide +kernel
theorem d_M_copyCells_68 : decode b_M_copyCells 68 = .ok (.iload_n 1, 1) := by decide +kernel
theorem d_M_copyCells_69 : decode b_M_copyCells 69 = .ok (.imul, 1) := by decide +kernel
theorem d_M_copyCells_70 : decode b_M_copyCells 70 = .ok (.iload_n 2, 1) := by decide +kernel
theorem d_M_copyCells_71 : decode b_M_copyCells 71 = .ok (.iadd, 1) := by decide +kernel
theorem d_M_copyCells_72 : decode b_M_copyCells 72 = .ok (.aload_n 0, 1) := by decide +kernel
theorem d_M_copyCells_73 : decode b_M_copyCells 73 = .ok (.iload_n 2, 1) := by decide +kernel
theorem d_M_copyCells_74 : decode b_M_copyCells 74 = .ok (.iconst 0, 1) := by decide +kernel
theorem d_M_copyCells_75 : decode b_M_copyCells 75 = .ok (.invokevirtual 313, 3) := by decide +kernel
theorem d_M_copyCells_78 : decode b_M_copyCells 78 = .ok (.i2l, 1) := by decide +kernel
theorem d_M_copyCells_79 : decode b_M_copyCells 79 = .ok (.aload_n 0, 1) := by decide +kernel
theorem d_M_copyCells_80 : decode b_M_copyCells 80 = .ok (.getfield 21, 3) := by decide +kernel
theorem d_M_copyCells_83 : decode b_M_copyCells 83 = .ok (.iload_n 1, 1) := by decide +kernel
theorem d_M_copyCells_84 : decode b_M_copyCells 84 = .ok (.iaload, 1) := by decide +kernel
theorem d_M_copyCells_85 : decode b_M_copyCells 85 = .ok (.invokestatic 139, 3) := by decide +kernel
theorem d_M_copyCells_88 : decode b_M_copyCells 88 = .ok (.lastore, 1) := by decide +kernel
theorem d_M_copyCells_89 : decode b_M_copyCells 89 = .ok (.iinc 2 1, 3) := by decide +kernel
theorem d_M_copyCells_92 : decode b_M_copyCells 92 = .ok (.goto (-40), 3) := by decide +kernel
theorem d_M_copyCells_95 : decode b_M_copyCells 95 = .ok (.aload_n 0, 1) := by decide +kernel
theorem d_M_copyCells_96 : decode b_M_copyCells 96 = .ok (.aload_n 0, 1) := by decide +kernel
theorem d_M_copyCells_97 : decode b_M_copyCells 97 = .ok (.getfield 7, 3) := by decide +kernel
theorem d_M_copyCells_100 : decode b_M_copyCells 100 = .ok (.iconst 3, 1) := by decide +kernel
theorem d_M_copyCells_101 : decode b_M_copyCells 101 = .ok (.iaload, 1) := by decide +kernel
theorem d_M_copyCells_102 : decode b_M_copyCells 102 = .ok (.invokevirtual 125, 3) := by decide +kernel
theorem d_M_copyCells_105 : decode b_M_copyCells 105 = .ok (.ireturn, 1) := by decide +kernel
theorem d_M_live_0 : decode b_M_live 0 = .ok (.iload_n 1, 1) := by decide +kernel
theorem d_M_live_1 : decode b_M_live 1 = .ok (.i2l, 1) := by decide +kernel
theorem d_M_live_2 : decode b_M_live 2 = .ok (.lconst 0, 1) := by decide +kernel
theorem d_M_live_3 : decode b_M_live 3 = .ok (.ldc2_w 510, 3) := by decide +kernel
theorem d_M_live_6 : decode b_M_live 6 = .ok (.invokestatic 306, 3) := by decide +kernel
theorem d_M_live_9 : decode b_M_live 9 = .ok (.ifCond .ne 9, 3) := by decide +kernel
theorem d_M_live_12 : decode b_M_live 12 = .ok (.aload_n 0, 1) := by decide +kernel
theorem d_M_live_13 : decode b_M_live 13 = .ok (.iconst 1, 1) := by decide +kernel
theorem d_M_live_14 : decode b_M_live 14 = .ok (.invokevirtual 121, 3) := by decide +kernel
theorem d_M_live_17 : decode b_M_live 17 = .ok (.ireturn, 1) := by decide +kernel
theorem d_M_live_18 : decode b_M_live 18 = .ok (.aload_n 0, 1) := by decide +kernel
theorem d_M_live_19 : decode b_M_live 19 = .ok (.getfield 7, 3) := by decide +kernel
theorem d_M_live_22 : decode b_M_live 22 = .ok (.bipush 7, 2) := by decide +kernel
theorem d_M_live_24 : decode b_M_live 24 = .ok (.iaload, 1) := by decide +kernel
theorem d_M_live_25 : decode b_M_live 25 = .ok (.iconst (-1), 1) := by decide +kernel
theorem d_M_live_26 : decode b_M_live 26 = .ok (.if_icmp .ne 10, 3) := by decide +kernel
theorem d_M_live_29 : decode b_M_live 29 = .ok (.aload_n 0, 1) := by decide +kernel
theorem d_M_live_30 : decode b_M_live 30 = .ok (.bipush 6, 2) := by decide +kernel
theorem d_M_live_32 : decode b_M_live 32 = .ok (.invokevirtual 121, 3) := by decide +kernel
theorem d_M_live_35 : decode b_M_live 35 = .ok (.ireturn, 1) := by decide +kernel
theorem d_M_live_36 : decode b_M_live 36 = .ok (.aload_n 0, 1) := by decide +kernel
theorem d_M_live_37 : decode b_M_live 37 = .ok (.iload_n 1, 1) := by decide +kernel
theorem d_M_live_38 : decode b_M_live 38 = .ok (.invokevirtual 512, 3) := by decide +kernel
theorem d_M_live_41 : decode b_M_live 41 = .ok (.iconst 0, 1) := by decide +kernel
theorem d_M_live_42 : decode b_M_live 42 = .ok (.istore_n 2, 1) := by decide +kernel
theorem d_M_live_43 : decode b_M_live 43 = .ok (.iload_n 2, 1) := by decide +kernel
theorem d_M_live_44 : decode b_M_live 44 = .ok (.iconst 5, 1) := by decide +kernel
theorem d_M_live_45 : decode b_M_live 45 = .ok (.if_icmp .ge 21, 3) := by decide +kernel
theorem d_M_live_48 : decode b_M_live 48 = .ok (.aload_n 0, 1) := by decide +kernel
theorem d_M_live_49 : decode b_M_live 49 = .ok (.getfield 108, 3) := by decide +kernel
theorem d_M_live_52 : decode b_M_live 52 = .ok (.iload_n 2, 1) := by decide +kernel
theorem d_M_live_53 : decode b_M_live 53 = .ok (.aload_n 0, 1) := by decide +kernel
theorem d_M_live_54 : decode b_M_live 54 = .ok (.getfield 105, 3) := by decide +kernel
theorem d_M_live_57 : decode b_M_live 57 = .ok (.iload_n 2, 1) := by decide +kernel
theorem d_M_live_58 : decode b_M_live 58 = .ok (.iaload, 1) := by decide +kernel
theorem d_M_live_59 : decode b_M_live 59 = .ok (.iastore, 1) := by decide +kernel
theorem d_M_live_60 : decode b_M_live 60 = .ok (.iinc 2 1, 3) := by decide +kernel
theorem d_M_live_63 : decode b_M_live 63 = .ok (.goto (-20), 3) := by decide +kernel
theorem d_M_live_66 : decode b_M_live 66 = .ok (.aload_n 0, 1) := by decide +kernel
theorem d_M_live_67 : decode b_M_live 67 = .ok (.iconst 1, 1) := by decide +kernel
theorem d_M_live_68 : decode b_M_live 68 = .ok (.putfield 515, 3) := by decide +kernel
theorem d_M_live_71 : decode b_M_live 71 = .ok (.aload_n 0, 1) := by decide +kernel
theorem d_M_live_72 : decode b_M_live 72 = .ok (.aload_n 0, 1) := by decide +kernel
theorem d_M_live_73 : decode b_M_live 73 = .ok (.getfield 498, 3) := by decide +kernel
theorem d_M_live_76 : decode b_M_live 76 = .ok (.invokevirtual 125, 3) := by decide +kernel
theorem d_M_live_79 : decode b_M_live 79 = .ok (.ireturn, 1) := by decide +kernel
theorem d_M_lives_0 : decode b_M_lives 0 = .ok (.aload_n 0, 1) := by decide +kernel
theorem d_M_lives_1 : decode b_M_lives 1 = .ok (.iload_n 1, 1) := by decide +kernel
theorem d_M_lives_2 : decode b_M_lives 2 = .ok (.putfield 482, 3) := by decide +kernel
theorem d_M_lives_5 : decode b_M_lives 5 = .ok (.aload_n 0, 1) := by decide +kernel
theorem d_M_lives_6 : decode b_M_lives 6 = .ok (.iconst 0, 1) := by decide +kernel
theorem d_M_lives_7 : decode b_M_lives 7 = .ok (.putfield 498, 3) := by decide +kernel
theorem d_M_lives_10 : decode b_M_lives 10 = .ok (.iconst 0, 1) := by decide +kernel
theorem d_M_lives_11 : decode b_M_lives 11 = .ok (.istore_n 2, 1) := by decide +kernel
theorem d_M_lives_12 : decode b_M_lives 12 = .ok (.iload_n 2, 1) := by decide +kernel
theorem d_M_lives_13 : decode b_M_lives 13 = .ok (.iconst 5, 1) := by decide +kernel
theorem d_M_lives_14 : decode b_M_lives 14 = .ok (.if_icmp .ge 16, 3) := by decide +kernel
theorem d_M_lives_17 : decode b_M_lives 17 = .ok (.aload_n 0, 1) := by decide +kernel
theorem d_M_lives_18 : decode b_M_lives 18 = .ok (.getfield 105, 3) := by decide +kernel
theorem d_M_lives_21 : decode b_M_lives 21 = .ok (.iload_n 2, 1) := by decide +kernel
theorem d_M_lives_22 : decode b_M_lives 22 = .ok (.iconst 0, 1) := by decide +kernel
theorem d_M_lives_23 : decode b_M_lives 23 = .ok (.iastore, 1) := by decide +kernel
theorem d_M_lives_24 : decode b_M_lives 24 = .ok (.iinc 2 1, 3) := by decide +kernel
theorem d_M_lives_27 : decode b_M_lives 27 = .ok (.goto (-15), 3) := by decide +kernel
theorem d_M_lives_30 : decode b_M_lives 30 = .ok (.iconst 0, 1) := by decide +kernel
theorem d_M_lives_31 : decode b_M_lives 31 = .ok (.istore_n 2, 1) := by decide +kernel
theorem d_M_lives_32 : decode b_M_lives 32 = .ok (.iload_n 2, 1) := by decide +kernel
theorem d_M_lives_33 : decode b_M_lives 33 = .ok (.aload_n 0, 1) := by decide +kernel
theorem d_M_lives_34 : decode b_M_lives 34 = .ok (.getfield 7, 3) := by decide +kernel
theorem d_M_lives_37 : decode b_M_lives 37 = .ok (.bipush 7, 2) := by decide +kernel
theorem d_M_lives_39 : decode b_M_lives 39 = .ok (.iaload, 1) := by decide +kernel
theorem d_M_lives_40 : decode b_M_lives 40 = .ok (.if_icmp .ge 144, 3) := by decide +kernel
theorem d_M_lives_43 : decode b_M_lives 43 = .ok (.aload_n 0, 1) := by decide +kernel
theorem d_M_lives_44 : decode b_M_lives 44 = .ok (.getfield 498, 3) := by decide +kernel
theorem d_M_lives_47 : decode b_M_lives 47 = .ok (.sipush 300, 3) := by decide +kernel
theorem d_M_lives_50 : decode b_M_lives 50 = .ok (.if_icmp .ne 11, 3) := by decide +kernel
theorem d_M_lives_53 : decode b_M_lives 53 = .ok (.aload_n 0, 1) := by decide +kernel
theorem d_M_lives_54 : decode b_M_lives 54 = .ok (.getfield 105, 3) := by decide +kernel
theorem d_M_lives_57 : decode b_M_lives 57 = .ok (.iconst 4, 1) := by decide +kernel
theorem d_M_lives_58 : decode b_M_lives 58 = .ok (.iconst 1, 1) := by decide +kernel
theorem d_M_lives_59 : decode b_M_lives 59 = .ok (.iastore, 1) := by decide +kernel
theorem d_M_lives_60 : decode b_M_lives 60 = .ok (.return_, 1) := by decide +kernel
theorem d_M_lives_61 : decode b_M_lives 61 = .ok (.bipush 38, 2) := by decide +kernel
theorem d_M_lives_63 : decode b_M_lives 63 = .ok (.bipush 6, 2) := by decide +kernel
theorem d_M_lives_65 : decode b_M_lives 65 = .ok (.iload_n 2, 1) := by decide +kernel
theorem d_M_lives_66 : decode b_M_lives 66 = .ok (.imul, 1) := by decide +kernel
theorem d_M_lives_67 : decode b_M_lives 67 = .ok (.iadd, 1) := by decide +kernel
theorem d_M_lives_68 : decode b_M_lives 68 = .ok (.istore_n 3, 1) := by decide +kernel
theorem d_M_lives_69 : decode b_M_lives 69 = .ok (.aload_n 0, 1) := by decide +kernel
theorem d_M_lives_70 : decode b_M_lives 70 = .ok (.dup, 1) := by decide +kernel
theorem d_M_lives_71 : decode b_M_lives 71 = .ok (.getfield 498, 3) := by decide +kernel
theorem d_M_lives_74 : decode b_M_lives 74 = .ok (.iconst 1, 1) := by decide +kernel
theorem d_M_lives_75 : decode b_M_lives 75 = .ok (.iadd, 1) := by decide +kernel
theorem d_M_lives_76 : decode b_M_lives 76 = .ok (.putfield 498, 3) := by decide +kernel
theorem d_M_lives_79 : decode b_M_lives 79 = .ok (.aload_n 0, 1) := by decide +kernel
theorem d_M_lives_80 : decode b_M_lives 80 = .ok (.getfield 7, 3) := by decide +kernel
theorem d_M_lives_83 : decode b_M_lives 83 = .ok (.iload_n 3, 1) := by decide +kernel
theorem d_M_lives_84 : decode b_M_lives 84 = .ok (.iaload, 1) := by decide +kernel
theorem d_M_lives_85 : decode b_M_lives 85 = .ok (.bipush 20, 2) := by decide +kernel
theorem d_M_lives_87 : decode b_M_lives 87 = .ok (.if_icmp .ne 4, 3) := by decide +kernel
theorem d_M_lives_90 : decode b_M_lives 90 = .ok (.return_, 1) := by decide +kernel
theorem d_M_lives_91 : decode b_M_lives 91 = .ok (.aload_n 0, 1) := by decide +kernel
theorem d_M_lives_92 : decode b_M_lives 92 = .ok (.getfield 105, 3) := by decide +kernel
theorem d_M_lives_95 : decode b_M_lives 95 = .ok (.iconst 0, 1) := by decide +kernel
theorem d_M_lives_96 : decode b_M_lives 96 = .ok (.dup2, 1) := by decide +kernel
theorem d_M_lives_97 : decode b_M_lives 97 = .ok (.iaload, 1) := by decide +kernel
theorem d_M_lives_98 : decode b_M_lives 98 = .ok (.aload_n 0, 1) := by decide +kernel
theorem d_M_lives_99 : decode b_M_lives 99 = .ok (.iload_n 3, 1) := by decide +kernel
theorem d_M_lives_100 : decode b_M_lives 100 = .ok (.invokevirtual 501, 3) := by decide +kernel
theorem d_M_lives_103 : decode b_M_lives 103 = .ok (.ifCond .eq 7, 3) := by decide +kernel
theorem d_M_lives_106 : decode b_M_lives 106 = .ok (.iconst 0, 1) := by decide +kernel
theorem d_M_lives_107 : decode b_M_lives 107 = .ok (.goto 4, 3) := by decide +kernel
theorem d_M_lives_110 : decode b_M_lives 110 = .ok (.iconst 1, 1) := by decide +kernel
theorem d_M_lives_111 : decode b_M_lives 111 = .ok (.iadd, 1) := by decide +kernel
theorem d_M_lives_112 : decode b_M_lives 112 = .ok (.iastore, 1) := by decide +kernel
theorem d_M_lives_113 : decode b_M_lives 113 = .ok (.aload_n 0, 1) := by decide +kernel
theorem d_M_lives_114 : decode b_M_lives 114 = .ok (.getfield 7, 3) := by decide +kernel
theorem d_M_lives_117 : decode b_M_lives 117 = .ok (.iload_n 3, 1) := by decide +kernel
theorem d_M_lives_118 : decode b_M_lives 118 = .ok (.iaload, 1) := by decide +kernel
theorem d_M_lives_119 : decode b_M_lives 119 = .ok (.bipush 18, 2) := by decide +kernel
theorem d_M_lives_121 : decode b_M_lives 121 = .ok (.if_icmp .ne 19, 3) := by decide +kernel
theorem d_M_lives_124 : decode b_M_lives 124 = .ok (.aload_n 0, 1) := by decide +kernel
theorem d_M_lives_125 : decode b_M_lives 125 = .ok (.getfield 102, 3) := by decide +kernel
theorem d_M_lives_128 : decode b_M_lives 128 = .ok (.iload_n 2, 1) := by decide +kernel
theorem d_M_lives_129 : decode b_M_lives 129 = .ok (.aload_n 0, 1) := by decide +kernel
theorem d_M_lives_130 : decode b_M_lives 130 = .ok (.getfield 7, 3) := by decide +kernel
theorem d_M_lives_133 : decode b_M_lives 133 = .ok (.iload_n 3, 1) := by decide +kernel
theorem d_M_lives_134 : decode b_M_lives 134 = .ok (.iconst 1, 1) := by decide +kernel
theorem d_M_lives_135 : decode b_M_lives 135 = .ok (.iadd, 1) := by decide +kernel
theorem d_M_lives_136 : decode b_M_lives 136 = .ok (.iaload, 1) := by decide +kernel
theorem d_M_lives_137 : decode b_M_lives 137 = .ok (.iconst 1, 1) := by decide +kernel
theorem d_M_lives_138 : decode b_M_lives 138 = .ok (.isub, 1) := by decide +kernel
theorem d_M_lives_139 : decode b_M_lives 139 = .ok (.iastore, 1) := by decide +kernel
theorem d_M_lives_140 : decode b_M_lives 140 = .ok (.aload_n 0, 1) := by decide +kernel
theorem d_M_lives_141 : decode b_M_lives 141 = .ok (.aload_n 0, 1) := by decide +kernel
theorem d_M_lives_142 : decode b_M_lives 142 = .ok (.getfield 7, 3) := by decide +kernel
theorem d_M_lives_145 : decode b_M_lives 145 = .ok (.iload_n 3, 1) := by decide +kernel
theorem d_M_lives_146 : decode b_M_lives 146 = .ok (.iaload, 1) := by decide +kernel
theorem d_M_lives_147 : decode b_M_lives 147 = .ok (.sipush 1700, 3) := by decide +kernel
theorem d_M_lives_150 : decode b_M_lives 150 = .ok (.if_icmp .lt 24, 3) := by decide +kernel
theorem d_M_lives_153 : decode b_M_lives 153 = .ok (.aload_n 0, 1) := by decide +kernel
theorem d_M_lives_154 : decode b_M_lives 154 = .ok (.iload_n 3, 1) := by decide +kernel
theorem d_M_lives_155 : decode b_M_lives 155 = .ok (.invokevirtual 504, 3) := by decide +kernel
theorem d_M_lives_158 : decode b_M_lives 158 = .ok (.ifCond .ne 16, 3) := by decide +kernel
theorem d_M_lives_161 : decode b_M_lives 161 = .ok (.aload_n 0, 1) := by decide +kernel
theorem d_M_lives_162 : decode b_M_lives 162 = .ok (.getfield 7, 3) := by decide +kernel
theorem d_M_lives_165 : decode b_M_lives 165 = .ok (.iload_n 3, 1) := by decide +kernel
theorem d_M_lives_166 : decode b_M_lives 166 = .ok (.iconst 4, 1) := by decide +kernel
theorem d_M_lives_167 : decode b_M_lives 167 = .ok (.iadd, 1) := by decide +kernel
theorem d_M_lives_168 : decode b_M_lives 168 = .ok (.iaload, 1) := by decide +kernel
theorem d_M_lives_169 : decode b_M_lives 169 = .ok (.iconst 1, 1) := by decide +kernel
theorem d_M_lives_170 : decode b_M_lives 170 = .ok (.iadd, 1) := by decide +kernel
theorem d_M_lives_171 : decode b_M_lives 171 = .ok (.goto 6, 3) := by decide +kernel
theorem d_M_lives_174 : decode b_M_lives 174 = .ok (.iload_n 2, 1) := by decide +kernel
theorem d_M_lives_175 : decode b_M_lives 175 = .ok (.iconst 1, 1) := by decide +kernel
theorem d_M_lives_176 : decode b_M_lives 176 = .ok (.iadd, 1) := by decide +kernel
theorem d_M_lives_177 : decode b_M_lives 177 = .ok (.invokevirtual 507, 3) := by decide +kernel
theorem d_M_lives_180 : decode b_M_lives 180 = .ok (.istore_n 2, 1) := by decide +kernel
theorem d_M_lives_181 : decode b_M_lives 181 = .ok (.goto (-149), 3) := by decide +kernel
theorem d_M_lives_184 : decode b_M_lives 184 = .ok (.return_, 1) := by decide +kernel
theorem d_M_does_0 : decode b_M_does 0 = .ok (.aload_n 0, 1) := by decide +kernel
theorem d_M_does_1 : decode b_M_does 1 = .ok (.getfield 7, 3) := by decide +kernel
theorem d_M_does_4 : decode b_M_does 4 = .ok (.iload_n 1, 1) := by decide +kernel
theorem d_M_does_5 : decode b_M_does 5 = .ok (.iconst 1, 1) := by decide +kernel
theorem d_M_does_6 : decode b_M_does 6 = .ok (.iadd, 1) := by decide +kernel
theorem d_M_does_7 : decode b_M_does 7 = .ok (.iaload, 1) := by decide +kernel
theorem d_M_does_8 : decode b_M_does 8 = .ok (.istore_n 2, 1) := by decide +kernel
theorem d_M_does_9 : decode b_M_does 9 = .ok (.aload_n 0, 1) := by decide +kernel
theorem d_M_does_10 : decode b_M_does 10 = .ok (.getfield 7, 3) := by decide +kernel
theorem d_M_does_13 : decode b_M_does 13 = .ok (.iload_n 1, 1) := by decide +kernel
theorem d_M_does_14 : decode b_M_does 14 = .ok (.iaload, 1) := by decide +kernel
theorem d_M_does_15 : decode b_M_does 15 = .ok (.tableswitch 104 10 16 #[41, 47, 53, 59, 72, 86, 99], 41) := by decide +kernel
theorem d_M_does_56 : decode b_M_does 56 = .ok (.aload_n 0, 1) := by decide +kernel
theorem d_M_does_57 : decode b_M_does 57 = .ok (.iload_n 2, 1) := by decide +kernel
theorem d_M_does_58 : decode b_M_does 58 = .ok (.invokevirtual 489, 3) := by decide +kernel
theorem d_M_does_61 : decode b_M_does 61 = .ok (.ireturn, 1) := by decide +kernel
theorem d_M_does_62 : decode b_M_does 62 = .ok (.aload_n 0, 1) := by decide +kernel
theorem d_M_does_63 : decode b_M_does 63 = .ok (.iload_n 2, 1) := by decide +kernel
theorem d_M_does_64 : decode b_M_does 64 = .ok (.invokevirtual 352, 3) := by decide +kernel
theorem d_M_does_67 : decode b_M_does 67 = .ok (.ireturn, 1) := by decide +kernel
theorem d_M_does_68 : decode b_M_does 68 = .ok (.aload_n 0, 1) := by decide +kernel
theorem d_M_does_69 : decode b_M_does 69 = .ok (.iload_n 2, 1) := by decide +kernel
theorem d_M_does_70 : decode b_M_does 70 = .ok (.invokevirtual 492, 3) := by decide +kernel
theorem d_M_does_73 : decode b_M_does 73 = .ok (.ireturn, 1) := by decide +kernel
theorem d_M_does_74 : decode b_M_does 74 = .ok (.aload_n 0, 1) := by decide +kernel
theorem d_M_does_75 : decode b_M_does 75 = .ok (.invokevirtual 361, 3) := by decide +kernel
theorem d_M_does_78 : decode b_M_does 78 = .ok (.ifCond .le 7, 3) := by decide +kernel
theorem d_M_does_81 : decode b_M_does 81 = .ok (.iconst 1, 1) := by decide +kernel
theorem d_M_does_82 : decode b_M_does 82 = .ok (.goto 4, 3) := by decide +kernel
theorem d_M_does_85 : decode b_M_does 85 = .ok (.iconst 0, 1) := by decide +kernel
theorem d_M_does_86 : decode b_M_does 86 = .ok (.ireturn, 1) := by decide +kernel
theorem d_M_does_87 : decode b_M_does 87 = .ok (.aload_n 0, 1) := by decide +kernel
theorem d_M_does_88 : decode b_M_does 88 = .ok (.iload_n 2, 1) := by decide +kernel
theorem d_M_does_89 : decode b_M_does 89 = .ok (.aload_n 0, 1) := by decide +kernel
theorem d_M_does_90 : decode b_M_does 90 = .ok (.getfield 7, 3) := by decide +kernel
theorem d_M_does_93 : decode b_M_does 93 = .ok (.iload_n 1, 1) := by decide +kernel
theorem d_M_does_94 : decode b_M_does 94 = .ok (.iconst 2, 1) := by decide +kernel
theorem d_M_does_95 : decode b_M_does 95 = .ok (.iadd, 1) := by decide +kernel
theorem d_M_does_96 : decode b_M_does 96 = .ok (.iaload, 1) := by decide +kernel
theorem d_M_does_97 : decode b_M_does 97 = .ok (.invokevirtual 364, 3) := by decide +kernel
theorem d_M_does_100 : decode b_M_does 100 = .ok (.ireturn, 1) := by decide +kernel
theorem d_M_does_101 : decode b_M_does 101 = .ok (.aload_n 0, 1) := by decide +kernel
theorem d_M_does_102 : decode b_M_does 102 = .ok (.invokevirtual 369, 3) := by decide +kernel
theorem d_M_does_105 : decode b_M_does 105 = .ok (.ifCond .le 7, 3) := by decide +kernel
theorem d_M_does_108 : decode b_M_does 108 = .ok (.iconst 1, 1) := by decide +kernel
theorem d_M_does_109 : decode b_M_does 109 = .ok (.goto 4, 3) := by decide +kernel
theorem d_M_does_112 : decode b_M_does 112 = .ok (.iconst 0, 1) := by decide +kernel
theorem d_M_does_113 : decode b_M_does 113 = .ok (.ireturn, 1) := by decide +kernel
theorem d_M_does_114 : decode b_M_does 114 = .ok (.aload_n 0, 1) := by decide +kernel
theorem d_M_does_115 : decode b_M_does 115 = .ok (.invokevirtual 495, 3) := by decide +kernel
theorem d_M_does_118 : decode b_M_does 118 = .ok (.ireturn, 1) := by decide +kernel
theorem d_M_does_119 : decode b_M_does 119 = .ok (.iconst 1, 1) := by decide +kernel
theorem d_M_does_120 : decode b_M_does 120 = .ok (.ireturn, 1) := by decide +kernel
theorem d_M_playsBy_0 : decode b_M_playsBy 0 = .ok (.aload_n 0, 1) := by decide +kernel
theorem d_M_playsBy_1 : decode b_M_playsBy 1 = .ok (.iload_n 1, 1) := by decide +kernel
theorem d_M_playsBy_2 : decode b_M_playsBy 2 = .ok (.invokevirtual 343, 3) := by decide +kernel
theorem d_M_playsBy_5 : decode b_M_playsBy 5 = .ok (.ifCond .ne 5, 3) := by decide +kernel
theorem d_M_playsBy_8 : decode b_M_playsBy 8 = .ok (.iconst 0, 1) := by decide +kernel
theorem d_M_playsBy_9 : decode b_M_playsBy 9 = .ok (.ireturn, 1) := by decide +kernel
theorem d_M_playsBy_10 : decode b_M_playsBy 10 = .ok (.aload_n 0, 1) := by decide +kernel
theorem d_M_playsBy_11 : decode b_M_playsBy 11 = .ok (.getfield 105, 3) := by decide +kernel
theorem d_M_playsBy_14 : decode b_M_playsBy 14 = .ok (.iconst 2, 1) := by decide +kernel
theorem d_M_playsBy_15 : decode b_M_playsBy 15 = .ok (.dup2, 1) := by decide +kernel
theorem d_M_playsBy_16 : decode b_M_playsBy 16 = .ok (.iaload, 1) := by decide +kernel
theorem d_M_playsBy_17 : decode b_M_playsBy 17 = .ok (.aload_n 0, 1) := by decide +kernel
theorem d_M_playsBy_18 : decode b_M_playsBy 18 = .ok (.iload_n 1, 1) := by decide +kernel
theorem d_M_playsBy_19 : decode b_M_playsBy 19 = .ok (.invokevirtual 349, 3) := by decide +kernel
theorem d_M_playsBy_22 : decode b_M_playsBy 22 = .ok (.iadd, 1) := by decide +kernel
theorem d_M_playsBy_23 : decode b_M_playsBy 23 = .ok (.iastore, 1) := by decide +kernel
theorem d_M_playsBy_24 : decode b_M_playsBy 24 = .ok (.aload_n 0, 1) := by decide +kernel
theorem d_M_playsBy_25 : decode b_M_playsBy 25 = .ok (.getfield 105, 3) := by decide +kernel
theorem d_M_playsBy_28 : decode b_M_playsBy 28 = .ok (.iconst 1, 1) := by decide +kernel
theorem d_M_playsBy_29 : decode b_M_playsBy 29 = .ok (.dup2, 1) := by decide +kernel
theorem d_M_playsBy_30 : decode b_M_playsBy 30 = .ok (.iaload, 1) := by decide +kernel
theorem d_M_playsBy_31 : decode b_M_playsBy 31 = .ok (.iconst 1, 1) := by decide +kernel
theorem d_M_playsBy_32 : decode b_M_playsBy 32 = .ok (.iadd, 1) := by decide +kernel
theorem d_M_playsBy_33 : decode b_M_playsBy 33 = .ok (.iastore, 1) := by decide +kernel
theorem d_M_playsBy_34 : decode b_M_playsBy 34 = .ok (.iconst 1, 1) := by decide +kernel
theorem d_M_playsBy_35 : decode b_M_playsBy 35 = .ok (.ireturn, 1) := by decide +kernel
theorem d_M_hitsBy_0 : decode b_M_hitsBy 0 = .ok (.aload_n 0, 1) := by decide +kernel
theorem d_M_hitsBy_1 : decode b_M_hitsBy 1 = .ok (.iload_n 1, 1) := by decide +kernel
theorem d_M_hitsBy_2 : decode b_M_hitsBy 2 = .ok (.invokevirtual 355, 3) := by decide +kernel
theorem d_M_hitsBy_5 : decode b_M_hitsBy 5 = .ok (.ifCond .ne 5, 3) := by decide +kernel
theorem d_M_hitsBy_8 : decode b_M_hitsBy 8 = .ok (.iconst 0, 1) := by decide +kernel
theorem d_M_hitsBy_9 : decode b_M_hitsBy 9 = .ok (.ireturn, 1) := by decide +kernel
theorem d_M_hitsBy_10 : decode b_M_hitsBy 10 = .ok (.aload_n 0, 1) := by decide +kernel
theorem d_M_hitsBy_11 : decode b_M_hitsBy 11 = .ok (.getfield 105, 3) := by decide +kernel
theorem d_M_hitsBy_14 : decode b_M_hitsBy 14 = .ok (.iconst 3, 1) := by decide +kernel
theorem d_M_hitsBy_15 : decode b_M_hitsBy 15 = .ok (.dup2, 1) := by decide +kernel
theorem d_M_hitsBy_16 : decode b_M_hitsBy 16 = .ok (.iaload, 1) := by decide +kernel
theorem d_M_hitsBy_17 : decode b_M_hitsBy 17 = .ok (.iconst 1, 1) := by decide +kernel
theorem d_M_hitsBy_18 : decode b_M_hitsBy 18 = .ok (.iadd, 1) := by decide +kernel
theorem d_M_hitsBy_19 : decode b_M_hitsBy 19 = .ok (.iastore, 1) := by decide +kernel
theorem d_M_hitsBy_20 : decode b_M_hitsBy 20 = .ok (.iconst 1, 1) := by decide +kernel
theorem d_M_hitsBy_21 : decode b_M_hitsBy 21 = .ok (.ireturn, 1) := by decide +kernel
theorem d_M_doesAny_0 : decode b_M_doesAny 0 = .ok (.aload_n 0, 1) := by decide +kernel
theorem d_M_doesAny_1 : decode b_M_doesAny 1 = .ok (.getfield 7, 3) := by decide +kernel
theorem d_M_doesAny_4 : decode b_M_doesAny 4 = .ok (.iconst 2, 1) := by decide +kernel
theorem d_M_doesAny_5 : decode b_M_doesAny 5 = .ok (.iaload, 1) := by decide +kernel
theorem d_M_doesAny_6 : decode b_M_doesAny 6 = .ok (.ifCond .ne 5, 3) := by decide +kernel
theorem d_M_doesAny_9 : decode b_M_doesAny 9 = .ok (.iconst 0, 1) := by decide +kernel
theorem d_M_doesAny_10 : decode b_M_doesAny 10 = .ok (.ireturn, 1) := by decide +kernel
theorem d_M_doesAny_11 : decode b_M_doesAny 11 = .ok (.aload_n 0, 1) := by decide +kernel
theorem d_M_doesAny_12 : decode b_M_doesAny 12 = .ok (.aload_n 0, 1) := by decide +kernel
theorem d_M_doesAny_13 : decode b_M_doesAny 13 = .ok (.getfield 7, 3) := by decide +kernel
theorem d_M_doesAny_16 : decode b_M_doesAny 16 = .ok (.iconst 2, 1) := by decide +kernel
theorem d_M_doesAny_17 : decode b_M_doesAny 17 = .ok (.iaload, 1) := by decide +kernel
theorem d_M_doesAny_18 : decode b_M_doesAny 18 = .ok (.invokevirtual 486, 3) := by decide +kernel
theorem d_M_doesAny_21 : decode b_M_doesAny 21 = .ok (.istore_n 1, 1) := by decide +kernel
theorem d_M_doesAny_22 : decode b_M_doesAny 22 = .ok (.aload_n 0, 1) := by decide +kernel
theorem d_M_doesAny_23 : decode b_M_doesAny 23 = .ok (.aload_n 0, 1) := by decide +kernel
theorem d_M_doesAny_24 : decode b_M_doesAny 24 = .ok (.iconst 0, 1) := by decide +kernel
theorem d_M_doesAny_25 : decode b_M_doesAny 25 = .ok (.invokevirtual 223, 3) := by decide +kernel
theorem d_M_doesAny_28 : decode b_M_doesAny 28 = .ok (.invokevirtual 486, 3) := by decide +kernel
theorem d_M_doesAny_31 : decode b_M_doesAny 31 = .ok (.istore_n 2, 1) := by decide +kernel
theorem d_M_doesAny_32 : decode b_M_doesAny 32 = .ok (.aload_n 0, 1) := by decide +kernel
theorem d_M_doesAny_33 : decode b_M_doesAny 33 = .ok (.bipush 16, 2) := by decide +kernel
theorem d_M_doesAny_35 : decode b_M_doesAny 35 = .ok (.invokevirtual 486, 3) := by decide +kernel
theorem d_M_doesAny_38 : decode b_M_doesAny 38 = .ok (.aload_n 0, 1) := by decide +kernel
theorem d_M_doesAny_39 : decode b_M_doesAny 39 = .ok (.getfield 7, 3) := by decide +kernel
theorem d_M_doesAny_42 : decode b_M_doesAny 42 = .ok (.iconst 5, 1) := by decide +kernel
theorem d_M_doesAny_43 : decode b_M_doesAny 43 = .ok (.iaload, 1) := by decide +kernel
theorem d_M_doesAny_44 : decode b_M_doesAny 44 = .ok (.if_icmp .ge 11, 3) := by decide +kernel
theorem d_M_doesAny_47 : decode b_M_doesAny 47 = .ok (.aload_n 0, 1) := by decide +kernel
theorem d_M_doesAny_48 : decode b_M_doesAny 48 = .ok (.iload_n 1, 1) := by decide +kernel
theorem d_M_doesAny_49 : decode b_M_doesAny 49 = .ok (.invokevirtual 489, 3) := by decide +kernel
theorem d_M_doesAny_52 : decode b_M_doesAny 52 = .ok (.goto 8, 3) := by decide +kernel
theorem d_M_doesAny_55 : decode b_M_doesAny 55 = .ok (.aload_n 0, 1) := by decide +kernel
theorem d_M_doesAny_56 : decode b_M_doesAny 56 = .ok (.iload_n 2, 1) := by decide +kernel
theorem d_M_doesAny_57 : decode b_M_doesAny 57 = .ok (.invokevirtual 492, 3) := by decide +kernel
theorem d_M_doesAny_60 : decode b_M_doesAny 60 = .ok (.ireturn, 1) := by decide +kernel
theorem d_M_draw_0 : decode b_M_draw 0 = .ok (.aload_n 0, 1) := by decide +kernel
theorem d_M_draw_1 : decode b_M_draw 1 = .ok (.aload_n 0, 1) := by decide +kernel
theorem d_M_draw_2 : decode b_M_draw 2 = .ok (.getfield 482, 3) := by decide +kernel
theorem d_M_draw_5 : decode b_M_draw 5 = .ok (.sipush 3257, 3) := by decide +kernel
theorem d_M_draw_8 : decode b_M_draw 8 = .ok (.imul, 1) := by decide +kernel
theorem d_M_draw_9 : decode b_M_draw 9 = .ok (.sipush 11483, 3) := by decide +kernel
theorem d_M_draw_12 : decode b_M_draw 12 = .ok (.iadd, 1) := by decide +kernel
theorem d_M_draw_13 : decode b_M_draw 13 = .ok (.ldc_w 485, 3) := by decide +kernel
theorem d_M_draw_16 : decode b_M_draw 16 = .ok (.irem, 1) := by decide +kernel
theorem d_M_draw_17 : decode b_M_draw 17 = .ok (.putfield 482, 3) := by decide +kernel
theorem d_M_draw_20 : decode b_M_draw 20 = .ok (.aload_n 0, 1) := by decide +kernel
theorem d_M_draw_21 : decode b_M_draw 21 = .ok (.getfield 482, 3) := by decide +kernel
theorem d_M_draw_24 : decode b_M_draw 24 = .ok (.bipush 8, 2) := by decide +kernel
theorem d_M_draw_26 : decode b_M_draw 26 = .ok (.idiv, 1) := by decide +kernel
theorem d_M_draw_27 : decode b_M_draw 27 = .ok (.iload_n 1, 1) := by decide +kernel
theorem d_M_draw_28 : decode b_M_draw 28 = .ok (.irem, 1) := by decide +kernel
theorem d_M_draw_29 : decode b_M_draw 29 = .ok (.ireturn, 1) := by decide +kernel
theorem d_M_holds_0 : decode b_M_holds 0 = .ok (.aload_n 0, 1) := by decide +kernel
theorem d_M_holds_1 : decode b_M_holds 1 = .ok (.getfield 7, 3) := by decide +kernel
theorem d_M_holds_4 : decode b_M_holds 4 = .ok (.iload_n 1, 1) := by decide +kernel
theorem d_M_holds_5 : decode b_M_holds 5 = .ok (.iaload, 1) := by decide +kernel
theorem d_M_holds_6 : decode b_M_holds 6 = .ok (.sipush 1700, 3) := by decide +kernel
theorem d_M_holds_9 : decode b_M_holds 9 = .ok (.isub, 1) := by decide +kernel
theorem d_M_holds_10 : decode b_M_holds 10 = .ok (.istore_n 2, 1) := by decide +kernel
theorem d_M_holds_11 : decode b_M_holds 11 = .ok (.aload_n 0, 1) := by decide +kernel
theorem d_M_holds_12 : decode b_M_holds 12 = .ok (.getfield 7, 3) := by decide +kernel
theorem d_M_holds_15 : decode b_M_holds 15 = .ok (.iload_n 1, 1) := by decide +kernel
theorem d_M_holds_16 : decode b_M_holds 16 = .ok (.iconst 1, 1) := by decide +kernel
theorem d_M_holds_17 : decode b_M_holds 17 = .ok (.iadd, 1) := by decide +kernel
theorem d_M_holds_18 : decode b_M_holds 18 = .ok (.iaload, 1) := by decide +kernel
theorem d_M_holds_19 : decode b_M_holds 19 = .ok (.istore_n 3, 1) := by decide +kernel
theorem d_M_holds_20 : decode b_M_holds 20 = .ok (.iload_n 2, 1) := by decide +kernel
theorem d_M_holds_21 : decode b_M_holds 21 = .ok (.bipush 21, 2) := by decide +kernel
theorem d_M_holds_23 : decode b_M_holds 23 = .ok (.if_icmp .ne 13, 3) := by decide +kernel
theorem d_M_holds_26 : decode b_M_holds 26 = .ok (.aload_n 0, 1) := by decide +kernel
theorem d_M_holds_27 : decode b_M_holds 27 = .ok (.aload_n 0, 1) := by decide +kernel
theorem d_M_holds_28 : decode b_M_holds 28 = .ok (.invokevirtual 325, 3) := by decide +kernel
theorem d_M_holds_31 : decode b_M_holds 31 = .ok (.iload_n 3, 1) := by decide +kernel
theorem d_M_holds_32 : decode b_M_holds 32 = .ok (.invokevirtual 251, 3) := by decide +kernel
theorem d_M_holds_35 : decode b_M_holds 35 = .ok (.ireturn, 1) := by decide +kernel
theorem d_M_holds_36 : decode b_M_holds 36 = .ok (.iload_n 2, 1) := by decide +kernel
theorem d_M_holds_37 : decode b_M_holds 37 = .ok (.bipush 22, 2) := by decide +kernel
theorem d_M_holds_39 : decode b_M_holds 39 = .ok (.if_icmp .ne 19, 3) := by decide +kernel
theorem d_M_holds_42 : decode b_M_holds 42 = .ok (.aload_n 0, 1) := by decide +kernel
theorem d_M_holds_43 : decode b_M_holds 43 = .ok (.iload_n 3, 1) := by decide +kernel
theorem d_M_holds_44 : decode b_M_holds 44 = .ok (.iconst 3, 1) := by decide +kernel
theorem d_M_holds_45 : decode b_M_holds 45 = .ok (.invokevirtual 313, 3) := by decide +kernel
theorem d_M_holds_48 : decode b_M_holds 48 = .ok (.iconst 1, 1) := by decide +kernel
theorem d_M_holds_49 : decode b_M_holds 49 = .ok (.if_icmp .ne 7, 3) := by decide +kernel
theorem d_M_holds_52 : decode b_M_holds 52 = .ok (.iconst 1, 1) := by decide +kernel
theorem d_M_holds_53 : decode b_M_holds 53 = .ok (.goto 4, 3) := by decide +kernel
theorem d_M_holds_56 : decode b_M_holds 56 = .ok (.iconst 0, 1) := by decide +kernel
theorem d_M_holds_57 : decode b_M_holds 57 = .ok (.ireturn, 1) := by decide +kernel
theorem d_M_holds_58 : decode b_M_holds 58 = .ok (.iload_n 2, 1) := by decide +kernel
theorem d_M_holds_59 : decode b_M_holds 59 = .ok (.bipush 23, 2) := by decide +kernel
theorem d_M_holds_61 : decode b_M_holds 61 = .ok (.if_icmp .ne 13, 3) := by decide +kernel
theorem d_M_holds_64 : decode b_M_holds 64 = .ok (.aload_n 0, 1) := by decide +kernel
theorem d_M_holds_65 : decode b_M_holds 65 = .ok (.getfield 7, 3) := by decide +kernel
theorem d_M_holds_68 : decode b_M_holds 68 = .ok (.bipush 8, 2) := by decide +kernel
theorem d_M_holds_70 : decode b_M_holds 70 = .ok (.iaload, 1) := by decide +kernel
theorem d_M_holds_71 : decode b_M_holds 71 = .ok (.goto 8, 3) := by decide +kernel
theorem d_M_holds_74 : decode b_M_holds 74 = .ok (.aload_n 0, 1) := by decide +kernel
theorem d_M_holds_75 : decode b_M_holds 75 = .ok (.iload_n 3, 1) := by decide +kernel
theorem d_M_holds_76 : decode b_M_holds 76 = .ok (.invokevirtual 331, 3) := by decide +kernel
theorem d_M_holds_79 : decode b_M_holds 79 = .ok (.istore 4, 2) := by decide +kernel
theorem d_M_holds_81 : decode b_M_holds 81 = .ok (.aload_n 0, 1) := by decide +kernel
theorem d_M_holds_82 : decode b_M_holds 82 = .ok (.getfield 7, 3) := by decide +kernel
theorem d_M_holds_85 : decode b_M_holds 85 = .ok (.iload_n 1, 1) := by decide +kernel
theorem d_M_holds_86 : decode b_M_holds 86 = .ok (.iconst 5, 1) := by decide +kernel
theorem d_M_holds_87 : decode b_M_holds 87 = .ok (.iadd, 1) := by decide +kernel
theorem d_M_holds_88 : decode b_M_holds 88 = .ok (.iaload, 1) := by decide +kernel
theorem d_M_holds_89 : decode b_M_holds 89 = .ok (.bipush 60, 2) := by decide +kernel
theorem d_M_holds_91 : decode b_M_holds 91 = .ok (.if_icmp .ne 24, 3) := by decide +kernel
theorem d_M_holds_94 : decode b_M_holds 94 = .ok (.iload 4, 2) := by decide +kernel
theorem d_M_holds_96 : decode b_M_holds 96 = .ok (.aload_n 0, 1) := by decide +kernel
theorem d_M_holds_97 : decode b_M_holds 97 = .ok (.getfield 7, 3) := by decide +kernel
theorem d_M_holds_100 : decode b_M_holds 100 = .ok (.iload_n 1, 1) := by decide +kernel
theorem d_M_holds_101 : decode b_M_holds 101 = .ok (.iconst 2, 1) := by decide +kernel
theorem d_M_holds_102 : decode b_M_holds 102 = .ok (.iadd, 1) := by decide +kernel
theorem d_M_holds_103 : decode b_M_holds 103 = .ok (.iaload, 1) := by decide +kernel
theorem d_M_holds_104 : decode b_M_holds 104 = .ok (.if_icmp .ge 7, 3) := by decide +kernel
theorem d_M_holds_107 : decode b_M_holds 107 = .ok (.iconst 1, 1) := by decide +kernel
theorem d_M_holds_108 : decode b_M_holds 108 = .ok (.goto 59, 3) := by decide +kernel
theorem d_M_holds_111 : decode b_M_holds 111 = .ok (.iconst 0, 1) := by decide +kernel
theorem d_M_holds_112 : decode b_M_holds 112 = .ok (.goto 55, 3) := by decide +kernel
theorem d_M_holds_115 : decode b_M_holds 115 = .ok (.aload_n 0, 1) := by decide +kernel
theorem d_M_holds_116 : decode b_M_holds 116 = .ok (.getfield 7, 3) := by decide +kernel
theorem d_M_holds_119 : decode b_M_holds 119 = .ok (.iload_n 1, 1) := by decide +kernel
theorem d_M_holds_120 : decode b_M_holds 120 = .ok (.iconst 5, 1) := by decide +kernel
theorem d_M_holds_121 : decode b_M_holds 121 = .ok (.iadd, 1) := by decide +kernel
theorem d_M_holds_122 : decode b_M_holds 122 = .ok (.iaload, 1) := by decide +kernel
theorem d_M_holds_123 : decode b_M_holds 123 = .ok (.bipush 62, 2) := by decide +kernel
theorem d_M_holds_125 : decode b_M_holds 125 = .ok (.if_icmp .ne 24, 3) := by decide +kernel
theorem d_M_holds_128 : decode b_M_holds 128 = .ok (.iload 4, 2) := by decide +kernel
theorem d_M_holds_130 : decode b_M_holds 130 = .ok (.aload_n 0, 1) := by decide +kernel
theorem d_M_holds_131 : decode b_M_holds 131 = .ok (.getfield 7, 3) := by decide +kernel
theorem d_M_holds_134 : decode b_M_holds 134 = .ok (.iload_n 1, 1) := by decide +kernel
theorem d_M_holds_135 : decode b_M_holds 135 = .ok (.iconst 2, 1) := by decide +kernel
theorem d_M_holds_136 : decode b_M_holds 136 = .ok (.iadd, 1) := by decide +kernel
theorem d_M_holds_137 : decode b_M_holds 137 = .ok (.iaload, 1) := by decide +kernel
theorem d_M_holds_138 : decode b_M_holds 138 = .ok (.if_icmp .le 7, 3) := by decide +kernel
theorem d_M_holds_141 : decode b_M_holds 141 = .ok (.iconst 1, 1) := by decide +kernel
theorem d_M_holds_142 : decode b_M_holds 142 = .ok (.goto 25, 3) := by decide +kernel
theorem d_M_holds_145 : decode b_M_holds 145 = .ok (.iconst 0, 1) := by decide +kernel
theorem d_M_holds_146 : decode b_M_holds 146 = .ok (.goto 21, 3) := by decide +kernel
theorem d_M_holds_149 : decode b_M_holds 149 = .ok (.iload 4, 2) := by decide +kernel
theorem d_M_holds_151 : decode b_M_holds 151 = .ok (.aload_n 0, 1) := by decide +kernel
theorem d_M_holds_152 : decode b_M_holds 152 = .ok (.getfield 7, 3) := by decide +kernel
theorem d_M_holds_155 : decode b_M_holds 155 = .ok (.iload_n 1, 1) := by decide +kernel
theorem d_M_holds_156 : decode b_M_holds 156 = .ok (.iconst 2, 1) := by decide +kernel
theorem d_M_holds_157 : decode b_M_holds 157 = .ok (.iadd, 1) := by decide +kernel
theorem d_M_holds_158 : decode b_M_holds 158 = .ok (.iaload, 1) := by decide +kernel
theorem d_M_holds_159 : decode b_M_holds 159 = .ok (.if_icmp .ne 7, 3) := by decide +kernel
theorem d_M_holds_162 : decode b_M_holds 162 = .ok (.iconst 1, 1) := by decide +kernel
theorem d_M_holds_163 : decode b_M_holds 163 = .ok (.goto 4, 3) := by decide +kernel
theorem d_M_holds_166 : decode b_M_holds 166 = .ok (.iconst 0, 1) := by decide +kernel
theorem d_M_holds_167 : decode b_M_holds 167 = .ok (.ireturn, 1) := by decide +kernel
theorem d_M_behindEnds_0 : decode b_M_behindEnds 0 = .ok (.iload_n 1, 1) := by decide +kernel
theorem d_M_behindEnds_1 : decode b_M_behindEnds 1 = .ok (.istore_n 2, 1) := by decide +kernel
theorem d_M_behindEnds_2 : decode b_M_behindEnds 2 = .ok (.iload_n 2, 1) := by decide +kernel
theorem d_M_behindEnds_3 : decode b_M_behindEnds 3 = .ok (.aload_n 0, 1) := by decide +kernel
theorem d_M_behindEnds_4 : decode b_M_behindEnds 4 = .ok (.getfield 7, 3) := by decide +kernel
theorem d_M_behindEnds_7 : decode b_M_behindEnds 7 = .ok (.bipush 7, 2) := by decide +kernel
theorem d_M_behindEnds_9 : decode b_M_behindEnds 9 = .ok (.iaload, 1) := by decide +kernel
theorem d_M_behindEnds_10 : decode b_M_behindEnds 10 = .ok (.if_icmp .ge 105, 3) := by decide +kernel
theorem d_M_behindEnds_13 : decode b_M_behindEnds 13 = .ok (.aload_n 0, 1) := by decide +kernel
theorem d_M_behindEnds_14 : decode b_M_behindEnds 14 = .ok (.getfield 7, 3) := by decide +kernel
theorem d_M_behindEnds_17 : decode b_M_behindEnds 17 = .ok (.bipush 38, 2) := by decide +kernel
theorem d_M_behindEnds_19 : decode b_M_behindEnds 19 = .ok (.bipush 6, 2) := by decide +kernel
theorem d_M_behindEnds_21 : decode b_M_behindEnds 21 = .ok (.iload_n 2, 1) := by decide +kernel
theorem d_M_behindEnds_22 : decode b_M_behindEnds 22 = .ok (.imul, 1) := by decide +kernel
theorem d_M_behindEnds_23 : decode b_M_behindEnds 23 = .ok (.iadd, 1) := by decide +kernel
theorem d_M_behindEnds_24 : decode b_M_behindEnds 24 = .ok (.iaload, 1) := by decide +kernel
theorem d_M_behindEnds_25 : decode b_M_behindEnds 25 = .ok (.bipush 19, 2) := by decide +kernel
theorem d_M_behindEnds_27 : decode b_M_behindEnds 27 = .ok (.if_icmp .ne 88, 3) := by decide +kernel
theorem d_M_behindEnds_30 : decode b_M_behindEnds 30 = .ok (.aload_n 0, 1) := by decide +kernel
theorem d_M_behindEnds_31 : decode b_M_behindEnds 31 = .ok (.getfield 7, 3) := by decide +kernel
theorem d_M_behindEnds_34 : decode b_M_behindEnds 34 = .ok (.bipush 38, 2) := by decide +kernel
theorem d_M_behindEnds_36 : decode b_M_behindEnds 36 = .ok (.bipush 6, 2) := by decide +kernel
theorem d_M_behindEnds_38 : decode b_M_behindEnds 38 = .ok (.iload_n 2, 1) := by decide +kernel
theorem d_M_behindEnds_39 : decode b_M_behindEnds 39 = .ok (.imul, 1) := by decide +kernel
theorem d_M_behindEnds_40 : decode b_M_behindEnds 40 = .ok (.iadd, 1) := by decide +kernel
theorem d_M_behindEnds_41 : decode b_M_behindEnds 41 = .ok (.iconst 4, 1) := by decide +kernel
theorem d_M_behindEnds_42 : decode b_M_behindEnds 42 = .ok (.iadd, 1) := by decide +kernel
theorem d_M_behindEnds_43 : decode b_M_behindEnds 43 = .ok (.iaload, 1) := by decide +kernel
theorem d_M_behindEnds_44 : decode b_M_behindEnds 44 = .ok (.istore_n 3, 1) := by decide +kernel
theorem d_M_behindEnds_45 : decode b_M_behindEnds 45 = .ok (.aload_n 0, 1) := by decide +kernel
theorem d_M_behindEnds_46 : decode b_M_behindEnds 46 = .ok (.getfield 7, 3) := by decide +kernel
theorem d_M_behindEnds_49 : decode b_M_behindEnds 49 = .ok (.bipush 38, 2) := by decide +kernel
theorem d_M_behindEnds_51 : decode b_M_behindEnds 51 = .ok (.bipush 6, 2) := by decide +kernel
theorem d_M_behindEnds_53 : decode b_M_behindEnds 53 = .ok (.iload_n 3, 1) := by decide +kernel
theorem d_M_behindEnds_54 : decode b_M_behindEnds 54 = .ok (.imul, 1) := by decide +kernel
theorem d_M_behindEnds_55 : decode b_M_behindEnds 55 = .ok (.iadd, 1) := by decide +kernel
theorem d_M_behindEnds_56 : decode b_M_behindEnds 56 = .ok (.iaload, 1) := by decide +kernel
theorem d_M_behindEnds_57 : decode b_M_behindEnds 57 = .ok (.bipush 18, 2) := by decide +kernel
theorem d_M_behindEnds_59 : decode b_M_behindEnds 59 = .ok (.if_icmp .ne 16, 3) := by decide +kernel
theorem d_M_behindEnds_62 : decode b_M_behindEnds 62 = .ok (.aload_n 0, 1) := by decide +kernel
theorem d_M_behindEnds_63 : decode b_M_behindEnds 63 = .ok (.getfield 102, 3) := by decide +kernel
theorem d_M_behindEnds_66 : decode b_M_behindEnds 66 = .ok (.iload_n 3, 1) := by decide +kernel
theorem d_M_behindEnds_67 : decode b_M_behindEnds 67 = .ok (.iaload, 1) := by decide +kernel
theorem d_M_behindEnds_68 : decode b_M_behindEnds 68 = .ok (.ifCond .le 7, 3) := by decide +kernel
theorem d_M_behindEnds_71 : decode b_M_behindEnds 71 = .ok (.iconst 1, 1) := by decide +kernel
theorem d_M_behindEnds_72 : decode b_M_behindEnds 72 = .ok (.goto 4, 3) := by decide +kernel
theorem d_M_behindEnds_75 : decode b_M_behindEnds 75 = .ok (.iconst 0, 1) := by decide +kernel
theorem d_M_behindEnds_76 : decode b_M_behindEnds 76 = .ok (.istore 4, 2) := by decide +kernel
theorem d_M_behindEnds_78 : decode b_M_behindEnds 78 = .ok (.aload_n 0, 1) := by decide +kernel
theorem d_M_behindEnds_79 : decode b_M_behindEnds 79 = .ok (.getfield 102, 3) := by decide +kernel
theorem d_M_behindEnds_82 : decode b_M_behindEnds 82 = .ok (.iload_n 3, 1) := by decide +kernel
theorem d_M_behindEnds_83 : decode b_M_behindEnds 83 = .ok (.dup2, 1) := by decide +kernel
theorem d_M_behindEnds_84 : decode b_M_behindEnds 84 = .ok (.iaload, 1) := by decide +kernel
theorem d_M_behindEnds_85 : decode b_M_behindEnds 85 = .ok (.iload 4, 2) := by decide +kernel
theorem d_M_behindEnds_87 : decode b_M_behindEnds 87 = .ok (.ifCond .eq 7, 3) := by decide +kernel
theorem d_M_behindEnds_90 : decode b_M_behindEnds 90 = .ok (.iconst 1, 1) := by decide +kernel
theorem d_M_behindEnds_91 : decode b_M_behindEnds 91 = .ok (.goto 4, 3) := by decide +kernel
theorem d_M_behindEnds_94 : decode b_M_behindEnds 94 = .ok (.iconst 0, 1) := by decide +kernel
theorem d_M_behindEnds_95 : decode b_M_behindEnds 95 = .ok (.isub, 1) := by decide +kernel
theorem d_M_behindEnds_96 : decode b_M_behindEnds 96 = .ok (.iastore, 1) := by decide +kernel
theorem d_M_behindEnds_97 : decode b_M_behindEnds 97 = .ok (.iload 4, 2) := by decide +kernel
theorem d_M_behindEnds_99 : decode b_M_behindEnds 99 = .ok (.ifCond .eq 9, 3) := by decide +kernel
theorem d_M_behindEnds_102 : decode b_M_behindEnds 102 = .ok (.iload_n 3, 1) := by decide +kernel
theorem d_M_behindEnds_103 : decode b_M_behindEnds 103 = .ok (.iconst 1, 1) := by decide +kernel
theorem d_M_behindEnds_104 : decode b_M_behindEnds 104 = .ok (.iadd, 1) := by decide +kernel
theorem d_M_behindEnds_105 : decode b_M_behindEnds 105 = .ok (.goto 6, 3) := by decide +kernel
theorem d_M_behindEnds_108 : decode b_M_behindEnds 108 = .ok (.iload_n 2, 1) := by decide +kernel
theorem d_M_behindEnds_109 : decode b_M_behindEnds 109 = .ok (.iconst 1, 1) := by decide +kernel
theorem d_M_behindEnds_110 : decode b_M_behindEnds 110 = .ok (.iadd, 1) := by decide +kernel
theorem d_M_behindEnds_111 : decode b_M_behindEnds 111 = .ok (.istore_n 2, 1) := by decide +kernel
theorem d_M_behindEnds_112 : decode b_M_behindEnds 112 = .ok (.goto (-110), 3) := by decide +kernel
theorem d_M_behindEnds_115 : decode b_M_behindEnds 115 = .ok (.iload_n 2, 1) := by decide +kernel
theorem d_M_behindEnds_116 : decode b_M_behindEnds 116 = .ok (.ireturn, 1) := by decide +kernel
theorem d_M_lived_0 : decode b_M_lived 0 = .ok (.iload_n 1, 1) := by decide +kernel
theorem d_M_lived_1 : decode b_M_lived 1 = .ok (.ifCond .lt 8, 3) := by decide +kernel
theorem d_M_lived_4 : decode b_M_lived 4 = .ok (.iload_n 1, 1) := by decide +kernel
theorem d_M_lived_5 : decode b_M_lived 5 = .ok (.iconst 4, 1) := by decide +kernel
theorem d_M_lived_6 : decode b_M_lived 6 = .ok (.if_icmp .le 11, 3) := by decide +kernel
theorem d_M_lived_9 : decode b_M_lived 9 = .ok (.aload_n 0, 1) := by decide +kernel
theorem d_M_lived_10 : decode b_M_lived 10 = .ok (.iconst 1, 1) := by decide +kernel
theorem d_M_lived_11 : decode b_M_lived 11 = .ok (.invokevirtual 121, 3) := by decide +kernel
theorem d_M_lived_14 : decode b_M_lived 14 = .ok (.goto 29, 3) := by decide +kernel
theorem d_M_lived_17 : decode b_M_lived 17 = .ok (.aload_n 0, 1) := by decide +kernel
theorem d_M_lived_18 : decode b_M_lived 18 = .ok (.getfield 515, 3) := by decide +kernel
theorem d_M_lived_21 : decode b_M_lived 21 = .ok (.ifCond .eq 16, 3) := by decide +kernel
theorem d_M_lived_24 : decode b_M_lived 24 = .ok (.aload_n 0, 1) := by decide +kernel
theorem d_M_lived_25 : decode b_M_lived 25 = .ok (.aload_n 0, 1) := by decide +kernel
theorem d_M_lived_26 : decode b_M_lived 26 = .ok (.getfield 108, 3) := by decide +kernel
theorem d_M_lived_29 : decode b_M_lived 29 = .ok (.iload_n 1, 1) := by decide +kernel
theorem d_M_lived_30 : decode b_M_lived 30 = .ok (.iaload, 1) := by decide +kernel
theorem d_M_lived_31 : decode b_M_lived 31 = .ok (.invokevirtual 125, 3) := by decide +kernel
theorem d_M_lived_34 : decode b_M_lived 34 = .ok (.goto 9, 3) := by decide +kernel
theorem d_M_lived_37 : decode b_M_lived 37 = .ok (.aload_n 0, 1) := by decide +kernel
theorem d_M_lived_38 : decode b_M_lived 38 = .ok (.bipush 6, 2) := by decide +kernel
theorem d_M_lived_40 : decode b_M_lived 40 = .ok (.invokevirtual 121, 3) := by decide +kernel
theorem d_M_lived_43 : decode b_M_lived 43 = .ok (.ireturn, 1) := by decide +kernel
theorem d_M_mean_0 : decode b_M_mean 0 = .ok (.iload_n 1, 1) := by decide +kernel
theorem d_M_mean_1 : decode b_M_mean 1 = .ok (.i2l, 1) := by decide +kernel
theorem d_M_mean_2 : decode b_M_mean 2 = .ok (.lconst 0, 1) := by decide +kernel
theorem d_M_mean_3 : decode b_M_mean 3 = .ok (.ldc2_w 510, 3) := by decide +kernel
theorem d_M_mean_6 : decode b_M_mean 6 = .ok (.invokestatic 306, 3) := by decide +kernel
theorem d_M_mean_9 : decode b_M_mean 9 = .ok (.ifCond .eq 26, 3) := by decide +kernel
theorem d_M_mean_12 : decode b_M_mean 12 = .ok (.iload_n 2, 1) := by decide +kernel
theorem d_M_mean_13 : decode b_M_mean 13 = .ok (.i2l, 1) := by decide +kernel
theorem d_M_mean_14 : decode b_M_mean 14 = .ok (.lconst 1, 1) := by decide +kernel
theorem d_M_mean_15 : decode b_M_mean 15 = .ok (.ldc2_w 380, 3) := by decide +kernel
theorem d_M_mean_18 : decode b_M_mean 18 = .ok (.invokestatic 306, 3) := by decide +kernel
theorem d_M_mean_21 : decode b_M_mean 21 = .ok (.ifCond .eq 14, 3) := by decide +kernel
theorem d_M_mean_24 : decode b_M_mean 24 = .ok (.iload_n 1, 1) := by decide +kernel
theorem d_M_mean_25 : decode b_M_mean 25 = .ok (.iload_n 2, 1) := by decide +kernel
theorem d_M_mean_26 : decode b_M_mean 26 = .ok (.iadd, 1) := by decide +kernel
theorem d_M_mean_27 : decode b_M_mean 27 = .ok (.iconst 1, 1) := by decide +kernel
theorem d_M_mean_28 : decode b_M_mean 28 = .ok (.isub, 1) := by decide +kernel
theorem d_M_mean_29 : decode b_M_mean 29 = .ok (.sipush 9999, 3) := by decide +kernel
theorem d_M_mean_32 : decode b_M_mean 32 = .ok (.if_icmp .le 9, 3) := by decide +kernel
theorem d_M_mean_35 : decode b_M_mean 35 = .ok (.aload_n 0, 1) := by decide +kernel
theorem d_M_mean_36 : decode b_M_mean 36 = .ok (.iconst 1, 1) := by decide +kernel
theorem d_M_mean_37 : decode b_M_mean 37 = .ok (.invokevirtual 128, 3) := by decide +kernel
theorem d_M_mean_40 : decode b_M_mean 40 = .ok (.ireturn, 1) := by decide +kernel
theorem d_M_mean_41 : decode b_M_mean 41 = .ok (.aload_n 0, 1) := by decide +kernel
theorem d_M_mean_42 : decode b_M_mean 42 = .ok (.getfield 7, 3) := by decide +kernel
theorem d_M_mean_45 : decode b_M_mean 45 = .ok (.bipush 7, 2) := by decide +kernel
theorem d_M_mean_47 : decode b_M_mean 47 = .ok (.iaload, 1) := by decide +kernel
theorem d_M_mean_48 : decode b_M_mean 48 = .ok (.iconst (-1), 1) := by decide +kernel
theorem d_M_mean_49 : decode b_M_mean 49 = .ok (.if_icmp .ne 10, 3) := by decide +kernel
theorem d_M_mean_52 : decode b_M_mean 52 = .ok (.aload_n 0, 1) := by decide +kernel
theorem d_M_mean_53 : decode b_M_mean 53 = .ok (.bipush 6, 2) := by decide +kernel
theorem d_M_mean_55 : decode b_M_mean 55 = .ok (.invokevirtual 128, 3) := by decide +kernel
theorem d_M_mean_58 : decode b_M_mean 58 = .ok (.ireturn, 1) := by decide +kernel
theorem d_M_mean_59 : decode b_M_mean 59 = .ok (.aload_n 0, 1) := by decide +kernel
theorem d_M_mean_60 : decode b_M_mean 60 = .ok (.sipush 2030, 3) := by decide +kernel
theorem d_M_mean_63 : decode b_M_mean 63 = .ok (.invokevirtual 374, 3) := by decide +kernel
theorem d_M_mean_66 : decode b_M_mean 66 = .ok (.lconst 0, 1) := by decide +kernel
theorem d_M_mean_67 : decode b_M_mean 67 = .ok (.lstore_n 3, 1) := by decide +kernel
theorem d_M_mean_68 : decode b_M_mean 68 = .ok (.iconst 0, 1) := by decide +kernel
theorem d_M_mean_69 : decode b_M_mean 69 = .ok (.istore 5, 2) := by decide +kernel
theorem d_M_mean_71 : decode b_M_mean 71 = .ok (.iload 5, 2) := by decide +kernel
theorem d_M_mean_73 : decode b_M_mean 73 = .ok (.iload_n 2, 1) := by decide +kernel
theorem d_M_mean_74 : decode b_M_mean 74 = .ok (.if_icmp .ge 35, 3) := by decide +kernel
theorem d_M_mean_77 : decode b_M_mean 77 = .ok (.aload_n 0, 1) := by decide +kernel
theorem d_M_mean_78 : decode b_M_mean 78 = .ok (.iload_n 1, 1) := by decide +kernel
theorem d_M_mean_79 : decode b_M_mean 79 = .ok (.iload 5, 2) := by decide +kernel
theorem d_M_mean_81 : decode b_M_mean 81 = .ok (.iadd, 1) := by decide +kernel
theorem d_M_mean_82 : decode b_M_mean 82 = .ok (.invokevirtual 512, 3) := by decide +kernel
theorem d_M_mean_85 : decode b_M_mean 85 = .ok (.lload_n 3, 1) := by decide +kernel
theorem d_M_mean_86 : decode b_M_mean 86 = .ok (.aload_n 0, 1) := by decide +kernel
theorem d_M_mean_87 : decode b_M_mean 87 = .ok (.getfield 7, 3) := by decide +kernel
theorem d_M_mean_90 : decode b_M_mean 90 = .ok (.bipush 8, 2) := by decide +kernel
theorem d_M_mean_92 : decode b_M_mean 92 = .ok (.iaload, 1) := by decide +kernel
theorem d_M_mean_93 : decode b_M_mean 93 = .ok (.i2l, 1) := by decide +kernel
theorem d_M_mean_94 : decode b_M_mean 94 = .ok (.ladd, 1) := by decide +kernel
theorem d_M_mean_95 : decode b_M_mean 95 = .ok (.lstore_n 3, 1) := by decide +kernel
theorem d_M_mean_96 : decode b_M_mean 96 = .ok (.aload_n 0, 1) := by decide +kernel
theorem d_M_mean_97 : decode b_M_mean 97 = .ok (.sipush 2030, 3) := by decide +kernel
theorem d_M_mean_100 : decode b_M_mean 100 = .ok (.invokevirtual 377, 3) := by decide +kernel
theorem d_M_mean_103 : decode b_M_mean 103 = .ok (.iinc 5 1, 3) := by decide +kernel
theorem d_M_mean_106 : decode b_M_mean 106 = .ok (.goto (-35), 3) := by decide +kernel
theorem d_M_mean_109 : decode b_M_mean 109 = .ok (.aload_n 0, 1) := by decide +kernel
theorem d_M_mean_110 : decode b_M_mean 110 = .ok (.lload_n 3, 1) := by decide +kernel
theorem d_M_mean_111 : decode b_M_mean 111 = .ok (.iload_n 2, 1) := by decide +kernel
theorem d_M_mean_112 : decode b_M_mean 112 = .ok (.i2l, 1) := by decide +kernel
theorem d_M_mean_113 : decode b_M_mean 113 = .ok (.invokevirtual 427, 3) := by decide +kernel
theorem d_M_mean_116 : decode b_M_mean 116 = .ok (.ireturn, 1) := by decide +kernel
theorem d_M_mark_0 : decode b_M_mark 0 = .ok (.aload_n 0, 1) := by decide +kernel
theorem d_M_mark_1 : decode b_M_mark 1 = .ok (.getfield 519, 3) := by decide +kernel
theorem d_M_mark_4 : decode b_M_mark 4 = .ok (.iconst 3, 1) := by decide +kernel
theorem d_M_mark_5 : decode b_M_mark 5 = .ok (.if_icmp .ne 9, 3) := by decide +kernel
theorem d_M_mark_8 : decode b_M_mark 8 = .ok (.aload_n 0, 1) := by decide +kernel
theorem d_M_mark_9 : decode b_M_mark 9 = .ok (.iconst 4, 1) := by decide +kernel
theorem d_M_mark_10 : decode b_M_mark 10 = .ok (.invokevirtual 121, 3) := by decide +kernel
theorem d_M_mark_13 : decode b_M_mark 13 = .ok (.ireturn, 1) := by decide +kernel
theorem d_M_mark_14 : decode b_M_mark 14 = .ok (.aload_n 0, 1) := by decide +kernel
theorem d_M_mark_15 : decode b_M_mark 15 = .ok (.dup, 1) := by decide +kernel
theorem d_M_mark_16 : decode b_M_mark 16 = .ok (.getfield 519, 3) := by decide +kernel
theorem d_M_mark_19 : decode b_M_mark 19 = .ok (.iconst 1, 1) := by decide +kernel
theorem d_M_mark_20 : decode b_M_mark 20 = .ok (.iadd, 1) := by decide +kernel
theorem d_M_mark_21 : decode b_M_mark 21 = .ok (.putfield 519, 3) := by decide +kernel
theorem d_M_mark_24 : decode b_M_mark 24 = .ok (.aload_n 0, 1) := by decide +kernel
theorem d_M_mark_25 : decode b_M_mark 25 = .ok (.iconst 0, 1) := by decide +kernel
theorem d_M_mark_26 : decode b_M_mark 26 = .ok (.aload_n 0, 1) := by decide +kernel
theorem d_M_mark_27 : decode b_M_mark 27 = .ok (.getfield 519, 3) := by decide +kernel
theorem d_M_mark_30 : decode b_M_mark 30 = .ok (.invokevirtual 522, 3) := by decide +kernel
theorem d_M_mark_33 : decode b_M_mark 33 = .ok (.aload_n 0, 1) := by decide +kernel
theorem d_M_mark_34 : decode b_M_mark 34 = .ok (.aload_n 0, 1) := by decide +kernel
theorem d_M_mark_35 : decode b_M_mark 35 = .ok (.getfield 519, 3) := by decide +kernel
theorem d_M_mark_38 : decode b_M_mark 38 = .ok (.invokevirtual 125, 3) := by decide +kernel
theorem d_M_mark_41 : decode b_M_mark 41 = .ok (.ireturn, 1) := by decide +kernel
theorem d_M_copies_0 : decode b_M_copies 0 = .ok (.iconst 0, 1) := by decide +kernel
theorem d_M_copies_1 : decode b_M_copies 1 = .ok (.istore_n 3, 1) := by decide +kernel
theorem d_M_copies_2 : decode b_M_copies 2 = .ok (.iload_n 3, 1) := by decide +kernel
theorem d_M_copies_3 : decode b_M_copies 3 = .ok (.sipush 406, 3) := by decide +kernel
theorem d_M_copies_6 : decode b_M_copies 6 = .ok (.if_icmp .ge 33, 3) := by decide +kernel
theorem d_M_copies_9 : decode b_M_copies 9 = .ok (.aload_n 0, 1) := by decide +kernel
theorem d_M_copies_10 : decode b_M_copies 10 = .ok (.getfield 7, 3) := by decide +kernel
theorem d_M_copies_13 : decode b_M_copies 13 = .ok (.sipush 406, 3) := by decide +kernel
theorem d_M_copies_16 : decode b_M_copies 16 = .ok (.iload_n 2, 1) := by decide +kernel
theorem d_M_copies_17 : decode b_M_copies 17 = .ok (.imul, 1) := by decide +kernel
theorem d_M_copies_18 : decode b_M_copies 18 = .ok (.iload_n 3, 1) := by decide +kernel
theorem d_M_copies_19 : decode b_M_copies 19 = .ok (.iadd, 1) := by decide +kernel
theorem d_M_copies_20 : decode b_M_copies 20 = .ok (.aload_n 0, 1) := by decide +kernel
theorem d_M_copies_21 : decode b_M_copies 21 = .ok (.getfield 7, 3) := by decide +kernel
theorem d_M_copies_24 : decode b_M_copies 24 = .ok (.sipush 406, 3) := by decide +kernel
theorem d_M_copies_27 : decode b_M_copies 27 = .ok (.iload_n 1, 1) := by decide +kernel
theorem d_M_copies_28 : decode b_M_copies 28 = .ok (.imul, 1) := by decide +kernel
theorem d_M_copies_29 : decode b_M_copies 29 = .ok (.iload_n 3, 1) := by decide +kernel
theorem d_M_copies_30 : decode b_M_copies 30 = .ok (.iadd, 1) := by decide +kernel
theorem d_M_copies_31 : decode b_M_copies 31 = .ok (.iaload, 1) := by decide +kernel
theorem d_M_copies_32 : decode b_M_copies 32 = .ok (.iastore, 1) := by decide +kernel
theorem d_M_copies_33 : decode b_M_copies 33 = .ok (.iinc 3 1, 3) := by decide +kernel
theorem d_M_copies_36 : decode b_M_copies 36 = .ok (.goto (-34), 3) := by decide +kernel
theorem d_M_copies_39 : decode b_M_copies 39 = .ok (.iconst 0, 1) := by decide +kernel
theorem d_M_copies_40 : decode b_M_copies 40 = .ok (.istore_n 3, 1) := by decide +kernel
theorem d_M_copies_41 : decode b_M_copies 41 = .ok (.iload_n 3, 1) := by decide +kernel
theorem d_M_copies_42 : decode b_M_copies 42 = .ok (.bipush 6, 2) := by decide +kernel
theorem d_M_copies_44 : decode b_M_copies 44 = .ok (.if_icmp .ge 31, 3) := by decide +kernel
theorem d_M_copies_47 : decode b_M_copies 47 = .ok (.aload_n 0, 1) := by decide +kernel
theorem d_M_copies_48 : decode b_M_copies 48 = .ok (.getfield 13, 3) := by decide +kernel
theorem d_M_copies_51 : decode b_M_copies 51 = .ok (.bipush 6, 2) := by decide +kernel
theorem d_M_copies_53 : decode b_M_copies 53 = .ok (.iload_n 2, 1) := by decide +kernel
theorem d_M_copies_54 : decode b_M_copies 54 = .ok (.imul, 1) := by decide +kernel
theorem d_M_copies_55 : decode b_M_copies 55 = .ok (.iload_n 3, 1) := by decide +kernel
theorem d_M_copies_56 : decode b_M_copies 56 = .ok (.iadd, 1) := by decide +kernel
theorem d_M_copies_57 : decode b_M_copies 57 = .ok (.aload_n 0, 1) := by decide +kernel
theorem d_M_copies_58 : decode b_M_copies 58 = .ok (.getfield 13, 3) := by decide +kernel
theorem d_M_copies_61 : decode b_M_copies 61 = .ok (.bipush 6, 2) := by decide +kernel
theorem d_M_copies_63 : decode b_M_copies 63 = .ok (.iload_n 1, 1) := by decide +kernel
theorem d_M_copies_64 : decode b_M_copies 64 = .ok (.imul, 1) := by decide +kernel
theorem d_M_copies_65 : decode b_M_copies 65 = .ok (.iload_n 3, 1) := by decide +kernel
theorem d_M_copies_66 : decode b_M_copies 66 = .ok (.iadd, 1) := by decide +kernel
theorem d_M_copies_67 : decode b_M_copies 67 = .ok (.laload, 1) := by decide +kernel
theorem d_M_copies_68 : decode b_M_copies 68 = .ok (.lastore, 1) := by decide +kernel
theorem d_M_copies_69 : decode b_M_copies 69 = .ok (.iinc 3 1, 3) := by decide +kernel
theorem d_M_copies_72 : decode b_M_copies 72 = .ok (.goto (-31), 3) := by decide +kernel
theorem d_M_copies_75 : decode b_M_copies 75 = .ok (.return_, 1) := by decide +kernel
theorem d_M_undo_0 : decode b_M_undo 0 = .ok (.aload_n 0, 1) := by decide +kernel
theorem d_M_undo_1 : decode b_M_undo 1 = .ok (.getfield 519, 3) := by decide +kernel
theorem d_M_undo_4 : decode b_M_undo 4 = .ok (.ifCond .ne 10, 3) := by decide +kernel
theorem d_M_undo_7 : decode b_M_undo 7 = .ok (.aload_n 0, 1) := by decide +kernel
theorem d_M_undo_8 : decode b_M_undo 8 = .ok (.bipush 6, 2) := by decide +kernel
theorem d_M_undo_10 : decode b_M_undo 10 = .ok (.invokevirtual 121, 3) := by decide +kernel
theorem d_M_undo_13 : decode b_M_undo 13 = .ok (.ireturn, 1) := by decide +kernel
theorem d_M_undo_14 : decode b_M_undo 14 = .ok (.aload_n 0, 1) := by decide +kernel
theorem d_M_undo_15 : decode b_M_undo 15 = .ok (.aload_n 0, 1) := by decide +kernel
theorem d_M_undo_16 : decode b_M_undo 16 = .ok (.getfield 519, 3) := by decide +kernel
theorem d_M_undo_19 : decode b_M_undo 19 = .ok (.iconst 0, 1) := by decide +kernel
theorem d_M_undo_20 : decode b_M_undo 20 = .ok (.invokevirtual 522, 3) := by decide +kernel
theorem d_M_undo_23 : decode b_M_undo 23 = .ok (.aload_n 0, 1) := by decide +kernel
theorem d_M_undo_24 : decode b_M_undo 24 = .ok (.dup, 1) := by decide +kernel
theorem d_M_undo_25 : decode b_M_undo 25 = .ok (.getfield 519, 3) := by decide +kernel
theorem d_M_undo_28 : decode b_M_undo 28 = .ok (.iconst 1, 1) := by decide +kernel
theorem d_M_undo_29 : decode b_M_undo 29 = .ok (.isub, 1) := by decide +kernel
theorem d_M_undo_30 : decode b_M_undo 30 = .ok (.putfield 519, 3) := by decide +kernel
theorem d_M_undo_33 : decode b_M_undo 33 = .ok (.aload_n 0, 1) := by decide +kernel
theorem d_M_undo_34 : decode b_M_undo 34 = .ok (.aload_n 0, 1) := by decide +kernel
theorem d_M_undo_35 : decode b_M_undo 35 = .ok (.getfield 519, 3) := by decide +kernel
theorem d_M_undo_38 : decode b_M_undo 38 = .ok (.invokevirtual 125, 3) := by decide +kernel
theorem d_M_undo_41 : decode b_M_undo 41 = .ok (.ireturn, 1) := by decide +kernel
