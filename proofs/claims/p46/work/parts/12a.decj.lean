theorem dJ5_init_d00df_0 : decode cJ5_init_d00df 0 = .ok (.aload_n 0, 1) := by decide +kernel
theorem dJ5_init_d00df_1 : decode cJ5_init_d00df 1 = .ok (.invokespecial 3, 3) := by decide +kernel
theorem dJ5_init_d00df_4 : decode cJ5_init_d00df 4 = .ok (.getstatic 18, 3) := by decide +kernel
theorem dJ5_init_d00df_7 : decode cJ5_init_d00df 7 = .ok (.ifCond .eq 18, 3) := by decide +kernel
theorem dJ5_init_d00df_10 : decode cJ5_init_d00df 10 = .ok (.aload_n 0, 1) := by decide +kernel
theorem dJ5_init_d00df_11 : decode cJ5_init_d00df 11 = .ok (.iload_n 1, 1) := by decide +kernel
theorem dJ5_init_d00df_12 : decode cJ5_init_d00df 12 = .ok (.newarray .byte, 2) := by decide +kernel
theorem dJ5_init_d00df_14 : decode cJ5_init_d00df 14 = .ok (.putfield 15, 3) := by decide +kernel
theorem dJ5_init_d00df_17 : decode cJ5_init_d00df 17 = .ok (.aload_n 0, 1) := by decide +kernel
theorem dJ5_init_d00df_18 : decode cJ5_init_d00df 18 = .ok (.iconst 0, 1) := by decide +kernel
theorem dJ5_init_d00df_19 : decode cJ5_init_d00df 19 = .ok (.putfield 22, 3) := by decide +kernel
theorem dJ5_init_d00df_22 : decode cJ5_init_d00df 22 = .ok (.goto 16, 3) := by decide +kernel
theorem dJ5_init_d00df_25 : decode cJ5_init_d00df 25 = .ok (.aload_n 0, 1) := by decide +kernel
theorem dJ5_init_d00df_26 : decode cJ5_init_d00df 26 = .ok (.iload_n 1, 1) := by decide +kernel
theorem dJ5_init_d00df_27 : decode cJ5_init_d00df 27 = .ok (.invokestatic 26, 3) := by decide +kernel
theorem dJ5_init_d00df_30 : decode cJ5_init_d00df 30 = .ok (.putfield 15, 3) := by decide +kernel
theorem dJ5_init_d00df_33 : decode cJ5_init_d00df 33 = .ok (.aload_n 0, 1) := by decide +kernel
theorem dJ5_init_d00df_34 : decode cJ5_init_d00df 34 = .ok (.iconst 1, 1) := by decide +kernel
theorem dJ5_init_d00df_35 : decode cJ5_init_d00df 35 = .ok (.putfield 22, 3) := by decide +kernel
theorem dJ5_init_d00df_38 : decode cJ5_init_d00df 38 = .ok (.return_, 1) := by decide +kernel
theorem dJ5_length_8abf5_0 : decode cJ5_length_8abf5 0 = .ok (.aload_n 0, 1) := by decide +kernel
theorem dJ5_length_8abf5_1 : decode cJ5_length_8abf5 1 = .ok (.getfield 79, 3) := by decide +kernel
theorem dJ5_length_8abf5_4 : decode cJ5_length_8abf5 4 = .ok (.ireturn, 1) := by decide +kernel
theorem dJ9_abs_0f7a4_0 : decode cJ9_abs_0f7a4 0 = .ok (.iload_n 0, 1) := by decide +kernel
theorem dJ9_abs_0f7a4_1 : decode cJ9_abs_0f7a4 1 = .ok (.ifCond .ge 8, 3) := by decide +kernel
theorem dJ9_abs_0f7a4_4 : decode cJ9_abs_0f7a4 4 = .ok (.iload_n 0, 1) := by decide +kernel
theorem dJ9_abs_0f7a4_5 : decode cJ9_abs_0f7a4 5 = .ok (.ineg, 1) := by decide +kernel
theorem dJ9_abs_0f7a4_6 : decode cJ9_abs_0f7a4 6 = .ok (.goto 4, 3) := by decide +kernel
theorem dJ9_abs_0f7a4_9 : decode cJ9_abs_0f7a4 9 = .ok (.iload_n 0, 1) := by decide +kernel
theorem dJ9_abs_0f7a4_10 : decode cJ9_abs_0f7a4 10 = .ok (.ireturn, 1) := by decide +kernel
theorem dJ9_max_7cf53_0 : decode cJ9_max_7cf53 0 = .ok (.iload_n 0, 1) := by decide +kernel
theorem dJ9_max_7cf53_1 : decode cJ9_max_7cf53 1 = .ok (.iload_n 1, 1) := by decide +kernel
theorem dJ9_max_7cf53_2 : decode cJ9_max_7cf53 2 = .ok (.if_icmp .lt 7, 3) := by decide +kernel
theorem dJ9_max_7cf53_5 : decode cJ9_max_7cf53 5 = .ok (.iload_n 0, 1) := by decide +kernel
theorem dJ9_max_7cf53_6 : decode cJ9_max_7cf53 6 = .ok (.goto 4, 3) := by decide +kernel
theorem dJ9_max_7cf53_9 : decode cJ9_max_7cf53 9 = .ok (.iload_n 1, 1) := by decide +kernel
theorem dJ9_max_7cf53_10 : decode cJ9_max_7cf53 10 = .ok (.ireturn, 1) := by decide +kernel
theorem dJ9_min_7cf53_0 : decode cJ9_min_7cf53 0 = .ok (.iload_n 0, 1) := by decide +kernel
theorem dJ9_min_7cf53_1 : decode cJ9_min_7cf53 1 = .ok (.iload_n 1, 1) := by decide +kernel
theorem dJ9_min_7cf53_2 : decode cJ9_min_7cf53 2 = .ok (.if_icmp .gt 7, 3) := by decide +kernel
theorem dJ9_min_7cf53_5 : decode cJ9_min_7cf53 5 = .ok (.iload_n 0, 1) := by decide +kernel
theorem dJ9_min_7cf53_6 : decode cJ9_min_7cf53 6 = .ok (.goto 4, 3) := by decide +kernel
theorem dJ9_min_7cf53_9 : decode cJ9_min_7cf53 9 = .ok (.iload_n 1, 1) := by decide +kernel
theorem dJ9_min_7cf53_10 : decode cJ9_min_7cf53 10 = .ok (.ireturn, 1) := by decide +kernel
theorem dJ4_init_da8c8_0 : decode cJ4_init_da8c8 0 = .ok (.aload_n 0, 1) := by decide +kernel
theorem dJ4_init_da8c8_1 : decode cJ4_init_da8c8 1 = .ok (.bipush 16, 2) := by decide +kernel
theorem dJ4_init_da8c8_3 : decode cJ4_init_da8c8 3 = .ok (.invokespecial 1, 3) := by decide +kernel
theorem dJ4_init_da8c8_6 : decode cJ4_init_da8c8 6 = .ok (.return_, 1) := by decide +kernel
theorem dJ4_length_8abf5_0 : decode cJ4_length_8abf5 0 = .ok (.aload_n 0, 1) := by decide +kernel
theorem dJ4_length_8abf5_1 : decode cJ4_length_8abf5 1 = .ok (.invokespecial 343, 3) := by decide +kernel
theorem dJ4_length_8abf5_4 : decode cJ4_length_8abf5 4 = .ok (.ireturn, 1) := by decide +kernel
theorem dJ2_newBytesFor_77867_0 : decode cJ2_newBytesFor_77867 0 = .ok (.iload_n 0, 1) := by decide +kernel
theorem dJ2_newBytesFor_77867_1 : decode cJ2_newBytesFor_77867 1 = .ok (.invokestatic 11, 3) := by decide +kernel
theorem dJ2_newBytesFor_77867_4 : decode cJ2_newBytesFor_77867 4 = .ok (.newarray .byte, 2) := by decide +kernel
theorem dJ2_newBytesFor_77867_6 : decode cJ2_newBytesFor_77867 6 = .ok (.areturn, 1) := by decide +kernel
theorem dJ2_newBytesLength_0f7a4_0 : decode cJ2_newBytesLength_0f7a4 0 = .ok (.iload_n 0, 1) := by decide +kernel
theorem dJ2_newBytesLength_0f7a4_1 : decode cJ2_newBytesLength_0f7a4 1 = .ok (.ifCond .ge 11, 3) := by decide +kernel
theorem dJ2_newBytesLength_0f7a4_4 : decode cJ2_newBytesLength_0f7a4 4 = .ok (.new 17, 3) := by decide +kernel
theorem dJ2_newBytesLength_0f7a4_7 : decode cJ2_newBytesLength_0f7a4 7 = .ok (.dup, 1) := by decide +kernel
theorem dJ2_newBytesLength_0f7a4_8 : decode cJ2_newBytesLength_0f7a4 8 = .ok (.invokespecial 19, 3) := by decide +kernel
theorem dJ2_newBytesLength_0f7a4_11 : decode cJ2_newBytesLength_0f7a4 11 = .ok (.athrow, 1) := by decide +kernel
theorem dJ2_newBytesLength_0f7a4_12 : decode cJ2_newBytesLength_0f7a4 12 = .ok (.iload_n 0, 1) := by decide +kernel
theorem dJ2_newBytesLength_0f7a4_13 : decode cJ2_newBytesLength_0f7a4 13 = .ok (.ldc 20, 2) := by decide +kernel
theorem dJ2_newBytesLength_0f7a4_15 : decode cJ2_newBytesLength_0f7a4 15 = .ok (.if_icmp .lt 40, 3) := by decide +kernel
theorem dJ2_newBytesLength_0f7a4_18 : decode cJ2_newBytesLength_0f7a4 18 = .ok (.new 21, 3) := by decide +kernel
theorem dJ2_newBytesLength_0f7a4_21 : decode cJ2_newBytesLength_0f7a4 21 = .ok (.dup, 1) := by decide +kernel
theorem dJ2_newBytesLength_0f7a4_22 : decode cJ2_newBytesLength_0f7a4 22 = .ok (.new 23, 3) := by decide +kernel
theorem dJ2_newBytesLength_0f7a4_25 : decode cJ2_newBytesLength_0f7a4 25 = .ok (.dup, 1) := by decide +kernel
theorem dJ2_newBytesLength_0f7a4_26 : decode cJ2_newBytesLength_0f7a4 26 = .ok (.invokespecial 25, 3) := by decide +kernel
theorem dJ2_newBytesLength_0f7a4_29 : decode cJ2_newBytesLength_0f7a4 29 = .ok (.ldc 26, 2) := by decide +kernel
theorem dJ2_newBytesLength_0f7a4_31 : decode cJ2_newBytesLength_0f7a4 31 = .ok (.invokevirtual 28, 3) := by decide +kernel
theorem dJ2_newBytesLength_0f7a4_34 : decode cJ2_newBytesLength_0f7a4 34 = .ok (.iload_n 0, 1) := by decide +kernel
theorem dJ2_newBytesLength_0f7a4_35 : decode cJ2_newBytesLength_0f7a4 35 = .ok (.invokevirtual 32, 3) := by decide +kernel
theorem dJ2_newBytesLength_0f7a4_38 : decode cJ2_newBytesLength_0f7a4 38 = .ok (.ldc 35, 2) := by decide +kernel
theorem dJ2_newBytesLength_0f7a4_40 : decode cJ2_newBytesLength_0f7a4 40 = .ok (.invokevirtual 28, 3) := by decide +kernel
theorem dJ2_newBytesLength_0f7a4_43 : decode cJ2_newBytesLength_0f7a4 43 = .ok (.ldc 20, 2) := by decide +kernel
theorem dJ2_newBytesLength_0f7a4_45 : decode cJ2_newBytesLength_0f7a4 45 = .ok (.invokevirtual 32, 3) := by decide +kernel
theorem dJ2_newBytesLength_0f7a4_48 : decode cJ2_newBytesLength_0f7a4 48 = .ok (.invokevirtual 37, 3) := by decide +kernel
theorem dJ2_newBytesLength_0f7a4_51 : decode cJ2_newBytesLength_0f7a4 51 = .ok (.invokespecial 41, 3) := by decide +kernel
theorem dJ2_newBytesLength_0f7a4_54 : decode cJ2_newBytesLength_0f7a4 54 = .ok (.athrow, 1) := by decide +kernel
theorem dJ2_newBytesLength_0f7a4_55 : decode cJ2_newBytesLength_0f7a4 55 = .ok (.iload_n 0, 1) := by decide +kernel
theorem dJ2_newBytesLength_0f7a4_56 : decode cJ2_newBytesLength_0f7a4 56 = .ok (.iconst 1, 1) := by decide +kernel
theorem dJ2_newBytesLength_0f7a4_57 : decode cJ2_newBytesLength_0f7a4 57 = .ok (.ishl, 1) := by decide +kernel
theorem dJ2_newBytesLength_0f7a4_58 : decode cJ2_newBytesLength_0f7a4 58 = .ok (.ireturn, 1) := by decide +kernel
theorem dL_cell_0 : decode cL_cell 0 = .ok (.ldc 7, 2) := by decide +kernel
theorem dL_cell_2 : decode cL_cell 2 = .ok (.iload_n 1, 1) := by decide +kernel
theorem dL_cell_3 : decode cL_cell 3 = .ok (.aload_n 0, 1) := by decide +kernel
theorem dL_cell_4 : decode cL_cell 4 = .ok (.arraylength, 1) := by decide +kernel
theorem dL_cell_5 : decode cL_cell 5 = .ok (.if_icmp .ge 9, 3) := by decide +kernel
theorem dL_cell_8 : decode cL_cell 8 = .ok (.aload_n 0, 1) := by decide +kernel
theorem dL_cell_9 : decode cL_cell 9 = .ok (.iload_n 1, 1) := by decide +kernel
theorem dL_cell_10 : decode cL_cell 10 = .ok (.iaload, 1) := by decide +kernel
theorem dL_cell_11 : decode cL_cell 11 = .ok (.goto 4, 3) := by decide +kernel
theorem dL_cell_14 : decode cL_cell 14 = .ok (.iconst 0, 1) := by decide +kernel
theorem dL_cell_15 : decode cL_cell 15 = .ok (.sipush 1009, 3) := by decide +kernel
theorem dL_cell_18 : decode cL_cell 18 = .ok (.iload_n 1, 1) := by decide +kernel
theorem dL_cell_19 : decode cL_cell 19 = .ok (.imul, 1) := by decide +kernel
theorem dL_cell_20 : decode cL_cell 20 = .ok (.iadd, 1) := by decide +kernel
theorem dL_cell_21 : decode cL_cell 21 = .ok (.imul, 1) := by decide +kernel
theorem dL_cell_22 : decode cL_cell 22 = .ok (.sipush 12345, 3) := by decide +kernel
theorem dL_cell_25 : decode cL_cell 25 = .ok (.iadd, 1) := by decide +kernel
theorem dL_cell_26 : decode cL_cell 26 = .ok (.istore_n 2, 1) := by decide +kernel
theorem dL_cell_27 : decode cL_cell 27 = .ok (.iload_n 2, 1) := by decide +kernel
theorem dL_cell_28 : decode cL_cell 28 = .ok (.iload_n 2, 1) := by decide +kernel
theorem dL_cell_29 : decode cL_cell 29 = .ok (.bipush 13, 2) := by decide +kernel
theorem dL_cell_31 : decode cL_cell 31 = .ok (.iushr, 1) := by decide +kernel
theorem dL_cell_32 : decode cL_cell 32 = .ok (.ixor, 1) := by decide +kernel
theorem dL_cell_33 : decode cL_cell 33 = .ok (.ldc 8, 2) := by decide +kernel
theorem dL_cell_35 : decode cL_cell 35 = .ok (.imul, 1) := by decide +kernel
theorem dL_cell_36 : decode cL_cell 36 = .ok (.istore_n 2, 1) := by decide +kernel
theorem dL_cell_37 : decode cL_cell 37 = .ok (.iload_n 2, 1) := by decide +kernel
theorem dL_cell_38 : decode cL_cell 38 = .ok (.iload_n 2, 1) := by decide +kernel
theorem dL_cell_39 : decode cL_cell 39 = .ok (.bipush 16, 2) := by decide +kernel
theorem dL_cell_41 : decode cL_cell 41 = .ok (.iushr, 1) := by decide +kernel
theorem dL_cell_42 : decode cL_cell 42 = .ok (.ixor, 1) := by decide +kernel
theorem dL_cell_43 : decode cL_cell 43 = .ok (.ireturn, 1) := by decide +kernel
theorem dL_pick_0 : decode cL_pick 0 = .ok (.aload_n 0, 1) := by decide +kernel
theorem dL_pick_1 : decode cL_pick 1 = .ok (.iload_n 1, 1) := by decide +kernel
theorem dL_pick_2 : decode cL_pick 2 = .ok (.invokestatic 9, 3) := by decide +kernel
theorem dL_pick_5 : decode cL_pick 5 = .ok (.bipush 8, 2) := by decide +kernel
theorem dL_pick_7 : decode cL_pick 7 = .ok (.iushr, 1) := by decide +kernel
theorem dL_pick_8 : decode cL_pick 8 = .ok (.iload_n 2, 1) := by decide +kernel
theorem dL_pick_9 : decode cL_pick 9 = .ok (.irem, 1) := by decide +kernel
theorem dL_pick_10 : decode cL_pick 10 = .ok (.ireturn, 1) := by decide +kernel
theorem dL_lay_0 : decode cL_lay 0 = .ok (.iconst 0, 1) := by decide +kernel
theorem dL_lay_1 : decode cL_lay 1 = .ok (.istore_n 2, 1) := by decide +kernel
theorem dL_lay_2 : decode cL_lay 2 = .ok (.iconst 0, 1) := by decide +kernel
theorem dL_lay_3 : decode cL_lay 3 = .ok (.istore_n 3, 1) := by decide +kernel
theorem dL_lay_4 : decode cL_lay 4 = .ok (.iload_n 3, 1) := by decide +kernel
theorem dL_lay_5 : decode cL_lay 5 = .ok (.iconst 4, 1) := by decide +kernel
theorem dL_lay_6 : decode cL_lay 6 = .ok (.if_icmp .ge 34, 3) := by decide +kernel
theorem dL_lay_9 : decode cL_lay 9 = .ok (.aload_n 0, 1) := by decide +kernel
theorem dL_lay_10 : decode cL_lay 10 = .ok (.iconst 1, 1) := by decide +kernel
theorem dL_lay_11 : decode cL_lay 11 = .ok (.aload_n 1, 1) := by decide +kernel
theorem dL_lay_12 : decode cL_lay 12 = .ok (.iload_n 3, 1) := by decide +kernel
theorem dL_lay_13 : decode cL_lay 13 = .ok (.iconst 5, 1) := by decide +kernel
theorem dL_lay_14 : decode cL_lay 14 = .ok (.invokestatic 15, 3) := by decide +kernel
theorem dL_lay_17 : decode cL_lay 17 = .ok (.iadd, 1) := by decide +kernel
theorem dL_lay_18 : decode cL_lay 18 = .ok (.bipush 20, 2) := by decide +kernel
theorem dL_lay_20 : decode cL_lay 20 = .ok (.aload_n 1, 1) := by decide +kernel
theorem dL_lay_21 : decode cL_lay 21 = .ok (.iconst 4, 1) := by decide +kernel
theorem dL_lay_22 : decode cL_lay 22 = .ok (.iload_n 3, 1) := by decide +kernel
theorem dL_lay_23 : decode cL_lay 23 = .ok (.iadd, 1) := by decide +kernel
theorem dL_lay_24 : decode cL_lay 24 = .ok (.bipush 41, 2) := by decide +kernel
theorem dL_lay_26 : decode cL_lay 26 = .ok (.invokestatic 15, 3) := by decide +kernel
theorem dL_lay_29 : decode cL_lay 29 = .ok (.iadd, 1) := by decide +kernel
theorem dL_lay_30 : decode cL_lay 30 = .ok (.invokevirtual 19, 3) := by decide +kernel
theorem dL_lay_33 : decode cL_lay 33 = .ok (.istore_n 2, 1) := by decide +kernel
theorem dL_lay_34 : decode cL_lay 34 = .ok (.iinc 3 1, 3) := by decide +kernel
theorem dL_lay_37 : decode cL_lay 37 = .ok (.goto (-33), 3) := by decide +kernel
theorem dL_lay_40 : decode cL_lay 40 = .ok (.iconst 0, 1) := by decide +kernel
theorem dL_lay_41 : decode cL_lay 41 = .ok (.istore_n 3, 1) := by decide +kernel
theorem dL_lay_42 : decode cL_lay 42 = .ok (.iload_n 3, 1) := by decide +kernel
theorem dL_lay_43 : decode cL_lay 43 = .ok (.bipush 6, 2) := by decide +kernel
theorem dL_lay_45 : decode cL_lay 45 = .ok (.if_icmp .ge 32, 3) := by decide +kernel
theorem dL_lay_48 : decode cL_lay 48 = .ok (.aload_n 0, 1) := by decide +kernel
theorem dL_lay_49 : decode cL_lay 49 = .ok (.aload_n 1, 1) := by decide +kernel
theorem dL_lay_50 : decode cL_lay 50 = .ok (.bipush 8, 2) := by decide +kernel
theorem dL_lay_52 : decode cL_lay 52 = .ok (.iload_n 3, 1) := by decide +kernel
theorem dL_lay_53 : decode cL_lay 53 = .ok (.iadd, 1) := by decide +kernel
theorem dL_lay_54 : decode cL_lay 54 = .ok (.iconst 4, 1) := by decide +kernel
theorem dL_lay_55 : decode cL_lay 55 = .ok (.invokestatic 15, 3) := by decide +kernel
theorem dL_lay_58 : decode cL_lay 58 = .ok (.aload_n 1, 1) := by decide +kernel
theorem dL_lay_59 : decode cL_lay 59 = .ok (.bipush 14, 2) := by decide +kernel
theorem dL_lay_61 : decode cL_lay 61 = .ok (.iload_n 3, 1) := by decide +kernel
theorem dL_lay_62 : decode cL_lay 62 = .ok (.iadd, 1) := by decide +kernel
theorem dL_lay_63 : decode cL_lay 63 = .ok (.iconst 3, 1) := by decide +kernel
theorem dL_lay_64 : decode cL_lay 64 = .ok (.invokestatic 15, 3) := by decide +kernel
theorem dL_lay_67 : decode cL_lay 67 = .ok (.invokevirtual 25, 3) := by decide +kernel
theorem dL_lay_70 : decode cL_lay 70 = .ok (.istore_n 2, 1) := by decide +kernel
theorem dL_lay_71 : decode cL_lay 71 = .ok (.iinc 3 1, 3) := by decide +kernel
theorem dL_lay_74 : decode cL_lay 74 = .ok (.goto (-32), 3) := by decide +kernel
theorem dL_lay_77 : decode cL_lay 77 = .ok (.iconst 0, 1) := by decide +kernel
theorem dL_lay_78 : decode cL_lay 78 = .ok (.istore_n 3, 1) := by decide +kernel
theorem dL_lay_79 : decode cL_lay 79 = .ok (.iload_n 3, 1) := by decide +kernel
theorem dL_lay_80 : decode cL_lay 80 = .ok (.aload_n 0, 1) := by decide +kernel
theorem dL_lay_81 : decode cL_lay 81 = .ok (.iconst 3, 1) := by decide +kernel
theorem dL_lay_82 : decode cL_lay 82 = .ok (.invokevirtual 28, 3) := by decide +kernel
theorem dL_lay_85 : decode cL_lay 85 = .ok (.if_icmp .ge 45, 3) := by decide +kernel
theorem dL_lay_88 : decode cL_lay 88 = .ok (.aload_n 0, 1) := by decide +kernel
theorem dL_lay_89 : decode cL_lay 89 = .ok (.iload_n 3, 1) := by decide +kernel
theorem dL_lay_90 : decode cL_lay 90 = .ok (.bipush 8, 2) := by decide +kernel
theorem dL_lay_92 : decode cL_lay 92 = .ok (.aload_n 1, 1) := by decide +kernel
theorem dL_lay_93 : decode cL_lay 93 = .ok (.bipush 20, 2) := by decide +kernel
theorem dL_lay_95 : decode cL_lay 95 = .ok (.iload_n 3, 1) := by decide +kernel
theorem dL_lay_96 : decode cL_lay 96 = .ok (.iadd, 1) := by decide +kernel
theorem dL_lay_97 : decode cL_lay 97 = .ok (.bipush 44, 2) := by decide +kernel
theorem dL_lay_99 : decode cL_lay 99 = .ok (.invokestatic 15, 3) := by decide +kernel
theorem dL_lay_102 : decode cL_lay 102 = .ok (.iadd, 1) := by decide +kernel
theorem dL_lay_103 : decode cL_lay 103 = .ok (.invokevirtual 32, 3) := by decide +kernel
theorem dL_lay_106 : decode cL_lay 106 = .ok (.aload_n 0, 1) := by decide +kernel
theorem dL_lay_107 : decode cL_lay 107 = .ok (.iload_n 3, 1) := by decide +kernel
theorem dL_lay_108 : decode cL_lay 108 = .ok (.iconst 1, 1) := by decide +kernel
theorem dL_lay_109 : decode cL_lay 109 = .ok (.aload_n 1, 1) := by decide +kernel
theorem dL_lay_110 : decode cL_lay 110 = .ok (.bipush 28, 2) := by decide +kernel
theorem dL_lay_112 : decode cL_lay 112 = .ok (.iload_n 3, 1) := by decide +kernel
theorem dL_lay_113 : decode cL_lay 113 = .ok (.iadd, 1) := by decide +kernel
theorem dL_lay_114 : decode cL_lay 114 = .ok (.iconst 3, 1) := by decide +kernel
theorem dL_lay_115 : decode cL_lay 115 = .ok (.invokestatic 15, 3) := by decide +kernel
theorem dL_lay_118 : decode cL_lay 118 = .ok (.iadd, 1) := by decide +kernel
theorem dL_lay_119 : decode cL_lay 119 = .ok (.invokevirtual 35, 3) := by decide +kernel
theorem dL_lay_122 : decode cL_lay 122 = .ok (.iadd, 1) := by decide +kernel
theorem dL_lay_123 : decode cL_lay 123 = .ok (.istore_n 2, 1) := by decide +kernel
theorem dL_lay_124 : decode cL_lay 124 = .ok (.iinc 3 1, 3) := by decide +kernel
theorem dL_lay_127 : decode cL_lay 127 = .ok (.goto (-48), 3) := by decide +kernel
theorem dL_lay_130 : decode cL_lay 130 = .ok (.iconst 0, 1) := by decide +kernel
theorem dL_lay_131 : decode cL_lay 131 = .ok (.istore_n 3, 1) := by decide +kernel
theorem dL_lay_132 : decode cL_lay 132 = .ok (.iload_n 3, 1) := by decide +kernel
theorem dL_lay_133 : decode cL_lay 133 = .ok (.iconst 4, 1) := by decide +kernel
theorem dL_lay_134 : decode cL_lay 134 = .ok (.if_icmp .ge 46, 3) := by decide +kernel
theorem dL_lay_137 : decode cL_lay 137 = .ok (.aload_n 0, 1) := by decide +kernel
theorem dL_lay_138 : decode cL_lay 138 = .ok (.aload_n 1, 1) := by decide +kernel
theorem dL_lay_139 : decode cL_lay 139 = .ok (.bipush 36, 2) := by decide +kernel
theorem dL_lay_141 : decode cL_lay 141 = .ok (.iload_n 3, 1) := by decide +kernel
theorem dL_lay_142 : decode cL_lay 142 = .ok (.iadd, 1) := by decide +kernel
theorem dL_lay_143 : decode cL_lay 143 = .ok (.iconst 3, 1) := by decide +kernel
theorem dL_lay_144 : decode cL_lay 144 = .ok (.invokestatic 15, 3) := by decide +kernel
theorem dL_lay_147 : decode cL_lay 147 = .ok (.iconst 1, 1) := by decide +kernel
theorem dL_lay_148 : decode cL_lay 148 = .ok (.aload_n 1, 1) := by decide +kernel
theorem dL_lay_149 : decode cL_lay 149 = .ok (.bipush 40, 2) := by decide +kernel
theorem dL_lay_151 : decode cL_lay 151 = .ok (.iload_n 3, 1) := by decide +kernel
theorem dL_lay_152 : decode cL_lay 152 = .ok (.iadd, 1) := by decide +kernel
theorem dL_lay_153 : decode cL_lay 153 = .ok (.iconst 4, 1) := by decide +kernel
theorem dL_lay_154 : decode cL_lay 154 = .ok (.invokestatic 15, 3) := by decide +kernel
theorem dL_lay_157 : decode cL_lay 157 = .ok (.iadd, 1) := by decide +kernel
theorem dL_lay_158 : decode cL_lay 158 = .ok (.iconst 1, 1) := by decide +kernel
theorem dL_lay_159 : decode cL_lay 159 = .ok (.aload_n 1, 1) := by decide +kernel
theorem dL_lay_160 : decode cL_lay 160 = .ok (.bipush 44, 2) := by decide +kernel
theorem dL_lay_162 : decode cL_lay 162 = .ok (.iload_n 3, 1) := by decide +kernel
theorem dL_lay_163 : decode cL_lay 163 = .ok (.iadd, 1) := by decide +kernel
theorem dL_lay_164 : decode cL_lay 164 = .ok (.bipush 60, 2) := by decide +kernel
theorem dL_lay_166 : decode cL_lay 166 = .ok (.invokestatic 15, 3) := by decide +kernel
theorem dL_lay_169 : decode cL_lay 169 = .ok (.iadd, 1) := by decide +kernel
theorem dL_lay_170 : decode cL_lay 170 = .ok (.invokevirtual 38, 3) := by decide +kernel
theorem dL_lay_173 : decode cL_lay 173 = .ok (.istore_n 2, 1) := by decide +kernel
theorem dL_lay_174 : decode cL_lay 174 = .ok (.iinc 3 1, 3) := by decide +kernel
theorem dL_lay_177 : decode cL_lay 177 = .ok (.goto (-45), 3) := by decide +kernel
theorem dL_lay_180 : decode cL_lay 180 = .ok (.return_, 1) := by decide +kernel
theorem dL_done_0 : decode cL_done 0 = .ok (.aload_n 1, 1) := by decide +kernel
theorem dL_done_1 : decode cL_done 1 = .ok (.iload_n 2, 1) := by decide +kernel
theorem dL_done_2 : decode cL_done 2 = .ok (.iconst 1, 1) := by decide +kernel
theorem dL_done_3 : decode cL_done 3 = .ok (.iadd, 1) := by decide +kernel
theorem dL_done_4 : decode cL_done 4 = .ok (.iconst 1, 1) := by decide +kernel
theorem dL_done_5 : decode cL_done 5 = .ok (.aload_n 0, 1) := by decide +kernel
theorem dL_done_6 : decode cL_done 6 = .ok (.iconst 3, 1) := by decide +kernel
theorem dL_done_7 : decode cL_done 7 = .ok (.invokevirtual 28, 3) := by decide +kernel
theorem dL_done_10 : decode cL_done 10 = .ok (.invokestatic 42, 3) := by decide +kernel
theorem dL_done_13 : decode cL_done 13 = .ok (.invokestatic 15, 3) := by decide +kernel
theorem dL_done_16 : decode cL_done 16 = .ok (.istore 4, 2) := by decide +kernel
theorem dL_done_18 : decode cL_done 18 = .ok (.aload_n 1, 1) := by decide +kernel
theorem dL_done_19 : decode cL_done 19 = .ok (.iload_n 2, 1) := by decide +kernel
theorem dL_done_20 : decode cL_done 20 = .ok (.iconst 2, 1) := by decide +kernel
theorem dL_done_21 : decode cL_done 21 = .ok (.iadd, 1) := by decide +kernel
theorem dL_done_22 : decode cL_done 22 = .ok (.iconst 1, 1) := by decide +kernel
theorem dL_done_23 : decode cL_done 23 = .ok (.aload_n 0, 1) := by decide +kernel
theorem dL_done_24 : decode cL_done 24 = .ok (.bipush 7, 2) := by decide +kernel
theorem dL_done_26 : decode cL_done 26 = .ok (.invokevirtual 28, 3) := by decide +kernel
theorem dL_done_29 : decode cL_done 29 = .ok (.invokestatic 42, 3) := by decide +kernel
theorem dL_done_32 : decode cL_done 32 = .ok (.invokestatic 15, 3) := by decide +kernel
theorem dL_done_35 : decode cL_done 35 = .ok (.istore 5, 2) := by decide +kernel
theorem dL_done_37 : decode cL_done 37 = .ok (.iload_n 3, 1) := by decide +kernel
theorem dL_done_38 : decode cL_done 38 = .ok (.tableswitch 235 0 11 #[62, 90, 90, 115, 115, 115, 149, 165, 165, 182, 182, 200], 62) := by decide +kernel
theorem dL_done_100 : decode cL_done 100 = .ok (.aload_n 0, 1) := by decide +kernel
theorem dL_done_101 : decode cL_done 101 = .ok (.iconst 1, 1) := by decide +kernel
theorem dL_done_102 : decode cL_done 102 = .ok (.aload_n 1, 1) := by decide +kernel
theorem dL_done_103 : decode cL_done 103 = .ok (.iload_n 2, 1) := by decide +kernel
theorem dL_done_104 : decode cL_done 104 = .ok (.iconst 2, 1) := by decide +kernel
theorem dL_done_105 : decode cL_done 105 = .ok (.iadd, 1) := by decide +kernel
theorem dL_done_106 : decode cL_done 106 = .ok (.bipush 9, 2) := by decide +kernel
theorem dL_done_108 : decode cL_done 108 = .ok (.invokestatic 15, 3) := by decide +kernel
theorem dL_done_111 : decode cL_done 111 = .ok (.iadd, 1) := by decide +kernel
theorem dL_done_112 : decode cL_done 112 = .ok (.bipush 10, 2) := by decide +kernel
theorem dL_done_114 : decode cL_done 114 = .ok (.aload_n 1, 1) := by decide +kernel
theorem dL_done_115 : decode cL_done 115 = .ok (.iload_n 2, 1) := by decide +kernel
theorem dL_done_116 : decode cL_done 116 = .ok (.iconst 3, 1) := by decide +kernel
theorem dL_done_117 : decode cL_done 117 = .ok (.iadd, 1) := by decide +kernel
theorem dL_done_118 : decode cL_done 118 = .ok (.bipush 51, 2) := by decide +kernel
theorem dL_done_120 : decode cL_done 120 = .ok (.invokestatic 15, 3) := by decide +kernel
theorem dL_done_123 : decode cL_done 123 = .ok (.iadd, 1) := by decide +kernel
theorem dL_done_124 : decode cL_done 124 = .ok (.invokevirtual 19, 3) := by decide +kernel
theorem dL_done_127 : decode cL_done 127 = .ok (.ireturn, 1) := by decide +kernel
theorem dL_done_128 : decode cL_done 128 = .ok (.aload_n 0, 1) := by decide +kernel
theorem dL_done_129 : decode cL_done 129 = .ok (.aload_n 1, 1) := by decide +kernel
theorem dL_done_130 : decode cL_done 130 = .ok (.iload_n 2, 1) := by decide +kernel
theorem dL_done_131 : decode cL_done 131 = .ok (.iconst 2, 1) := by decide +kernel
theorem dL_done_132 : decode cL_done 132 = .ok (.iadd, 1) := by decide +kernel
theorem dL_done_133 : decode cL_done 133 = .ok (.aload_n 0, 1) := by decide +kernel
theorem dL_done_134 : decode cL_done 134 = .ok (.iconst 2, 1) := by decide +kernel
theorem dL_done_135 : decode cL_done 135 = .ok (.invokevirtual 28, 3) := by decide +kernel
theorem dL_done_138 : decode cL_done 138 = .ok (.invokestatic 15, 3) := by decide +kernel
theorem dL_done_141 : decode cL_done 141 = .ok (.aload_n 1, 1) := by decide +kernel
theorem dL_done_142 : decode cL_done 142 = .ok (.iload_n 2, 1) := by decide +kernel
theorem dL_done_143 : decode cL_done 143 = .ok (.iconst 3, 1) := by decide +kernel
theorem dL_done_144 : decode cL_done 144 = .ok (.iadd, 1) := by decide +kernel
theorem dL_done_145 : decode cL_done 145 = .ok (.iconst 3, 1) := by decide +kernel
theorem dL_done_146 : decode cL_done 146 = .ok (.invokestatic 15, 3) := by decide +kernel
theorem dL_done_149 : decode cL_done 149 = .ok (.invokevirtual 25, 3) := by decide +kernel
theorem dL_done_152 : decode cL_done 152 = .ok (.ireturn, 1) := by decide +kernel
theorem dL_done_153 : decode cL_done 153 = .ok (.aload_n 0, 1) := by decide +kernel
theorem dL_done_154 : decode cL_done 154 = .ok (.iload 4, 2) := by decide +kernel
theorem dL_done_156 : decode cL_done 156 = .ok (.iconst 1, 1) := by decide +kernel
theorem dL_done_157 : decode cL_done 157 = .ok (.aload_n 1, 1) := by decide +kernel
theorem dL_done_158 : decode cL_done 158 = .ok (.iload_n 2, 1) := by decide +kernel
theorem dL_done_159 : decode cL_done 159 = .ok (.iconst 3, 1) := by decide +kernel
theorem dL_done_160 : decode cL_done 160 = .ok (.iadd, 1) := by decide +kernel
theorem dL_done_161 : decode cL_done 161 = .ok (.aload_n 1, 1) := by decide +kernel
theorem dL_done_162 : decode cL_done 162 = .ok (.iload_n 2, 1) := by decide +kernel
theorem dL_done_163 : decode cL_done 163 = .ok (.iconst 2, 1) := by decide +kernel
theorem dL_done_164 : decode cL_done 164 = .ok (.iadd, 1) := by decide +kernel
theorem dL_done_165 : decode cL_done 165 = .ok (.iconst 2, 1) := by decide +kernel
theorem dL_done_166 : decode cL_done 166 = .ok (.invokestatic 15, 3) := by decide +kernel
theorem dL_done_169 : decode cL_done 169 = .ok (.ifCond .ne 8, 3) := by decide +kernel
theorem dL_done_172 : decode cL_done 172 = .ok (.bipush 12, 2) := by decide +kernel
theorem dL_done_174 : decode cL_done 174 = .ok (.goto 5, 3) := by decide +kernel
theorem dL_done_177 : decode cL_done 177 = .ok (.bipush 44, 2) := by decide +kernel
theorem dL_done_179 : decode cL_done 179 = .ok (.invokestatic 15, 3) := by decide +kernel
theorem dL_done_182 : decode cL_done 182 = .ok (.iadd, 1) := by decide +kernel
theorem dL_done_183 : decode cL_done 183 = .ok (.invokevirtual 32, 3) := by decide +kernel
theorem dL_done_186 : decode cL_done 186 = .ok (.ireturn, 1) := by decide +kernel
theorem dL_done_187 : decode cL_done 187 = .ok (.aload_n 0, 1) := by decide +kernel
theorem dL_done_188 : decode cL_done 188 = .ok (.iconst 1, 1) := by decide +kernel
theorem dL_done_189 : decode cL_done 189 = .ok (.aload_n 1, 1) := by decide +kernel
theorem dL_done_190 : decode cL_done 190 = .ok (.iload_n 2, 1) := by decide +kernel
theorem dL_done_191 : decode cL_done 191 = .ok (.iconst 3, 1) := by decide +kernel
theorem dL_done_192 : decode cL_done 192 = .ok (.iadd, 1) := by decide +kernel
theorem dL_done_193 : decode cL_done 193 = .ok (.bipush 12, 2) := by decide +kernel
theorem dL_done_195 : decode cL_done 195 = .ok (.invokestatic 15, 3) := by decide +kernel
theorem dL_done_198 : decode cL_done 198 = .ok (.iadd, 1) := by decide +kernel
theorem dL_done_199 : decode cL_done 199 = .ok (.invokevirtual 47, 3) := by decide +kernel
theorem dL_done_202 : decode cL_done 202 = .ok (.ireturn, 1) := by decide +kernel
theorem dL_done_203 : decode cL_done 203 = .ok (.aload_n 0, 1) := by decide +kernel
theorem dL_done_204 : decode cL_done 204 = .ok (.iload 4, 2) := by decide +kernel
theorem dL_done_206 : decode cL_done 206 = .ok (.iconst 1, 1) := by decide +kernel
theorem dL_done_207 : decode cL_done 207 = .ok (.aload_n 1, 1) := by decide +kernel
theorem dL_done_208 : decode cL_done 208 = .ok (.iload_n 2, 1) := by decide +kernel
theorem dL_done_209 : decode cL_done 209 = .ok (.iconst 3, 1) := by decide +kernel
theorem dL_done_210 : decode cL_done 210 = .ok (.iadd, 1) := by decide +kernel
theorem dL_done_211 : decode cL_done 211 = .ok (.iconst 4, 1) := by decide +kernel
theorem dL_done_212 : decode cL_done 212 = .ok (.invokestatic 15, 3) := by decide +kernel
theorem dL_done_215 : decode cL_done 215 = .ok (.iadd, 1) := by decide +kernel
theorem dL_done_216 : decode cL_done 216 = .ok (.invokevirtual 35, 3) := by decide +kernel
theorem dL_done_219 : decode cL_done 219 = .ok (.ireturn, 1) := by decide +kernel
theorem dL_done_220 : decode cL_done 220 = .ok (.aload_n 0, 1) := by decide +kernel
theorem dL_done_221 : decode cL_done 221 = .ok (.iload 4, 2) := by decide +kernel
theorem dL_done_223 : decode cL_done 223 = .ok (.iconst 1, 1) := by decide +kernel
theorem dL_done_224 : decode cL_done 224 = .ok (.aload_n 1, 1) := by decide +kernel
theorem dL_done_225 : decode cL_done 225 = .ok (.iload_n 2, 1) := by decide +kernel
theorem dL_done_226 : decode cL_done 226 = .ok (.iconst 3, 1) := by decide +kernel
theorem dL_done_227 : decode cL_done 227 = .ok (.iadd, 1) := by decide +kernel
theorem dL_done_228 : decode cL_done 228 = .ok (.bipush 9, 2) := by decide +kernel
theorem dL_done_230 : decode cL_done 230 = .ok (.invokestatic 15, 3) := by decide +kernel
theorem dL_done_233 : decode cL_done 233 = .ok (.iadd, 1) := by decide +kernel
theorem dL_done_234 : decode cL_done 234 = .ok (.invokevirtual 50, 3) := by decide +kernel
theorem dL_done_237 : decode cL_done 237 = .ok (.ireturn, 1) := by decide +kernel
theorem dL_done_238 : decode cL_done 238 = .ok (.aload_n 0, 1) := by decide +kernel
theorem dL_done_239 : decode cL_done 239 = .ok (.aload_n 1, 1) := by decide +kernel
theorem dL_done_240 : decode cL_done 240 = .ok (.iload_n 2, 1) := by decide +kernel
theorem dL_done_241 : decode cL_done 241 = .ok (.iconst 1, 1) := by decide +kernel
theorem dL_done_242 : decode cL_done 242 = .ok (.iadd, 1) := by decide +kernel
theorem dL_done_243 : decode cL_done 243 = .ok (.iconst 3, 1) := by decide +kernel
theorem dL_done_244 : decode cL_done 244 = .ok (.invokestatic 15, 3) := by decide +kernel
theorem dL_done_247 : decode cL_done 247 = .ok (.iconst 1, 1) := by decide +kernel
theorem dL_done_248 : decode cL_done 248 = .ok (.aload_n 1, 1) := by decide +kernel
theorem dL_done_249 : decode cL_done 249 = .ok (.iload_n 2, 1) := by decide +kernel
theorem dL_done_250 : decode cL_done 250 = .ok (.iconst 2, 1) := by decide +kernel
theorem dL_done_251 : decode cL_done 251 = .ok (.iadd, 1) := by decide +kernel
theorem dL_done_252 : decode cL_done 252 = .ok (.bipush 9, 2) := by decide +kernel
theorem dL_done_254 : decode cL_done 254 = .ok (.invokestatic 15, 3) := by decide +kernel
theorem dL_done_257 : decode cL_done 257 = .ok (.iadd, 1) := by decide +kernel
theorem dL_done_258 : decode cL_done 258 = .ok (.iconst 1, 1) := by decide +kernel
theorem dL_done_259 : decode cL_done 259 = .ok (.aload_n 1, 1) := by decide +kernel
theorem dL_done_260 : decode cL_done 260 = .ok (.iload_n 2, 1) := by decide +kernel
theorem dL_done_261 : decode cL_done 261 = .ok (.iconst 3, 1) := by decide +kernel
theorem dL_done_262 : decode cL_done 262 = .ok (.iadd, 1) := by decide +kernel
theorem dL_done_263 : decode cL_done 263 = .ok (.bipush 99, 2) := by decide +kernel
theorem dL_done_265 : decode cL_done 265 = .ok (.invokestatic 15, 3) := by decide +kernel
theorem dL_done_268 : decode cL_done 268 = .ok (.iadd, 1) := by decide +kernel
theorem dL_done_269 : decode cL_done 269 = .ok (.invokevirtual 38, 3) := by decide +kernel
theorem dL_done_272 : decode cL_done 272 = .ok (.ireturn, 1) := by decide +kernel
theorem dL_done_273 : decode cL_done 273 = .ok (.aload_n 0, 1) := by decide +kernel
theorem dL_done_274 : decode cL_done 274 = .ok (.aload_n 0, 1) := by decide +kernel
theorem dL_done_275 : decode cL_done 275 = .ok (.iload 5, 2) := by decide +kernel
theorem dL_done_277 : decode cL_done 277 = .ok (.invokevirtual 53, 3) := by decide +kernel
theorem dL_done_280 : decode cL_done 280 = .ok (.ifCond .lt 23, 3) := by decide +kernel
theorem dL_done_283 : decode cL_done 283 = .ok (.aload_n 1, 1) := by decide +kernel
theorem dL_done_284 : decode cL_done 284 = .ok (.iload_n 2, 1) := by decide +kernel
theorem dL_done_285 : decode cL_done 285 = .ok (.iconst 3, 1) := by decide +kernel
theorem dL_done_286 : decode cL_done 286 = .ok (.iadd, 1) := by decide +kernel
theorem dL_done_287 : decode cL_done 287 = .ok (.iconst 3, 1) := by decide +kernel
theorem dL_done_288 : decode cL_done 288 = .ok (.invokestatic 15, 3) := by decide +kernel
theorem dL_done_291 : decode cL_done 291 = .ok (.ifCond .le 12, 3) := by decide +kernel
theorem dL_done_294 : decode cL_done 294 = .ok (.aload_n 0, 1) := by decide +kernel
theorem dL_done_295 : decode cL_done 295 = .ok (.iload 5, 2) := by decide +kernel
theorem dL_done_297 : decode cL_done 297 = .ok (.invokevirtual 53, 3) := by decide +kernel
theorem dL_done_300 : decode cL_done 300 = .ok (.goto 5, 3) := by decide +kernel
theorem dL_done_303 : decode cL_done 303 = .ok (.iload 4, 2) := by decide +kernel
theorem dL_done_305 : decode cL_done 305 = .ok (.iload 5, 2) := by decide +kernel
theorem dL_done_307 : decode cL_done 307 = .ok (.invokevirtual 56, 3) := by decide +kernel
theorem dL_done_310 : decode cL_done 310 = .ok (.ireturn, 1) := by decide +kernel
theorem dL_any_0 : decode cL_any 0 = .ok (.aload_n 0, 1) := by decide +kernel
theorem dL_any_1 : decode cL_any 1 = .ok (.aload_n 1, 1) := by decide +kernel
theorem dL_any_2 : decode cL_any 2 = .ok (.iload_n 2, 1) := by decide +kernel
theorem dL_any_3 : decode cL_any 3 = .ok (.aload_n 1, 1) := by decide +kernel
theorem dL_any_4 : decode cL_any 4 = .ok (.iload_n 2, 1) := by decide +kernel
theorem dL_any_5 : decode cL_any 5 = .ok (.bipush 15, 2) := by decide +kernel
theorem dL_any_7 : decode cL_any 7 = .ok (.invokestatic 15, 3) := by decide +kernel
theorem dL_any_10 : decode cL_any 10 = .ok (.invokestatic 59, 3) := by decide +kernel
theorem dL_any_13 : decode cL_any 13 = .ok (.ireturn, 1) := by decide +kernel
theorem dL_areaOf_0 : decode cL_areaOf 0 = .ok (.iload_n 0, 1) := by decide +kernel
theorem dL_areaOf_1 : decode cL_areaOf 1 = .ok (.ifCond .ne 8, 3) := by decide +kernel
theorem dL_areaOf_4 : decode cL_areaOf 4 = .ok (.bipush 12, 2) := by decide +kernel
theorem dL_areaOf_6 : decode cL_areaOf 6 = .ok (.goto 15, 3) := by decide +kernel
theorem dL_areaOf_9 : decode cL_areaOf 9 = .ok (.iload_n 0, 1) := by decide +kernel
theorem dL_areaOf_10 : decode cL_areaOf 10 = .ok (.iconst 1, 1) := by decide +kernel
theorem dL_areaOf_11 : decode cL_areaOf 11 = .ok (.if_icmp .ne 8, 3) := by decide +kernel
theorem dL_areaOf_14 : decode cL_areaOf 14 = .ok (.bipush 8, 2) := by decide +kernel
theorem dL_areaOf_16 : decode cL_areaOf 16 = .ok (.goto 5, 3) := by decide +kernel
theorem dL_areaOf_19 : decode cL_areaOf 19 = .ok (.bipush 20, 2) := by decide +kernel
theorem dL_areaOf_21 : decode cL_areaOf 21 = .ok (.ireturn, 1) := by decide +kernel
theorem dL_isInShop_0 : decode cL_isInShop 0 = .ok (.aload_n 0, 1) := by decide +kernel
theorem dL_isInShop_1 : decode cL_isInShop 1 = .ok (.iload_n 1, 1) := by decide +kernel
theorem dL_isInShop_2 : decode cL_isInShop 2 = .ok (.bipush 8, 2) := by decide +kernel
theorem dL_isInShop_4 : decode cL_isInShop 4 = .ok (.invokevirtual 66, 3) := by decide +kernel
theorem dL_isInShop_7 : decode cL_isInShop 7 = .ok (.bipush (-4), 2) := by decide +kernel
theorem dL_isInShop_9 : decode cL_isInShop 9 = .ok (.if_icmp .ne 7, 3) := by decide +kernel
theorem dL_isInShop_12 : decode cL_isInShop 12 = .ok (.iconst 1, 1) := by decide +kernel
theorem dL_isInShop_13 : decode cL_isInShop 13 = .ok (.goto 4, 3) := by decide +kernel
theorem dL_isInShop_16 : decode cL_isInShop 16 = .ok (.iconst 0, 1) := by decide +kernel
theorem dL_isInShop_17 : decode cL_isInShop 17 = .ok (.ireturn, 1) := by decide +kernel
theorem dL_soundOf_0 : decode cL_soundOf 0 = .ok (.aload_n 0, 1) := by decide +kernel
theorem dL_soundOf_1 : decode cL_soundOf 1 = .ok (.iload_n 1, 1) := by decide +kernel
theorem dL_soundOf_2 : decode cL_soundOf 2 = .ok (.iconst 0, 1) := by decide +kernel
theorem dL_soundOf_3 : decode cL_soundOf 3 = .ok (.invokevirtual 66, 3) := by decide +kernel
theorem dL_soundOf_6 : decode cL_soundOf 6 = .ok (.istore_n 2, 1) := by decide +kernel
theorem dL_soundOf_7 : decode cL_soundOf 7 = .ok (.aload_n 0, 1) := by decide +kernel
theorem dL_soundOf_8 : decode cL_soundOf 8 = .ok (.iload_n 1, 1) := by decide +kernel
theorem dL_soundOf_9 : decode cL_soundOf 9 = .ok (.iconst 2, 1) := by decide +kernel
theorem dL_soundOf_10 : decode cL_soundOf 10 = .ok (.invokevirtual 66, 3) := by decide +kernel
theorem dL_soundOf_13 : decode cL_soundOf 13 = .ok (.istore_n 3, 1) := by decide +kernel
theorem dL_soundOf_14 : decode cL_soundOf 14 = .ok (.aload_n 0, 1) := by decide +kernel
theorem dL_soundOf_15 : decode cL_soundOf 15 = .ok (.iload_n 1, 1) := by decide +kernel
theorem dL_soundOf_16 : decode cL_soundOf 16 = .ok (.iconst 4, 1) := by decide +kernel
theorem dL_soundOf_17 : decode cL_soundOf 17 = .ok (.invokevirtual 66, 3) := by decide +kernel
theorem dL_soundOf_20 : decode cL_soundOf 20 = .ok (.istore 4, 2) := by decide +kernel
theorem dL_soundOf_22 : decode cL_soundOf 22 = .ok (.aload_n 0, 1) := by decide +kernel
theorem dL_soundOf_23 : decode cL_soundOf 23 = .ok (.iload_n 1, 1) := by decide +kernel
theorem dL_soundOf_24 : decode cL_soundOf 24 = .ok (.bipush 6, 2) := by decide +kernel
theorem dL_soundOf_26 : decode cL_soundOf 26 = .ok (.invokevirtual 66, 3) := by decide +kernel
theorem dL_soundOf_29 : decode cL_soundOf 29 = .ok (.iconst 1, 1) := by decide +kernel
theorem dL_soundOf_30 : decode cL_soundOf 30 = .ok (.if_icmp .ne 7, 3) := by decide +kernel
theorem dL_soundOf_33 : decode cL_soundOf 33 = .ok (.iconst 2, 1) := by decide +kernel
theorem dL_soundOf_34 : decode cL_soundOf 34 = .ok (.goto 4, 3) := by decide +kernel
theorem dL_soundOf_37 : decode cL_soundOf 37 = .ok (.iconst 0, 1) := by decide +kernel
theorem dL_soundOf_38 : decode cL_soundOf 38 = .ok (.istore 5, 2) := by decide +kernel
theorem dL_soundOf_40 : decode cL_soundOf 40 = .ok (.iload_n 2, 1) := by decide +kernel
theorem dL_soundOf_41 : decode cL_soundOf 41 = .ok (.ifCond .ne 15, 3) := by decide +kernel
theorem dL_soundOf_44 : decode cL_soundOf 44 = .ok (.bipush 30, 2) := by decide +kernel
theorem dL_soundOf_46 : decode cL_soundOf 46 = .ok (.iconst 5, 1) := by decide +kernel
theorem dL_soundOf_47 : decode cL_soundOf 47 = .ok (.iload_n 3, 1) := by decide +kernel
theorem dL_soundOf_48 : decode cL_soundOf 48 = .ok (.imul, 1) := by decide +kernel
theorem dL_soundOf_49 : decode cL_soundOf 49 = .ok (.iadd, 1) := by decide +kernel
theorem dL_soundOf_50 : decode cL_soundOf 50 = .ok (.iload 4, 2) := by decide +kernel
theorem dL_soundOf_52 : decode cL_soundOf 52 = .ok (.isub, 1) := by decide +kernel
theorem dL_soundOf_53 : decode cL_soundOf 53 = .ok (.goto 33, 3) := by decide +kernel
theorem dL_soundOf_56 : decode cL_soundOf 56 = .ok (.iload_n 2, 1) := by decide +kernel
theorem dL_soundOf_57 : decode cL_soundOf 57 = .ok (.iconst 1, 1) := by decide +kernel
theorem dL_soundOf_58 : decode cL_soundOf 58 = .ok (.if_icmp .ne 17, 3) := by decide +kernel
theorem dL_soundOf_61 : decode cL_soundOf 61 = .ok (.bipush 50, 2) := by decide +kernel
theorem dL_soundOf_63 : decode cL_soundOf 63 = .ok (.iconst 4, 1) := by decide +kernel
theorem dL_soundOf_64 : decode cL_soundOf 64 = .ok (.iload_n 3, 1) := by decide +kernel
theorem dL_soundOf_65 : decode cL_soundOf 65 = .ok (.imul, 1) := by decide +kernel
theorem dL_soundOf_66 : decode cL_soundOf 66 = .ok (.iadd, 1) := by decide +kernel
theorem dL_soundOf_67 : decode cL_soundOf 67 = .ok (.iconst 2, 1) := by decide +kernel
theorem dL_soundOf_68 : decode cL_soundOf 68 = .ok (.iload 4, 2) := by decide +kernel
theorem dL_soundOf_70 : decode cL_soundOf 70 = .ok (.imul, 1) := by decide +kernel
theorem dL_soundOf_71 : decode cL_soundOf 71 = .ok (.isub, 1) := by decide +kernel
theorem dL_soundOf_72 : decode cL_soundOf 72 = .ok (.goto 14, 3) := by decide +kernel
theorem dL_soundOf_75 : decode cL_soundOf 75 = .ok (.bipush 10, 2) := by decide +kernel
theorem dL_soundOf_77 : decode cL_soundOf 77 = .ok (.iconst 3, 1) := by decide +kernel
theorem dL_soundOf_78 : decode cL_soundOf 78 = .ok (.iload_n 3, 1) := by decide +kernel
theorem dL_soundOf_79 : decode cL_soundOf 79 = .ok (.imul, 1) := by decide +kernel
theorem dL_soundOf_80 : decode cL_soundOf 80 = .ok (.iadd, 1) := by decide +kernel
theorem dL_soundOf_81 : decode cL_soundOf 81 = .ok (.iload 4, 2) := by decide +kernel
theorem dL_soundOf_83 : decode cL_soundOf 83 = .ok (.iconst 2, 1) := by decide +kernel
theorem dL_soundOf_84 : decode cL_soundOf 84 = .ok (.idiv, 1) := by decide +kernel
theorem dL_soundOf_85 : decode cL_soundOf 85 = .ok (.isub, 1) := by decide +kernel
theorem dL_soundOf_86 : decode cL_soundOf 86 = .ok (.istore 6, 2) := by decide +kernel
theorem dL_soundOf_88 : decode cL_soundOf 88 = .ok (.iload_n 3, 1) := by decide +kernel
theorem dL_soundOf_89 : decode cL_soundOf 89 = .ok (.ifCond .ne 7, 3) := by decide +kernel
theorem dL_soundOf_92 : decode cL_soundOf 92 = .ok (.iconst 0, 1) := by decide +kernel
theorem dL_soundOf_93 : decode cL_soundOf 93 = .ok (.goto 8, 3) := by decide +kernel
theorem dL_soundOf_96 : decode cL_soundOf 96 = .ok (.iload 6, 2) := by decide +kernel
theorem dL_soundOf_98 : decode cL_soundOf 98 = .ok (.iload 5, 2) := by decide +kernel
theorem dL_soundOf_100 : decode cL_soundOf 100 = .ok (.iadd, 1) := by decide +kernel
theorem dL_soundOf_101 : decode cL_soundOf 101 = .ok (.ireturn, 1) := by decide +kernel
theorem dL_arePotsRight_0 : decode cL_arePotsRight 0 = .ok (.iconst 0, 1) := by decide +kernel
theorem dL_arePotsRight_1 : decode cL_arePotsRight 1 = .ok (.istore_n 1, 1) := by decide +kernel
theorem dL_arePotsRight_2 : decode cL_arePotsRight 2 = .ok (.iconst 0, 1) := by decide +kernel
theorem dL_arePotsRight_3 : decode cL_arePotsRight 3 = .ok (.istore_n 2, 1) := by decide +kernel
theorem dL_arePotsRight_4 : decode cL_arePotsRight 4 = .ok (.iconst 0, 1) := by decide +kernel
theorem dL_arePotsRight_5 : decode cL_arePotsRight 5 = .ok (.istore_n 3, 1) := by decide +kernel
theorem dL_arePotsRight_6 : decode cL_arePotsRight 6 = .ok (.iconst 0, 1) := by decide +kernel
theorem dL_arePotsRight_7 : decode cL_arePotsRight 7 = .ok (.istore 4, 2) := by decide +kernel
theorem dL_arePotsRight_9 : decode cL_arePotsRight 9 = .ok (.iconst 1, 1) := by decide +kernel
theorem dL_arePotsRight_10 : decode cL_arePotsRight 10 = .ok (.istore 5, 2) := by decide +kernel
theorem dL_arePotsRight_12 : decode cL_arePotsRight 12 = .ok (.iconst 0, 1) := by decide +kernel
theorem dL_arePotsRight_13 : decode cL_arePotsRight 13 = .ok (.istore 6, 2) := by decide +kernel
theorem dL_arePotsRight_15 : decode cL_arePotsRight 15 = .ok (.iload 6, 2) := by decide +kernel
theorem dL_arePotsRight_17 : decode cL_arePotsRight 17 = .ok (.aload_n 0, 1) := by decide +kernel
theorem dL_arePotsRight_18 : decode cL_arePotsRight 18 = .ok (.iconst 3, 1) := by decide +kernel
theorem dL_arePotsRight_19 : decode cL_arePotsRight 19 = .ok (.invokevirtual 28, 3) := by decide +kernel
theorem dL_arePotsRight_22 : decode cL_arePotsRight 22 = .ok (.if_icmp .ge 425, 3) := by decide +kernel
theorem dL_arePotsRight_25 : decode cL_arePotsRight 25 = .ok (.iconst 2, 1) := by decide +kernel
theorem dL_arePotsRight_26 : decode cL_arePotsRight 26 = .ok (.aload_n 0, 1) := by decide +kernel
theorem dL_arePotsRight_27 : decode cL_arePotsRight 27 = .ok (.iload 6, 2) := by decide +kernel
theorem dL_arePotsRight_29 : decode cL_arePotsRight 29 = .ok (.iconst 0, 1) := by decide +kernel
theorem dL_arePotsRight_30 : decode cL_arePotsRight 30 = .ok (.invokevirtual 66, 3) := by decide +kernel
theorem dL_arePotsRight_33 : decode cL_arePotsRight 33 = .ok (.invokestatic 75, 3) := by decide +kernel
theorem dL_arePotsRight_36 : decode cL_arePotsRight 36 = .ok (.imul, 1) := by decide +kernel
theorem dL_arePotsRight_37 : decode cL_arePotsRight 37 = .ok (.istore 7, 2) := by decide +kernel
theorem dL_arePotsRight_39 : decode cL_arePotsRight 39 = .ok (.aload_n 0, 1) := by decide +kernel
theorem dL_arePotsRight_40 : decode cL_arePotsRight 40 = .ok (.iload 6, 2) := by decide +kernel
theorem dL_arePotsRight_42 : decode cL_arePotsRight 42 = .ok (.iconst 1, 1) := by decide +kernel
theorem dL_arePotsRight_43 : decode cL_arePotsRight 43 = .ok (.invokevirtual 66, 3) := by decide +kernel
theorem dL_arePotsRight_46 : decode cL_arePotsRight 46 = .ok (.istore 8, 2) := by decide +kernel
theorem dL_arePotsRight_48 : decode cL_arePotsRight 48 = .ok (.aload_n 0, 1) := by decide +kernel
theorem dL_arePotsRight_49 : decode cL_arePotsRight 49 = .ok (.iload 6, 2) := by decide +kernel
theorem dL_arePotsRight_51 : decode cL_arePotsRight 51 = .ok (.iconst 3, 1) := by decide +kernel
theorem dL_arePotsRight_52 : decode cL_arePotsRight 52 = .ok (.invokevirtual 66, 3) := by decide +kernel
theorem dL_arePotsRight_55 : decode cL_arePotsRight 55 = .ok (.iload 7, 2) := by decide +kernel
theorem dL_arePotsRight_57 : decode cL_arePotsRight 57 = .ok (.isub, 1) := by decide +kernel
theorem dL_arePotsRight_58 : decode cL_arePotsRight 58 = .ok (.istore 9, 2) := by decide +kernel
theorem dL_arePotsRight_60 : decode cL_arePotsRight 60 = .ok (.iload 9, 2) := by decide +kernel
theorem dL_arePotsRight_62 : decode cL_arePotsRight 62 = .ok (.bipush 6, 2) := by decide +kernel
theorem dL_arePotsRight_64 : decode cL_arePotsRight 64 = .ok (.if_icmp .lt 19, 3) := by decide +kernel
theorem dL_arePotsRight_67 : decode cL_arePotsRight 67 = .ok (.iconst 0, 1) := by decide +kernel
theorem dL_arePotsRight_68 : decode cL_arePotsRight 68 = .ok (.iload 8, 2) := by decide +kernel
theorem dL_arePotsRight_70 : decode cL_arePotsRight 70 = .ok (.iconst 1, 1) := by decide +kernel
theorem dL_arePotsRight_71 : decode cL_arePotsRight 71 = .ok (.isub, 1) := by decide +kernel
theorem dL_arePotsRight_72 : decode cL_arePotsRight 72 = .ok (.invokestatic 42, 3) := by decide +kernel
theorem dL_arePotsRight_75 : decode cL_arePotsRight 75 = .ok (.istore 8, 2) := by decide +kernel
theorem dL_arePotsRight_77 : decode cL_arePotsRight 77 = .ok (.iinc 9 (-6), 3) := by decide +kernel
theorem dL_arePotsRight_80 : decode cL_arePotsRight 80 = .ok (.goto (-20), 3) := by decide +kernel
theorem dL_arePotsRight_83 : decode cL_arePotsRight 83 = .ok (.aload_n 0, 1) := by decide +kernel
theorem dL_arePotsRight_84 : decode cL_arePotsRight 84 = .ok (.iload 6, 2) := by decide +kernel
theorem dL_arePotsRight_86 : decode cL_arePotsRight 86 = .ok (.iconst 3, 1) := by decide +kernel
theorem dL_arePotsRight_87 : decode cL_arePotsRight 87 = .ok (.invokevirtual 66, 3) := by decide +kernel
theorem dL_arePotsRight_90 : decode cL_arePotsRight 90 = .ok (.iload 7, 2) := by decide +kernel
theorem dL_arePotsRight_92 : decode cL_arePotsRight 92 = .ok (.if_icmp .lt 7, 3) := by decide +kernel
theorem dL_arePotsRight_95 : decode cL_arePotsRight 95 = .ok (.iconst 1, 1) := by decide +kernel
theorem dL_arePotsRight_96 : decode cL_arePotsRight 96 = .ok (.goto 4, 3) := by decide +kernel
theorem dL_arePotsRight_99 : decode cL_arePotsRight 99 = .ok (.iconst 0, 1) := by decide +kernel
theorem dL_arePotsRight_100 : decode cL_arePotsRight 100 = .ok (.istore 9, 2) := by decide +kernel
theorem dL_arePotsRight_102 : decode cL_arePotsRight 102 = .ok (.iload 5, 2) := by decide +kernel
theorem dL_arePotsRight_104 : decode cL_arePotsRight 104 = .ok (.ifCond .eq 121, 3) := by decide +kernel
theorem dL_arePotsRight_107 : decode cL_arePotsRight 107 = .ok (.aload_n 0, 1) := by decide +kernel
theorem dL_arePotsRight_108 : decode cL_arePotsRight 108 = .ok (.iload 6, 2) := by decide +kernel
theorem dL_arePotsRight_110 : decode cL_arePotsRight 110 = .ok (.iconst 2, 1) := by decide +kernel
theorem dL_arePotsRight_111 : decode cL_arePotsRight 111 = .ok (.invokevirtual 66, 3) := by decide +kernel
theorem dL_arePotsRight_114 : decode cL_arePotsRight 114 = .ok (.iload 8, 2) := by decide +kernel
theorem dL_arePotsRight_116 : decode cL_arePotsRight 116 = .ok (.if_icmp .ne 109, 3) := by decide +kernel
theorem dL_arePotsRight_119 : decode cL_arePotsRight 119 = .ok (.aload_n 0, 1) := by decide +kernel
theorem dL_arePotsRight_120 : decode cL_arePotsRight 120 = .ok (.iload 6, 2) := by decide +kernel
theorem dL_arePotsRight_122 : decode cL_arePotsRight 122 = .ok (.bipush 6, 2) := by decide +kernel
theorem dL_arePotsRight_124 : decode cL_arePotsRight 124 = .ok (.invokevirtual 66, 3) := by decide +kernel
theorem dL_arePotsRight_127 : decode cL_arePotsRight 127 = .ok (.iload 9, 2) := by decide +kernel
theorem dL_arePotsRight_129 : decode cL_arePotsRight 129 = .ok (.ifCond .eq 7, 3) := by decide +kernel
theorem dL_arePotsRight_132 : decode cL_arePotsRight 132 = .ok (.iconst 1, 1) := by decide +kernel
theorem dL_arePotsRight_133 : decode cL_arePotsRight 133 = .ok (.goto 4, 3) := by decide +kernel
theorem dL_arePotsRight_136 : decode cL_arePotsRight 136 = .ok (.iconst 0, 1) := by decide +kernel
theorem dL_arePotsRight_137 : decode cL_arePotsRight 137 = .ok (.if_icmp .ne 88, 3) := by decide +kernel
theorem dL_arePotsRight_140 : decode cL_arePotsRight 140 = .ok (.aload_n 0, 1) := by decide +kernel
theorem dL_arePotsRight_141 : decode cL_arePotsRight 141 = .ok (.iload 6, 2) := by decide +kernel
theorem dL_arePotsRight_143 : decode cL_arePotsRight 143 = .ok (.bipush 7, 2) := by decide +kernel
theorem dL_arePotsRight_145 : decode cL_arePotsRight 145 = .ok (.invokevirtual 66, 3) := by decide +kernel
theorem dL_arePotsRight_148 : decode cL_arePotsRight 148 = .ok (.iload 8, 2) := by decide +kernel
theorem dL_arePotsRight_150 : decode cL_arePotsRight 150 = .ok (.ifCond .ne 7, 3) := by decide +kernel
theorem dL_arePotsRight_153 : decode cL_arePotsRight 153 = .ok (.iconst 1, 1) := by decide +kernel
theorem dL_arePotsRight_154 : decode cL_arePotsRight 154 = .ok (.goto 4, 3) := by decide +kernel
theorem dL_arePotsRight_157 : decode cL_arePotsRight 157 = .ok (.iconst 0, 1) := by decide +kernel
theorem dL_arePotsRight_158 : decode cL_arePotsRight 158 = .ok (.if_icmp .ne 67, 3) := by decide +kernel
theorem dL_arePotsRight_161 : decode cL_arePotsRight 161 = .ok (.aload_n 0, 1) := by decide +kernel
theorem dL_arePotsRight_162 : decode cL_arePotsRight 162 = .ok (.iload 6, 2) := by decide +kernel
theorem dL_arePotsRight_164 : decode cL_arePotsRight 164 = .ok (.iconst 4, 1) := by decide +kernel
theorem dL_arePotsRight_165 : decode cL_arePotsRight 165 = .ok (.invokevirtual 66, 3) := by decide +kernel
theorem dL_arePotsRight_168 : decode cL_arePotsRight 168 = .ok (.ifCond .lt 57, 3) := by decide +kernel
theorem dL_arePotsRight_171 : decode cL_arePotsRight 171 = .ok (.aload_n 0, 1) := by decide +kernel
theorem dL_arePotsRight_172 : decode cL_arePotsRight 172 = .ok (.iload 6, 2) := by decide +kernel
theorem dL_arePotsRight_174 : decode cL_arePotsRight 174 = .ok (.iconst 4, 1) := by decide +kernel
theorem dL_arePotsRight_175 : decode cL_arePotsRight 175 = .ok (.invokevirtual 66, 3) := by decide +kernel
theorem dL_arePotsRight_178 : decode cL_arePotsRight 178 = .ok (.bipush 9, 2) := by decide +kernel
theorem dL_arePotsRight_180 : decode cL_arePotsRight 180 = .ok (.if_icmp .gt 45, 3) := by decide +kernel
theorem dL_arePotsRight_183 : decode cL_arePotsRight 183 = .ok (.aload_n 0, 1) := by decide +kernel
theorem dL_arePotsRight_184 : decode cL_arePotsRight 184 = .ok (.iload 6, 2) := by decide +kernel
theorem dL_arePotsRight_186 : decode cL_arePotsRight 186 = .ok (.iconst 4, 1) := by decide +kernel
theorem dL_arePotsRight_187 : decode cL_arePotsRight 187 = .ok (.invokevirtual 66, 3) := by decide +kernel
theorem dL_arePotsRight_190 : decode cL_arePotsRight 190 = .ok (.ifCond .eq 8, 3) := by decide +kernel
theorem dL_arePotsRight_193 : decode cL_arePotsRight 193 = .ok (.iload 9, 2) := by decide +kernel
theorem dL_arePotsRight_195 : decode cL_arePotsRight 195 = .ok (.ifCond .eq 30, 3) := by decide +kernel
theorem dL_arePotsRight_198 : decode cL_arePotsRight 198 = .ok (.aload_n 0, 1) := by decide +kernel
theorem dL_arePotsRight_199 : decode cL_arePotsRight 199 = .ok (.iload 6, 2) := by decide +kernel
theorem dL_arePotsRight_201 : decode cL_arePotsRight 201 = .ok (.iconst 1, 1) := by decide +kernel
theorem dL_arePotsRight_202 : decode cL_arePotsRight 202 = .ok (.invokevirtual 66, 3) := by decide +kernel
theorem dL_arePotsRight_205 : decode cL_arePotsRight 205 = .ok (.aload_n 0, 1) := by decide +kernel
theorem dL_arePotsRight_206 : decode cL_arePotsRight 206 = .ok (.aload_n 0, 1) := by decide +kernel
theorem dL_arePotsRight_207 : decode cL_arePotsRight 207 = .ok (.iload 6, 2) := by decide +kernel
theorem dL_arePotsRight_209 : decode cL_arePotsRight 209 = .ok (.bipush 9, 2) := by decide +kernel
theorem dL_arePotsRight_211 : decode cL_arePotsRight 211 = .ok (.invokevirtual 66, 3) := by decide +kernel
theorem dL_arePotsRight_214 : decode cL_arePotsRight 214 = .ok (.iconst 0, 1) := by decide +kernel
theorem dL_arePotsRight_215 : decode cL_arePotsRight 215 = .ok (.invokevirtual 63, 3) := by decide +kernel
theorem dL_arePotsRight_218 : decode cL_arePotsRight 218 = .ok (.if_icmp .ne 7, 3) := by decide +kernel
theorem dL_arePotsRight_221 : decode cL_arePotsRight 221 = .ok (.iconst 1, 1) := by decide +kernel
theorem dL_arePotsRight_222 : decode cL_arePotsRight 222 = .ok (.goto 4, 3) := by decide +kernel
theorem dL_arePotsRight_225 : decode cL_arePotsRight 225 = .ok (.iconst 0, 1) := by decide +kernel
theorem dL_arePotsRight_226 : decode cL_arePotsRight 226 = .ok (.istore 5, 2) := by decide +kernel
theorem dL_arePotsRight_228 : decode cL_arePotsRight 228 = .ok (.iload 5, 2) := by decide +kernel
theorem dL_arePotsRight_230 : decode cL_arePotsRight 230 = .ok (.ifCond .eq 145, 3) := by decide +kernel
theorem dL_arePotsRight_233 : decode cL_arePotsRight 233 = .ok (.aload_n 0, 1) := by decide +kernel
theorem dL_arePotsRight_234 : decode cL_arePotsRight 234 = .ok (.iload 6, 2) := by decide +kernel
theorem dL_arePotsRight_236 : decode cL_arePotsRight 236 = .ok (.invokevirtual 78, 3) := by decide +kernel
theorem dL_arePotsRight_239 : decode cL_arePotsRight 239 = .ok (.aload_n 0, 1) := by decide +kernel
theorem dL_arePotsRight_240 : decode cL_arePotsRight 240 = .ok (.iload 6, 2) := by decide +kernel
theorem dL_arePotsRight_242 : decode cL_arePotsRight 242 = .ok (.invokestatic 81, 3) := by decide +kernel
theorem dL_arePotsRight_245 : decode cL_arePotsRight 245 = .ok (.if_icmp .ne 130, 3) := by decide +kernel
theorem dL_arePotsRight_248 : decode cL_arePotsRight 248 = .ok (.aload_n 0, 1) := by decide +kernel
theorem dL_arePotsRight_249 : decode cL_arePotsRight 249 = .ok (.iload 6, 2) := by decide +kernel
theorem dL_arePotsRight_251 : decode cL_arePotsRight 251 = .ok (.invokevirtual 85, 3) := by decide +kernel
theorem dL_arePotsRight_254 : decode cL_arePotsRight 254 = .ok (.aload_n 0, 1) := by decide +kernel
theorem dL_arePotsRight_255 : decode cL_arePotsRight 255 = .ok (.iload 6, 2) := by decide +kernel
theorem dL_arePotsRight_257 : decode cL_arePotsRight 257 = .ok (.invokevirtual 78, 3) := by decide +kernel
theorem dL_arePotsRight_260 : decode cL_arePotsRight 260 = .ok (.if_icmp .ne 115, 3) := by decide +kernel
theorem dL_arePotsRight_263 : decode cL_arePotsRight 263 = .ok (.aload_n 0, 1) := by decide +kernel
theorem dL_arePotsRight_264 : decode cL_arePotsRight 264 = .ok (.iload 6, 2) := by decide +kernel
theorem dL_arePotsRight_266 : decode cL_arePotsRight 266 = .ok (.iconst 0, 1) := by decide +kernel
theorem dL_arePotsRight_267 : decode cL_arePotsRight 267 = .ok (.invokevirtual 88, 3) := by decide +kernel
theorem dL_arePotsRight_270 : decode cL_arePotsRight 270 = .ok (.iconst 0, 1) := by decide +kernel
theorem dL_arePotsRight_271 : decode cL_arePotsRight 271 = .ok (.iload 7, 2) := by decide +kernel
theorem dL_arePotsRight_273 : decode cL_arePotsRight 273 = .ok (.aload_n 0, 1) := by decide +kernel
theorem dL_arePotsRight_274 : decode cL_arePotsRight 274 = .ok (.iload 6, 2) := by decide +kernel
theorem dL_arePotsRight_276 : decode cL_arePotsRight 276 = .ok (.iconst 3, 1) := by decide +kernel
theorem dL_arePotsRight_277 : decode cL_arePotsRight 277 = .ok (.invokevirtual 66, 3) := by decide +kernel
theorem dL_arePotsRight_280 : decode cL_arePotsRight 280 = .ok (.isub, 1) := by decide +kernel
theorem dL_arePotsRight_281 : decode cL_arePotsRight 281 = .ok (.invokestatic 42, 3) := by decide +kernel
theorem dL_arePotsRight_284 : decode cL_arePotsRight 284 = .ok (.if_icmp .ne 91, 3) := by decide +kernel
theorem dL_arePotsRight_287 : decode cL_arePotsRight 287 = .ok (.aload_n 0, 1) := by decide +kernel
theorem dL_arePotsRight_288 : decode cL_arePotsRight 288 = .ok (.iload 6, 2) := by decide +kernel
theorem dL_arePotsRight_290 : decode cL_arePotsRight 290 = .ok (.iconst 0, 1) := by decide +kernel
theorem dL_arePotsRight_291 : decode cL_arePotsRight 291 = .ok (.iconst 0, 1) := by decide +kernel
theorem dL_arePotsRight_292 : decode cL_arePotsRight 292 = .ok (.invokevirtual 91, 3) := by decide +kernel
theorem dL_arePotsRight_295 : decode cL_arePotsRight 295 = .ok (.aload_n 0, 1) := by decide +kernel
theorem dL_arePotsRight_296 : decode cL_arePotsRight 296 = .ok (.iload 6, 2) := by decide +kernel
theorem dL_arePotsRight_298 : decode cL_arePotsRight 298 = .ok (.invokevirtual 78, 3) := by decide +kernel
theorem dL_arePotsRight_301 : decode cL_arePotsRight 301 = .ok (.if_icmp .ne 74, 3) := by decide +kernel
theorem dL_arePotsRight_304 : decode cL_arePotsRight 304 = .ok (.aload_n 0, 1) := by decide +kernel
theorem dL_arePotsRight_305 : decode cL_arePotsRight 305 = .ok (.iload 6, 2) := by decide +kernel
theorem dL_arePotsRight_307 : decode cL_arePotsRight 307 = .ok (.bipush 7, 2) := by decide +kernel
theorem dL_arePotsRight_309 : decode cL_arePotsRight 309 = .ok (.invokevirtual 66, 3) := by decide +kernel
theorem dL_arePotsRight_312 : decode cL_arePotsRight 312 = .ok (.iconst 1, 1) := by decide +kernel
theorem dL_arePotsRight_313 : decode cL_arePotsRight 313 = .ok (.if_icmp .eq 58, 3) := by decide +kernel
theorem dL_arePotsRight_316 : decode cL_arePotsRight 316 = .ok (.aload_n 0, 1) := by decide +kernel
theorem dL_arePotsRight_317 : decode cL_arePotsRight 317 = .ok (.iload 6, 2) := by decide +kernel
theorem dL_arePotsRight_319 : decode cL_arePotsRight 319 = .ok (.aload_n 0, 1) := by decide +kernel
theorem dL_arePotsRight_320 : decode cL_arePotsRight 320 = .ok (.iload 6, 2) := by decide +kernel
theorem dL_arePotsRight_322 : decode cL_arePotsRight 322 = .ok (.iconst 1, 1) := by decide +kernel
theorem dL_arePotsRight_323 : decode cL_arePotsRight 323 = .ok (.invokevirtual 88, 3) := by decide +kernel
theorem dL_arePotsRight_326 : decode cL_arePotsRight 326 = .ok (.bipush 99, 2) := by decide +kernel
theorem dL_arePotsRight_328 : decode cL_arePotsRight 328 = .ok (.if_icmp .le 7, 3) := by decide +kernel
theorem dL_arePotsRight_331 : decode cL_arePotsRight 331 = .ok (.iconst 0, 1) := by decide +kernel
theorem dL_arePotsRight_332 : decode cL_arePotsRight 332 = .ok (.goto 10, 3) := by decide +kernel
theorem dL_arePotsRight_335 : decode cL_arePotsRight 335 = .ok (.aload_n 0, 1) := by decide +kernel
theorem dL_arePotsRight_336 : decode cL_arePotsRight 336 = .ok (.iload 6, 2) := by decide +kernel
theorem dL_arePotsRight_338 : decode cL_arePotsRight 338 = .ok (.iconst 1, 1) := by decide +kernel
theorem dL_arePotsRight_339 : decode cL_arePotsRight 339 = .ok (.invokevirtual 88, 3) := by decide +kernel
theorem dL_arePotsRight_342 : decode cL_arePotsRight 342 = .ok (.iconst 0, 1) := by decide +kernel
theorem dL_arePotsRight_343 : decode cL_arePotsRight 343 = .ok (.invokevirtual 91, 3) := by decide +kernel
theorem dL_arePotsRight_346 : decode cL_arePotsRight 346 = .ok (.aload_n 0, 1) := by decide +kernel
theorem dL_arePotsRight_347 : decode cL_arePotsRight 347 = .ok (.iload 6, 2) := by decide +kernel
theorem dL_arePotsRight_349 : decode cL_arePotsRight 349 = .ok (.iconst 1, 1) := by decide +kernel
theorem dL_arePotsRight_350 : decode cL_arePotsRight 350 = .ok (.invokevirtual 88, 3) := by decide +kernel
theorem dL_arePotsRight_353 : decode cL_arePotsRight 353 = .ok (.bipush 99, 2) := by decide +kernel
theorem dL_arePotsRight_355 : decode cL_arePotsRight 355 = .ok (.if_icmp .le 12, 3) := by decide +kernel
theorem dL_arePotsRight_358 : decode cL_arePotsRight 358 = .ok (.aload_n 0, 1) := by decide +kernel
theorem dL_arePotsRight_359 : decode cL_arePotsRight 359 = .ok (.iload 6, 2) := by decide +kernel
theorem dL_arePotsRight_361 : decode cL_arePotsRight 361 = .ok (.invokevirtual 78, 3) := by decide +kernel
theorem dL_arePotsRight_364 : decode cL_arePotsRight 364 = .ok (.goto 4, 3) := by decide +kernel
theorem dL_arePotsRight_367 : decode cL_arePotsRight 367 = .ok (.iconst 0, 1) := by decide +kernel
theorem dL_arePotsRight_368 : decode cL_arePotsRight 368 = .ok (.if_icmp .ne 7, 3) := by decide +kernel
theorem dL_arePotsRight_371 : decode cL_arePotsRight 371 = .ok (.iconst 1, 1) := by decide +kernel
theorem dL_arePotsRight_372 : decode cL_arePotsRight 372 = .ok (.goto 4, 3) := by decide +kernel
theorem dL_arePotsRight_375 : decode cL_arePotsRight 375 = .ok (.iconst 0, 1) := by decide +kernel
theorem dL_arePotsRight_376 : decode cL_arePotsRight 376 = .ok (.istore 5, 2) := by decide +kernel
theorem dL_arePotsRight_378 : decode cL_arePotsRight 378 = .ok (.iload_n 1, 1) := by decide +kernel
theorem dL_arePotsRight_379 : decode cL_arePotsRight 379 = .ok (.aload_n 0, 1) := by decide +kernel
theorem dL_arePotsRight_380 : decode cL_arePotsRight 380 = .ok (.iload 6, 2) := by decide +kernel
theorem dL_arePotsRight_382 : decode cL_arePotsRight 382 = .ok (.bipush 6, 2) := by decide +kernel
theorem dL_arePotsRight_384 : decode cL_arePotsRight 384 = .ok (.invokevirtual 66, 3) := by decide +kernel
theorem dL_arePotsRight_387 : decode cL_arePotsRight 387 = .ok (.iadd, 1) := by decide +kernel
theorem dL_arePotsRight_388 : decode cL_arePotsRight 388 = .ok (.istore_n 1, 1) := by decide +kernel
theorem dL_arePotsRight_389 : decode cL_arePotsRight 389 = .ok (.iload_n 2, 1) := by decide +kernel
theorem dL_arePotsRight_390 : decode cL_arePotsRight 390 = .ok (.aload_n 0, 1) := by decide +kernel
theorem dL_arePotsRight_391 : decode cL_arePotsRight 391 = .ok (.iload 6, 2) := by decide +kernel
theorem dL_arePotsRight_393 : decode cL_arePotsRight 393 = .ok (.bipush 7, 2) := by decide +kernel
theorem dL_arePotsRight_395 : decode cL_arePotsRight 395 = .ok (.invokevirtual 66, 3) := by decide +kernel
theorem dL_arePotsRight_398 : decode cL_arePotsRight 398 = .ok (.iadd, 1) := by decide +kernel
theorem dL_arePotsRight_399 : decode cL_arePotsRight 399 = .ok (.istore_n 2, 1) := by decide +kernel
theorem dL_arePotsRight_400 : decode cL_arePotsRight 400 = .ok (.iload_n 3, 1) := by decide +kernel
theorem dL_arePotsRight_401 : decode cL_arePotsRight 401 = .ok (.aload_n 0, 1) := by decide +kernel
theorem dL_arePotsRight_402 : decode cL_arePotsRight 402 = .ok (.iload 6, 2) := by decide +kernel
theorem dL_arePotsRight_404 : decode cL_arePotsRight 404 = .ok (.invokestatic 94, 3) := by decide +kernel
theorem dL_arePotsRight_407 : decode cL_arePotsRight 407 = .ok (.ifCond .eq 7, 3) := by decide +kernel
theorem dL_arePotsRight_410 : decode cL_arePotsRight 410 = .ok (.iconst 1, 1) := by decide +kernel
theorem dL_arePotsRight_411 : decode cL_arePotsRight 411 = .ok (.goto 4, 3) := by decide +kernel
theorem dL_arePotsRight_414 : decode cL_arePotsRight 414 = .ok (.iconst 0, 1) := by decide +kernel
theorem dL_arePotsRight_415 : decode cL_arePotsRight 415 = .ok (.iadd, 1) := by decide +kernel
theorem dL_arePotsRight_416 : decode cL_arePotsRight 416 = .ok (.istore_n 3, 1) := by decide +kernel
theorem dL_arePotsRight_417 : decode cL_arePotsRight 417 = .ok (.iload 4, 2) := by decide +kernel
theorem dL_arePotsRight_419 : decode cL_arePotsRight 419 = .ok (.aload_n 0, 1) := by decide +kernel
theorem dL_arePotsRight_420 : decode cL_arePotsRight 420 = .ok (.iload 6, 2) := by decide +kernel
theorem dL_arePotsRight_422 : decode cL_arePotsRight 422 = .ok (.invokestatic 94, 3) := by decide +kernel
theorem dL_arePotsRight_425 : decode cL_arePotsRight 425 = .ok (.ifCond .eq 12, 3) := by decide +kernel
theorem dL_arePotsRight_428 : decode cL_arePotsRight 428 = .ok (.aload_n 0, 1) := by decide +kernel
theorem dL_arePotsRight_429 : decode cL_arePotsRight 429 = .ok (.iload 6, 2) := by decide +kernel
theorem dL_arePotsRight_431 : decode cL_arePotsRight 431 = .ok (.invokevirtual 78, 3) := by decide +kernel
theorem dL_arePotsRight_434 : decode cL_arePotsRight 434 = .ok (.goto 4, 3) := by decide +kernel
theorem dL_arePotsRight_437 : decode cL_arePotsRight 437 = .ok (.iconst 0, 1) := by decide +kernel
theorem dL_arePotsRight_438 : decode cL_arePotsRight 438 = .ok (.iadd, 1) := by decide +kernel
theorem dL_arePotsRight_439 : decode cL_arePotsRight 439 = .ok (.istore 4, 2) := by decide +kernel
theorem dL_arePotsRight_441 : decode cL_arePotsRight 441 = .ok (.iinc 6 1, 3) := by decide +kernel
theorem dL_arePotsRight_444 : decode cL_arePotsRight 444 = .ok (.goto (-429), 3) := by decide +kernel
theorem dL_arePotsRight_447 : decode cL_arePotsRight 447 = .ok (.iload 5, 2) := by decide +kernel
theorem dL_arePotsRight_449 : decode cL_arePotsRight 449 = .ok (.ifCond .eq 57, 3) := by decide +kernel
theorem dL_arePotsRight_452 : decode cL_arePotsRight 452 = .ok (.iload_n 1, 1) := by decide +kernel
theorem dL_arePotsRight_453 : decode cL_arePotsRight 453 = .ok (.aload_n 0, 1) := by decide +kernel
theorem dL_arePotsRight_454 : decode cL_arePotsRight 454 = .ok (.iconst 5, 1) := by decide +kernel
theorem dL_arePotsRight_455 : decode cL_arePotsRight 455 = .ok (.invokevirtual 28, 3) := by decide +kernel
theorem dL_arePotsRight_458 : decode cL_arePotsRight 458 = .ok (.if_icmp .ne 48, 3) := by decide +kernel
theorem dL_arePotsRight_461 : decode cL_arePotsRight 461 = .ok (.iload_n 2, 1) := by decide +kernel
theorem dL_arePotsRight_462 : decode cL_arePotsRight 462 = .ok (.aload_n 0, 1) := by decide +kernel
theorem dL_arePotsRight_463 : decode cL_arePotsRight 463 = .ok (.bipush 6, 2) := by decide +kernel
theorem dL_arePotsRight_465 : decode cL_arePotsRight 465 = .ok (.invokevirtual 28, 3) := by decide +kernel
theorem dL_arePotsRight_468 : decode cL_arePotsRight 468 = .ok (.if_icmp .ne 38, 3) := by decide +kernel
theorem dL_arePotsRight_471 : decode cL_arePotsRight 471 = .ok (.iload_n 3, 1) := by decide +kernel
theorem dL_arePotsRight_472 : decode cL_arePotsRight 472 = .ok (.aload_n 0, 1) := by decide +kernel
theorem dL_arePotsRight_473 : decode cL_arePotsRight 473 = .ok (.iconst 4, 1) := by decide +kernel
theorem dL_arePotsRight_474 : decode cL_arePotsRight 474 = .ok (.invokevirtual 28, 3) := by decide +kernel
theorem dL_arePotsRight_477 : decode cL_arePotsRight 477 = .ok (.if_icmp .ne 29, 3) := by decide +kernel
theorem dL_arePotsRight_480 : decode cL_arePotsRight 480 = .ok (.aload_n 0, 1) := by decide +kernel
theorem dL_arePotsRight_481 : decode cL_arePotsRight 481 = .ok (.invokevirtual 98, 3) := by decide +kernel
theorem dL_arePotsRight_484 : decode cL_arePotsRight 484 = .ok (.iload_n 3, 1) := by decide +kernel
theorem dL_arePotsRight_485 : decode cL_arePotsRight 485 = .ok (.ifCond .ne 7, 3) := by decide +kernel
theorem dL_arePotsRight_488 : decode cL_arePotsRight 488 = .ok (.fconst 0, 1) := by decide +kernel
theorem dL_arePotsRight_489 : decode cL_arePotsRight 489 = .ok (.goto 9, 3) := by decide +kernel
theorem dL_arePotsRight_492 : decode cL_arePotsRight 492 = .ok (.iload 4, 2) := by decide +kernel
theorem dL_arePotsRight_494 : decode cL_arePotsRight 494 = .ok (.i2f, 1) := by decide +kernel
theorem dL_arePotsRight_495 : decode cL_arePotsRight 495 = .ok (.iload_n 3, 1) := by decide +kernel
theorem dL_arePotsRight_496 : decode cL_arePotsRight 496 = .ok (.i2f, 1) := by decide +kernel
theorem dL_arePotsRight_497 : decode cL_arePotsRight 497 = .ok (.fdiv, 1) := by decide +kernel
theorem dL_arePotsRight_498 : decode cL_arePotsRight 498 = .ok (.fcmp .l, 1) := by decide +kernel
theorem dL_arePotsRight_499 : decode cL_arePotsRight 499 = .ok (.ifCond .ne 7, 3) := by decide +kernel
theorem dL_arePotsRight_502 : decode cL_arePotsRight 502 = .ok (.iconst 1, 1) := by decide +kernel
theorem dL_arePotsRight_503 : decode cL_arePotsRight 503 = .ok (.goto 4, 3) := by decide +kernel
theorem dL_arePotsRight_506 : decode cL_arePotsRight 506 = .ok (.iconst 0, 1) := by decide +kernel
theorem dL_arePotsRight_507 : decode cL_arePotsRight 507 = .ok (.istore 5, 2) := by decide +kernel
theorem dL_arePotsRight_509 : decode cL_arePotsRight 509 = .ok (.iload 5, 2) := by decide +kernel
theorem dL_arePotsRight_511 : decode cL_arePotsRight 511 = .ok (.ifCond .eq 42, 3) := by decide +kernel
theorem dL_arePotsRight_514 : decode cL_arePotsRight 514 = .ok (.aload_n 0, 1) := by decide +kernel
theorem dL_arePotsRight_515 : decode cL_arePotsRight 515 = .ok (.invokevirtual 102, 3) := by decide +kernel
theorem dL_arePotsRight_518 : decode cL_arePotsRight 518 = .ok (.aload_n 0, 1) := by decide +kernel
theorem dL_arePotsRight_519 : decode cL_arePotsRight 519 = .ok (.iconst 3, 1) := by decide +kernel
theorem dL_arePotsRight_520 : decode cL_arePotsRight 520 = .ok (.invokevirtual 28, 3) := by decide +kernel
theorem dL_arePotsRight_523 : decode cL_arePotsRight 523 = .ok (.ifCond .ne 7, 3) := by decide +kernel
theorem dL_arePotsRight_526 : decode cL_arePotsRight 526 = .ok (.dconst 0, 1) := by decide +kernel
theorem dL_arePotsRight_527 : decode cL_arePotsRight 527 = .ok (.goto 18, 3) := by decide +kernel
theorem dL_arePotsRight_530 : decode cL_arePotsRight 530 = .ok (.aload_n 0, 1) := by decide +kernel
theorem dL_arePotsRight_531 : decode cL_arePotsRight 531 = .ok (.iconst 3, 1) := by decide +kernel
theorem dL_arePotsRight_532 : decode cL_arePotsRight 532 = .ok (.invokevirtual 28, 3) := by decide +kernel
theorem dL_arePotsRight_535 : decode cL_arePotsRight 535 = .ok (.iload_n 3, 1) := by decide +kernel
theorem dL_arePotsRight_536 : decode cL_arePotsRight 536 = .ok (.isub, 1) := by decide +kernel
theorem dL_arePotsRight_537 : decode cL_arePotsRight 537 = .ok (.i2d, 1) := by decide +kernel
theorem dL_arePotsRight_538 : decode cL_arePotsRight 538 = .ok (.aload_n 0, 1) := by decide +kernel
theorem dL_arePotsRight_539 : decode cL_arePotsRight 539 = .ok (.iconst 3, 1) := by decide +kernel
theorem dL_arePotsRight_540 : decode cL_arePotsRight 540 = .ok (.invokevirtual 28, 3) := by decide +kernel
theorem dL_arePotsRight_543 : decode cL_arePotsRight 543 = .ok (.i2d, 1) := by decide +kernel
theorem dL_arePotsRight_544 : decode cL_arePotsRight 544 = .ok (.ddiv, 1) := by decide +kernel
theorem dL_arePotsRight_545 : decode cL_arePotsRight 545 = .ok (.dcmp .l, 1) := by decide +kernel
theorem dL_arePotsRight_546 : decode cL_arePotsRight 546 = .ok (.ifCond .ne 7, 3) := by decide +kernel
theorem dL_arePotsRight_549 : decode cL_arePotsRight 549 = .ok (.iconst 1, 1) := by decide +kernel
theorem dL_arePotsRight_550 : decode cL_arePotsRight 550 = .ok (.goto 4, 3) := by decide +kernel
theorem dL_arePotsRight_553 : decode cL_arePotsRight 553 = .ok (.iconst 0, 1) := by decide +kernel
theorem dL_arePotsRight_554 : decode cL_arePotsRight 554 = .ok (.ireturn, 1) := by decide +kernel
theorem dL_areSumsRight_0 : decode cL_areSumsRight 0 = .ok (.iconst 0, 1) := by decide +kernel
theorem dL_areSumsRight_1 : decode cL_areSumsRight 1 = .ok (.istore_n 1, 1) := by decide +kernel
theorem dL_areSumsRight_2 : decode cL_areSumsRight 2 = .ok (.iconst 0, 1) := by decide +kernel
theorem dL_areSumsRight_3 : decode cL_areSumsRight 3 = .ok (.istore_n 2, 1) := by decide +kernel
theorem dL_areSumsRight_4 : decode cL_areSumsRight 4 = .ok (.iconst 0, 1) := by decide +kernel
theorem dL_areSumsRight_5 : decode cL_areSumsRight 5 = .ok (.istore_n 3, 1) := by decide +kernel
theorem dL_areSumsRight_6 : decode cL_areSumsRight 6 = .ok (.aload_n 0, 1) := by decide +kernel
theorem dL_areSumsRight_7 : decode cL_areSumsRight 7 = .ok (.invokevirtual 106, 3) := by decide +kernel
theorem dL_areSumsRight_10 : decode cL_areSumsRight 10 = .ok (.aload_n 0, 1) := by decide +kernel
theorem dL_areSumsRight_11 : decode cL_areSumsRight 11 = .ok (.invokevirtual 110, 3) := by decide +kernel
theorem dL_areSumsRight_14 : decode cL_areSumsRight 14 = .ok (.if_icmp .ne 47, 3) := by decide +kernel
theorem dL_areSumsRight_17 : decode cL_areSumsRight 17 = .ok (.aload_n 0, 1) := by decide +kernel
theorem dL_areSumsRight_18 : decode cL_areSumsRight 18 = .ok (.invokevirtual 113, 3) := by decide +kernel
theorem dL_areSumsRight_21 : decode cL_areSumsRight 21 = .ok (.aload_n 0, 1) := by decide +kernel
theorem dL_areSumsRight_22 : decode cL_areSumsRight 22 = .ok (.iconst 0, 1) := by decide +kernel
theorem dL_areSumsRight_23 : decode cL_areSumsRight 23 = .ok (.invokevirtual 28, 3) := by decide +kernel
theorem dL_areSumsRight_26 : decode cL_areSumsRight 26 = .ok (.if_icmp .ne 35, 3) := by decide +kernel
theorem dL_areSumsRight_29 : decode cL_areSumsRight 29 = .ok (.aload_n 0, 1) := by decide +kernel
theorem dL_areSumsRight_30 : decode cL_areSumsRight 30 = .ok (.invokevirtual 116, 3) := by decide +kernel
theorem dL_areSumsRight_33 : decode cL_areSumsRight 33 = .ok (.aload_n 0, 1) := by decide +kernel
theorem dL_areSumsRight_34 : decode cL_areSumsRight 34 = .ok (.iconst 1, 1) := by decide +kernel
theorem dL_areSumsRight_35 : decode cL_areSumsRight 35 = .ok (.invokevirtual 28, 3) := by decide +kernel
theorem dL_areSumsRight_38 : decode cL_areSumsRight 38 = .ok (.if_icmp .ne 23, 3) := by decide +kernel
theorem dL_areSumsRight_41 : decode cL_areSumsRight 41 = .ok (.aload_n 0, 1) := by decide +kernel
theorem dL_areSumsRight_42 : decode cL_areSumsRight 42 = .ok (.iconst 0, 1) := by decide +kernel
theorem dL_areSumsRight_43 : decode cL_areSumsRight 43 = .ok (.invokevirtual 28, 3) := by decide +kernel
theorem dL_areSumsRight_46 : decode cL_areSumsRight 46 = .ok (.ifCond .lt 15, 3) := by decide +kernel
theorem dL_areSumsRight_49 : decode cL_areSumsRight 49 = .ok (.aload_n 0, 1) := by decide +kernel
theorem dL_areSumsRight_50 : decode cL_areSumsRight 50 = .ok (.iconst 1, 1) := by decide +kernel
theorem dL_areSumsRight_51 : decode cL_areSumsRight 51 = .ok (.invokevirtual 28, 3) := by decide +kernel
theorem dL_areSumsRight_54 : decode cL_areSumsRight 54 = .ok (.ifCond .lt 7, 3) := by decide +kernel
theorem dL_areSumsRight_57 : decode cL_areSumsRight 57 = .ok (.iconst 1, 1) := by decide +kernel
theorem dL_areSumsRight_58 : decode cL_areSumsRight 58 = .ok (.goto 4, 3) := by decide +kernel
theorem dL_areSumsRight_61 : decode cL_areSumsRight 61 = .ok (.iconst 0, 1) := by decide +kernel
theorem dL_areSumsRight_62 : decode cL_areSumsRight 62 = .ok (.istore 4, 2) := by decide +kernel
theorem dL_areSumsRight_64 : decode cL_areSumsRight 64 = .ok (.iconst 0, 1) := by decide +kernel
theorem dL_areSumsRight_65 : decode cL_areSumsRight 65 = .ok (.istore 5, 2) := by decide +kernel
theorem dL_areSumsRight_67 : decode cL_areSumsRight 67 = .ok (.iload 5, 2) := by decide +kernel
theorem dL_areSumsRight_69 : decode cL_areSumsRight 69 = .ok (.aload_n 0, 1) := by decide +kernel
theorem dL_areSumsRight_70 : decode cL_areSumsRight 70 = .ok (.iconst 2, 1) := by decide +kernel
theorem dL_areSumsRight_71 : decode cL_areSumsRight 71 = .ok (.invokevirtual 28, 3) := by decide +kernel
theorem dL_areSumsRight_74 : decode cL_areSumsRight 74 = .ok (.if_icmp .ge 151, 3) := by decide +kernel
theorem dL_areSumsRight_77 : decode cL_areSumsRight 77 = .ok (.iconst 0, 1) := by decide +kernel
theorem dL_areSumsRight_78 : decode cL_areSumsRight 78 = .ok (.istore 6, 2) := by decide +kernel
theorem dL_areSumsRight_80 : decode cL_areSumsRight 80 = .ok (.iconst 0, 1) := by decide +kernel
theorem dL_areSumsRight_81 : decode cL_areSumsRight 81 = .ok (.istore 7, 2) := by decide +kernel
theorem dL_areSumsRight_83 : decode cL_areSumsRight 83 = .ok (.iconst 0, 1) := by decide +kernel
theorem dL_areSumsRight_84 : decode cL_areSumsRight 84 = .ok (.istore 8, 2) := by decide +kernel
theorem dL_areSumsRight_86 : decode cL_areSumsRight 86 = .ok (.iload 8, 2) := by decide +kernel
theorem dL_areSumsRight_88 : decode cL_areSumsRight 88 = .ok (.aload_n 0, 1) := by decide +kernel
theorem dL_areSumsRight_89 : decode cL_areSumsRight 89 = .ok (.iconst 3, 1) := by decide +kernel
theorem dL_areSumsRight_90 : decode cL_areSumsRight 90 = .ok (.invokevirtual 28, 3) := by decide +kernel
theorem dL_areSumsRight_93 : decode cL_areSumsRight 93 = .ok (.if_icmp .ge 64, 3) := by decide +kernel
theorem dL_areSumsRight_96 : decode cL_areSumsRight 96 = .ok (.iload 6, 2) := by decide +kernel
theorem dL_areSumsRight_98 : decode cL_areSumsRight 98 = .ok (.aload_n 0, 1) := by decide +kernel
theorem dL_areSumsRight_99 : decode cL_areSumsRight 99 = .ok (.iload 8, 2) := by decide +kernel
theorem dL_areSumsRight_101 : decode cL_areSumsRight 101 = .ok (.bipush 9, 2) := by decide +kernel
theorem dL_areSumsRight_103 : decode cL_areSumsRight 103 = .ok (.invokevirtual 66, 3) := by decide +kernel
theorem dL_areSumsRight_106 : decode cL_areSumsRight 106 = .ok (.iload 5, 2) := by decide +kernel
theorem dL_areSumsRight_108 : decode cL_areSumsRight 108 = .ok (.if_icmp .ne 16, 3) := by decide +kernel
theorem dL_areSumsRight_111 : decode cL_areSumsRight 111 = .ok (.aload_n 0, 1) := by decide +kernel
theorem dL_areSumsRight_112 : decode cL_areSumsRight 112 = .ok (.iload 8, 2) := by decide +kernel
theorem dL_areSumsRight_114 : decode cL_areSumsRight 114 = .ok (.iconst 0, 1) := by decide +kernel
theorem dL_areSumsRight_115 : decode cL_areSumsRight 115 = .ok (.invokevirtual 66, 3) := by decide +kernel
theorem dL_areSumsRight_118 : decode cL_areSumsRight 118 = .ok (.invokestatic 75, 3) := by decide +kernel
theorem dL_areSumsRight_121 : decode cL_areSumsRight 121 = .ok (.goto 4, 3) := by decide +kernel
theorem dL_areSumsRight_124 : decode cL_areSumsRight 124 = .ok (.iconst 0, 1) := by decide +kernel
theorem dL_areSumsRight_125 : decode cL_areSumsRight 125 = .ok (.iadd, 1) := by decide +kernel
theorem dL_areSumsRight_126 : decode cL_areSumsRight 126 = .ok (.istore 6, 2) := by decide +kernel
theorem dL_areSumsRight_128 : decode cL_areSumsRight 128 = .ok (.iload 7, 2) := by decide +kernel
theorem dL_areSumsRight_130 : decode cL_areSumsRight 130 = .ok (.aload_n 0, 1) := by decide +kernel
theorem dL_areSumsRight_131 : decode cL_areSumsRight 131 = .ok (.iload 8, 2) := by decide +kernel
theorem dL_areSumsRight_133 : decode cL_areSumsRight 133 = .ok (.bipush 9, 2) := by decide +kernel
theorem dL_areSumsRight_135 : decode cL_areSumsRight 135 = .ok (.invokevirtual 66, 3) := by decide +kernel
theorem dL_areSumsRight_138 : decode cL_areSumsRight 138 = .ok (.iload 5, 2) := by decide +kernel
theorem dL_areSumsRight_140 : decode cL_areSumsRight 140 = .ok (.if_icmp .ne 7, 3) := by decide +kernel
theorem dL_areSumsRight_143 : decode cL_areSumsRight 143 = .ok (.iconst 1, 1) := by decide +kernel
theorem dL_areSumsRight_144 : decode cL_areSumsRight 144 = .ok (.goto 4, 3) := by decide +kernel
theorem dL_areSumsRight_147 : decode cL_areSumsRight 147 = .ok (.iconst 0, 1) := by decide +kernel
theorem dL_areSumsRight_148 : decode cL_areSumsRight 148 = .ok (.iadd, 1) := by decide +kernel
theorem dL_areSumsRight_149 : decode cL_areSumsRight 149 = .ok (.istore 7, 2) := by decide +kernel
theorem dL_areSumsRight_151 : decode cL_areSumsRight 151 = .ok (.iinc 8 1, 3) := by decide +kernel
theorem dL_areSumsRight_154 : decode cL_areSumsRight 154 = .ok (.goto (-68), 3) := by decide +kernel
theorem dL_areSumsRight_157 : decode cL_areSumsRight 157 = .ok (.iload 4, 2) := by decide +kernel
theorem dL_areSumsRight_159 : decode cL_areSumsRight 159 = .ok (.ifCond .eq 39, 3) := by decide +kernel
theorem dL_areSumsRight_162 : decode cL_areSumsRight 162 = .ok (.aload_n 0, 1) := by decide +kernel
theorem dL_areSumsRight_163 : decode cL_areSumsRight 163 = .ok (.iload 5, 2) := by decide +kernel
theorem dL_areSumsRight_165 : decode cL_areSumsRight 165 = .ok (.iconst 1, 1) := by decide +kernel
theorem dL_areSumsRight_166 : decode cL_areSumsRight 166 = .ok (.invokevirtual 63, 3) := by decide +kernel
theorem dL_areSumsRight_169 : decode cL_areSumsRight 169 = .ok (.iload 6, 2) := by decide +kernel
theorem dL_areSumsRight_171 : decode cL_areSumsRight 171 = .ok (.iadd, 1) := by decide +kernel
theorem dL_areSumsRight_172 : decode cL_areSumsRight 172 = .ok (.aload_n 0, 1) := by decide +kernel
theorem dL_areSumsRight_173 : decode cL_areSumsRight 173 = .ok (.iload 5, 2) := by decide +kernel
theorem dL_areSumsRight_175 : decode cL_areSumsRight 175 = .ok (.iconst 3, 1) := by decide +kernel
theorem dL_areSumsRight_176 : decode cL_areSumsRight 176 = .ok (.invokevirtual 63, 3) := by decide +kernel
theorem dL_areSumsRight_179 : decode cL_areSumsRight 179 = .ok (.if_icmp .ne 19, 3) := by decide +kernel
theorem dL_areSumsRight_182 : decode cL_areSumsRight 182 = .ok (.aload_n 0, 1) := by decide +kernel
theorem dL_areSumsRight_183 : decode cL_areSumsRight 183 = .ok (.iload 5, 2) := by decide +kernel
theorem dL_areSumsRight_185 : decode cL_areSumsRight 185 = .ok (.iconst 2, 1) := by decide +kernel
theorem dL_areSumsRight_186 : decode cL_areSumsRight 186 = .ok (.invokevirtual 63, 3) := by decide +kernel
theorem dL_areSumsRight_189 : decode cL_areSumsRight 189 = .ok (.iload 7, 2) := by decide +kernel
theorem dL_areSumsRight_191 : decode cL_areSumsRight 191 = .ok (.if_icmp .ne 7, 3) := by decide +kernel
theorem dL_areSumsRight_194 : decode cL_areSumsRight 194 = .ok (.iconst 1, 1) := by decide +kernel
theorem dL_areSumsRight_195 : decode cL_areSumsRight 195 = .ok (.goto 4, 3) := by decide +kernel
theorem dL_areSumsRight_198 : decode cL_areSumsRight 198 = .ok (.iconst 0, 1) := by decide +kernel
theorem dL_areSumsRight_199 : decode cL_areSumsRight 199 = .ok (.istore 4, 2) := by decide +kernel
theorem dL_areSumsRight_201 : decode cL_areSumsRight 201 = .ok (.iload_n 1, 1) := by decide +kernel
theorem dL_areSumsRight_202 : decode cL_areSumsRight 202 = .ok (.aload_n 0, 1) := by decide +kernel
theorem dL_areSumsRight_203 : decode cL_areSumsRight 203 = .ok (.iload 5, 2) := by decide +kernel
theorem dL_areSumsRight_205 : decode cL_areSumsRight 205 = .ok (.iconst 0, 1) := by decide +kernel
theorem dL_areSumsRight_206 : decode cL_areSumsRight 206 = .ok (.invokevirtual 63, 3) := by decide +kernel
theorem dL_areSumsRight_209 : decode cL_areSumsRight 209 = .ok (.aload_n 0, 1) := by decide +kernel
theorem dL_areSumsRight_210 : decode cL_areSumsRight 210 = .ok (.iload 5, 2) := by decide +kernel
theorem dL_areSumsRight_212 : decode cL_areSumsRight 212 = .ok (.iconst 3, 1) := by decide +kernel
theorem dL_areSumsRight_213 : decode cL_areSumsRight 213 = .ok (.invokevirtual 63, 3) := by decide +kernel
theorem dL_areSumsRight_216 : decode cL_areSumsRight 216 = .ok (.imul, 1) := by decide +kernel
theorem dL_areSumsRight_217 : decode cL_areSumsRight 217 = .ok (.iadd, 1) := by decide +kernel
theorem dL_areSumsRight_218 : decode cL_areSumsRight 218 = .ok (.istore_n 1, 1) := by decide +kernel
theorem dL_areSumsRight_219 : decode cL_areSumsRight 219 = .ok (.iinc 5 1, 3) := by decide +kernel
theorem dL_areSumsRight_222 : decode cL_areSumsRight 222 = .ok (.goto (-155), 3) := by decide +kernel
theorem dL_areSumsRight_225 : decode cL_areSumsRight 225 = .ok (.iconst 0, 1) := by decide +kernel
theorem dL_areSumsRight_226 : decode cL_areSumsRight 226 = .ok (.istore 5, 2) := by decide +kernel
theorem dL_areSumsRight_228 : decode cL_areSumsRight 228 = .ok (.iload 5, 2) := by decide +kernel
theorem dL_areSumsRight_230 : decode cL_areSumsRight 230 = .ok (.aload_n 0, 1) := by decide +kernel
theorem dL_areSumsRight_231 : decode cL_areSumsRight 231 = .ok (.bipush 7, 2) := by decide +kernel
theorem dL_areSumsRight_233 : decode cL_areSumsRight 233 = .ok (.invokevirtual 28, 3) := by decide +kernel
theorem dL_areSumsRight_236 : decode cL_areSumsRight 236 = .ok (.if_icmp .ge 187, 3) := by decide +kernel
theorem dL_areSumsRight_239 : decode cL_areSumsRight 239 = .ok (.aload_n 0, 1) := by decide +kernel
theorem dL_areSumsRight_240 : decode cL_areSumsRight 240 = .ok (.iload 5, 2) := by decide +kernel
theorem dL_areSumsRight_242 : decode cL_areSumsRight 242 = .ok (.iconst 3, 1) := by decide +kernel
theorem dL_areSumsRight_243 : decode cL_areSumsRight 243 = .ok (.invokevirtual 72, 3) := by decide +kernel
theorem dL_areSumsRight_246 : decode cL_areSumsRight 246 = .ok (.istore 6, 2) := by decide +kernel
theorem dL_areSumsRight_248 : decode cL_areSumsRight 248 = .ok (.iload 6, 2) := by decide +kernel
theorem dL_areSumsRight_250 : decode cL_areSumsRight 250 = .ok (.bipush (-4), 2) := by decide +kernel
theorem dL_areSumsRight_252 : decode cL_areSumsRight 252 = .ok (.if_icmp .eq 155, 3) := by decide +kernel
theorem dL_areSumsRight_255 : decode cL_areSumsRight 255 = .ok (.aload_n 0, 1) := by decide +kernel
theorem dL_areSumsRight_256 : decode cL_areSumsRight 256 = .ok (.iload 6, 2) := by decide +kernel
theorem dL_areSumsRight_258 : decode cL_areSumsRight 258 = .ok (.iconst 5, 1) := by decide +kernel
theorem dL_areSumsRight_259 : decode cL_areSumsRight 259 = .ok (.invokevirtual 66, 3) := by decide +kernel
theorem dL_areSumsRight_262 : decode cL_areSumsRight 262 = .ok (.ifCond .ne 7, 3) := by decide +kernel
theorem dL_areSumsRight_265 : decode cL_areSumsRight 265 = .ok (.iconst 1, 1) := by decide +kernel
theorem dL_areSumsRight_266 : decode cL_areSumsRight 266 = .ok (.goto 4, 3) := by decide +kernel
theorem dL_areSumsRight_269 : decode cL_areSumsRight 269 = .ok (.iconst 0, 1) := by decide +kernel
theorem dL_areSumsRight_270 : decode cL_areSumsRight 270 = .ok (.istore 7, 2) := by decide +kernel
theorem dL_areSumsRight_272 : decode cL_areSumsRight 272 = .ok (.iload 4, 2) := by decide +kernel
theorem dL_areSumsRight_274 : decode cL_areSumsRight 274 = .ok (.ifCond .eq 127, 3) := by decide +kernel
theorem dL_areSumsRight_277 : decode cL_areSumsRight 277 = .ok (.aload_n 0, 1) := by decide +kernel
theorem dL_areSumsRight_278 : decode cL_areSumsRight 278 = .ok (.iload 6, 2) := by decide +kernel
theorem dL_areSumsRight_280 : decode cL_areSumsRight 280 = .ok (.bipush 8, 2) := by decide +kernel
theorem dL_areSumsRight_282 : decode cL_areSumsRight 282 = .ok (.invokevirtual 66, 3) := by decide +kernel
theorem dL_areSumsRight_285 : decode cL_areSumsRight 285 = .ok (.iload 5, 2) := by decide +kernel
theorem dL_areSumsRight_287 : decode cL_areSumsRight 287 = .ok (.if_icmp .ne 114, 3) := by decide +kernel
theorem dL_areSumsRight_290 : decode cL_areSumsRight 290 = .ok (.aload_n 0, 1) := by decide +kernel
theorem dL_areSumsRight_291 : decode cL_areSumsRight 291 = .ok (.iload 6, 2) := by decide +kernel
theorem dL_areSumsRight_293 : decode cL_areSumsRight 293 = .ok (.iconst 0, 1) := by decide +kernel
theorem dL_areSumsRight_294 : decode cL_areSumsRight 294 = .ok (.invokevirtual 66, 3) := by decide +kernel
theorem dL_areSumsRight_297 : decode cL_areSumsRight 297 = .ok (.aload_n 0, 1) := by decide +kernel
theorem dL_areSumsRight_298 : decode cL_areSumsRight 298 = .ok (.iload 5, 2) := by decide +kernel
theorem dL_areSumsRight_300 : decode cL_areSumsRight 300 = .ok (.iconst 0, 1) := by decide +kernel
theorem dL_areSumsRight_301 : decode cL_areSumsRight 301 = .ok (.invokevirtual 72, 3) := by decide +kernel
theorem dL_areSumsRight_304 : decode cL_areSumsRight 304 = .ok (.if_icmp .ne 97, 3) := by decide +kernel
theorem dL_areSumsRight_307 : decode cL_areSumsRight 307 = .ok (.aload_n 0, 1) := by decide +kernel
theorem dL_areSumsRight_308 : decode cL_areSumsRight 308 = .ok (.iload 6, 2) := by decide +kernel
theorem dL_areSumsRight_310 : decode cL_areSumsRight 310 = .ok (.iconst 4, 1) := by decide +kernel
theorem dL_areSumsRight_311 : decode cL_areSumsRight 311 = .ok (.invokevirtual 66, 3) := by decide +kernel
theorem dL_areSumsRight_314 : decode cL_areSumsRight 314 = .ok (.aload_n 0, 1) := by decide +kernel
theorem dL_areSumsRight_315 : decode cL_areSumsRight 315 = .ok (.iload 5, 2) := by decide +kernel
theorem dL_areSumsRight_317 : decode cL_areSumsRight 317 = .ok (.iconst 1, 1) := by decide +kernel
theorem dL_areSumsRight_318 : decode cL_areSumsRight 318 = .ok (.invokevirtual 72, 3) := by decide +kernel
theorem dL_areSumsRight_321 : decode cL_areSumsRight 321 = .ok (.if_icmp .lt 80, 3) := by decide +kernel
theorem dL_areSumsRight_324 : decode cL_areSumsRight 324 = .ok (.iload 7, 2) := by decide +kernel
theorem dL_areSumsRight_326 : decode cL_areSumsRight 326 = .ok (.ifCond .eq 14, 3) := by decide +kernel
theorem dL_areSumsRight_329 : decode cL_areSumsRight 329 = .ok (.aload_n 0, 1) := by decide +kernel
theorem dL_areSumsRight_330 : decode cL_areSumsRight 330 = .ok (.iload 6, 2) := by decide +kernel
theorem dL_areSumsRight_332 : decode cL_areSumsRight 332 = .ok (.iconst 4, 1) := by decide +kernel
theorem dL_areSumsRight_333 : decode cL_areSumsRight 333 = .ok (.invokevirtual 66, 3) := by decide +kernel
theorem dL_areSumsRight_336 : decode cL_areSumsRight 336 = .ok (.iconst 3, 1) := by decide +kernel
theorem dL_areSumsRight_337 : decode cL_areSumsRight 337 = .ok (.if_icmp .lt 64, 3) := by decide +kernel
theorem dL_areSumsRight_340 : decode cL_areSumsRight 340 = .ok (.aload_n 0, 1) := by decide +kernel
theorem dL_areSumsRight_341 : decode cL_areSumsRight 341 = .ok (.iload 6, 2) := by decide +kernel
theorem dL_areSumsRight_343 : decode cL_areSumsRight 343 = .ok (.bipush 7, 2) := by decide +kernel
theorem dL_areSumsRight_345 : decode cL_areSumsRight 345 = .ok (.invokevirtual 66, 3) := by decide +kernel
theorem dL_areSumsRight_348 : decode cL_areSumsRight 348 = .ok (.ifCond .ne 53, 3) := by decide +kernel
theorem dL_areSumsRight_351 : decode cL_areSumsRight 351 = .ok (.aload_n 0, 1) := by decide +kernel
theorem dL_areSumsRight_352 : decode cL_areSumsRight 352 = .ok (.iload 6, 2) := by decide +kernel
theorem dL_areSumsRight_354 : decode cL_areSumsRight 354 = .ok (.bipush 6, 2) := by decide +kernel
theorem dL_areSumsRight_356 : decode cL_areSumsRight 356 = .ok (.invokevirtual 66, 3) := by decide +kernel
theorem dL_areSumsRight_359 : decode cL_areSumsRight 359 = .ok (.iconst 1, 1) := by decide +kernel
theorem dL_areSumsRight_360 : decode cL_areSumsRight 360 = .ok (.if_icmp .ne 41, 3) := by decide +kernel
theorem dL_areSumsRight_363 : decode cL_areSumsRight 363 = .ok (.aload_n 0, 1) := by decide +kernel
theorem dL_areSumsRight_364 : decode cL_areSumsRight 364 = .ok (.iload 5, 2) := by decide +kernel
theorem dL_areSumsRight_366 : decode cL_areSumsRight 366 = .ok (.iconst 4, 1) := by decide +kernel
theorem dL_areSumsRight_367 : decode cL_areSumsRight 367 = .ok (.invokevirtual 72, 3) := by decide +kernel
theorem dL_areSumsRight_370 : decode cL_areSumsRight 370 = .ok (.iload 7, 2) := by decide +kernel
theorem dL_areSumsRight_372 : decode cL_areSumsRight 372 = .ok (.ifCond .eq 13, 3) := by decide +kernel
theorem dL_areSumsRight_375 : decode cL_areSumsRight 375 = .ok (.aload_n 0, 1) := by decide +kernel
theorem dL_areSumsRight_376 : decode cL_areSumsRight 376 = .ok (.iload 5, 2) := by decide +kernel
theorem dL_areSumsRight_378 : decode cL_areSumsRight 378 = .ok (.iconst 2, 1) := by decide +kernel
theorem dL_areSumsRight_379 : decode cL_areSumsRight 379 = .ok (.invokevirtual 72, 3) := by decide +kernel
theorem dL_areSumsRight_382 : decode cL_areSumsRight 382 = .ok (.goto 12, 3) := by decide +kernel
theorem dL_areSumsRight_385 : decode cL_areSumsRight 385 = .ok (.aload_n 0, 1) := by decide +kernel
theorem dL_areSumsRight_386 : decode cL_areSumsRight 386 = .ok (.iload 5, 2) := by decide +kernel
theorem dL_areSumsRight_388 : decode cL_areSumsRight 388 = .ok (.iconst 2, 1) := by decide +kernel
theorem dL_areSumsRight_389 : decode cL_areSumsRight 389 = .ok (.invokevirtual 72, 3) := by decide +kernel
theorem dL_areSumsRight_392 : decode cL_areSumsRight 392 = .ok (.iconst 2, 1) := by decide +kernel
theorem dL_areSumsRight_393 : decode cL_areSumsRight 393 = .ok (.idiv, 1) := by decide +kernel
theorem dL_areSumsRight_394 : decode cL_areSumsRight 394 = .ok (.if_icmp .ne 7, 3) := by decide +kernel
theorem dL_areSumsRight_397 : decode cL_areSumsRight 397 = .ok (.iconst 1, 1) := by decide +kernel
theorem dL_areSumsRight_398 : decode cL_areSumsRight 398 = .ok (.goto 4, 3) := by decide +kernel
theorem dL_areSumsRight_401 : decode cL_areSumsRight 401 = .ok (.iconst 0, 1) := by decide +kernel
theorem dL_areSumsRight_402 : decode cL_areSumsRight 402 = .ok (.istore 4, 2) := by decide +kernel
theorem dL_areSumsRight_404 : decode cL_areSumsRight 404 = .ok (.iinc 3 1, 3) := by decide +kernel
theorem dL_areSumsRight_407 : decode cL_areSumsRight 407 = .ok (.iload_n 2, 1) := by decide +kernel
theorem dL_areSumsRight_408 : decode cL_areSumsRight 408 = .ok (.aload_n 0, 1) := by decide +kernel
theorem dL_areSumsRight_409 : decode cL_areSumsRight 409 = .ok (.iload 5, 2) := by decide +kernel
theorem dL_areSumsRight_411 : decode cL_areSumsRight 411 = .ok (.iconst 4, 1) := by decide +kernel
theorem dL_areSumsRight_412 : decode cL_areSumsRight 412 = .ok (.invokevirtual 72, 3) := by decide +kernel
theorem dL_areSumsRight_415 : decode cL_areSumsRight 415 = .ok (.iadd, 1) := by decide +kernel
theorem dL_areSumsRight_416 : decode cL_areSumsRight 416 = .ok (.istore_n 2, 1) := by decide +kernel
theorem dL_areSumsRight_417 : decode cL_areSumsRight 417 = .ok (.iinc 5 1, 3) := by decide +kernel
theorem dL_areSumsRight_420 : decode cL_areSumsRight 420 = .ok (.goto (-192), 3) := by decide +kernel
theorem dL_areSumsRight_423 : decode cL_areSumsRight 423 = .ok (.iload 4, 2) := by decide +kernel
theorem dL_areSumsRight_425 : decode cL_areSumsRight 425 = .ok (.ifCond .eq 50, 3) := by decide +kernel
theorem dL_areSumsRight_428 : decode cL_areSumsRight 428 = .ok (.iload_n 1, 1) := by decide +kernel
theorem dL_areSumsRight_429 : decode cL_areSumsRight 429 = .ok (.aload_n 0, 1) := by decide +kernel
theorem dL_areSumsRight_430 : decode cL_areSumsRight 430 = .ok (.invokevirtual 106, 3) := by decide +kernel
theorem dL_areSumsRight_433 : decode cL_areSumsRight 433 = .ok (.if_icmp .ne 42, 3) := by decide +kernel
theorem dL_areSumsRight_436 : decode cL_areSumsRight 436 = .ok (.iload_n 2, 1) := by decide +kernel
theorem dL_areSumsRight_437 : decode cL_areSumsRight 437 = .ok (.aload_n 0, 1) := by decide +kernel
theorem dL_areSumsRight_438 : decode cL_areSumsRight 438 = .ok (.bipush 13, 2) := by decide +kernel
theorem dL_areSumsRight_440 : decode cL_areSumsRight 440 = .ok (.invokevirtual 28, 3) := by decide +kernel
theorem dL_areSumsRight_443 : decode cL_areSumsRight 443 = .ok (.if_icmp .ne 32, 3) := by decide +kernel
theorem dL_areSumsRight_446 : decode cL_areSumsRight 446 = .ok (.iload_n 3, 1) := by decide +kernel
theorem dL_areSumsRight_447 : decode cL_areSumsRight 447 = .ok (.aload_n 0, 1) := by decide +kernel
theorem dL_areSumsRight_448 : decode cL_areSumsRight 448 = .ok (.bipush 8, 2) := by decide +kernel
theorem dL_areSumsRight_450 : decode cL_areSumsRight 450 = .ok (.invokevirtual 28, 3) := by decide +kernel
theorem dL_areSumsRight_453 : decode cL_areSumsRight 453 = .ok (.if_icmp .ne 22, 3) := by decide +kernel
theorem dL_areSumsRight_456 : decode cL_areSumsRight 456 = .ok (.aload_n 0, 1) := by decide +kernel
theorem dL_areSumsRight_457 : decode cL_areSumsRight 457 = .ok (.iconst 3, 1) := by decide +kernel
theorem dL_areSumsRight_458 : decode cL_areSumsRight 458 = .ok (.invokevirtual 28, 3) := by decide +kernel
theorem dL_areSumsRight_461 : decode cL_areSumsRight 461 = .ok (.aload_n 0, 1) := by decide +kernel
theorem dL_areSumsRight_462 : decode cL_areSumsRight 462 = .ok (.iconst 4, 1) := by decide +kernel
theorem dL_areSumsRight_463 : decode cL_areSumsRight 463 = .ok (.invokevirtual 28, 3) := by decide +kernel
theorem dL_areSumsRight_466 : decode cL_areSumsRight 466 = .ok (.isub, 1) := by decide +kernel
theorem dL_areSumsRight_467 : decode cL_areSumsRight 467 = .ok (.iload_n 3, 1) := by decide +kernel
theorem dL_areSumsRight_468 : decode cL_areSumsRight 468 = .ok (.if_icmp .ne 7, 3) := by decide +kernel
theorem dL_areSumsRight_471 : decode cL_areSumsRight 471 = .ok (.iconst 1, 1) := by decide +kernel
theorem dL_areSumsRight_472 : decode cL_areSumsRight 472 = .ok (.goto 4, 3) := by decide +kernel
theorem dL_areSumsRight_475 : decode cL_areSumsRight 475 = .ok (.iconst 0, 1) := by decide +kernel
theorem dL_areSumsRight_476 : decode cL_areSumsRight 476 = .ok (.ireturn, 1) := by decide +kernel
theorem dL_areOrdersRight_0 : decode cL_areOrdersRight 0 = .ok (.iconst 0, 1) := by decide +kernel
theorem dL_areOrdersRight_1 : decode cL_areOrdersRight 1 = .ok (.istore_n 3, 1) := by decide +kernel
theorem dL_areOrdersRight_2 : decode cL_areOrdersRight 2 = .ok (.aload_n 0, 1) := by decide +kernel
theorem dL_areOrdersRight_3 : decode cL_areOrdersRight 3 = .ok (.aload_n 0, 1) := by decide +kernel
theorem dL_areOrdersRight_4 : decode cL_areOrdersRight 4 = .ok (.iconst 4, 1) := by decide +kernel
theorem dL_areOrdersRight_5 : decode cL_areOrdersRight 5 = .ok (.invokevirtual 28, 3) := by decide +kernel
theorem dL_areOrdersRight_8 : decode cL_areOrdersRight 8 = .ok (.invokevirtual 119, 3) := by decide +kernel
theorem dL_areOrdersRight_11 : decode cL_areOrdersRight 11 = .ok (.iconst (-1), 1) := by decide +kernel
theorem dL_areOrdersRight_12 : decode cL_areOrdersRight 12 = .ok (.if_icmp .ne 7, 3) := by decide +kernel
theorem dL_areOrdersRight_15 : decode cL_areOrdersRight 15 = .ok (.iconst 1, 1) := by decide +kernel
theorem dL_areOrdersRight_16 : decode cL_areOrdersRight 16 = .ok (.goto 4, 3) := by decide +kernel
theorem dL_areOrdersRight_19 : decode cL_areOrdersRight 19 = .ok (.iconst 0, 1) := by decide +kernel
theorem dL_areOrdersRight_20 : decode cL_areOrdersRight 20 = .ok (.istore 4, 2) := by decide +kernel
theorem dL_areOrdersRight_22 : decode cL_areOrdersRight 22 = .ok (.iconst 1, 1) := by decide +kernel
theorem dL_areOrdersRight_23 : decode cL_areOrdersRight 23 = .ok (.istore 5, 2) := by decide +kernel
theorem dL_areOrdersRight_25 : decode cL_areOrdersRight 25 = .ok (.iload 5, 2) := by decide +kernel
theorem dL_areOrdersRight_27 : decode cL_areOrdersRight 27 = .ok (.aload_n 0, 1) := by decide +kernel
theorem dL_areOrdersRight_28 : decode cL_areOrdersRight 28 = .ok (.iconst 4, 1) := by decide +kernel
theorem dL_areOrdersRight_29 : decode cL_areOrdersRight 29 = .ok (.invokevirtual 28, 3) := by decide +kernel
theorem dL_areOrdersRight_32 : decode cL_areOrdersRight 32 = .ok (.if_icmp .ge 94, 3) := by decide +kernel
theorem dL_areOrdersRight_35 : decode cL_areOrdersRight 35 = .ok (.aload_n 0, 1) := by decide +kernel
theorem dL_areOrdersRight_36 : decode cL_areOrdersRight 36 = .ok (.iload 5, 2) := by decide +kernel
theorem dL_areOrdersRight_38 : decode cL_areOrdersRight 38 = .ok (.iconst 1, 1) := by decide +kernel
theorem dL_areOrdersRight_39 : decode cL_areOrdersRight 39 = .ok (.isub, 1) := by decide +kernel
theorem dL_areOrdersRight_40 : decode cL_areOrdersRight 40 = .ok (.invokevirtual 119, 3) := by decide +kernel
theorem dL_areOrdersRight_43 : decode cL_areOrdersRight 43 = .ok (.istore 6, 2) := by decide +kernel
theorem dL_areOrdersRight_45 : decode cL_areOrdersRight 45 = .ok (.aload_n 0, 1) := by decide +kernel
theorem dL_areOrdersRight_46 : decode cL_areOrdersRight 46 = .ok (.iload 5, 2) := by decide +kernel
theorem dL_areOrdersRight_48 : decode cL_areOrdersRight 48 = .ok (.invokevirtual 119, 3) := by decide +kernel
theorem dL_areOrdersRight_51 : decode cL_areOrdersRight 51 = .ok (.istore 7, 2) := by decide +kernel
theorem dL_areOrdersRight_53 : decode cL_areOrdersRight 53 = .ok (.iload 4, 2) := by decide +kernel
theorem dL_areOrdersRight_55 : decode cL_areOrdersRight 55 = .ok (.ifCond .eq 62, 3) := by decide +kernel
theorem dL_areOrdersRight_58 : decode cL_areOrdersRight 58 = .ok (.aload_n 0, 1) := by decide +kernel
theorem dL_areOrdersRight_59 : decode cL_areOrdersRight 59 = .ok (.iload 6, 2) := by decide +kernel
theorem dL_areOrdersRight_61 : decode cL_areOrdersRight 61 = .ok (.invokevirtual 78, 3) := by decide +kernel
theorem dL_areOrdersRight_64 : decode cL_areOrdersRight 64 = .ok (.aload_n 0, 1) := by decide +kernel
theorem dL_areOrdersRight_65 : decode cL_areOrdersRight 65 = .ok (.iload 7, 2) := by decide +kernel
theorem dL_areOrdersRight_67 : decode cL_areOrdersRight 67 = .ok (.invokevirtual 78, 3) := by decide +kernel
theorem dL_areOrdersRight_70 : decode cL_areOrdersRight 70 = .ok (.if_icmp .gt 25, 3) := by decide +kernel
theorem dL_areOrdersRight_73 : decode cL_areOrdersRight 73 = .ok (.aload_n 0, 1) := by decide +kernel
theorem dL_areOrdersRight_74 : decode cL_areOrdersRight 74 = .ok (.iload 6, 2) := by decide +kernel
theorem dL_areOrdersRight_76 : decode cL_areOrdersRight 76 = .ok (.invokevirtual 78, 3) := by decide +kernel
theorem dL_areOrdersRight_79 : decode cL_areOrdersRight 79 = .ok (.aload_n 0, 1) := by decide +kernel
theorem dL_areOrdersRight_80 : decode cL_areOrdersRight 80 = .ok (.iload 7, 2) := by decide +kernel
theorem dL_areOrdersRight_82 : decode cL_areOrdersRight 82 = .ok (.invokevirtual 78, 3) := by decide +kernel
theorem dL_areOrdersRight_85 : decode cL_areOrdersRight 85 = .ok (.if_icmp .ne 32, 3) := by decide +kernel
theorem dL_areOrdersRight_88 : decode cL_areOrdersRight 88 = .ok (.iload 6, 2) := by decide +kernel
theorem dL_areOrdersRight_90 : decode cL_areOrdersRight 90 = .ok (.iload 7, 2) := by decide +kernel
theorem dL_areOrdersRight_92 : decode cL_areOrdersRight 92 = .ok (.if_icmp .ge 25, 3) := by decide +kernel
theorem dL_areOrdersRight_95 : decode cL_areOrdersRight 95 = .ok (.aload_n 0, 1) := by decide +kernel
theorem dL_areOrdersRight_96 : decode cL_areOrdersRight 96 = .ok (.iload 6, 2) := by decide +kernel
theorem dL_areOrdersRight_98 : decode cL_areOrdersRight 98 = .ok (.invokestatic 94, 3) := by decide +kernel
theorem dL_areOrdersRight_101 : decode cL_areOrdersRight 101 = .ok (.ifCond .eq 16, 3) := by decide +kernel
theorem dL_areOrdersRight_104 : decode cL_areOrdersRight 104 = .ok (.aload_n 0, 1) := by decide +kernel
theorem dL_areOrdersRight_105 : decode cL_areOrdersRight 105 = .ok (.iload 7, 2) := by decide +kernel
theorem dL_areOrdersRight_107 : decode cL_areOrdersRight 107 = .ok (.invokestatic 94, 3) := by decide +kernel
theorem dL_areOrdersRight_110 : decode cL_areOrdersRight 110 = .ok (.ifCond .eq 7, 3) := by decide +kernel
theorem dL_areOrdersRight_113 : decode cL_areOrdersRight 113 = .ok (.iconst 1, 1) := by decide +kernel
theorem dL_areOrdersRight_114 : decode cL_areOrdersRight 114 = .ok (.goto 4, 3) := by decide +kernel
theorem dL_areOrdersRight_117 : decode cL_areOrdersRight 117 = .ok (.iconst 0, 1) := by decide +kernel
theorem dL_areOrdersRight_118 : decode cL_areOrdersRight 118 = .ok (.istore 4, 2) := by decide +kernel
theorem dL_areOrdersRight_120 : decode cL_areOrdersRight 120 = .ok (.iinc 5 1, 3) := by decide +kernel
theorem dL_areOrdersRight_123 : decode cL_areOrdersRight 123 = .ok (.goto (-98), 3) := by decide +kernel
theorem dL_areOrdersRight_126 : decode cL_areOrdersRight 126 = .ok (.aload_n 0, 1) := by decide +kernel
theorem dL_areOrdersRight_127 : decode cL_areOrdersRight 127 = .ok (.iload_n 2, 1) := by decide +kernel
theorem dL_areOrdersRight_128 : decode cL_areOrdersRight 128 = .ok (.invokevirtual 122, 3) := by decide +kernel
theorem dL_areOrdersRight_131 : decode cL_areOrdersRight 131 = .ok (.istore 5, 2) := by decide +kernel
theorem dL_areOrdersRight_133 : decode cL_areOrdersRight 133 = .ok (.iconst 0, 1) := by decide +kernel
theorem dL_areOrdersRight_134 : decode cL_areOrdersRight 134 = .ok (.istore 6, 2) := by decide +kernel
theorem dL_areOrdersRight_136 : decode cL_areOrdersRight 136 = .ok (.iload 6, 2) := by decide +kernel
theorem dL_areOrdersRight_138 : decode cL_areOrdersRight 138 = .ok (.aload_n 0, 1) := by decide +kernel
theorem dL_areOrdersRight_139 : decode cL_areOrdersRight 139 = .ok (.iconst 3, 1) := by decide +kernel
theorem dL_areOrdersRight_140 : decode cL_areOrdersRight 140 = .ok (.invokevirtual 28, 3) := by decide +kernel
theorem dL_areOrdersRight_143 : decode cL_areOrdersRight 143 = .ok (.if_icmp .ge 205, 3) := by decide +kernel
theorem dL_areOrdersRight_146 : decode cL_areOrdersRight 146 = .ok (.aload_n 0, 1) := by decide +kernel
theorem dL_areOrdersRight_147 : decode cL_areOrdersRight 147 = .ok (.iload 6, 2) := by decide +kernel
theorem dL_areOrdersRight_149 : decode cL_areOrdersRight 149 = .ok (.invokevirtual 78, 3) := by decide +kernel
theorem dL_areOrdersRight_152 : decode cL_areOrdersRight 152 = .ok (.iload_n 2, 1) := by decide +kernel
theorem dL_areOrdersRight_153 : decode cL_areOrdersRight 153 = .ok (.isub, 1) := by decide +kernel
theorem dL_areOrdersRight_154 : decode cL_areOrdersRight 154 = .ok (.invokestatic 125, 3) := by decide +kernel
theorem dL_areOrdersRight_157 : decode cL_areOrdersRight 157 = .ok (.istore 7, 2) := by decide +kernel
theorem dL_areOrdersRight_159 : decode cL_areOrdersRight 159 = .ok (.iload 4, 2) := by decide +kernel
theorem dL_areOrdersRight_161 : decode cL_areOrdersRight 161 = .ok (.ifCond .eq 60, 3) := by decide +kernel
theorem dL_areOrdersRight_164 : decode cL_areOrdersRight 164 = .ok (.aload_n 0, 1) := by decide +kernel
theorem dL_areOrdersRight_165 : decode cL_areOrdersRight 165 = .ok (.iload 6, 2) := by decide +kernel
theorem dL_areOrdersRight_167 : decode cL_areOrdersRight 167 = .ok (.invokestatic 94, 3) := by decide +kernel
theorem dL_areOrdersRight_170 : decode cL_areOrdersRight 170 = .ok (.ifCond .eq 47, 3) := by decide +kernel
theorem dL_areOrdersRight_173 : decode cL_areOrdersRight 173 = .ok (.iload 5, 2) := by decide +kernel
theorem dL_areOrdersRight_175 : decode cL_areOrdersRight 175 = .ok (.ifCond .lt 46, 3) := by decide +kernel
theorem dL_areOrdersRight_178 : decode cL_areOrdersRight 178 = .ok (.aload_n 0, 1) := by decide +kernel
theorem dL_areOrdersRight_179 : decode cL_areOrdersRight 179 = .ok (.iload 5, 2) := by decide +kernel
theorem dL_areOrdersRight_181 : decode cL_areOrdersRight 181 = .ok (.invokevirtual 78, 3) := by decide +kernel
theorem dL_areOrdersRight_184 : decode cL_areOrdersRight 184 = .ok (.iload_n 2, 1) := by decide +kernel
theorem dL_areOrdersRight_185 : decode cL_areOrdersRight 185 = .ok (.isub, 1) := by decide +kernel
theorem dL_areOrdersRight_186 : decode cL_areOrdersRight 186 = .ok (.invokestatic 125, 3) := by decide +kernel
theorem dL_areOrdersRight_189 : decode cL_areOrdersRight 189 = .ok (.iload 7, 2) := by decide +kernel
theorem dL_areOrdersRight_191 : decode cL_areOrdersRight 191 = .ok (.if_icmp .lt 26, 3) := by decide +kernel
theorem dL_areOrdersRight_194 : decode cL_areOrdersRight 194 = .ok (.aload_n 0, 1) := by decide +kernel
theorem dL_areOrdersRight_195 : decode cL_areOrdersRight 195 = .ok (.iload 5, 2) := by decide +kernel
theorem dL_areOrdersRight_197 : decode cL_areOrdersRight 197 = .ok (.invokevirtual 78, 3) := by decide +kernel
theorem dL_areOrdersRight_200 : decode cL_areOrdersRight 200 = .ok (.iload_n 2, 1) := by decide +kernel
theorem dL_areOrdersRight_201 : decode cL_areOrdersRight 201 = .ok (.isub, 1) := by decide +kernel
theorem dL_areOrdersRight_202 : decode cL_areOrdersRight 202 = .ok (.invokestatic 125, 3) := by decide +kernel
theorem dL_areOrdersRight_205 : decode cL_areOrdersRight 205 = .ok (.iload 7, 2) := by decide +kernel
theorem dL_areOrdersRight_207 : decode cL_areOrdersRight 207 = .ok (.if_icmp .ne 14, 3) := by decide +kernel
theorem dL_areOrdersRight_210 : decode cL_areOrdersRight 210 = .ok (.iload 5, 2) := by decide +kernel
theorem dL_areOrdersRight_212 : decode cL_areOrdersRight 212 = .ok (.iload 6, 2) := by decide +kernel
theorem dL_areOrdersRight_214 : decode cL_areOrdersRight 214 = .ok (.if_icmp .gt 7, 3) := by decide +kernel
theorem dL_areOrdersRight_217 : decode cL_areOrdersRight 217 = .ok (.iconst 1, 1) := by decide +kernel
theorem dL_areOrdersRight_218 : decode cL_areOrdersRight 218 = .ok (.goto 4, 3) := by decide +kernel
theorem dL_areOrdersRight_221 : decode cL_areOrdersRight 221 = .ok (.iconst 0, 1) := by decide +kernel
theorem dL_areOrdersRight_222 : decode cL_areOrdersRight 222 = .ok (.istore 4, 2) := by decide +kernel
theorem dL_areOrdersRight_224 : decode cL_areOrdersRight 224 = .ok (.iload 6, 2) := by decide +kernel
theorem dL_areOrdersRight_226 : decode cL_areOrdersRight 226 = .ok (.iconst 1, 1) := by decide +kernel
theorem dL_areOrdersRight_227 : decode cL_areOrdersRight 227 = .ok (.iadd, 1) := by decide +kernel
theorem dL_areOrdersRight_228 : decode cL_areOrdersRight 228 = .ok (.istore 8, 2) := by decide +kernel
theorem dL_areOrdersRight_230 : decode cL_areOrdersRight 230 = .ok (.iload 8, 2) := by decide +kernel
theorem dL_areOrdersRight_232 : decode cL_areOrdersRight 232 = .ok (.aload_n 0, 1) := by decide +kernel
theorem dL_areOrdersRight_233 : decode cL_areOrdersRight 233 = .ok (.iconst 3, 1) := by decide +kernel
theorem dL_areOrdersRight_234 : decode cL_areOrdersRight 234 = .ok (.invokevirtual 28, 3) := by decide +kernel
theorem dL_areOrdersRight_237 : decode cL_areOrdersRight 237 = .ok (.if_icmp .ge 105, 3) := by decide +kernel
theorem dL_areOrdersRight_240 : decode cL_areOrdersRight 240 = .ok (.aload_n 0, 1) := by decide +kernel
theorem dL_areOrdersRight_241 : decode cL_areOrdersRight 241 = .ok (.iload 6, 2) := by decide +kernel
theorem dL_areOrdersRight_243 : decode cL_areOrdersRight 243 = .ok (.invokevirtual 78, 3) := by decide +kernel
theorem dL_areOrdersRight_246 : decode cL_areOrdersRight 246 = .ok (.aload_n 0, 1) := by decide +kernel
theorem dL_areOrdersRight_247 : decode cL_areOrdersRight 247 = .ok (.iload 8, 2) := by decide +kernel
theorem dL_areOrdersRight_249 : decode cL_areOrdersRight 249 = .ok (.invokevirtual 78, 3) := by decide +kernel
theorem dL_areOrdersRight_252 : decode cL_areOrdersRight 252 = .ok (.isub, 1) := by decide +kernel
theorem dL_areOrdersRight_253 : decode cL_areOrdersRight 253 = .ok (.invokestatic 125, 3) := by decide +kernel
theorem dL_areOrdersRight_256 : decode cL_areOrdersRight 256 = .ok (.iconst 2, 1) := by decide +kernel
theorem dL_areOrdersRight_257 : decode cL_areOrdersRight 257 = .ok (.if_icmp .gt 7, 3) := by decide +kernel
theorem dL_areOrdersRight_260 : decode cL_areOrdersRight 260 = .ok (.iconst 1, 1) := by decide +kernel
theorem dL_areOrdersRight_261 : decode cL_areOrdersRight 261 = .ok (.goto 4, 3) := by decide +kernel
theorem dL_areOrdersRight_264 : decode cL_areOrdersRight 264 = .ok (.iconst 0, 1) := by decide +kernel
theorem dL_areOrdersRight_265 : decode cL_areOrdersRight 265 = .ok (.istore 9, 2) := by decide +kernel
theorem dL_areOrdersRight_267 : decode cL_areOrdersRight 267 = .ok (.iload 4, 2) := by decide +kernel
theorem dL_areOrdersRight_269 : decode cL_areOrdersRight 269 = .ok (.ifCond .eq 33, 3) := by decide +kernel
theorem dL_areOrdersRight_272 : decode cL_areOrdersRight 272 = .ok (.aload_n 0, 1) := by decide +kernel
theorem dL_areOrdersRight_273 : decode cL_areOrdersRight 273 = .ok (.iload 6, 2) := by decide +kernel
theorem dL_areOrdersRight_275 : decode cL_areOrdersRight 275 = .ok (.iload 8, 2) := by decide +kernel
theorem dL_areOrdersRight_277 : decode cL_areOrdersRight 277 = .ok (.invokevirtual 128, 3) := by decide +kernel
theorem dL_areOrdersRight_280 : decode cL_areOrdersRight 280 = .ok (.iload 9, 2) := by decide +kernel
theorem dL_areOrdersRight_282 : decode cL_areOrdersRight 282 = .ok (.if_icmp .ne 20, 3) := by decide +kernel
theorem dL_areOrdersRight_285 : decode cL_areOrdersRight 285 = .ok (.aload_n 0, 1) := by decide +kernel
theorem dL_areOrdersRight_286 : decode cL_areOrdersRight 286 = .ok (.iload 8, 2) := by decide +kernel
theorem dL_areOrdersRight_288 : decode cL_areOrdersRight 288 = .ok (.iload 6, 2) := by decide +kernel
theorem dL_areOrdersRight_290 : decode cL_areOrdersRight 290 = .ok (.invokevirtual 128, 3) := by decide +kernel
theorem dL_areOrdersRight_293 : decode cL_areOrdersRight 293 = .ok (.iload 9, 2) := by decide +kernel
theorem dL_areOrdersRight_295 : decode cL_areOrdersRight 295 = .ok (.if_icmp .ne 7, 3) := by decide +kernel
theorem dL_areOrdersRight_298 : decode cL_areOrdersRight 298 = .ok (.iconst 1, 1) := by decide +kernel
theorem dL_areOrdersRight_299 : decode cL_areOrdersRight 299 = .ok (.goto 4, 3) := by decide +kernel
theorem dL_areOrdersRight_302 : decode cL_areOrdersRight 302 = .ok (.iconst 0, 1) := by decide +kernel
theorem dL_areOrdersRight_303 : decode cL_areOrdersRight 303 = .ok (.istore 4, 2) := by decide +kernel
theorem dL_areOrdersRight_305 : decode cL_areOrdersRight 305 = .ok (.iload_n 3, 1) := by decide +kernel
theorem dL_areOrdersRight_306 : decode cL_areOrdersRight 306 = .ok (.iload 9, 2) := by decide +kernel
theorem dL_areOrdersRight_308 : decode cL_areOrdersRight 308 = .ok (.ifCond .eq 25, 3) := by decide +kernel
theorem dL_areOrdersRight_311 : decode cL_areOrdersRight 311 = .ok (.aload_n 0, 1) := by decide +kernel
theorem dL_areOrdersRight_312 : decode cL_areOrdersRight 312 = .ok (.iload 6, 2) := by decide +kernel
theorem dL_areOrdersRight_314 : decode cL_areOrdersRight 314 = .ok (.invokestatic 94, 3) := by decide +kernel
theorem dL_areOrdersRight_317 : decode cL_areOrdersRight 317 = .ok (.ifCond .eq 16, 3) := by decide +kernel
theorem dL_areOrdersRight_320 : decode cL_areOrdersRight 320 = .ok (.aload_n 0, 1) := by decide +kernel
theorem dL_areOrdersRight_321 : decode cL_areOrdersRight 321 = .ok (.iload 8, 2) := by decide +kernel
theorem dL_areOrdersRight_323 : decode cL_areOrdersRight 323 = .ok (.invokestatic 94, 3) := by decide +kernel
theorem dL_areOrdersRight_326 : decode cL_areOrdersRight 326 = .ok (.ifCond .eq 7, 3) := by decide +kernel
theorem dL_areOrdersRight_329 : decode cL_areOrdersRight 329 = .ok (.iconst 1, 1) := by decide +kernel
theorem dL_areOrdersRight_330 : decode cL_areOrdersRight 330 = .ok (.goto 4, 3) := by decide +kernel
theorem dL_areOrdersRight_333 : decode cL_areOrdersRight 333 = .ok (.iconst 0, 1) := by decide +kernel
theorem dL_areOrdersRight_334 : decode cL_areOrdersRight 334 = .ok (.iadd, 1) := by decide +kernel
theorem dL_areOrdersRight_335 : decode cL_areOrdersRight 335 = .ok (.istore_n 3, 1) := by decide +kernel
theorem dL_areOrdersRight_336 : decode cL_areOrdersRight 336 = .ok (.iinc 8 1, 3) := by decide +kernel
theorem dL_areOrdersRight_339 : decode cL_areOrdersRight 339 = .ok (.goto (-109), 3) := by decide +kernel
theorem dL_areOrdersRight_342 : decode cL_areOrdersRight 342 = .ok (.iinc 6 1, 3) := by decide +kernel
theorem dL_areOrdersRight_345 : decode cL_areOrdersRight 345 = .ok (.goto (-209), 3) := by decide +kernel
theorem dL_areOrdersRight_348 : decode cL_areOrdersRight 348 = .ok (.aload_n 0, 1) := by decide +kernel
theorem dL_areOrdersRight_349 : decode cL_areOrdersRight 349 = .ok (.iconst 4, 1) := by decide +kernel
theorem dL_areOrdersRight_350 : decode cL_areOrdersRight 350 = .ok (.invokevirtual 28, 3) := by decide +kernel
theorem dL_areOrdersRight_353 : decode cL_areOrdersRight 353 = .ok (.ifCond .ne 7, 3) := by decide +kernel
theorem dL_areOrdersRight_356 : decode cL_areOrdersRight 356 = .ok (.iconst 0, 1) := by decide +kernel
theorem dL_areOrdersRight_357 : decode cL_areOrdersRight 357 = .ok (.goto 4, 3) := by decide +kernel
theorem dL_areOrdersRight_360 : decode cL_areOrdersRight 360 = .ok (.iconst 1, 1) := by decide +kernel
theorem dL_areOrdersRight_361 : decode cL_areOrdersRight 361 = .ok (.istore 6, 2) := by decide +kernel
theorem dL_areOrdersRight_363 : decode cL_areOrdersRight 363 = .ok (.iconst 1, 1) := by decide +kernel
theorem dL_areOrdersRight_364 : decode cL_areOrdersRight 364 = .ok (.istore 7, 2) := by decide +kernel
theorem dL_areOrdersRight_366 : decode cL_areOrdersRight 366 = .ok (.aload_n 0, 1) := by decide +kernel
theorem dL_areOrdersRight_367 : decode cL_areOrdersRight 367 = .ok (.iconst 4, 1) := by decide +kernel
theorem dL_areOrdersRight_368 : decode cL_areOrdersRight 368 = .ok (.invokevirtual 28, 3) := by decide +kernel
theorem dL_areOrdersRight_371 : decode cL_areOrdersRight 371 = .ok (.iconst 1, 1) := by decide +kernel
theorem dL_areOrdersRight_372 : decode cL_areOrdersRight 372 = .ok (.isub, 1) := by decide +kernel
theorem dL_areOrdersRight_373 : decode cL_areOrdersRight 373 = .ok (.istore 8, 2) := by decide +kernel
theorem dL_areOrdersRight_375 : decode cL_areOrdersRight 375 = .ok (.iload 8, 2) := by decide +kernel
theorem dL_areOrdersRight_377 : decode cL_areOrdersRight 377 = .ok (.ifCond .le 72, 3) := by decide +kernel
theorem dL_areOrdersRight_380 : decode cL_areOrdersRight 380 = .ok (.iload 7, 2) := by decide +kernel
theorem dL_areOrdersRight_382 : decode cL_areOrdersRight 382 = .ok (.ifCond .eq 67, 3) := by decide +kernel
theorem dL_areOrdersRight_385 : decode cL_areOrdersRight 385 = .ok (.aload_n 0, 1) := by decide +kernel
theorem dL_areOrdersRight_386 : decode cL_areOrdersRight 386 = .ok (.aload_n 0, 1) := by decide +kernel
theorem dL_areOrdersRight_387 : decode cL_areOrdersRight 387 = .ok (.iload 8, 2) := by decide +kernel
theorem dL_areOrdersRight_389 : decode cL_areOrdersRight 389 = .ok (.iconst 1, 1) := by decide +kernel
theorem dL_areOrdersRight_390 : decode cL_areOrdersRight 390 = .ok (.isub, 1) := by decide +kernel
theorem dL_areOrdersRight_391 : decode cL_areOrdersRight 391 = .ok (.invokevirtual 119, 3) := by decide +kernel
theorem dL_areOrdersRight_394 : decode cL_areOrdersRight 394 = .ok (.invokevirtual 78, 3) := by decide +kernel
theorem dL_areOrdersRight_397 : decode cL_areOrdersRight 397 = .ok (.aload_n 0, 1) := by decide +kernel
theorem dL_areOrdersRight_398 : decode cL_areOrdersRight 398 = .ok (.aload_n 0, 1) := by decide +kernel
theorem dL_areOrdersRight_399 : decode cL_areOrdersRight 399 = .ok (.iload 8, 2) := by decide +kernel
theorem dL_areOrdersRight_401 : decode cL_areOrdersRight 401 = .ok (.invokevirtual 119, 3) := by decide +kernel
theorem dL_areOrdersRight_404 : decode cL_areOrdersRight 404 = .ok (.invokevirtual 78, 3) := by decide +kernel
theorem dL_areOrdersRight_407 : decode cL_areOrdersRight 407 = .ok (.isub, 1) := by decide +kernel
theorem dL_areOrdersRight_408 : decode cL_areOrdersRight 408 = .ok (.istore 9, 2) := by decide +kernel
theorem dL_areOrdersRight_410 : decode cL_areOrdersRight 410 = .ok (.iload 9, 2) := by decide +kernel
theorem dL_areOrdersRight_412 : decode cL_areOrdersRight 412 = .ok (.iload_n 1, 1) := by decide +kernel
theorem dL_areOrdersRight_413 : decode cL_areOrdersRight 413 = .ok (.if_icmp .gt 7, 3) := by decide +kernel
theorem dL_areOrdersRight_416 : decode cL_areOrdersRight 416 = .ok (.iconst 1, 1) := by decide +kernel
theorem dL_areOrdersRight_417 : decode cL_areOrdersRight 417 = .ok (.goto 4, 3) := by decide +kernel
theorem dL_areOrdersRight_420 : decode cL_areOrdersRight 420 = .ok (.iconst 0, 1) := by decide +kernel
theorem dL_areOrdersRight_421 : decode cL_areOrdersRight 421 = .ok (.istore 7, 2) := by decide +kernel
theorem dL_areOrdersRight_423 : decode cL_areOrdersRight 423 = .ok (.iload 6, 2) := by decide +kernel
theorem dL_areOrdersRight_425 : decode cL_areOrdersRight 425 = .ok (.iload 7, 2) := by decide +kernel
theorem dL_areOrdersRight_427 : decode cL_areOrdersRight 427 = .ok (.ifCond .eq 12, 3) := by decide +kernel
theorem dL_areOrdersRight_430 : decode cL_areOrdersRight 430 = .ok (.iload 9, 2) := by decide +kernel
theorem dL_areOrdersRight_432 : decode cL_areOrdersRight 432 = .ok (.ifCond .le 7, 3) := by decide +kernel
theorem dL_areOrdersRight_435 : decode cL_areOrdersRight 435 = .ok (.iconst 1, 1) := by decide +kernel
theorem dL_areOrdersRight_436 : decode cL_areOrdersRight 436 = .ok (.goto 4, 3) := by decide +kernel
theorem dL_areOrdersRight_439 : decode cL_areOrdersRight 439 = .ok (.iconst 0, 1) := by decide +kernel
theorem dL_areOrdersRight_440 : decode cL_areOrdersRight 440 = .ok (.iadd, 1) := by decide +kernel
theorem dL_areOrdersRight_441 : decode cL_areOrdersRight 441 = .ok (.istore 6, 2) := by decide +kernel
theorem dL_areOrdersRight_443 : decode cL_areOrdersRight 443 = .ok (.iinc 8 (-1), 3) := by decide +kernel
theorem dL_areOrdersRight_446 : decode cL_areOrdersRight 446 = .ok (.goto (-71), 3) := by decide +kernel
theorem dL_areOrdersRight_449 : decode cL_areOrdersRight 449 = .ok (.iload 4, 2) := by decide +kernel
theorem dL_areOrdersRight_451 : decode cL_areOrdersRight 451 = .ok (.ifCond .eq 53, 3) := by decide +kernel
theorem dL_areOrdersRight_454 : decode cL_areOrdersRight 454 = .ok (.iload_n 3, 1) := by decide +kernel
theorem dL_areOrdersRight_455 : decode cL_areOrdersRight 455 = .ok (.aload_n 0, 1) := by decide +kernel
theorem dL_areOrdersRight_456 : decode cL_areOrdersRight 456 = .ok (.invokevirtual 132, 3) := by decide +kernel
theorem dL_areOrdersRight_459 : decode cL_areOrdersRight 459 = .ok (.if_icmp .ne 45, 3) := by decide +kernel
theorem dL_areOrdersRight_462 : decode cL_areOrdersRight 462 = .ok (.iload 6, 2) := by decide +kernel
theorem dL_areOrdersRight_464 : decode cL_areOrdersRight 464 = .ok (.aload_n 0, 1) := by decide +kernel
theorem dL_areOrdersRight_465 : decode cL_areOrdersRight 465 = .ok (.iload_n 1, 1) := by decide +kernel
theorem dL_areOrdersRight_466 : decode cL_areOrdersRight 466 = .ok (.invokevirtual 135, 3) := by decide +kernel
theorem dL_areOrdersRight_469 : decode cL_areOrdersRight 469 = .ok (.if_icmp .ne 35, 3) := by decide +kernel
theorem dL_areOrdersRight_472 : decode cL_areOrdersRight 472 = .ok (.iload 5, 2) := by decide +kernel
theorem dL_areOrdersRight_474 : decode cL_areOrdersRight 474 = .ok (.bipush (-4), 2) := by decide +kernel
theorem dL_areOrdersRight_476 : decode cL_areOrdersRight 476 = .ok (.if_icmp .ne 7, 3) := by decide +kernel
theorem dL_areOrdersRight_479 : decode cL_areOrdersRight 479 = .ok (.iconst 1, 1) := by decide +kernel
theorem dL_areOrdersRight_480 : decode cL_areOrdersRight 480 = .ok (.goto 4, 3) := by decide +kernel
theorem dL_areOrdersRight_483 : decode cL_areOrdersRight 483 = .ok (.iconst 0, 1) := by decide +kernel
theorem dL_areOrdersRight_484 : decode cL_areOrdersRight 484 = .ok (.aload_n 0, 1) := by decide +kernel
theorem dL_areOrdersRight_485 : decode cL_areOrdersRight 485 = .ok (.iconst 4, 1) := by decide +kernel
theorem dL_areOrdersRight_486 : decode cL_areOrdersRight 486 = .ok (.invokevirtual 28, 3) := by decide +kernel
theorem dL_areOrdersRight_489 : decode cL_areOrdersRight 489 = .ok (.ifCond .ne 7, 3) := by decide +kernel
theorem dL_areOrdersRight_492 : decode cL_areOrdersRight 492 = .ok (.iconst 1, 1) := by decide +kernel
theorem dL_areOrdersRight_493 : decode cL_areOrdersRight 493 = .ok (.goto 4, 3) := by decide +kernel
theorem dL_areOrdersRight_496 : decode cL_areOrdersRight 496 = .ok (.iconst 0, 1) := by decide +kernel
theorem dL_areOrdersRight_497 : decode cL_areOrdersRight 497 = .ok (.if_icmp .ne 7, 3) := by decide +kernel
theorem dL_areOrdersRight_500 : decode cL_areOrdersRight 500 = .ok (.iconst 1, 1) := by decide +kernel
theorem dL_areOrdersRight_501 : decode cL_areOrdersRight 501 = .ok (.goto 4, 3) := by decide +kernel
theorem dL_areOrdersRight_504 : decode cL_areOrdersRight 504 = .ok (.iconst 0, 1) := by decide +kernel
theorem dL_areOrdersRight_505 : decode cL_areOrdersRight 505 = .ok (.ireturn, 1) := by decide +kernel
theorem dL_law_0 : decode cL_law 0 = .ok (.new 20, 3) := by decide +kernel
theorem dL_law_3 : decode cL_law 3 = .ok (.dup, 1) := by decide +kernel
theorem dL_law_4 : decode cL_law 4 = .ok (.invokespecial 138, 3) := by decide +kernel
theorem dL_law_7 : decode cL_law 7 = .ok (.astore_n 1, 1) := by decide +kernel
theorem dL_law_8 : decode cL_law 8 = .ok (.aload_n 1, 1) := by decide +kernel
theorem dL_law_9 : decode cL_law 9 = .ok (.aload_n 0, 1) := by decide +kernel
theorem dL_law_10 : decode cL_law 10 = .ok (.invokestatic 139, 3) := by decide +kernel
theorem dL_law_13 : decode cL_law 13 = .ok (.iconst 0, 1) := by decide +kernel
theorem dL_law_14 : decode cL_law 14 = .ok (.istore_n 2, 1) := by decide +kernel
theorem dL_law_15 : decode cL_law 15 = .ok (.iload_n 2, 1) := by decide +kernel
theorem dL_law_16 : decode cL_law 16 = .ok (.bipush 24, 2) := by decide +kernel
theorem dL_law_18 : decode cL_law 18 = .ok (.if_icmp .ge 68, 3) := by decide +kernel
theorem dL_law_21 : decode cL_law 21 = .ok (.aload_n 1, 1) := by decide +kernel
theorem dL_law_22 : decode cL_law 22 = .ok (.aload_n 0, 1) := by decide +kernel
theorem dL_law_23 : decode cL_law 23 = .ok (.bipush 60, 2) := by decide +kernel
theorem dL_law_25 : decode cL_law 25 = .ok (.iconst 4, 1) := by decide +kernel
theorem dL_law_26 : decode cL_law 26 = .ok (.iload_n 2, 1) := by decide +kernel
theorem dL_law_27 : decode cL_law 27 = .ok (.imul, 1) := by decide +kernel
theorem dL_law_28 : decode cL_law 28 = .ok (.iadd, 1) := by decide +kernel
theorem dL_law_29 : decode cL_law 29 = .ok (.invokestatic 143, 3) := by decide +kernel
theorem dL_law_32 : decode cL_law 32 = .ok (.istore_n 3, 1) := by decide +kernel
theorem dL_law_33 : decode cL_law 33 = .ok (.aload_n 1, 1) := by decide +kernel
theorem dL_law_34 : decode cL_law 34 = .ok (.invokestatic 147, 3) := by decide +kernel
theorem dL_law_37 : decode cL_law 37 = .ok (.ifCond .eq 41, 3) := by decide +kernel
theorem dL_law_40 : decode cL_law 40 = .ok (.aload_n 1, 1) := by decide +kernel
theorem dL_law_41 : decode cL_law 41 = .ok (.invokestatic 151, 3) := by decide +kernel
theorem dL_law_44 : decode cL_law 44 = .ok (.ifCond .eq 34, 3) := by decide +kernel
theorem dL_law_47 : decode cL_law 47 = .ok (.aload_n 1, 1) := by decide +kernel
theorem dL_law_48 : decode cL_law 48 = .ok (.iconst 1, 1) := by decide +kernel
theorem dL_law_49 : decode cL_law 49 = .ok (.aload_n 0, 1) := by decide +kernel
theorem dL_law_50 : decode cL_law 50 = .ok (.sipush 300, 3) := by decide +kernel
theorem dL_law_53 : decode cL_law 53 = .ok (.iload_n 2, 1) := by decide +kernel
theorem dL_law_54 : decode cL_law 54 = .ok (.iadd, 1) := by decide +kernel
theorem dL_law_55 : decode cL_law 55 = .ok (.bipush 20, 2) := by decide +kernel
theorem dL_law_57 : decode cL_law 57 = .ok (.invokestatic 15, 3) := by decide +kernel
theorem dL_law_60 : decode cL_law 60 = .ok (.iadd, 1) := by decide +kernel
theorem dL_law_61 : decode cL_law 61 = .ok (.aload_n 0, 1) := by decide +kernel
theorem dL_law_62 : decode cL_law 62 = .ok (.sipush 330, 3) := by decide +kernel
theorem dL_law_65 : decode cL_law 65 = .ok (.iload_n 2, 1) := by decide +kernel
theorem dL_law_66 : decode cL_law 66 = .ok (.iadd, 1) := by decide +kernel
theorem dL_law_67 : decode cL_law 67 = .ok (.bipush 121, 2) := by decide +kernel
theorem dL_law_69 : decode cL_law 69 = .ok (.invokestatic 15, 3) := by decide +kernel
theorem dL_law_72 : decode cL_law 72 = .ok (.invokestatic 154, 3) := by decide +kernel
theorem dL_law_75 : decode cL_law 75 = .ok (.ifCond .ne 5, 3) := by decide +kernel
theorem dL_law_78 : decode cL_law 78 = .ok (.iconst 0, 1) := by decide +kernel
theorem dL_law_79 : decode cL_law 79 = .ok (.ireturn, 1) := by decide +kernel
theorem dL_law_80 : decode cL_law 80 = .ok (.iinc 2 1, 3) := by decide +kernel
theorem dL_law_83 : decode cL_law 83 = .ok (.goto (-68), 3) := by decide +kernel
theorem dL_law_86 : decode cL_law 86 = .ok (.iconst 1, 1) := by decide +kernel
theorem dL_law_87 : decode cL_law 87 = .ok (.ireturn, 1) := by decide +kernel
