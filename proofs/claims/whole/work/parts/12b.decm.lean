theorem dX12_init_0 : decode cX12_init 0 = .ok (.aload_n 0, 1) := by decide +kernel
theorem dX12_init_1 : decode cX12_init 1 = .ok (.invokespecial 3, 3) := by decide +kernel
theorem dX12_init_4 : decode cX12_init 4 = .ok (.aload_n 0, 1) := by decide +kernel
theorem dX12_init_5 : decode cX12_init 5 = .ok (.sipush 228, 3) := by decide +kernel
theorem dX12_init_8 : decode cX12_init 8 = .ok (.newarray .int, 2) := by decide +kernel
theorem dX12_init_10 : decode cX12_init 10 = .ok (.putfield 9, 3) := by decide +kernel
theorem dX12_init_13 : decode cX12_init 13 = .ok (.aload_n 0, 1) := by decide +kernel
theorem dX12_init_14 : decode cX12_init 14 = .ok (.sipush 228, 3) := by decide +kernel
theorem dX12_init_17 : decode cX12_init 17 = .ok (.newarray .int, 2) := by decide +kernel
theorem dX12_init_19 : decode cX12_init 19 = .ok (.putfield 13, 3) := by decide +kernel
theorem dX12_init_22 : decode cX12_init 22 = .ok (.aload_n 0, 1) := by decide +kernel
theorem dX12_init_23 : decode cX12_init 23 = .ok (.sipush 228, 3) := by decide +kernel
theorem dX12_init_26 : decode cX12_init 26 = .ok (.newarray .int, 2) := by decide +kernel
theorem dX12_init_28 : decode cX12_init 28 = .ok (.putfield 16, 3) := by decide +kernel
theorem dX12_init_31 : decode cX12_init 31 = .ok (.aload_n 0, 1) := by decide +kernel
theorem dX12_init_32 : decode cX12_init 32 = .ok (.sipush 1824, 3) := by decide +kernel
theorem dX12_init_35 : decode cX12_init 35 = .ok (.newarray .int, 2) := by decide +kernel
theorem dX12_init_37 : decode cX12_init 37 = .ok (.putfield 19, 3) := by decide +kernel
theorem dX12_init_40 : decode cX12_init 40 = .ok (.aload_n 0, 1) := by decide +kernel
theorem dX12_init_41 : decode cX12_init 41 = .ok (.iconst 3, 1) := by decide +kernel
theorem dX12_init_42 : decode cX12_init 42 = .ok (.newarray .int, 2) := by decide +kernel
theorem dX12_init_44 : decode cX12_init 44 = .ok (.putfield 22, 3) := by decide +kernel
theorem dX12_init_47 : decode cX12_init 47 = .ok (.aload_n 0, 1) := by decide +kernel
theorem dX12_init_48 : decode cX12_init 48 = .ok (.iconst 3, 1) := by decide +kernel
theorem dX12_init_49 : decode cX12_init 49 = .ok (.newarray .int, 2) := by decide +kernel
theorem dX12_init_51 : decode cX12_init 51 = .ok (.putfield 25, 3) := by decide +kernel
theorem dX12_init_54 : decode cX12_init 54 = .ok (.aload_n 0, 1) := by decide +kernel
theorem dX12_init_55 : decode cX12_init 55 = .ok (.bipush 60, 2) := by decide +kernel
theorem dX12_init_57 : decode cX12_init 57 = .ok (.newarray .int, 2) := by decide +kernel
theorem dX12_init_59 : decode cX12_init 59 = .ok (.putfield 28, 3) := by decide +kernel
theorem dX12_init_62 : decode cX12_init 62 = .ok (.aload_n 0, 1) := by decide +kernel
theorem dX12_init_63 : decode cX12_init 63 = .ok (.iconst (-1), 1) := by decide +kernel
theorem dX12_init_64 : decode cX12_init 64 = .ok (.putfield 31, 3) := by decide +kernel
theorem dX12_init_67 : decode cX12_init 67 = .ok (.aload_n 0, 1) := by decide +kernel
theorem dX12_init_68 : decode cX12_init 68 = .ok (.bipush 60, 2) := by decide +kernel
theorem dX12_init_70 : decode cX12_init 70 = .ok (.newarray .int, 2) := by decide +kernel
theorem dX12_init_72 : decode cX12_init 72 = .ok (.putfield 35, 3) := by decide +kernel
theorem dX12_init_75 : decode cX12_init 75 = .ok (.aload_n 0, 1) := by decide +kernel
theorem dX12_init_76 : decode cX12_init 76 = .ok (.sipush 256, 3) := by decide +kernel
theorem dX12_init_79 : decode cX12_init 79 = .ok (.newarray .boolean, 2) := by decide +kernel
theorem dX12_init_81 : decode cX12_init 81 = .ok (.putfield 38, 3) := by decide +kernel
theorem dX12_init_84 : decode cX12_init 84 = .ok (.aload_n 0, 1) := by decide +kernel
theorem dX12_init_85 : decode cX12_init 85 = .ok (.bipush 16, 2) := by decide +kernel
theorem dX12_init_87 : decode cX12_init 87 = .ok (.newarray .int, 2) := by decide +kernel
theorem dX12_init_89 : decode cX12_init 89 = .ok (.putfield 42, 3) := by decide +kernel
theorem dX12_init_92 : decode cX12_init 92 = .ok (.aload_n 0, 1) := by decide +kernel
theorem dX12_init_93 : decode cX12_init 93 = .ok (.bipush 32, 2) := by decide +kernel
theorem dX12_init_95 : decode cX12_init 95 = .ok (.newarray .int, 2) := by decide +kernel
theorem dX12_init_97 : decode cX12_init 97 = .ok (.putfield 45, 3) := by decide +kernel
theorem dX12_init_100 : decode cX12_init 100 = .ok (.aload_n 0, 1) := by decide +kernel
theorem dX12_init_101 : decode cX12_init 101 = .ok (.getfield 9, 3) := by decide +kernel
theorem dX12_init_104 : decode cX12_init 104 = .ok (.iconst 0, 1) := by decide +kernel
theorem dX12_init_105 : decode cX12_init 105 = .ok (.bipush 30, 2) := by decide +kernel
theorem dX12_init_107 : decode cX12_init 107 = .ok (.iastore, 1) := by decide +kernel
theorem dX12_init_108 : decode cX12_init 108 = .ok (.aload_n 0, 1) := by decide +kernel
theorem dX12_init_109 : decode cX12_init 109 = .ok (.getfield 9, 3) := by decide +kernel
theorem dX12_init_112 : decode cX12_init 112 = .ok (.iconst 1, 1) := by decide +kernel
theorem dX12_init_113 : decode cX12_init 113 = .ok (.bipush 20, 2) := by decide +kernel
theorem dX12_init_115 : decode cX12_init 115 = .ok (.iastore, 1) := by decide +kernel
theorem dX12_init_116 : decode cX12_init 116 = .ok (.aload_n 0, 1) := by decide +kernel
theorem dX12_init_117 : decode cX12_init 117 = .ok (.getfield 9, 3) := by decide +kernel
theorem dX12_init_120 : decode cX12_init 120 = .ok (.bipush 11, 2) := by decide +kernel
theorem dX12_init_122 : decode cX12_init 122 = .ok (.bipush 20, 2) := by decide +kernel
theorem dX12_init_124 : decode cX12_init 124 = .ok (.iastore, 1) := by decide +kernel
theorem dX12_init_125 : decode cX12_init 125 = .ok (.return_, 1) := by decide +kernel
theorem dX12_isIn_0 : decode cX12_isIn 0 = .ok (.iload_n 0, 1) := by decide +kernel
theorem dX12_isIn_1 : decode cX12_isIn 1 = .ok (.iload_n 1, 1) := by decide +kernel
theorem dX12_isIn_2 : decode cX12_isIn 2 = .ok (.if_icmp .lt 12, 3) := by decide +kernel
theorem dX12_isIn_5 : decode cX12_isIn 5 = .ok (.iload_n 0, 1) := by decide +kernel
theorem dX12_isIn_6 : decode cX12_isIn 6 = .ok (.iload_n 2, 1) := by decide +kernel
theorem dX12_isIn_7 : decode cX12_isIn 7 = .ok (.if_icmp .gt 7, 3) := by decide +kernel
theorem dX12_isIn_10 : decode cX12_isIn 10 = .ok (.iconst 1, 1) := by decide +kernel
theorem dX12_isIn_11 : decode cX12_isIn 11 = .ok (.goto 4, 3) := by decide +kernel
theorem dX12_isIn_14 : decode cX12_isIn 14 = .ok (.iconst 0, 1) := by decide +kernel
theorem dX12_isIn_15 : decode cX12_isIn 15 = .ok (.ireturn, 1) := by decide +kernel
theorem dX12_copies_0 : decode cX12_copies 0 = .ok (.iconst 0, 1) := by decide +kernel
theorem dX12_copies_1 : decode cX12_copies 1 = .ok (.istore 4, 2) := by decide +kernel
theorem dX12_copies_3 : decode cX12_copies 3 = .ok (.iload 4, 2) := by decide +kernel
theorem dX12_copies_5 : decode cX12_copies 5 = .ok (.sipush 228, 3) := by decide +kernel
theorem dX12_copies_8 : decode cX12_copies 8 = .ok (.if_icmp .ge 21, 3) := by decide +kernel
theorem dX12_copies_11 : decode cX12_copies 11 = .ok (.aload_n 2, 1) := by decide +kernel
theorem dX12_copies_12 : decode cX12_copies 12 = .ok (.iload_n 3, 1) := by decide +kernel
theorem dX12_copies_13 : decode cX12_copies 13 = .ok (.iload 4, 2) := by decide +kernel
theorem dX12_copies_15 : decode cX12_copies 15 = .ok (.iadd, 1) := by decide +kernel
theorem dX12_copies_16 : decode cX12_copies 16 = .ok (.aload_n 0, 1) := by decide +kernel
theorem dX12_copies_17 : decode cX12_copies 17 = .ok (.iload_n 1, 1) := by decide +kernel
theorem dX12_copies_18 : decode cX12_copies 18 = .ok (.iload 4, 2) := by decide +kernel
theorem dX12_copies_20 : decode cX12_copies 20 = .ok (.iadd, 1) := by decide +kernel
theorem dX12_copies_21 : decode cX12_copies 21 = .ok (.iaload, 1) := by decide +kernel
theorem dX12_copies_22 : decode cX12_copies 22 = .ok (.iastore, 1) := by decide +kernel
theorem dX12_copies_23 : decode cX12_copies 23 = .ok (.iinc 4 1, 3) := by decide +kernel
theorem dX12_copies_26 : decode cX12_copies 26 = .ok (.goto (-23), 3) := by decide +kernel
theorem dX12_copies_29 : decode cX12_copies 29 = .ok (.return_, 1) := by decide +kernel
theorem dX12_clear_0 : decode cX12_clear 0 = .ok (.aload_n 0, 1) := by decide +kernel
theorem dX12_clear_1 : decode cX12_clear 1 = .ok (.getfield 9, 3) := by decide +kernel
theorem dX12_clear_4 : decode cX12_clear 4 = .ok (.iconst 3, 1) := by decide +kernel
theorem dX12_clear_5 : decode cX12_clear 5 = .ok (.iaload, 1) := by decide +kernel
theorem dX12_clear_6 : decode cX12_clear 6 = .ok (.istore_n 1, 1) := by decide +kernel
theorem dX12_clear_7 : decode cX12_clear 7 = .ok (.iconst 0, 1) := by decide +kernel
theorem dX12_clear_8 : decode cX12_clear 8 = .ok (.istore_n 2, 1) := by decide +kernel
theorem dX12_clear_9 : decode cX12_clear 9 = .ok (.iload_n 2, 1) := by decide +kernel
theorem dX12_clear_10 : decode cX12_clear 10 = .ok (.sipush 228, 3) := by decide +kernel
theorem dX12_clear_13 : decode cX12_clear 13 = .ok (.if_icmp .ge 16, 3) := by decide +kernel
theorem dX12_clear_16 : decode cX12_clear 16 = .ok (.aload_n 0, 1) := by decide +kernel
theorem dX12_clear_17 : decode cX12_clear 17 = .ok (.getfield 9, 3) := by decide +kernel
theorem dX12_clear_20 : decode cX12_clear 20 = .ok (.iload_n 2, 1) := by decide +kernel
theorem dX12_clear_21 : decode cX12_clear 21 = .ok (.iconst 0, 1) := by decide +kernel
theorem dX12_clear_22 : decode cX12_clear 22 = .ok (.iastore, 1) := by decide +kernel
theorem dX12_clear_23 : decode cX12_clear 23 = .ok (.iinc 2 1, 3) := by decide +kernel
theorem dX12_clear_26 : decode cX12_clear 26 = .ok (.goto (-17), 3) := by decide +kernel
theorem dX12_clear_29 : decode cX12_clear 29 = .ok (.aload_n 0, 1) := by decide +kernel
theorem dX12_clear_30 : decode cX12_clear 30 = .ok (.getfield 9, 3) := by decide +kernel
theorem dX12_clear_33 : decode cX12_clear 33 = .ok (.iconst 0, 1) := by decide +kernel
theorem dX12_clear_34 : decode cX12_clear 34 = .ok (.bipush 30, 2) := by decide +kernel
theorem dX12_clear_36 : decode cX12_clear 36 = .ok (.iastore, 1) := by decide +kernel
theorem dX12_clear_37 : decode cX12_clear 37 = .ok (.aload_n 0, 1) := by decide +kernel
theorem dX12_clear_38 : decode cX12_clear 38 = .ok (.getfield 9, 3) := by decide +kernel
theorem dX12_clear_41 : decode cX12_clear 41 = .ok (.iconst 1, 1) := by decide +kernel
theorem dX12_clear_42 : decode cX12_clear 42 = .ok (.bipush 20, 2) := by decide +kernel
theorem dX12_clear_44 : decode cX12_clear 44 = .ok (.iastore, 1) := by decide +kernel
theorem dX12_clear_45 : decode cX12_clear 45 = .ok (.aload_n 0, 1) := by decide +kernel
theorem dX12_clear_46 : decode cX12_clear 46 = .ok (.getfield 9, 3) := by decide +kernel
theorem dX12_clear_49 : decode cX12_clear 49 = .ok (.bipush 11, 2) := by decide +kernel
theorem dX12_clear_51 : decode cX12_clear 51 = .ok (.bipush 20, 2) := by decide +kernel
theorem dX12_clear_53 : decode cX12_clear 53 = .ok (.iastore, 1) := by decide +kernel
theorem dX12_clear_54 : decode cX12_clear 54 = .ok (.aload_n 0, 1) := by decide +kernel
theorem dX12_clear_55 : decode cX12_clear 55 = .ok (.iconst 0, 1) := by decide +kernel
theorem dX12_clear_56 : decode cX12_clear 56 = .ok (.putfield 48, 3) := by decide +kernel
theorem dX12_clear_59 : decode cX12_clear 59 = .ok (.iload_n 1, 1) := by decide +kernel
theorem dX12_clear_60 : decode cX12_clear 60 = .ok (.ireturn, 1) := by decide +kernel
theorem dX12_hinders_0 : decode cX12_hinders 0 = .ok (.iload_n 1, 1) := by decide +kernel
theorem dX12_hinders_1 : decode cX12_hinders 1 = .ok (.ifCond .eq 20, 3) := by decide +kernel
theorem dX12_hinders_4 : decode cX12_hinders 4 = .ok (.aload_n 0, 1) := by decide +kernel
theorem dX12_hinders_5 : decode cX12_hinders 5 = .ok (.getfield 51, 3) := by decide +kernel
theorem dX12_hinders_8 : decode cX12_hinders 8 = .ok (.ifCond .ne 13, 3) := by decide +kernel
theorem dX12_hinders_11 : decode cX12_hinders 11 = .ok (.aload_n 0, 1) := by decide +kernel
theorem dX12_hinders_12 : decode cX12_hinders 12 = .ok (.iload_n 2, 1) := by decide +kernel
theorem dX12_hinders_13 : decode cX12_hinders 13 = .ok (.putfield 51, 3) := by decide +kernel
theorem dX12_hinders_16 : decode cX12_hinders 16 = .ok (.aload_n 0, 1) := by decide +kernel
theorem dX12_hinders_17 : decode cX12_hinders 17 = .ok (.iload_n 3, 1) := by decide +kernel
theorem dX12_hinders_18 : decode cX12_hinders 18 = .ok (.putfield 54, 3) := by decide +kernel
theorem dX12_hinders_21 : decode cX12_hinders 21 = .ok (.return_, 1) := by decide +kernel
theorem dX12_begins_0 : decode cX12_begins 0 = .ok (.aload_n 0, 1) := by decide +kernel
theorem dX12_begins_1 : decode cX12_begins 1 = .ok (.getfield 9, 3) := by decide +kernel
theorem dX12_begins_4 : decode cX12_begins 4 = .ok (.iconst 0, 1) := by decide +kernel
theorem dX12_begins_5 : decode cX12_begins 5 = .ok (.aload_n 0, 1) := by decide +kernel
theorem dX12_begins_6 : decode cX12_begins 6 = .ok (.getfield 13, 3) := by decide +kernel
theorem dX12_begins_9 : decode cX12_begins 9 = .ok (.iconst 0, 1) := by decide +kernel
theorem dX12_begins_10 : decode cX12_begins 10 = .ok (.invokestatic 57, 3) := by decide +kernel
theorem dX12_begins_13 : decode cX12_begins 13 = .ok (.aload_n 0, 1) := by decide +kernel
theorem dX12_begins_14 : decode cX12_begins 14 = .ok (.iconst 0, 1) := by decide +kernel
theorem dX12_begins_15 : decode cX12_begins 15 = .ok (.putfield 51, 3) := by decide +kernel
theorem dX12_begins_18 : decode cX12_begins 18 = .ok (.aload_n 0, 1) := by decide +kernel
theorem dX12_begins_19 : decode cX12_begins 19 = .ok (.iconst 0, 1) := by decide +kernel
theorem dX12_begins_20 : decode cX12_begins 20 = .ok (.putfield 61, 3) := by decide +kernel
theorem dX12_begins_23 : decode cX12_begins 23 = .ok (.return_, 1) := by decide +kernel
theorem dX12_remembers_0 : decode cX12_remembers 0 = .ok (.aload_n 0, 1) := by decide +kernel
theorem dX12_remembers_1 : decode cX12_remembers 1 = .ok (.getfield 48, 3) := by decide +kernel
theorem dX12_remembers_4 : decode cX12_remembers 4 = .ok (.bipush 8, 2) := by decide +kernel
theorem dX12_remembers_6 : decode cX12_remembers 6 = .ok (.if_icmp .ne 44, 3) := by decide +kernel
theorem dX12_remembers_9 : decode cX12_remembers 9 = .ok (.iconst 0, 1) := by decide +kernel
theorem dX12_remembers_10 : decode cX12_remembers 10 = .ok (.istore_n 1, 1) := by decide +kernel
theorem dX12_remembers_11 : decode cX12_remembers 11 = .ok (.iload_n 1, 1) := by decide +kernel
theorem dX12_remembers_12 : decode cX12_remembers 12 = .ok (.sipush 1596, 3) := by decide +kernel
theorem dX12_remembers_15 : decode cX12_remembers 15 = .ok (.if_icmp .ge 25, 3) := by decide +kernel
theorem dX12_remembers_18 : decode cX12_remembers 18 = .ok (.aload_n 0, 1) := by decide +kernel
theorem dX12_remembers_19 : decode cX12_remembers 19 = .ok (.getfield 19, 3) := by decide +kernel
theorem dX12_remembers_22 : decode cX12_remembers 22 = .ok (.iload_n 1, 1) := by decide +kernel
theorem dX12_remembers_23 : decode cX12_remembers 23 = .ok (.aload_n 0, 1) := by decide +kernel
theorem dX12_remembers_24 : decode cX12_remembers 24 = .ok (.getfield 19, 3) := by decide +kernel
theorem dX12_remembers_27 : decode cX12_remembers 27 = .ok (.iload_n 1, 1) := by decide +kernel
theorem dX12_remembers_28 : decode cX12_remembers 28 = .ok (.sipush 228, 3) := by decide +kernel
theorem dX12_remembers_31 : decode cX12_remembers 31 = .ok (.iadd, 1) := by decide +kernel
theorem dX12_remembers_32 : decode cX12_remembers 32 = .ok (.iaload, 1) := by decide +kernel
theorem dX12_remembers_33 : decode cX12_remembers 33 = .ok (.iastore, 1) := by decide +kernel
theorem dX12_remembers_34 : decode cX12_remembers 34 = .ok (.iinc 1 1, 3) := by decide +kernel
theorem dX12_remembers_37 : decode cX12_remembers 37 = .ok (.goto (-26), 3) := by decide +kernel
theorem dX12_remembers_40 : decode cX12_remembers 40 = .ok (.aload_n 0, 1) := by decide +kernel
theorem dX12_remembers_41 : decode cX12_remembers 41 = .ok (.dup, 1) := by decide +kernel
theorem dX12_remembers_42 : decode cX12_remembers 42 = .ok (.getfield 48, 3) := by decide +kernel
theorem dX12_remembers_45 : decode cX12_remembers 45 = .ok (.iconst 1, 1) := by decide +kernel
theorem dX12_remembers_46 : decode cX12_remembers 46 = .ok (.isub, 1) := by decide +kernel
theorem dX12_remembers_47 : decode cX12_remembers 47 = .ok (.putfield 48, 3) := by decide +kernel
theorem dX12_remembers_50 : decode cX12_remembers 50 = .ok (.aload_n 0, 1) := by decide +kernel
theorem dX12_remembers_51 : decode cX12_remembers 51 = .ok (.getfield 13, 3) := by decide +kernel
theorem dX12_remembers_54 : decode cX12_remembers 54 = .ok (.iconst 0, 1) := by decide +kernel
theorem dX12_remembers_55 : decode cX12_remembers 55 = .ok (.aload_n 0, 1) := by decide +kernel
theorem dX12_remembers_56 : decode cX12_remembers 56 = .ok (.getfield 19, 3) := by decide +kernel
theorem dX12_remembers_59 : decode cX12_remembers 59 = .ok (.aload_n 0, 1) := by decide +kernel
theorem dX12_remembers_60 : decode cX12_remembers 60 = .ok (.getfield 48, 3) := by decide +kernel
theorem dX12_remembers_63 : decode cX12_remembers 63 = .ok (.sipush 228, 3) := by decide +kernel
theorem dX12_remembers_66 : decode cX12_remembers 66 = .ok (.imul, 1) := by decide +kernel
theorem dX12_remembers_67 : decode cX12_remembers 67 = .ok (.invokestatic 57, 3) := by decide +kernel
theorem dX12_remembers_70 : decode cX12_remembers 70 = .ok (.aload_n 0, 1) := by decide +kernel
theorem dX12_remembers_71 : decode cX12_remembers 71 = .ok (.dup, 1) := by decide +kernel
theorem dX12_remembers_72 : decode cX12_remembers 72 = .ok (.getfield 48, 3) := by decide +kernel
theorem dX12_remembers_75 : decode cX12_remembers 75 = .ok (.iconst 1, 1) := by decide +kernel
theorem dX12_remembers_76 : decode cX12_remembers 76 = .ok (.iadd, 1) := by decide +kernel
theorem dX12_remembers_77 : decode cX12_remembers 77 = .ok (.putfield 48, 3) := by decide +kernel
theorem dX12_remembers_80 : decode cX12_remembers 80 = .ok (.return_, 1) := by decide +kernel
theorem dX12_keeps_0 : decode cX12_keeps 0 = .ok (.aload_n 0, 1) := by decide +kernel
theorem dX12_keeps_1 : decode cX12_keeps 1 = .ok (.getfield 22, 3) := by decide +kernel
theorem dX12_keeps_4 : decode cX12_keeps 4 = .ok (.iload_n 1, 1) := by decide +kernel
theorem dX12_keeps_5 : decode cX12_keeps 5 = .ok (.iload_n 2, 1) := by decide +kernel
theorem dX12_keeps_6 : decode cX12_keeps 6 = .ok (.iastore, 1) := by decide +kernel
theorem dX12_keeps_7 : decode cX12_keeps 7 = .ok (.aload_n 0, 1) := by decide +kernel
theorem dX12_keeps_8 : decode cX12_keeps 8 = .ok (.getfield 25, 3) := by decide +kernel
theorem dX12_keeps_11 : decode cX12_keeps 11 = .ok (.iload_n 1, 1) := by decide +kernel
theorem dX12_keeps_12 : decode cX12_keeps 12 = .ok (.iload_n 3, 1) := by decide +kernel
theorem dX12_keeps_13 : decode cX12_keeps 13 = .ok (.iastore, 1) := by decide +kernel
theorem dX12_keeps_14 : decode cX12_keeps 14 = .ok (.return_, 1) := by decide +kernel
theorem dX12_ends_0 : decode cX12_ends 0 = .ok (.aload_n 0, 1) := by decide +kernel
theorem dX12_ends_1 : decode cX12_ends 1 = .ok (.getfield 51, 3) := by decide +kernel
theorem dX12_ends_4 : decode cX12_ends 4 = .ok (.ifCond .eq 36, 3) := by decide +kernel
theorem dX12_ends_7 : decode cX12_ends 7 = .ok (.aload_n 0, 1) := by decide +kernel
theorem dX12_ends_8 : decode cX12_ends 8 = .ok (.iconst 0, 1) := by decide +kernel
theorem dX12_ends_9 : decode cX12_ends 9 = .ok (.aload_n 0, 1) := by decide +kernel
theorem dX12_ends_10 : decode cX12_ends 10 = .ok (.getfield 51, 3) := by decide +kernel
theorem dX12_ends_13 : decode cX12_ends 13 = .ok (.aload_n 0, 1) := by decide +kernel
theorem dX12_ends_14 : decode cX12_ends 14 = .ok (.getfield 54, 3) := by decide +kernel
theorem dX12_ends_17 : decode cX12_ends 17 = .ok (.invokevirtual 64, 3) := by decide +kernel
theorem dX12_ends_20 : decode cX12_ends 20 = .ok (.aload_n 0, 1) := by decide +kernel
theorem dX12_ends_21 : decode cX12_ends 21 = .ok (.iconst 1, 1) := by decide +kernel
theorem dX12_ends_22 : decode cX12_ends 22 = .ok (.aload_n 0, 1) := by decide +kernel
theorem dX12_ends_23 : decode cX12_ends 23 = .ok (.getfield 61, 3) := by decide +kernel
theorem dX12_ends_26 : decode cX12_ends 26 = .ok (.aload_n 0, 1) := by decide +kernel
theorem dX12_ends_27 : decode cX12_ends 27 = .ok (.getfield 68, 3) := by decide +kernel
theorem dX12_ends_30 : decode cX12_ends 30 = .ok (.invokevirtual 64, 3) := by decide +kernel
theorem dX12_ends_33 : decode cX12_ends 33 = .ok (.aload_n 0, 1) := by decide +kernel
theorem dX12_ends_34 : decode cX12_ends 34 = .ok (.iconst 2, 1) := by decide +kernel
theorem dX12_ends_35 : decode cX12_ends 35 = .ok (.iconst 0, 1) := by decide +kernel
theorem dX12_ends_36 : decode cX12_ends 36 = .ok (.iconst 0, 1) := by decide +kernel
theorem dX12_ends_37 : decode cX12_ends 37 = .ok (.invokevirtual 64, 3) := by decide +kernel
theorem dX12_ends_40 : decode cX12_ends 40 = .ok (.aload_n 0, 1) := by decide +kernel
theorem dX12_ends_41 : decode cX12_ends 41 = .ok (.getfield 51, 3) := by decide +kernel
theorem dX12_ends_44 : decode cX12_ends 44 = .ok (.ifCond .ne 7, 3) := by decide +kernel
theorem dX12_ends_47 : decode cX12_ends 47 = .ok (.iload_n 1, 1) := by decide +kernel
theorem dX12_ends_48 : decode cX12_ends 48 = .ok (.ifCond .ge 30, 3) := by decide +kernel
theorem dX12_ends_51 : decode cX12_ends 51 = .ok (.aload_n 0, 1) := by decide +kernel
theorem dX12_ends_52 : decode cX12_ends 52 = .ok (.getfield 13, 3) := by decide +kernel
theorem dX12_ends_55 : decode cX12_ends 55 = .ok (.iconst 0, 1) := by decide +kernel
theorem dX12_ends_56 : decode cX12_ends 56 = .ok (.aload_n 0, 1) := by decide +kernel
theorem dX12_ends_57 : decode cX12_ends 57 = .ok (.getfield 9, 3) := by decide +kernel
theorem dX12_ends_60 : decode cX12_ends 60 = .ok (.iconst 0, 1) := by decide +kernel
theorem dX12_ends_61 : decode cX12_ends 61 = .ok (.invokestatic 57, 3) := by decide +kernel
theorem dX12_ends_64 : decode cX12_ends 64 = .ok (.aload_n 0, 1) := by decide +kernel
theorem dX12_ends_65 : decode cX12_ends 65 = .ok (.getfield 51, 3) := by decide +kernel
theorem dX12_ends_68 : decode cX12_ends 68 = .ok (.ifCond .eq 8, 3) := by decide +kernel
theorem dX12_ends_71 : decode cX12_ends 71 = .ok (.bipush (-3), 2) := by decide +kernel
theorem dX12_ends_73 : decode cX12_ends 73 = .ok (.goto 4, 3) := by decide +kernel
theorem dX12_ends_76 : decode cX12_ends 76 = .ok (.iload_n 1, 1) := by decide +kernel
theorem dX12_ends_77 : decode cX12_ends 77 = .ok (.ireturn, 1) := by decide +kernel
theorem dX12_ends_78 : decode cX12_ends 78 = .ok (.aload_n 0, 1) := by decide +kernel
theorem dX12_ends_79 : decode cX12_ends 79 = .ok (.invokevirtual 71, 3) := by decide +kernel
theorem dX12_ends_82 : decode cX12_ends 82 = .ok (.iload_n 1, 1) := by decide +kernel
theorem dX12_ends_83 : decode cX12_ends 83 = .ok (.ireturn, 1) := by decide +kernel
theorem dX12_reason_0 : decode cX12_reason 0 = .ok (.iload_n 1, 1) := by decide +kernel
theorem dX12_reason_1 : decode cX12_reason 1 = .ok (.iconst 0, 1) := by decide +kernel
theorem dX12_reason_2 : decode cX12_reason 2 = .ok (.iconst 2, 1) := by decide +kernel
theorem dX12_reason_3 : decode cX12_reason 3 = .ok (.invokestatic 74, 3) := by decide +kernel
theorem dX12_reason_6 : decode cX12_reason 6 = .ok (.ifCond .ne 6, 3) := by decide +kernel
theorem dX12_reason_9 : decode cX12_reason 9 = .ok (.bipush (-2), 2) := by decide +kernel
theorem dX12_reason_11 : decode cX12_reason 11 = .ok (.ireturn, 1) := by decide +kernel
theorem dX12_reason_12 : decode cX12_reason 12 = .ok (.aload_n 0, 1) := by decide +kernel
theorem dX12_reason_13 : decode cX12_reason 13 = .ok (.getfield 22, 3) := by decide +kernel
theorem dX12_reason_16 : decode cX12_reason 16 = .ok (.iload_n 1, 1) := by decide +kernel
theorem dX12_reason_17 : decode cX12_reason 17 = .ok (.iaload, 1) := by decide +kernel
theorem dX12_reason_18 : decode cX12_reason 18 = .ok (.ifCond .ne 8, 3) := by decide +kernel
theorem dX12_reason_21 : decode cX12_reason 21 = .ok (.bipush (-4), 2) := by decide +kernel
theorem dX12_reason_23 : decode cX12_reason 23 = .ok (.goto 22, 3) := by decide +kernel
theorem dX12_reason_26 : decode cX12_reason 26 = .ok (.iload_n 2, 1) := by decide +kernel
theorem dX12_reason_27 : decode cX12_reason 27 = .ok (.ifCond .eq 12, 3) := by decide +kernel
theorem dX12_reason_30 : decode cX12_reason 30 = .ok (.aload_n 0, 1) := by decide +kernel
theorem dX12_reason_31 : decode cX12_reason 31 = .ok (.getfield 25, 3) := by decide +kernel
theorem dX12_reason_34 : decode cX12_reason 34 = .ok (.iload_n 1, 1) := by decide +kernel
theorem dX12_reason_35 : decode cX12_reason 35 = .ok (.iaload, 1) := by decide +kernel
theorem dX12_reason_36 : decode cX12_reason 36 = .ok (.goto 9, 3) := by decide +kernel
theorem dX12_reason_39 : decode cX12_reason 39 = .ok (.aload_n 0, 1) := by decide +kernel
theorem dX12_reason_40 : decode cX12_reason 40 = .ok (.getfield 22, 3) := by decide +kernel
theorem dX12_reason_43 : decode cX12_reason 43 = .ok (.iload_n 1, 1) := by decide +kernel
theorem dX12_reason_44 : decode cX12_reason 44 = .ok (.iaload, 1) := by decide +kernel
theorem dX12_reason_45 : decode cX12_reason 45 = .ok (.ireturn, 1) := by decide +kernel
theorem dX12_undo_0 : decode cX12_undo 0 = .ok (.aload_n 0, 1) := by decide +kernel
theorem dX12_undo_1 : decode cX12_undo 1 = .ok (.getfield 48, 3) := by decide +kernel
theorem dX12_undo_4 : decode cX12_undo 4 = .ok (.ifCond .ne 6, 3) := by decide +kernel
theorem dX12_undo_7 : decode cX12_undo 7 = .ok (.bipush (-4), 2) := by decide +kernel
theorem dX12_undo_9 : decode cX12_undo 9 = .ok (.ireturn, 1) := by decide +kernel
theorem dX12_undo_10 : decode cX12_undo 10 = .ok (.aload_n 0, 1) := by decide +kernel
theorem dX12_undo_11 : decode cX12_undo 11 = .ok (.dup, 1) := by decide +kernel
theorem dX12_undo_12 : decode cX12_undo 12 = .ok (.getfield 48, 3) := by decide +kernel
theorem dX12_undo_15 : decode cX12_undo 15 = .ok (.iconst 1, 1) := by decide +kernel
theorem dX12_undo_16 : decode cX12_undo 16 = .ok (.isub, 1) := by decide +kernel
theorem dX12_undo_17 : decode cX12_undo 17 = .ok (.putfield 48, 3) := by decide +kernel
theorem dX12_undo_20 : decode cX12_undo 20 = .ok (.aload_n 0, 1) := by decide +kernel
theorem dX12_undo_21 : decode cX12_undo 21 = .ok (.getfield 19, 3) := by decide +kernel
theorem dX12_undo_24 : decode cX12_undo 24 = .ok (.aload_n 0, 1) := by decide +kernel
theorem dX12_undo_25 : decode cX12_undo 25 = .ok (.getfield 48, 3) := by decide +kernel
theorem dX12_undo_28 : decode cX12_undo 28 = .ok (.sipush 228, 3) := by decide +kernel
theorem dX12_undo_31 : decode cX12_undo 31 = .ok (.imul, 1) := by decide +kernel
theorem dX12_undo_32 : decode cX12_undo 32 = .ok (.aload_n 0, 1) := by decide +kernel
theorem dX12_undo_33 : decode cX12_undo 33 = .ok (.getfield 9, 3) := by decide +kernel
theorem dX12_undo_36 : decode cX12_undo 36 = .ok (.iconst 0, 1) := by decide +kernel
theorem dX12_undo_37 : decode cX12_undo 37 = .ok (.invokestatic 57, 3) := by decide +kernel
theorem dX12_undo_40 : decode cX12_undo 40 = .ok (.aload_n 0, 1) := by decide +kernel
theorem dX12_undo_41 : decode cX12_undo 41 = .ok (.getfield 48, 3) := by decide +kernel
theorem dX12_undo_44 : decode cX12_undo 44 = .ok (.ireturn, 1) := by decide +kernel
theorem dX12_save_0 : decode cX12_save 0 = .ok (.aload_n 0, 1) := by decide +kernel
theorem dX12_save_1 : decode cX12_save 1 = .ok (.getfield 9, 3) := by decide +kernel
theorem dX12_save_4 : decode cX12_save 4 = .ok (.iconst 0, 1) := by decide +kernel
theorem dX12_save_5 : decode cX12_save 5 = .ok (.aload_n 0, 1) := by decide +kernel
theorem dX12_save_6 : decode cX12_save 6 = .ok (.getfield 16, 3) := by decide +kernel
theorem dX12_save_9 : decode cX12_save 9 = .ok (.iconst 0, 1) := by decide +kernel
theorem dX12_save_10 : decode cX12_save 10 = .ok (.invokestatic 57, 3) := by decide +kernel
theorem dX12_save_13 : decode cX12_save 13 = .ok (.aload_n 0, 1) := by decide +kernel
theorem dX12_save_14 : decode cX12_save 14 = .ok (.iconst 1, 1) := by decide +kernel
theorem dX12_save_15 : decode cX12_save 15 = .ok (.putfield 78, 3) := by decide +kernel
theorem dX12_save_18 : decode cX12_save 18 = .ok (.aload_n 0, 1) := by decide +kernel
theorem dX12_save_19 : decode cX12_save 19 = .ok (.getfield 9, 3) := by decide +kernel
theorem dX12_save_22 : decode cX12_save 22 = .ok (.iconst 3, 1) := by decide +kernel
theorem dX12_save_23 : decode cX12_save 23 = .ok (.iaload, 1) := by decide +kernel
theorem dX12_save_24 : decode cX12_save 24 = .ok (.ireturn, 1) := by decide +kernel
theorem dX12_restore_0 : decode cX12_restore 0 = .ok (.aload_n 0, 1) := by decide +kernel
theorem dX12_restore_1 : decode cX12_restore 1 = .ok (.getfield 78, 3) := by decide +kernel
theorem dX12_restore_4 : decode cX12_restore 4 = .ok (.ifCond .ne 6, 3) := by decide +kernel
theorem dX12_restore_7 : decode cX12_restore 7 = .ok (.bipush (-4), 2) := by decide +kernel
theorem dX12_restore_9 : decode cX12_restore 9 = .ok (.ireturn, 1) := by decide +kernel
theorem dX12_restore_10 : decode cX12_restore 10 = .ok (.aload_n 0, 1) := by decide +kernel
theorem dX12_restore_11 : decode cX12_restore 11 = .ok (.getfield 16, 3) := by decide +kernel
theorem dX12_restore_14 : decode cX12_restore 14 = .ok (.iconst 0, 1) := by decide +kernel
theorem dX12_restore_15 : decode cX12_restore 15 = .ok (.aload_n 0, 1) := by decide +kernel
theorem dX12_restore_16 : decode cX12_restore 16 = .ok (.getfield 9, 3) := by decide +kernel
theorem dX12_restore_19 : decode cX12_restore 19 = .ok (.iconst 0, 1) := by decide +kernel
theorem dX12_restore_20 : decode cX12_restore 20 = .ok (.invokestatic 57, 3) := by decide +kernel
theorem dX12_restore_23 : decode cX12_restore 23 = .ok (.aload_n 0, 1) := by decide +kernel
theorem dX12_restore_24 : decode cX12_restore 24 = .ok (.iconst 0, 1) := by decide +kernel
theorem dX12_restore_25 : decode cX12_restore 25 = .ok (.putfield 48, 3) := by decide +kernel
theorem dX12_restore_28 : decode cX12_restore 28 = .ok (.aload_n 0, 1) := by decide +kernel
theorem dX12_restore_29 : decode cX12_restore 29 = .ok (.getfield 9, 3) := by decide +kernel
theorem dX12_restore_32 : decode cX12_restore 32 = .ok (.iconst 3, 1) := by decide +kernel
theorem dX12_restore_33 : decode cX12_restore 33 = .ok (.iaload, 1) := by decide +kernel
theorem dX12_restore_34 : decode cX12_restore 34 = .ok (.ireturn, 1) := by decide +kernel
theorem dX12_isSheet_0 : decode cX12_isSheet 0 = .ok (.iload_n 1, 1) := by decide +kernel
theorem dX12_isSheet_1 : decode cX12_isSheet 1 = .ok (.iconst 0, 1) := by decide +kernel
theorem dX12_isSheet_2 : decode cX12_isSheet 2 = .ok (.aload_n 0, 1) := by decide +kernel
theorem dX12_isSheet_3 : decode cX12_isSheet 3 = .ok (.getfield 9, 3) := by decide +kernel
theorem dX12_isSheet_6 : decode cX12_isSheet 6 = .ok (.iconst 2, 1) := by decide +kernel
theorem dX12_isSheet_7 : decode cX12_isSheet 7 = .ok (.iaload, 1) := by decide +kernel
theorem dX12_isSheet_8 : decode cX12_isSheet 8 = .ok (.iconst 1, 1) := by decide +kernel
theorem dX12_isSheet_9 : decode cX12_isSheet 9 = .ok (.isub, 1) := by decide +kernel
theorem dX12_isSheet_10 : decode cX12_isSheet 10 = .ok (.invokestatic 74, 3) := by decide +kernel
theorem dX12_isSheet_13 : decode cX12_isSheet 13 = .ok (.ireturn, 1) := by decide +kernel
theorem dX12_isPot_0 : decode cX12_isPot 0 = .ok (.iload_n 1, 1) := by decide +kernel
theorem dX12_isPot_1 : decode cX12_isPot 1 = .ok (.iconst 0, 1) := by decide +kernel
theorem dX12_isPot_2 : decode cX12_isPot 2 = .ok (.aload_n 0, 1) := by decide +kernel
theorem dX12_isPot_3 : decode cX12_isPot 3 = .ok (.getfield 9, 3) := by decide +kernel
theorem dX12_isPot_6 : decode cX12_isPot 6 = .ok (.iconst 3, 1) := by decide +kernel
theorem dX12_isPot_7 : decode cX12_isPot 7 = .ok (.iaload, 1) := by decide +kernel
theorem dX12_isPot_8 : decode cX12_isPot 8 = .ok (.iconst 1, 1) := by decide +kernel
theorem dX12_isPot_9 : decode cX12_isPot 9 = .ok (.isub, 1) := by decide +kernel
theorem dX12_isPot_10 : decode cX12_isPot 10 = .ok (.invokestatic 74, 3) := by decide +kernel
theorem dX12_isPot_13 : decode cX12_isPot 13 = .ok (.ireturn, 1) := by decide +kernel
theorem dX12_isOrder_0 : decode cX12_isOrder 0 = .ok (.iload_n 1, 1) := by decide +kernel
theorem dX12_isOrder_1 : decode cX12_isOrder 1 = .ok (.iconst 0, 1) := by decide +kernel
theorem dX12_isOrder_2 : decode cX12_isOrder 2 = .ok (.aload_n 0, 1) := by decide +kernel
theorem dX12_isOrder_3 : decode cX12_isOrder 3 = .ok (.getfield 9, 3) := by decide +kernel
theorem dX12_isOrder_6 : decode cX12_isOrder 6 = .ok (.iconst 4, 1) := by decide +kernel
theorem dX12_isOrder_7 : decode cX12_isOrder 7 = .ok (.iaload, 1) := by decide +kernel
theorem dX12_isOrder_8 : decode cX12_isOrder 8 = .ok (.iconst 1, 1) := by decide +kernel
theorem dX12_isOrder_9 : decode cX12_isOrder 9 = .ok (.isub, 1) := by decide +kernel
theorem dX12_isOrder_10 : decode cX12_isOrder 10 = .ok (.invokestatic 74, 3) := by decide +kernel
theorem dX12_isOrder_13 : decode cX12_isOrder 13 = .ok (.ireturn, 1) := by decide +kernel
theorem dX12_isKind_0 : decode cX12_isKind 0 = .ok (.iload_n 0, 1) := by decide +kernel
theorem dX12_isKind_1 : decode cX12_isKind 1 = .ok (.iconst 0, 1) := by decide +kernel
theorem dX12_isKind_2 : decode cX12_isKind 2 = .ok (.iconst 2, 1) := by decide +kernel
theorem dX12_isKind_3 : decode cX12_isKind 3 = .ok (.invokestatic 74, 3) := by decide +kernel
theorem dX12_isKind_6 : decode cX12_isKind 6 = .ok (.ireturn, 1) := by decide +kernel
theorem dX12_spends_0 : decode cX12_spends 0 = .ok (.aload_n 0, 1) := by decide +kernel
theorem dX12_spends_1 : decode cX12_spends 1 = .ok (.aload_n 0, 1) := by decide +kernel
theorem dX12_spends_2 : decode cX12_spends 2 = .ok (.getfield 9, 3) := by decide +kernel
theorem dX12_spends_5 : decode cX12_spends 5 = .ok (.iconst 0, 1) := by decide +kernel
theorem dX12_spends_6 : decode cX12_spends 6 = .ok (.iaload, 1) := by decide +kernel
theorem dX12_spends_7 : decode cX12_spends 7 = .ok (.iload_n 1, 1) := by decide +kernel
theorem dX12_spends_8 : decode cX12_spends 8 = .ok (.if_icmp .ge 7, 3) := by decide +kernel
theorem dX12_spends_11 : decode cX12_spends 11 = .ok (.iconst 1, 1) := by decide +kernel
theorem dX12_spends_12 : decode cX12_spends 12 = .ok (.goto 4, 3) := by decide +kernel
theorem dX12_spends_15 : decode cX12_spends 15 = .ok (.iconst 0, 1) := by decide +kernel
theorem dX12_spends_16 : decode cX12_spends 16 = .ok (.iconst 2, 1) := by decide +kernel
theorem dX12_spends_17 : decode cX12_spends 17 = .ok (.iload_n 1, 1) := by decide +kernel
theorem dX12_spends_18 : decode cX12_spends 18 = .ok (.aload_n 0, 1) := by decide +kernel
theorem dX12_spends_19 : decode cX12_spends 19 = .ok (.getfield 9, 3) := by decide +kernel
theorem dX12_spends_22 : decode cX12_spends 22 = .ok (.iconst 0, 1) := by decide +kernel
theorem dX12_spends_23 : decode cX12_spends 23 = .ok (.iaload, 1) := by decide +kernel
theorem dX12_spends_24 : decode cX12_spends 24 = .ok (.isub, 1) := by decide +kernel
theorem dX12_spends_25 : decode cX12_spends 25 = .ok (.invokevirtual 82, 3) := by decide +kernel
theorem dX12_spends_28 : decode cX12_spends 28 = .ok (.aload_n 0, 1) := by decide +kernel
theorem dX12_spends_29 : decode cX12_spends 29 = .ok (.getfield 9, 3) := by decide +kernel
theorem dX12_spends_32 : decode cX12_spends 32 = .ok (.iconst 0, 1) := by decide +kernel
theorem dX12_spends_33 : decode cX12_spends 33 = .ok (.dup2, 1) := by decide +kernel
theorem dX12_spends_34 : decode cX12_spends 34 = .ok (.iaload, 1) := by decide +kernel
theorem dX12_spends_35 : decode cX12_spends 35 = .ok (.iload_n 1, 1) := by decide +kernel
theorem dX12_spends_36 : decode cX12_spends 36 = .ok (.isub, 1) := by decide +kernel
theorem dX12_spends_37 : decode cX12_spends 37 = .ok (.iastore, 1) := by decide +kernel
theorem dX12_spends_38 : decode cX12_spends 38 = .ok (.aload_n 0, 1) := by decide +kernel
theorem dX12_spends_39 : decode cX12_spends 39 = .ok (.getfield 9, 3) := by decide +kernel
theorem dX12_spends_42 : decode cX12_spends 42 = .ok (.bipush 10, 2) := by decide +kernel
theorem dX12_spends_44 : decode cX12_spends 44 = .ok (.dup2, 1) := by decide +kernel
theorem dX12_spends_45 : decode cX12_spends 45 = .ok (.iaload, 1) := by decide +kernel
theorem dX12_spends_46 : decode cX12_spends 46 = .ok (.iload_n 1, 1) := by decide +kernel
theorem dX12_spends_47 : decode cX12_spends 47 = .ok (.iadd, 1) := by decide +kernel
theorem dX12_spends_48 : decode cX12_spends 48 = .ok (.iastore, 1) := by decide +kernel
theorem dX12_spends_49 : decode cX12_spends 49 = .ok (.return_, 1) := by decide +kernel
theorem dX12_sheet_0 : decode cX12_sheet 0 = .ok (.iload_n 1, 1) := by decide +kernel
theorem dX12_sheet_1 : decode cX12_sheet 1 = .ok (.iconst 1, 1) := by decide +kernel
theorem dX12_sheet_2 : decode cX12_sheet 2 = .ok (.bipush 9, 2) := by decide +kernel
theorem dX12_sheet_4 : decode cX12_sheet 4 = .ok (.invokestatic 74, 3) := by decide +kernel
theorem dX12_sheet_7 : decode cX12_sheet 7 = .ok (.ifCond .eq 14, 3) := by decide +kernel
theorem dX12_sheet_10 : decode cX12_sheet 10 = .ok (.iload_n 2, 1) := by decide +kernel
theorem dX12_sheet_11 : decode cX12_sheet 11 = .ok (.bipush 10, 2) := by decide +kernel
theorem dX12_sheet_13 : decode cX12_sheet 13 = .ok (.bipush 60, 2) := by decide +kernel
theorem dX12_sheet_15 : decode cX12_sheet 15 = .ok (.invokestatic 74, 3) := by decide +kernel
theorem dX12_sheet_18 : decode cX12_sheet 18 = .ok (.ifCond .ne 6, 3) := by decide +kernel
theorem dX12_sheet_21 : decode cX12_sheet 21 = .ok (.bipush (-2), 2) := by decide +kernel
theorem dX12_sheet_23 : decode cX12_sheet 23 = .ok (.ireturn, 1) := by decide +kernel
theorem dX12_sheet_24 : decode cX12_sheet 24 = .ok (.aload_n 0, 1) := by decide +kernel
theorem dX12_sheet_25 : decode cX12_sheet 25 = .ok (.invokevirtual 86, 3) := by decide +kernel
theorem dX12_sheet_28 : decode cX12_sheet 28 = .ok (.aload_n 0, 1) := by decide +kernel
theorem dX12_sheet_29 : decode cX12_sheet 29 = .ok (.getfield 9, 3) := by decide +kernel
theorem dX12_sheet_32 : decode cX12_sheet 32 = .ok (.iconst 2, 1) := by decide +kernel
theorem dX12_sheet_33 : decode cX12_sheet 33 = .ok (.iaload, 1) := by decide +kernel
theorem dX12_sheet_34 : decode cX12_sheet 34 = .ok (.istore_n 3, 1) := by decide +kernel
theorem dX12_sheet_35 : decode cX12_sheet 35 = .ok (.aload_n 0, 1) := by decide +kernel
theorem dX12_sheet_36 : decode cX12_sheet 36 = .ok (.iload_n 3, 1) := by decide +kernel
theorem dX12_sheet_37 : decode cX12_sheet 37 = .ok (.bipush 12, 2) := by decide +kernel
theorem dX12_sheet_39 : decode cX12_sheet 39 = .ok (.if_icmp .ne 7, 3) := by decide +kernel
theorem dX12_sheet_42 : decode cX12_sheet 42 = .ok (.iconst 1, 1) := by decide +kernel
theorem dX12_sheet_43 : decode cX12_sheet 43 = .ok (.goto 4, 3) := by decide +kernel
theorem dX12_sheet_46 : decode cX12_sheet 46 = .ok (.iconst 0, 1) := by decide +kernel
theorem dX12_sheet_47 : decode cX12_sheet 47 = .ok (.iconst 1, 1) := by decide +kernel
theorem dX12_sheet_48 : decode cX12_sheet 48 = .ok (.bipush 12, 2) := by decide +kernel
theorem dX12_sheet_50 : decode cX12_sheet 50 = .ok (.invokevirtual 82, 3) := by decide +kernel
theorem dX12_sheet_53 : decode cX12_sheet 53 = .ok (.aload_n 0, 1) := by decide +kernel
theorem dX12_sheet_54 : decode cX12_sheet 54 = .ok (.iload_n 1, 1) := by decide +kernel
theorem dX12_sheet_55 : decode cX12_sheet 55 = .ok (.invokevirtual 89, 3) := by decide +kernel
theorem dX12_sheet_58 : decode cX12_sheet 58 = .ok (.aload_n 0, 1) := by decide +kernel
theorem dX12_sheet_59 : decode cX12_sheet 59 = .ok (.getfield 51, 3) := by decide +kernel
theorem dX12_sheet_62 : decode cX12_sheet 62 = .ok (.ifCond .ne 59, 3) := by decide +kernel
theorem dX12_sheet_65 : decode cX12_sheet 65 = .ok (.bipush 12, 2) := by decide +kernel
theorem dX12_sheet_67 : decode cX12_sheet 67 = .ok (.iconst 4, 1) := by decide +kernel
theorem dX12_sheet_68 : decode cX12_sheet 68 = .ok (.iload_n 3, 1) := by decide +kernel
theorem dX12_sheet_69 : decode cX12_sheet 69 = .ok (.imul, 1) := by decide +kernel
theorem dX12_sheet_70 : decode cX12_sheet 70 = .ok (.iadd, 1) := by decide +kernel
theorem dX12_sheet_71 : decode cX12_sheet 71 = .ok (.istore 4, 2) := by decide +kernel
theorem dX12_sheet_73 : decode cX12_sheet 73 = .ok (.aload_n 0, 1) := by decide +kernel
theorem dX12_sheet_74 : decode cX12_sheet 74 = .ok (.getfield 9, 3) := by decide +kernel
theorem dX12_sheet_77 : decode cX12_sheet 77 = .ok (.iload 4, 2) := by decide +kernel
theorem dX12_sheet_79 : decode cX12_sheet 79 = .ok (.iload_n 1, 1) := by decide +kernel
theorem dX12_sheet_80 : decode cX12_sheet 80 = .ok (.iastore, 1) := by decide +kernel
theorem dX12_sheet_81 : decode cX12_sheet 81 = .ok (.aload_n 0, 1) := by decide +kernel
theorem dX12_sheet_82 : decode cX12_sheet 82 = .ok (.getfield 9, 3) := by decide +kernel
theorem dX12_sheet_85 : decode cX12_sheet 85 = .ok (.iload 4, 2) := by decide +kernel
theorem dX12_sheet_87 : decode cX12_sheet 87 = .ok (.iconst 1, 1) := by decide +kernel
theorem dX12_sheet_88 : decode cX12_sheet 88 = .ok (.iadd, 1) := by decide +kernel
theorem dX12_sheet_89 : decode cX12_sheet 89 = .ok (.iload_n 2, 1) := by decide +kernel
theorem dX12_sheet_90 : decode cX12_sheet 90 = .ok (.iastore, 1) := by decide +kernel
theorem dX12_sheet_91 : decode cX12_sheet 91 = .ok (.aload_n 0, 1) := by decide +kernel
theorem dX12_sheet_92 : decode cX12_sheet 92 = .ok (.getfield 9, 3) := by decide +kernel
theorem dX12_sheet_95 : decode cX12_sheet 95 = .ok (.iload 4, 2) := by decide +kernel
theorem dX12_sheet_97 : decode cX12_sheet 97 = .ok (.iconst 2, 1) := by decide +kernel
theorem dX12_sheet_98 : decode cX12_sheet 98 = .ok (.iadd, 1) := by decide +kernel
theorem dX12_sheet_99 : decode cX12_sheet 99 = .ok (.iconst 0, 1) := by decide +kernel
theorem dX12_sheet_100 : decode cX12_sheet 100 = .ok (.iastore, 1) := by decide +kernel
theorem dX12_sheet_101 : decode cX12_sheet 101 = .ok (.aload_n 0, 1) := by decide +kernel
theorem dX12_sheet_102 : decode cX12_sheet 102 = .ok (.getfield 9, 3) := by decide +kernel
theorem dX12_sheet_105 : decode cX12_sheet 105 = .ok (.iload 4, 2) := by decide +kernel
theorem dX12_sheet_107 : decode cX12_sheet 107 = .ok (.iconst 3, 1) := by decide +kernel
theorem dX12_sheet_108 : decode cX12_sheet 108 = .ok (.iadd, 1) := by decide +kernel
theorem dX12_sheet_109 : decode cX12_sheet 109 = .ok (.iload_n 2, 1) := by decide +kernel
theorem dX12_sheet_110 : decode cX12_sheet 110 = .ok (.iastore, 1) := by decide +kernel
theorem dX12_sheet_111 : decode cX12_sheet 111 = .ok (.aload_n 0, 1) := by decide +kernel
theorem dX12_sheet_112 : decode cX12_sheet 112 = .ok (.getfield 9, 3) := by decide +kernel
theorem dX12_sheet_115 : decode cX12_sheet 115 = .ok (.iconst 2, 1) := by decide +kernel
theorem dX12_sheet_116 : decode cX12_sheet 116 = .ok (.dup2, 1) := by decide +kernel
theorem dX12_sheet_117 : decode cX12_sheet 117 = .ok (.iaload, 1) := by decide +kernel
theorem dX12_sheet_118 : decode cX12_sheet 118 = .ok (.iconst 1, 1) := by decide +kernel
theorem dX12_sheet_119 : decode cX12_sheet 119 = .ok (.iadd, 1) := by decide +kernel
theorem dX12_sheet_120 : decode cX12_sheet 120 = .ok (.iastore, 1) := by decide +kernel
theorem dX12_sheet_121 : decode cX12_sheet 121 = .ok (.aload_n 0, 1) := by decide +kernel
theorem dX12_sheet_122 : decode cX12_sheet 122 = .ok (.iload_n 3, 1) := by decide +kernel
theorem dX12_sheet_123 : decode cX12_sheet 123 = .ok (.invokevirtual 93, 3) := by decide +kernel
theorem dX12_sheet_126 : decode cX12_sheet 126 = .ok (.ireturn, 1) := by decide +kernel
theorem dX12_sheetOf_0 : decode cX12_sheetOf 0 = .ok (.aload_n 0, 1) := by decide +kernel
theorem dX12_sheetOf_1 : decode cX12_sheetOf 1 = .ok (.iload_n 1, 1) := by decide +kernel
theorem dX12_sheetOf_2 : decode cX12_sheetOf 2 = .ok (.invokevirtual 97, 3) := by decide +kernel
theorem dX12_sheetOf_5 : decode cX12_sheetOf 5 = .ok (.ifCond .ne 5, 3) := by decide +kernel
theorem dX12_sheetOf_8 : decode cX12_sheetOf 8 = .ok (.iconst (-1), 1) := by decide +kernel
theorem dX12_sheetOf_9 : decode cX12_sheetOf 9 = .ok (.ireturn, 1) := by decide +kernel
theorem dX12_sheetOf_10 : decode cX12_sheetOf 10 = .ok (.iload_n 2, 1) := by decide +kernel
theorem dX12_sheetOf_11 : decode cX12_sheetOf 11 = .ok (.iconst 0, 1) := by decide +kernel
theorem dX12_sheetOf_12 : decode cX12_sheetOf 12 = .ok (.iconst 3, 1) := by decide +kernel
theorem dX12_sheetOf_13 : decode cX12_sheetOf 13 = .ok (.invokestatic 74, 3) := by decide +kernel
theorem dX12_sheetOf_16 : decode cX12_sheetOf 16 = .ok (.ifCond .eq 19, 3) := by decide +kernel
theorem dX12_sheetOf_19 : decode cX12_sheetOf 19 = .ok (.aload_n 0, 1) := by decide +kernel
theorem dX12_sheetOf_20 : decode cX12_sheetOf 20 = .ok (.getfield 9, 3) := by decide +kernel
theorem dX12_sheetOf_23 : decode cX12_sheetOf 23 = .ok (.bipush 12, 2) := by decide +kernel
theorem dX12_sheetOf_25 : decode cX12_sheetOf 25 = .ok (.iconst 4, 1) := by decide +kernel
theorem dX12_sheetOf_26 : decode cX12_sheetOf 26 = .ok (.iload_n 1, 1) := by decide +kernel
theorem dX12_sheetOf_27 : decode cX12_sheetOf 27 = .ok (.imul, 1) := by decide +kernel
theorem dX12_sheetOf_28 : decode cX12_sheetOf 28 = .ok (.iadd, 1) := by decide +kernel
theorem dX12_sheetOf_29 : decode cX12_sheetOf 29 = .ok (.iload_n 2, 1) := by decide +kernel
theorem dX12_sheetOf_30 : decode cX12_sheetOf 30 = .ok (.iadd, 1) := by decide +kernel
theorem dX12_sheetOf_31 : decode cX12_sheetOf 31 = .ok (.iaload, 1) := by decide +kernel
theorem dX12_sheetOf_32 : decode cX12_sheetOf 32 = .ok (.goto 5, 3) := by decide +kernel
theorem dX12_sheetOf_35 : decode cX12_sheetOf 35 = .ok (.bipush (-2), 2) := by decide +kernel
theorem dX12_sheetOf_37 : decode cX12_sheetOf 37 = .ok (.ireturn, 1) := by decide +kernel
theorem dX12_of_0 : decode cX12_of 0 = .ok (.aload_n 0, 1) := by decide +kernel
theorem dX12_of_1 : decode cX12_of 1 = .ok (.getfield 9, 3) := by decide +kernel
theorem dX12_of_4 : decode cX12_of 4 = .ok (.bipush 60, 2) := by decide +kernel
theorem dX12_of_6 : decode cX12_of 6 = .ok (.bipush 8, 2) := by decide +kernel
theorem dX12_of_8 : decode cX12_of 8 = .ok (.iload_n 1, 1) := by decide +kernel
theorem dX12_of_9 : decode cX12_of 9 = .ok (.imul, 1) := by decide +kernel
theorem dX12_of_10 : decode cX12_of 10 = .ok (.iadd, 1) := by decide +kernel
theorem dX12_of_11 : decode cX12_of 11 = .ok (.iload_n 2, 1) := by decide +kernel
theorem dX12_of_12 : decode cX12_of 12 = .ok (.iadd, 1) := by decide +kernel
theorem dX12_of_13 : decode cX12_of 13 = .ok (.iaload, 1) := by decide +kernel
theorem dX12_of_14 : decode cX12_of 14 = .ok (.ireturn, 1) := by decide +kernel
theorem dX12_becomes_0 : decode cX12_becomes 0 = .ok (.aload_n 0, 1) := by decide +kernel
theorem dX12_becomes_1 : decode cX12_becomes 1 = .ok (.getfield 9, 3) := by decide +kernel
theorem dX12_becomes_4 : decode cX12_becomes 4 = .ok (.bipush 60, 2) := by decide +kernel
theorem dX12_becomes_6 : decode cX12_becomes 6 = .ok (.bipush 8, 2) := by decide +kernel
theorem dX12_becomes_8 : decode cX12_becomes 8 = .ok (.iload_n 1, 1) := by decide +kernel
theorem dX12_becomes_9 : decode cX12_becomes 9 = .ok (.imul, 1) := by decide +kernel
theorem dX12_becomes_10 : decode cX12_becomes 10 = .ok (.iadd, 1) := by decide +kernel
theorem dX12_becomes_11 : decode cX12_becomes 11 = .ok (.iload_n 2, 1) := by decide +kernel
theorem dX12_becomes_12 : decode cX12_becomes 12 = .ok (.iadd, 1) := by decide +kernel
theorem dX12_becomes_13 : decode cX12_becomes 13 = .ok (.iload_n 3, 1) := by decide +kernel
theorem dX12_becomes_14 : decode cX12_becomes 14 = .ok (.iastore, 1) := by decide +kernel
theorem dX12_becomes_15 : decode cX12_becomes 15 = .ok (.return_, 1) := by decide +kernel
theorem dX12_areaOf_0 : decode cX12_areaOf 0 = .ok (.iload_n 0, 1) := by decide +kernel
theorem dX12_areaOf_1 : decode cX12_areaOf 1 = .ok (.ifCond .ne 8, 3) := by decide +kernel
theorem dX12_areaOf_4 : decode cX12_areaOf 4 = .ok (.bipush 12, 2) := by decide +kernel
theorem dX12_areaOf_6 : decode cX12_areaOf 6 = .ok (.goto 15, 3) := by decide +kernel
theorem dX12_areaOf_9 : decode cX12_areaOf 9 = .ok (.iload_n 0, 1) := by decide +kernel
theorem dX12_areaOf_10 : decode cX12_areaOf 10 = .ok (.iconst 1, 1) := by decide +kernel
theorem dX12_areaOf_11 : decode cX12_areaOf 11 = .ok (.if_icmp .ne 8, 3) := by decide +kernel
theorem dX12_areaOf_14 : decode cX12_areaOf 14 = .ok (.bipush 8, 2) := by decide +kernel
theorem dX12_areaOf_16 : decode cX12_areaOf 16 = .ok (.goto 5, 3) := by decide +kernel
theorem dX12_areaOf_19 : decode cX12_areaOf 19 = .ok (.bipush 20, 2) := by decide +kernel
theorem dX12_areaOf_21 : decode cX12_areaOf 21 = .ok (.ireturn, 1) := by decide +kernel
theorem dX12_mealsOf_0 : decode cX12_mealsOf 0 = .ok (.iload_n 0, 1) := by decide +kernel
theorem dX12_mealsOf_1 : decode cX12_mealsOf 1 = .ok (.ifCond .ne 7, 3) := by decide +kernel
theorem dX12_mealsOf_4 : decode cX12_mealsOf 4 = .ok (.iconst 4, 1) := by decide +kernel
theorem dX12_mealsOf_5 : decode cX12_mealsOf 5 = .ok (.goto 14, 3) := by decide +kernel
theorem dX12_mealsOf_8 : decode cX12_mealsOf 8 = .ok (.iload_n 0, 1) := by decide +kernel
theorem dX12_mealsOf_9 : decode cX12_mealsOf 9 = .ok (.iconst 1, 1) := by decide +kernel
theorem dX12_mealsOf_10 : decode cX12_mealsOf 10 = .ok (.if_icmp .ne 7, 3) := by decide +kernel
theorem dX12_mealsOf_13 : decode cX12_mealsOf 13 = .ok (.iconst 2, 1) := by decide +kernel
theorem dX12_mealsOf_14 : decode cX12_mealsOf 14 = .ok (.goto 5, 3) := by decide +kernel
theorem dX12_mealsOf_17 : decode cX12_mealsOf 17 = .ok (.bipush 6, 2) := by decide +kernel
theorem dX12_mealsOf_19 : decode cX12_mealsOf 19 = .ok (.ireturn, 1) := by decide +kernel
theorem dX12_missingBlows_0 : decode cX12_missingBlows 0 = .ok (.iconst 0, 1) := by decide +kernel
theorem dX12_missingBlows_1 : decode cX12_missingBlows 1 = .ok (.iconst 2, 1) := by decide +kernel
theorem dX12_missingBlows_2 : decode cX12_missingBlows 2 = .ok (.aload_n 0, 1) := by decide +kernel
theorem dX12_missingBlows_3 : decode cX12_missingBlows 3 = .ok (.iload_n 1, 1) := by decide +kernel
theorem dX12_missingBlows_4 : decode cX12_missingBlows 4 = .ok (.iconst 0, 1) := by decide +kernel
theorem dX12_missingBlows_5 : decode cX12_missingBlows 5 = .ok (.invokevirtual 101, 3) := by decide +kernel
theorem dX12_missingBlows_8 : decode cX12_missingBlows 8 = .ok (.invokestatic 105, 3) := by decide +kernel
theorem dX12_missingBlows_11 : decode cX12_missingBlows 11 = .ok (.imul, 1) := by decide +kernel
theorem dX12_missingBlows_12 : decode cX12_missingBlows 12 = .ok (.aload_n 0, 1) := by decide +kernel
theorem dX12_missingBlows_13 : decode cX12_missingBlows 13 = .ok (.iload_n 1, 1) := by decide +kernel
theorem dX12_missingBlows_14 : decode cX12_missingBlows 14 = .ok (.iconst 2, 1) := by decide +kernel
theorem dX12_missingBlows_15 : decode cX12_missingBlows 15 = .ok (.invokevirtual 101, 3) := by decide +kernel
theorem dX12_missingBlows_18 : decode cX12_missingBlows 18 = .ok (.isub, 1) := by decide +kernel
theorem dX12_missingBlows_19 : decode cX12_missingBlows 19 = .ok (.invokestatic 108, 3) := by decide +kernel
theorem dX12_missingBlows_22 : decode cX12_missingBlows 22 = .ok (.ireturn, 1) := by decide +kernel
theorem dX12_thicknessBy_0 : decode cX12_thicknessBy 0 = .ok (.iconst 0, 1) := by decide +kernel
theorem dX12_thicknessBy_1 : decode cX12_thicknessBy 1 = .ok (.iload_n 2, 1) := by decide +kernel
theorem dX12_thicknessBy_2 : decode cX12_thicknessBy 2 = .ok (.iconst 2, 1) := by decide +kernel
theorem dX12_thicknessBy_3 : decode cX12_thicknessBy 3 = .ok (.iload_n 0, 1) := by decide +kernel
theorem dX12_thicknessBy_4 : decode cX12_thicknessBy 4 = .ok (.invokestatic 105, 3) := by decide +kernel
theorem dX12_thicknessBy_7 : decode cX12_thicknessBy 7 = .ok (.imul, 1) := by decide +kernel
theorem dX12_thicknessBy_8 : decode cX12_thicknessBy 8 = .ok (.isub, 1) := by decide +kernel
theorem dX12_thicknessBy_9 : decode cX12_thicknessBy 9 = .ok (.invokestatic 108, 3) := by decide +kernel
theorem dX12_thicknessBy_12 : decode cX12_thicknessBy 12 = .ok (.istore_n 3, 1) := by decide +kernel
theorem dX12_thicknessBy_13 : decode cX12_thicknessBy 13 = .ok (.iconst 0, 1) := by decide +kernel
theorem dX12_thicknessBy_14 : decode cX12_thicknessBy 14 = .ok (.iload_n 1, 1) := by decide +kernel
theorem dX12_thicknessBy_15 : decode cX12_thicknessBy 15 = .ok (.iload_n 3, 1) := by decide +kernel
theorem dX12_thicknessBy_16 : decode cX12_thicknessBy 16 = .ok (.bipush 6, 2) := by decide +kernel
theorem dX12_thicknessBy_18 : decode cX12_thicknessBy 18 = .ok (.idiv, 1) := by decide +kernel
theorem dX12_thicknessBy_19 : decode cX12_thicknessBy 19 = .ok (.isub, 1) := by decide +kernel
theorem dX12_thicknessBy_20 : decode cX12_thicknessBy 20 = .ok (.invokestatic 108, 3) := by decide +kernel
theorem dX12_thicknessBy_23 : decode cX12_thicknessBy 23 = .ok (.ireturn, 1) := by decide +kernel
theorem dX12_thickness_0 : decode cX12_thickness 0 = .ok (.aload_n 0, 1) := by decide +kernel
theorem dX12_thickness_1 : decode cX12_thickness 1 = .ok (.iload_n 1, 1) := by decide +kernel
theorem dX12_thickness_2 : decode cX12_thickness 2 = .ok (.iconst 0, 1) := by decide +kernel
theorem dX12_thickness_3 : decode cX12_thickness 3 = .ok (.invokevirtual 101, 3) := by decide +kernel
theorem dX12_thickness_6 : decode cX12_thickness 6 = .ok (.aload_n 0, 1) := by decide +kernel
theorem dX12_thickness_7 : decode cX12_thickness 7 = .ok (.iload_n 1, 1) := by decide +kernel
theorem dX12_thickness_8 : decode cX12_thickness 8 = .ok (.iconst 1, 1) := by decide +kernel
theorem dX12_thickness_9 : decode cX12_thickness 9 = .ok (.invokevirtual 101, 3) := by decide +kernel
theorem dX12_thickness_12 : decode cX12_thickness 12 = .ok (.aload_n 0, 1) := by decide +kernel
theorem dX12_thickness_13 : decode cX12_thickness 13 = .ok (.iload_n 1, 1) := by decide +kernel
theorem dX12_thickness_14 : decode cX12_thickness 14 = .ok (.iconst 2, 1) := by decide +kernel
theorem dX12_thickness_15 : decode cX12_thickness 15 = .ok (.invokevirtual 101, 3) := by decide +kernel
theorem dX12_thickness_18 : decode cX12_thickness 18 = .ok (.invokestatic 113, 3) := by decide +kernel
theorem dX12_thickness_21 : decode cX12_thickness 21 = .ok (.ireturn, 1) := by decide +kernel
theorem dX12_isCracked_0 : decode cX12_isCracked 0 = .ok (.aload_n 0, 1) := by decide +kernel
theorem dX12_isCracked_1 : decode cX12_isCracked 1 = .ok (.iload_n 1, 1) := by decide +kernel
theorem dX12_isCracked_2 : decode cX12_isCracked 2 = .ok (.invokevirtual 117, 3) := by decide +kernel
theorem dX12_isCracked_5 : decode cX12_isCracked 5 = .ok (.ifCond .ne 7, 3) := by decide +kernel
theorem dX12_isCracked_8 : decode cX12_isCracked 8 = .ok (.iconst 1, 1) := by decide +kernel
theorem dX12_isCracked_9 : decode cX12_isCracked 9 = .ok (.goto 4, 3) := by decide +kernel
theorem dX12_isCracked_12 : decode cX12_isCracked 12 = .ok (.iconst 0, 1) := by decide +kernel
theorem dX12_isCracked_13 : decode cX12_isCracked 13 = .ok (.ireturn, 1) := by decide +kernel
theorem dX12_isSold_0 : decode cX12_isSold 0 = .ok (.aload_n 0, 1) := by decide +kernel
theorem dX12_isSold_1 : decode cX12_isSold 1 = .ok (.iload_n 1, 1) := by decide +kernel
theorem dX12_isSold_2 : decode cX12_isSold 2 = .ok (.bipush 6, 2) := by decide +kernel
theorem dX12_isSold_4 : decode cX12_isSold 4 = .ok (.invokevirtual 101, 3) := by decide +kernel
theorem dX12_isSold_7 : decode cX12_isSold 7 = .ok (.bipush (-4), 2) := by decide +kernel
theorem dX12_isSold_9 : decode cX12_isSold 9 = .ok (.if_icmp .eq 7, 3) := by decide +kernel
theorem dX12_isSold_12 : decode cX12_isSold 12 = .ok (.iconst 1, 1) := by decide +kernel
theorem dX12_isSold_13 : decode cX12_isSold 13 = .ok (.goto 4, 3) := by decide +kernel
theorem dX12_isSold_16 : decode cX12_isSold 16 = .ok (.iconst 0, 1) := by decide +kernel
theorem dX12_isSold_17 : decode cX12_isSold 17 = .ok (.ireturn, 1) := by decide +kernel
theorem dX12_raises_0 : decode cX12_raises 0 = .ok (.aload_n 0, 1) := by decide +kernel
theorem dX12_raises_1 : decode cX12_raises 1 = .ok (.iload_n 1, 1) := by decide +kernel
theorem dX12_raises_2 : decode cX12_raises 2 = .ok (.invokevirtual 97, 3) := by decide +kernel
theorem dX12_raises_5 : decode cX12_raises 5 = .ok (.ifCond .ne 5, 3) := by decide +kernel
theorem dX12_raises_8 : decode cX12_raises 8 = .ok (.iconst (-1), 1) := by decide +kernel
theorem dX12_raises_9 : decode cX12_raises 9 = .ok (.ireturn, 1) := by decide +kernel
theorem dX12_raises_10 : decode cX12_raises 10 = .ok (.iload_n 2, 1) := by decide +kernel
theorem dX12_raises_11 : decode cX12_raises 11 = .ok (.invokestatic 120, 3) := by decide +kernel
theorem dX12_raises_14 : decode cX12_raises 14 = .ok (.ifCond .ne 6, 3) := by decide +kernel
theorem dX12_raises_17 : decode cX12_raises 17 = .ok (.bipush (-2), 2) := by decide +kernel
theorem dX12_raises_19 : decode cX12_raises 19 = .ok (.ireturn, 1) := by decide +kernel
theorem dX12_raises_20 : decode cX12_raises 20 = .ok (.aload_n 0, 1) := by decide +kernel
theorem dX12_raises_21 : decode cX12_raises 21 = .ok (.getfield 9, 3) := by decide +kernel
theorem dX12_raises_24 : decode cX12_raises 24 = .ok (.iconst 3, 1) := by decide +kernel
theorem dX12_raises_25 : decode cX12_raises 25 = .ok (.iaload, 1) := by decide +kernel
theorem dX12_raises_26 : decode cX12_raises 26 = .ok (.istore_n 3, 1) := by decide +kernel
theorem dX12_raises_27 : decode cX12_raises 27 = .ok (.bipush 12, 2) := by decide +kernel
theorem dX12_raises_29 : decode cX12_raises 29 = .ok (.iconst 4, 1) := by decide +kernel
theorem dX12_raises_30 : decode cX12_raises 30 = .ok (.iload_n 1, 1) := by decide +kernel
theorem dX12_raises_31 : decode cX12_raises 31 = .ok (.imul, 1) := by decide +kernel
theorem dX12_raises_32 : decode cX12_raises 32 = .ok (.iadd, 1) := by decide +kernel
theorem dX12_raises_33 : decode cX12_raises 33 = .ok (.istore 4, 2) := by decide +kernel
theorem dX12_raises_35 : decode cX12_raises 35 = .ok (.aload_n 0, 1) := by decide +kernel
theorem dX12_raises_36 : decode cX12_raises 36 = .ok (.iload_n 3, 1) := by decide +kernel
theorem dX12_raises_37 : decode cX12_raises 37 = .ok (.bipush 16, 2) := by decide +kernel
theorem dX12_raises_39 : decode cX12_raises 39 = .ok (.if_icmp .ne 7, 3) := by decide +kernel
theorem dX12_raises_42 : decode cX12_raises 42 = .ok (.iconst 1, 1) := by decide +kernel
theorem dX12_raises_43 : decode cX12_raises 43 = .ok (.goto 4, 3) := by decide +kernel
theorem dX12_raises_46 : decode cX12_raises 46 = .ok (.iconst 0, 1) := by decide +kernel
theorem dX12_raises_47 : decode cX12_raises 47 = .ok (.iconst 1, 1) := by decide +kernel
theorem dX12_raises_48 : decode cX12_raises 48 = .ok (.bipush 16, 2) := by decide +kernel
theorem dX12_raises_50 : decode cX12_raises 50 = .ok (.invokevirtual 82, 3) := by decide +kernel
theorem dX12_raises_53 : decode cX12_raises 53 = .ok (.aload_n 0, 1) := by decide +kernel
theorem dX12_raises_54 : decode cX12_raises 54 = .ok (.aload_n 0, 1) := by decide +kernel
theorem dX12_raises_55 : decode cX12_raises 55 = .ok (.getfield 9, 3) := by decide +kernel
theorem dX12_raises_58 : decode cX12_raises 58 = .ok (.iload 4, 2) := by decide +kernel
theorem dX12_raises_60 : decode cX12_raises 60 = .ok (.iconst 1, 1) := by decide +kernel
theorem dX12_raises_61 : decode cX12_raises 61 = .ok (.iadd, 1) := by decide +kernel
theorem dX12_raises_62 : decode cX12_raises 62 = .ok (.iaload, 1) := by decide +kernel
theorem dX12_raises_63 : decode cX12_raises 63 = .ok (.iload_n 2, 1) := by decide +kernel
theorem dX12_raises_64 : decode cX12_raises 64 = .ok (.invokestatic 105, 3) := by decide +kernel
theorem dX12_raises_67 : decode cX12_raises 67 = .ok (.if_icmp .ge 7, 3) := by decide +kernel
theorem dX12_raises_70 : decode cX12_raises 70 = .ok (.iconst 1, 1) := by decide +kernel
theorem dX12_raises_71 : decode cX12_raises 71 = .ok (.goto 4, 3) := by decide +kernel
theorem dX12_raises_74 : decode cX12_raises 74 = .ok (.iconst 0, 1) := by decide +kernel
theorem dX12_raises_75 : decode cX12_raises 75 = .ok (.iconst 3, 1) := by decide +kernel
theorem dX12_raises_76 : decode cX12_raises 76 = .ok (.iload_n 2, 1) := by decide +kernel
theorem dX12_raises_77 : decode cX12_raises 77 = .ok (.invokestatic 105, 3) := by decide +kernel
theorem dX12_raises_80 : decode cX12_raises 80 = .ok (.aload_n 0, 1) := by decide +kernel
theorem dX12_raises_81 : decode cX12_raises 81 = .ok (.getfield 9, 3) := by decide +kernel
theorem dX12_raises_84 : decode cX12_raises 84 = .ok (.iload 4, 2) := by decide +kernel
theorem dX12_raises_86 : decode cX12_raises 86 = .ok (.iconst 1, 1) := by decide +kernel
theorem dX12_raises_87 : decode cX12_raises 87 = .ok (.iadd, 1) := by decide +kernel
theorem dX12_raises_88 : decode cX12_raises 88 = .ok (.iaload, 1) := by decide +kernel
theorem dX12_raises_89 : decode cX12_raises 89 = .ok (.isub, 1) := by decide +kernel
theorem dX12_raises_90 : decode cX12_raises 90 = .ok (.invokevirtual 82, 3) := by decide +kernel
theorem dX12_raises_93 : decode cX12_raises 93 = .ok (.aload_n 0, 1) := by decide +kernel
theorem dX12_raises_94 : decode cX12_raises 94 = .ok (.getfield 51, 3) := by decide +kernel
theorem dX12_raises_97 : decode cX12_raises 97 = .ok (.ifCond .ne 103, 3) := by decide +kernel
theorem dX12_raises_100 : decode cX12_raises 100 = .ok (.aload_n 0, 1) := by decide +kernel
theorem dX12_raises_101 : decode cX12_raises 101 = .ok (.getfield 9, 3) := by decide +kernel
theorem dX12_raises_104 : decode cX12_raises 104 = .ok (.iload 4, 2) := by decide +kernel
theorem dX12_raises_106 : decode cX12_raises 106 = .ok (.iconst 1, 1) := by decide +kernel
theorem dX12_raises_107 : decode cX12_raises 107 = .ok (.iadd, 1) := by decide +kernel
theorem dX12_raises_108 : decode cX12_raises 108 = .ok (.dup2, 1) := by decide +kernel
theorem dX12_raises_109 : decode cX12_raises 109 = .ok (.iaload, 1) := by decide +kernel
theorem dX12_raises_110 : decode cX12_raises 110 = .ok (.iload_n 2, 1) := by decide +kernel
theorem dX12_raises_111 : decode cX12_raises 111 = .ok (.invokestatic 105, 3) := by decide +kernel
theorem dX12_raises_114 : decode cX12_raises 114 = .ok (.isub, 1) := by decide +kernel
theorem dX12_raises_115 : decode cX12_raises 115 = .ok (.iastore, 1) := by decide +kernel
theorem dX12_raises_116 : decode cX12_raises 116 = .ok (.aload_n 0, 1) := by decide +kernel
theorem dX12_raises_117 : decode cX12_raises 117 = .ok (.getfield 9, 3) := by decide +kernel
theorem dX12_raises_120 : decode cX12_raises 120 = .ok (.iload 4, 2) := by decide +kernel
theorem dX12_raises_122 : decode cX12_raises 122 = .ok (.iconst 2, 1) := by decide +kernel
theorem dX12_raises_123 : decode cX12_raises 123 = .ok (.iadd, 1) := by decide +kernel
theorem dX12_raises_124 : decode cX12_raises 124 = .ok (.dup2, 1) := by decide +kernel
theorem dX12_raises_125 : decode cX12_raises 125 = .ok (.iaload, 1) := by decide +kernel
theorem dX12_raises_126 : decode cX12_raises 126 = .ok (.iconst 1, 1) := by decide +kernel
theorem dX12_raises_127 : decode cX12_raises 127 = .ok (.iadd, 1) := by decide +kernel
theorem dX12_raises_128 : decode cX12_raises 128 = .ok (.iastore, 1) := by decide +kernel
theorem dX12_raises_129 : decode cX12_raises 129 = .ok (.iconst 0, 1) := by decide +kernel
theorem dX12_raises_130 : decode cX12_raises 130 = .ok (.istore 5, 2) := by decide +kernel
theorem dX12_raises_132 : decode cX12_raises 132 = .ok (.iload 5, 2) := by decide +kernel
theorem dX12_raises_134 : decode cX12_raises 134 = .ok (.bipush 8, 2) := by decide +kernel
theorem dX12_raises_136 : decode cX12_raises 136 = .ok (.if_icmp .ge 17, 3) := by decide +kernel
theorem dX12_raises_139 : decode cX12_raises 139 = .ok (.aload_n 0, 1) := by decide +kernel
theorem dX12_raises_140 : decode cX12_raises 140 = .ok (.iload_n 3, 1) := by decide +kernel
theorem dX12_raises_141 : decode cX12_raises 141 = .ok (.iload 5, 2) := by decide +kernel
theorem dX12_raises_143 : decode cX12_raises 143 = .ok (.iconst 0, 1) := by decide +kernel
theorem dX12_raises_144 : decode cX12_raises 144 = .ok (.invokevirtual 123, 3) := by decide +kernel
theorem dX12_raises_147 : decode cX12_raises 147 = .ok (.iinc 5 1, 3) := by decide +kernel
theorem dX12_raises_150 : decode cX12_raises 150 = .ok (.goto (-18), 3) := by decide +kernel
theorem dX12_raises_153 : decode cX12_raises 153 = .ok (.aload_n 0, 1) := by decide +kernel
theorem dX12_raises_154 : decode cX12_raises 154 = .ok (.iload_n 3, 1) := by decide +kernel
theorem dX12_raises_155 : decode cX12_raises 155 = .ok (.iconst 0, 1) := by decide +kernel
theorem dX12_raises_156 : decode cX12_raises 156 = .ok (.iload_n 2, 1) := by decide +kernel
theorem dX12_raises_157 : decode cX12_raises 157 = .ok (.invokevirtual 123, 3) := by decide +kernel
theorem dX12_raises_160 : decode cX12_raises 160 = .ok (.aload_n 0, 1) := by decide +kernel
theorem dX12_raises_161 : decode cX12_raises 161 = .ok (.iload_n 3, 1) := by decide +kernel
theorem dX12_raises_162 : decode cX12_raises 162 = .ok (.iconst 1, 1) := by decide +kernel
theorem dX12_raises_163 : decode cX12_raises 163 = .ok (.aload_n 0, 1) := by decide +kernel
theorem dX12_raises_164 : decode cX12_raises 164 = .ok (.getfield 9, 3) := by decide +kernel
theorem dX12_raises_167 : decode cX12_raises 167 = .ok (.iload 4, 2) := by decide +kernel
theorem dX12_raises_169 : decode cX12_raises 169 = .ok (.iaload, 1) := by decide +kernel
theorem dX12_raises_170 : decode cX12_raises 170 = .ok (.invokevirtual 123, 3) := by decide +kernel
theorem dX12_raises_173 : decode cX12_raises 173 = .ok (.aload_n 0, 1) := by decide +kernel
theorem dX12_raises_174 : decode cX12_raises 174 = .ok (.iload_n 3, 1) := by decide +kernel
theorem dX12_raises_175 : decode cX12_raises 175 = .ok (.bipush 6, 2) := by decide +kernel
theorem dX12_raises_177 : decode cX12_raises 177 = .ok (.bipush (-4), 2) := by decide +kernel
theorem dX12_raises_179 : decode cX12_raises 179 = .ok (.invokevirtual 123, 3) := by decide +kernel
theorem dX12_raises_182 : decode cX12_raises 182 = .ok (.aload_n 0, 1) := by decide +kernel
theorem dX12_raises_183 : decode cX12_raises 183 = .ok (.iload_n 3, 1) := by decide +kernel
theorem dX12_raises_184 : decode cX12_raises 184 = .ok (.bipush 7, 2) := by decide +kernel
theorem dX12_raises_186 : decode cX12_raises 186 = .ok (.iload_n 1, 1) := by decide +kernel
theorem dX12_raises_187 : decode cX12_raises 187 = .ok (.invokevirtual 123, 3) := by decide +kernel
theorem dX12_raises_190 : decode cX12_raises 190 = .ok (.aload_n 0, 1) := by decide +kernel
theorem dX12_raises_191 : decode cX12_raises 191 = .ok (.getfield 9, 3) := by decide +kernel
theorem dX12_raises_194 : decode cX12_raises 194 = .ok (.iconst 3, 1) := by decide +kernel
theorem dX12_raises_195 : decode cX12_raises 195 = .ok (.dup2, 1) := by decide +kernel
theorem dX12_raises_196 : decode cX12_raises 196 = .ok (.iaload, 1) := by decide +kernel
theorem dX12_raises_197 : decode cX12_raises 197 = .ok (.iconst 1, 1) := by decide +kernel
theorem dX12_raises_198 : decode cX12_raises 198 = .ok (.iadd, 1) := by decide +kernel
theorem dX12_raises_199 : decode cX12_raises 199 = .ok (.iastore, 1) := by decide +kernel
theorem dX12_raises_200 : decode cX12_raises 200 = .ok (.iload_n 3, 1) := by decide +kernel
theorem dX12_raises_201 : decode cX12_raises 201 = .ok (.ireturn, 1) := by decide +kernel
theorem dX12_raise_0 : decode cX12_raise 0 = .ok (.aload_n 0, 1) := by decide +kernel
theorem dX12_raise_1 : decode cX12_raise 1 = .ok (.invokevirtual 86, 3) := by decide +kernel
theorem dX12_raise_4 : decode cX12_raise 4 = .ok (.aload_n 0, 1) := by decide +kernel
theorem dX12_raise_5 : decode cX12_raise 5 = .ok (.aload_n 0, 1) := by decide +kernel
theorem dX12_raise_6 : decode cX12_raise 6 = .ok (.iload_n 1, 1) := by decide +kernel
theorem dX12_raise_7 : decode cX12_raise 7 = .ok (.iload_n 2, 1) := by decide +kernel
theorem dX12_raise_8 : decode cX12_raise 8 = .ok (.invokevirtual 126, 3) := by decide +kernel
theorem dX12_raise_11 : decode cX12_raise 11 = .ok (.invokevirtual 93, 3) := by decide +kernel
theorem dX12_raise_14 : decode cX12_raise 14 = .ok (.ireturn, 1) := by decide +kernel
theorem dX12_planishes_0 : decode cX12_planishes 0 = .ok (.aload_n 0, 1) := by decide +kernel
theorem dX12_planishes_1 : decode cX12_planishes 1 = .ok (.iload_n 1, 1) := by decide +kernel
theorem dX12_planishes_2 : decode cX12_planishes 2 = .ok (.invokevirtual 129, 3) := by decide +kernel
theorem dX12_planishes_5 : decode cX12_planishes 5 = .ok (.ifCond .ne 5, 3) := by decide +kernel
theorem dX12_planishes_8 : decode cX12_planishes 8 = .ok (.iconst (-1), 1) := by decide +kernel
theorem dX12_planishes_9 : decode cX12_planishes 9 = .ok (.ireturn, 1) := by decide +kernel
theorem dX12_planishes_10 : decode cX12_planishes 10 = .ok (.iload_n 2, 1) := by decide +kernel
theorem dX12_planishes_11 : decode cX12_planishes 11 = .ok (.iconst 1, 1) := by decide +kernel
theorem dX12_planishes_12 : decode cX12_planishes 12 = .ok (.bipush 99, 2) := by decide +kernel
theorem dX12_planishes_14 : decode cX12_planishes 14 = .ok (.invokestatic 74, 3) := by decide +kernel
theorem dX12_planishes_17 : decode cX12_planishes 17 = .ok (.ifCond .ne 6, 3) := by decide +kernel
theorem dX12_planishes_20 : decode cX12_planishes 20 = .ok (.bipush (-2), 2) := by decide +kernel
theorem dX12_planishes_22 : decode cX12_planishes 22 = .ok (.ireturn, 1) := by decide +kernel
theorem dX12_planishes_23 : decode cX12_planishes 23 = .ok (.aload_n 0, 1) := by decide +kernel
theorem dX12_planishes_24 : decode cX12_planishes 24 = .ok (.aload_n 0, 1) := by decide +kernel
theorem dX12_planishes_25 : decode cX12_planishes 25 = .ok (.iload_n 1, 1) := by decide +kernel
theorem dX12_planishes_26 : decode cX12_planishes 26 = .ok (.invokevirtual 132, 3) := by decide +kernel
theorem dX12_planishes_29 : decode cX12_planishes 29 = .ok (.iconst 4, 1) := by decide +kernel
theorem dX12_planishes_30 : decode cX12_planishes 30 = .ok (.aload_n 0, 1) := by decide +kernel
theorem dX12_planishes_31 : decode cX12_planishes 31 = .ok (.iload_n 1, 1) := by decide +kernel
theorem dX12_planishes_32 : decode cX12_planishes 32 = .ok (.bipush 6, 2) := by decide +kernel
theorem dX12_planishes_34 : decode cX12_planishes 34 = .ok (.invokevirtual 101, 3) := by decide +kernel
theorem dX12_planishes_37 : decode cX12_planishes 37 = .ok (.invokevirtual 82, 3) := by decide +kernel
theorem dX12_planishes_40 : decode cX12_planishes 40 = .ok (.aload_n 0, 1) := by decide +kernel
theorem dX12_planishes_41 : decode cX12_planishes 41 = .ok (.aload_n 0, 1) := by decide +kernel
theorem dX12_planishes_42 : decode cX12_planishes 42 = .ok (.iload_n 1, 1) := by decide +kernel
theorem dX12_planishes_43 : decode cX12_planishes 43 = .ok (.invokevirtual 135, 3) := by decide +kernel
theorem dX12_planishes_46 : decode cX12_planishes 46 = .ok (.iconst 5, 1) := by decide +kernel
theorem dX12_planishes_47 : decode cX12_planishes 47 = .ok (.iload_n 1, 1) := by decide +kernel
theorem dX12_planishes_48 : decode cX12_planishes 48 = .ok (.invokevirtual 82, 3) := by decide +kernel
theorem dX12_planishes_51 : decode cX12_planishes 51 = .ok (.aload_n 0, 1) := by decide +kernel
theorem dX12_planishes_52 : decode cX12_planishes 52 = .ok (.iload_n 1, 1) := by decide +kernel
theorem dX12_planishes_53 : decode cX12_planishes 53 = .ok (.iconst 2, 1) := by decide +kernel
theorem dX12_planishes_54 : decode cX12_planishes 54 = .ok (.aload_n 0, 1) := by decide +kernel
theorem dX12_planishes_55 : decode cX12_planishes 55 = .ok (.iload_n 1, 1) := by decide +kernel
theorem dX12_planishes_56 : decode cX12_planishes 56 = .ok (.iconst 2, 1) := by decide +kernel
theorem dX12_planishes_57 : decode cX12_planishes 57 = .ok (.invokevirtual 101, 3) := by decide +kernel
theorem dX12_planishes_60 : decode cX12_planishes 60 = .ok (.iload_n 2, 1) := by decide +kernel
theorem dX12_planishes_61 : decode cX12_planishes 61 = .ok (.iadd, 1) := by decide +kernel
theorem dX12_planishes_62 : decode cX12_planishes 62 = .ok (.invokevirtual 123, 3) := by decide +kernel
theorem dX12_planishes_65 : decode cX12_planishes 65 = .ok (.aload_n 0, 1) := by decide +kernel
theorem dX12_planishes_66 : decode cX12_planishes 66 = .ok (.getfield 9, 3) := by decide +kernel
theorem dX12_planishes_69 : decode cX12_planishes 69 = .ok (.iconst 5, 1) := by decide +kernel
theorem dX12_planishes_70 : decode cX12_planishes 70 = .ok (.dup2, 1) := by decide +kernel
theorem dX12_planishes_71 : decode cX12_planishes 71 = .ok (.iaload, 1) := by decide +kernel
theorem dX12_planishes_72 : decode cX12_planishes 72 = .ok (.iload_n 2, 1) := by decide +kernel
theorem dX12_planishes_73 : decode cX12_planishes 73 = .ok (.iadd, 1) := by decide +kernel
theorem dX12_planishes_74 : decode cX12_planishes 74 = .ok (.iastore, 1) := by decide +kernel
theorem dX12_planishes_75 : decode cX12_planishes 75 = .ok (.aload_n 0, 1) := by decide +kernel
theorem dX12_planishes_76 : decode cX12_planishes 76 = .ok (.iload_n 1, 1) := by decide +kernel
theorem dX12_planishes_77 : decode cX12_planishes 77 = .ok (.invokevirtual 117, 3) := by decide +kernel
theorem dX12_planishes_80 : decode cX12_planishes 80 = .ok (.ireturn, 1) := by decide +kernel
theorem dX12_planish_0 : decode cX12_planish 0 = .ok (.aload_n 0, 1) := by decide +kernel
theorem dX12_planish_1 : decode cX12_planish 1 = .ok (.invokevirtual 86, 3) := by decide +kernel
theorem dX12_planish_4 : decode cX12_planish 4 = .ok (.aload_n 0, 1) := by decide +kernel
theorem dX12_planish_5 : decode cX12_planish 5 = .ok (.aload_n 0, 1) := by decide +kernel
theorem dX12_planish_6 : decode cX12_planish 6 = .ok (.iload_n 1, 1) := by decide +kernel
theorem dX12_planish_7 : decode cX12_planish 7 = .ok (.iload_n 2, 1) := by decide +kernel
theorem dX12_planish_8 : decode cX12_planish 8 = .ok (.invokevirtual 138, 3) := by decide +kernel
theorem dX12_planish_11 : decode cX12_planish 11 = .ok (.invokevirtual 93, 3) := by decide +kernel
theorem dX12_planish_14 : decode cX12_planish 14 = .ok (.ireturn, 1) := by decide +kernel
theorem dX12_buys_0 : decode cX12_buys 0 = .ok (.iload_n 1, 1) := by decide +kernel
theorem dX12_buys_1 : decode cX12_buys 1 = .ok (.iconst 1, 1) := by decide +kernel
theorem dX12_buys_2 : decode cX12_buys 2 = .ok (.bipush 50, 2) := by decide +kernel
theorem dX12_buys_4 : decode cX12_buys 4 = .ok (.invokestatic 74, 3) := by decide +kernel
theorem dX12_buys_7 : decode cX12_buys 7 = .ok (.ifCond .ne 6, 3) := by decide +kernel
theorem dX12_buys_10 : decode cX12_buys 10 = .ok (.bipush (-2), 2) := by decide +kernel
theorem dX12_buys_12 : decode cX12_buys 12 = .ok (.ireturn, 1) := by decide +kernel
theorem dX12_buys_13 : decode cX12_buys 13 = .ok (.aload_n 0, 1) := by decide +kernel
theorem dX12_buys_14 : decode cX12_buys 14 = .ok (.iload_n 1, 1) := by decide +kernel
theorem dX12_buys_15 : decode cX12_buys 15 = .ok (.invokevirtual 89, 3) := by decide +kernel
theorem dX12_buys_18 : decode cX12_buys 18 = .ok (.aload_n 0, 1) := by decide +kernel
theorem dX12_buys_19 : decode cX12_buys 19 = .ok (.getfield 9, 3) := by decide +kernel
theorem dX12_buys_22 : decode cX12_buys 22 = .ok (.iconst 1, 1) := by decide +kernel
theorem dX12_buys_23 : decode cX12_buys 23 = .ok (.dup2, 1) := by decide +kernel
theorem dX12_buys_24 : decode cX12_buys 24 = .ok (.iaload, 1) := by decide +kernel
theorem dX12_buys_25 : decode cX12_buys 25 = .ok (.iload_n 1, 1) := by decide +kernel
theorem dX12_buys_26 : decode cX12_buys 26 = .ok (.iadd, 1) := by decide +kernel
theorem dX12_buys_27 : decode cX12_buys 27 = .ok (.iastore, 1) := by decide +kernel
theorem dX12_buys_28 : decode cX12_buys 28 = .ok (.aload_n 0, 1) := by decide +kernel
theorem dX12_buys_29 : decode cX12_buys 29 = .ok (.getfield 9, 3) := by decide +kernel
theorem dX12_buys_32 : decode cX12_buys 32 = .ok (.bipush 11, 2) := by decide +kernel
theorem dX12_buys_34 : decode cX12_buys 34 = .ok (.dup2, 1) := by decide +kernel
theorem dX12_buys_35 : decode cX12_buys 35 = .ok (.iaload, 1) := by decide +kernel
theorem dX12_buys_36 : decode cX12_buys 36 = .ok (.iload_n 1, 1) := by decide +kernel
theorem dX12_buys_37 : decode cX12_buys 37 = .ok (.iadd, 1) := by decide +kernel
theorem dX12_buys_38 : decode cX12_buys 38 = .ok (.iastore, 1) := by decide +kernel
theorem dX12_buys_39 : decode cX12_buys 39 = .ok (.aload_n 0, 1) := by decide +kernel
theorem dX12_buys_40 : decode cX12_buys 40 = .ok (.getfield 9, 3) := by decide +kernel
theorem dX12_buys_43 : decode cX12_buys 43 = .ok (.iconst 1, 1) := by decide +kernel
theorem dX12_buys_44 : decode cX12_buys 44 = .ok (.iaload, 1) := by decide +kernel
theorem dX12_buys_45 : decode cX12_buys 45 = .ok (.ireturn, 1) := by decide +kernel
theorem dX12_bars_0 : decode cX12_bars 0 = .ok (.aload_n 0, 1) := by decide +kernel
theorem dX12_bars_1 : decode cX12_bars 1 = .ok (.invokevirtual 86, 3) := by decide +kernel
theorem dX12_bars_4 : decode cX12_bars 4 = .ok (.aload_n 0, 1) := by decide +kernel
theorem dX12_bars_5 : decode cX12_bars 5 = .ok (.aload_n 0, 1) := by decide +kernel
theorem dX12_bars_6 : decode cX12_bars 6 = .ok (.iload_n 1, 1) := by decide +kernel
theorem dX12_bars_7 : decode cX12_bars 7 = .ok (.invokevirtual 141, 3) := by decide +kernel
theorem dX12_bars_10 : decode cX12_bars 10 = .ok (.invokevirtual 93, 3) := by decide +kernel
theorem dX12_bars_13 : decode cX12_bars 13 = .ok (.ireturn, 1) := by decide +kernel
theorem dX12_barsBy_0 : decode cX12_barsBy 0 = .ok (.iload_n 0, 1) := by decide +kernel
theorem dX12_barsBy_1 : decode cX12_barsBy 1 = .ok (.invokestatic 105, 3) := by decide +kernel
theorem dX12_barsBy_4 : decode cX12_barsBy 4 = .ok (.iload_n 1, 1) := by decide +kernel
theorem dX12_barsBy_5 : decode cX12_barsBy 5 = .ok (.imul, 1) := by decide +kernel
theorem dX12_barsBy_6 : decode cX12_barsBy 6 = .ok (.iconst 3, 1) := by decide +kernel
theorem dX12_barsBy_7 : decode cX12_barsBy 7 = .ok (.iadd, 1) := by decide +kernel
theorem dX12_barsBy_8 : decode cX12_barsBy 8 = .ok (.iconst 4, 1) := by decide +kernel
theorem dX12_barsBy_9 : decode cX12_barsBy 9 = .ok (.idiv, 1) := by decide +kernel
theorem dX12_barsBy_10 : decode cX12_barsBy 10 = .ok (.ireturn, 1) := by decide +kernel
theorem dX12_tins_0 : decode cX12_tins 0 = .ok (.aload_n 0, 1) := by decide +kernel
theorem dX12_tins_1 : decode cX12_tins 1 = .ok (.iload_n 1, 1) := by decide +kernel
theorem dX12_tins_2 : decode cX12_tins 2 = .ok (.invokevirtual 129, 3) := by decide +kernel
theorem dX12_tins_5 : decode cX12_tins 5 = .ok (.ifCond .ne 5, 3) := by decide +kernel
theorem dX12_tins_8 : decode cX12_tins 8 = .ok (.iconst (-1), 1) := by decide +kernel
theorem dX12_tins_9 : decode cX12_tins 9 = .ok (.ireturn, 1) := by decide +kernel
theorem dX12_tins_10 : decode cX12_tins 10 = .ok (.iload_n 2, 1) := by decide +kernel
theorem dX12_tins_11 : decode cX12_tins 11 = .ok (.iconst 1, 1) := by decide +kernel
theorem dX12_tins_12 : decode cX12_tins 12 = .ok (.bipush 9, 2) := by decide +kernel
theorem dX12_tins_14 : decode cX12_tins 14 = .ok (.invokestatic 74, 3) := by decide +kernel
theorem dX12_tins_17 : decode cX12_tins 17 = .ok (.ifCond .ne 6, 3) := by decide +kernel
theorem dX12_tins_20 : decode cX12_tins 20 = .ok (.bipush (-2), 2) := by decide +kernel
theorem dX12_tins_22 : decode cX12_tins 22 = .ok (.ireturn, 1) := by decide +kernel
theorem dX12_tins_23 : decode cX12_tins 23 = .ok (.aload_n 0, 1) := by decide +kernel
theorem dX12_tins_24 : decode cX12_tins 24 = .ok (.iload_n 1, 1) := by decide +kernel
theorem dX12_tins_25 : decode cX12_tins 25 = .ok (.iconst 0, 1) := by decide +kernel
theorem dX12_tins_26 : decode cX12_tins 26 = .ok (.invokevirtual 101, 3) := by decide +kernel
theorem dX12_tins_29 : decode cX12_tins 29 = .ok (.iload_n 2, 1) := by decide +kernel
theorem dX12_tins_30 : decode cX12_tins 30 = .ok (.invokestatic 144, 3) := by decide +kernel
theorem dX12_tins_33 : decode cX12_tins 33 = .ok (.istore_n 3, 1) := by decide +kernel
theorem dX12_tins_34 : decode cX12_tins 34 = .ok (.aload_n 0, 1) := by decide +kernel
theorem dX12_tins_35 : decode cX12_tins 35 = .ok (.iload_n 1, 1) := by decide +kernel
theorem dX12_tins_36 : decode cX12_tins 36 = .ok (.iconst 3, 1) := by decide +kernel
theorem dX12_tins_37 : decode cX12_tins 37 = .ok (.invokevirtual 101, 3) := by decide +kernel
theorem dX12_tins_40 : decode cX12_tins 40 = .ok (.iload_n 2, 1) := by decide +kernel
theorem dX12_tins_41 : decode cX12_tins 41 = .ok (.iadd, 1) := by decide +kernel
theorem dX12_tins_42 : decode cX12_tins 42 = .ok (.istore 4, 2) := by decide +kernel
theorem dX12_tins_44 : decode cX12_tins 44 = .ok (.aload_n 0, 1) := by decide +kernel
theorem dX12_tins_45 : decode cX12_tins 45 = .ok (.aload_n 0, 1) := by decide +kernel
theorem dX12_tins_46 : decode cX12_tins 46 = .ok (.iload_n 1, 1) := by decide +kernel
theorem dX12_tins_47 : decode cX12_tins 47 = .ok (.invokevirtual 132, 3) := by decide +kernel
theorem dX12_tins_50 : decode cX12_tins 50 = .ok (.iconst 4, 1) := by decide +kernel
theorem dX12_tins_51 : decode cX12_tins 51 = .ok (.aload_n 0, 1) := by decide +kernel
theorem dX12_tins_52 : decode cX12_tins 52 = .ok (.iload_n 1, 1) := by decide +kernel
theorem dX12_tins_53 : decode cX12_tins 53 = .ok (.bipush 6, 2) := by decide +kernel
theorem dX12_tins_55 : decode cX12_tins 55 = .ok (.invokevirtual 101, 3) := by decide +kernel
theorem dX12_tins_58 : decode cX12_tins 58 = .ok (.invokevirtual 82, 3) := by decide +kernel
theorem dX12_tins_61 : decode cX12_tins 61 = .ok (.aload_n 0, 1) := by decide +kernel
theorem dX12_tins_62 : decode cX12_tins 62 = .ok (.aload_n 0, 1) := by decide +kernel
theorem dX12_tins_63 : decode cX12_tins 63 = .ok (.iload_n 1, 1) := by decide +kernel
theorem dX12_tins_64 : decode cX12_tins 64 = .ok (.invokevirtual 135, 3) := by decide +kernel
theorem dX12_tins_67 : decode cX12_tins 67 = .ok (.iconst 5, 1) := by decide +kernel
theorem dX12_tins_68 : decode cX12_tins 68 = .ok (.iload_n 1, 1) := by decide +kernel
theorem dX12_tins_69 : decode cX12_tins 69 = .ok (.invokevirtual 82, 3) := by decide +kernel
theorem dX12_tins_72 : decode cX12_tins 72 = .ok (.aload_n 0, 1) := by decide +kernel
theorem dX12_tins_73 : decode cX12_tins 73 = .ok (.aload_n 0, 1) := by decide +kernel
theorem dX12_tins_74 : decode cX12_tins 74 = .ok (.iload_n 1, 1) := by decide +kernel
theorem dX12_tins_75 : decode cX12_tins 75 = .ok (.invokevirtual 147, 3) := by decide +kernel
theorem dX12_tins_78 : decode cX12_tins 78 = .ok (.ifCond .le 7, 3) := by decide +kernel
theorem dX12_tins_81 : decode cX12_tins 81 = .ok (.iconst 1, 1) := by decide +kernel
theorem dX12_tins_82 : decode cX12_tins 82 = .ok (.goto 4, 3) := by decide +kernel
theorem dX12_tins_85 : decode cX12_tins 85 = .ok (.iconst 0, 1) := by decide +kernel
theorem dX12_tins_86 : decode cX12_tins 86 = .ok (.bipush 6, 2) := by decide +kernel
theorem dX12_tins_88 : decode cX12_tins 88 = .ok (.aload_n 0, 1) := by decide +kernel
theorem dX12_tins_89 : decode cX12_tins 89 = .ok (.iload_n 1, 1) := by decide +kernel
theorem dX12_tins_90 : decode cX12_tins 90 = .ok (.invokevirtual 147, 3) := by decide +kernel
theorem dX12_tins_93 : decode cX12_tins 93 = .ok (.invokevirtual 82, 3) := by decide +kernel
theorem dX12_tins_96 : decode cX12_tins 96 = .ok (.aload_n 0, 1) := by decide +kernel
theorem dX12_tins_97 : decode cX12_tins 97 = .ok (.iload 4, 2) := by decide +kernel
theorem dX12_tins_99 : decode cX12_tins 99 = .ok (.bipush 9, 2) := by decide +kernel
theorem dX12_tins_101 : decode cX12_tins 101 = .ok (.if_icmp .le 7, 3) := by decide +kernel
theorem dX12_tins_104 : decode cX12_tins 104 = .ok (.iconst 1, 1) := by decide +kernel
theorem dX12_tins_105 : decode cX12_tins 105 = .ok (.goto 4, 3) := by decide +kernel
theorem dX12_tins_108 : decode cX12_tins 108 = .ok (.iconst 0, 1) := by decide +kernel
theorem dX12_tins_109 : decode cX12_tins 109 = .ok (.bipush 7, 2) := by decide +kernel
theorem dX12_tins_111 : decode cX12_tins 111 = .ok (.iload 4, 2) := by decide +kernel
theorem dX12_tins_113 : decode cX12_tins 113 = .ok (.invokevirtual 82, 3) := by decide +kernel
theorem dX12_tins_116 : decode cX12_tins 116 = .ok (.aload_n 0, 1) := by decide +kernel
theorem dX12_tins_117 : decode cX12_tins 117 = .ok (.aload_n 0, 1) := by decide +kernel
theorem dX12_tins_118 : decode cX12_tins 118 = .ok (.getfield 9, 3) := by decide +kernel
theorem dX12_tins_121 : decode cX12_tins 121 = .ok (.iconst 1, 1) := by decide +kernel
theorem dX12_tins_122 : decode cX12_tins 122 = .ok (.iaload, 1) := by decide +kernel
theorem dX12_tins_123 : decode cX12_tins 123 = .ok (.iload_n 3, 1) := by decide +kernel
theorem dX12_tins_124 : decode cX12_tins 124 = .ok (.if_icmp .ge 7, 3) := by decide +kernel
theorem dX12_tins_127 : decode cX12_tins 127 = .ok (.iconst 1, 1) := by decide +kernel
theorem dX12_tins_128 : decode cX12_tins 128 = .ok (.goto 4, 3) := by decide +kernel
theorem dX12_tins_131 : decode cX12_tins 131 = .ok (.iconst 0, 1) := by decide +kernel
theorem dX12_tins_132 : decode cX12_tins 132 = .ok (.bipush 8, 2) := by decide +kernel
theorem dX12_tins_134 : decode cX12_tins 134 = .ok (.iload_n 3, 1) := by decide +kernel
theorem dX12_tins_135 : decode cX12_tins 135 = .ok (.aload_n 0, 1) := by decide +kernel
theorem dX12_tins_136 : decode cX12_tins 136 = .ok (.getfield 9, 3) := by decide +kernel
theorem dX12_tins_139 : decode cX12_tins 139 = .ok (.iconst 1, 1) := by decide +kernel
theorem dX12_tins_140 : decode cX12_tins 140 = .ok (.iaload, 1) := by decide +kernel
theorem dX12_tins_141 : decode cX12_tins 141 = .ok (.isub, 1) := by decide +kernel
theorem dX12_tins_142 : decode cX12_tins 142 = .ok (.invokevirtual 82, 3) := by decide +kernel
theorem dX12_tins_145 : decode cX12_tins 145 = .ok (.aload_n 0, 1) := by decide +kernel
theorem dX12_tins_146 : decode cX12_tins 146 = .ok (.iload_n 1, 1) := by decide +kernel
theorem dX12_tins_147 : decode cX12_tins 147 = .ok (.iconst 3, 1) := by decide +kernel
theorem dX12_tins_148 : decode cX12_tins 148 = .ok (.iload 4, 2) := by decide +kernel
theorem dX12_tins_150 : decode cX12_tins 150 = .ok (.invokevirtual 123, 3) := by decide +kernel
theorem dX12_tins_153 : decode cX12_tins 153 = .ok (.aload_n 0, 1) := by decide +kernel
theorem dX12_tins_154 : decode cX12_tins 154 = .ok (.getfield 9, 3) := by decide +kernel
theorem dX12_tins_157 : decode cX12_tins 157 = .ok (.iconst 1, 1) := by decide +kernel
theorem dX12_tins_158 : decode cX12_tins 158 = .ok (.dup2, 1) := by decide +kernel
theorem dX12_tins_159 : decode cX12_tins 159 = .ok (.iaload, 1) := by decide +kernel
theorem dX12_tins_160 : decode cX12_tins 160 = .ok (.iload_n 3, 1) := by decide +kernel
theorem dX12_tins_161 : decode cX12_tins 161 = .ok (.isub, 1) := by decide +kernel
theorem dX12_tins_162 : decode cX12_tins 162 = .ok (.iastore, 1) := by decide +kernel
theorem dX12_tins_163 : decode cX12_tins 163 = .ok (.aload_n 0, 1) := by decide +kernel
theorem dX12_tins_164 : decode cX12_tins 164 = .ok (.getfield 9, 3) := by decide +kernel
theorem dX12_tins_167 : decode cX12_tins 167 = .ok (.bipush 8, 2) := by decide +kernel
theorem dX12_tins_169 : decode cX12_tins 169 = .ok (.dup2, 1) := by decide +kernel
theorem dX12_tins_170 : decode cX12_tins 170 = .ok (.iaload, 1) := by decide +kernel
theorem dX12_tins_171 : decode cX12_tins 171 = .ok (.iload_n 3, 1) := by decide +kernel
theorem dX12_tins_172 : decode cX12_tins 172 = .ok (.iadd, 1) := by decide +kernel
theorem dX12_tins_173 : decode cX12_tins 173 = .ok (.iastore, 1) := by decide +kernel
theorem dX12_tins_174 : decode cX12_tins 174 = .ok (.aload_n 0, 1) := by decide +kernel
theorem dX12_tins_175 : decode cX12_tins 175 = .ok (.getfield 9, 3) := by decide +kernel
theorem dX12_tins_178 : decode cX12_tins 178 = .ok (.bipush 7, 2) := by decide +kernel
theorem dX12_tins_180 : decode cX12_tins 180 = .ok (.dup2, 1) := by decide +kernel
theorem dX12_tins_181 : decode cX12_tins 181 = .ok (.iaload, 1) := by decide +kernel
theorem dX12_tins_182 : decode cX12_tins 182 = .ok (.iload_n 2, 1) := by decide +kernel
theorem dX12_tins_183 : decode cX12_tins 183 = .ok (.iadd, 1) := by decide +kernel
theorem dX12_tins_184 : decode cX12_tins 184 = .ok (.iastore, 1) := by decide +kernel
theorem dX12_tins_185 : decode cX12_tins 185 = .ok (.iload 4, 2) := by decide +kernel
theorem dX12_tins_187 : decode cX12_tins 187 = .ok (.ireturn, 1) := by decide +kernel
theorem dX12_tin_0 : decode cX12_tin 0 = .ok (.aload_n 0, 1) := by decide +kernel
theorem dX12_tin_1 : decode cX12_tin 1 = .ok (.invokevirtual 86, 3) := by decide +kernel
theorem dX12_tin_4 : decode cX12_tin 4 = .ok (.aload_n 0, 1) := by decide +kernel
theorem dX12_tin_5 : decode cX12_tin 5 = .ok (.aload_n 0, 1) := by decide +kernel
theorem dX12_tin_6 : decode cX12_tin 6 = .ok (.iload_n 1, 1) := by decide +kernel
theorem dX12_tin_7 : decode cX12_tin 7 = .ok (.iload_n 2, 1) := by decide +kernel
theorem dX12_tin_8 : decode cX12_tin 8 = .ok (.invokevirtual 150, 3) := by decide +kernel
theorem dX12_tin_11 : decode cX12_tin 11 = .ok (.invokevirtual 93, 3) := by decide +kernel
theorem dX12_tin_14 : decode cX12_tin 14 = .ok (.ireturn, 1) := by decide +kernel
theorem dX12_cooks_0 : decode cX12_cooks 0 = .ok (.aload_n 0, 1) := by decide +kernel
theorem dX12_cooks_1 : decode cX12_cooks 1 = .ok (.iload_n 1, 1) := by decide +kernel
theorem dX12_cooks_2 : decode cX12_cooks 2 = .ok (.invokevirtual 129, 3) := by decide +kernel
theorem dX12_cooks_5 : decode cX12_cooks 5 = .ok (.ifCond .ne 5, 3) := by decide +kernel
theorem dX12_cooks_8 : decode cX12_cooks 8 = .ok (.iconst (-1), 1) := by decide +kernel
theorem dX12_cooks_9 : decode cX12_cooks 9 = .ok (.ireturn, 1) := by decide +kernel
theorem dX12_cooks_10 : decode cX12_cooks 10 = .ok (.iload_n 2, 1) := by decide +kernel
theorem dX12_cooks_11 : decode cX12_cooks 11 = .ok (.iconst 1, 1) := by decide +kernel
theorem dX12_cooks_12 : decode cX12_cooks 12 = .ok (.bipush 99, 2) := by decide +kernel
theorem dX12_cooks_14 : decode cX12_cooks 14 = .ok (.invokestatic 74, 3) := by decide +kernel
theorem dX12_cooks_17 : decode cX12_cooks 17 = .ok (.ifCond .ne 6, 3) := by decide +kernel
theorem dX12_cooks_20 : decode cX12_cooks 20 = .ok (.bipush (-2), 2) := by decide +kernel
theorem dX12_cooks_22 : decode cX12_cooks 22 = .ok (.ireturn, 1) := by decide +kernel
theorem dX12_cooks_23 : decode cX12_cooks 23 = .ok (.aload_n 0, 1) := by decide +kernel
theorem dX12_cooks_24 : decode cX12_cooks 24 = .ok (.aload_n 0, 1) := by decide +kernel
theorem dX12_cooks_25 : decode cX12_cooks 25 = .ok (.iload_n 1, 1) := by decide +kernel
theorem dX12_cooks_26 : decode cX12_cooks 26 = .ok (.invokevirtual 132, 3) := by decide +kernel
theorem dX12_cooks_29 : decode cX12_cooks 29 = .ok (.iconst 4, 1) := by decide +kernel
theorem dX12_cooks_30 : decode cX12_cooks 30 = .ok (.aload_n 0, 1) := by decide +kernel
theorem dX12_cooks_31 : decode cX12_cooks 31 = .ok (.iload_n 1, 1) := by decide +kernel
theorem dX12_cooks_32 : decode cX12_cooks 32 = .ok (.bipush 6, 2) := by decide +kernel
theorem dX12_cooks_34 : decode cX12_cooks 34 = .ok (.invokevirtual 101, 3) := by decide +kernel
theorem dX12_cooks_37 : decode cX12_cooks 37 = .ok (.invokevirtual 82, 3) := by decide +kernel
theorem dX12_cooks_40 : decode cX12_cooks 40 = .ok (.aload_n 0, 1) := by decide +kernel
theorem dX12_cooks_41 : decode cX12_cooks 41 = .ok (.aload_n 0, 1) := by decide +kernel
theorem dX12_cooks_42 : decode cX12_cooks 42 = .ok (.iload_n 1, 1) := by decide +kernel
theorem dX12_cooks_43 : decode cX12_cooks 43 = .ok (.invokevirtual 135, 3) := by decide +kernel
theorem dX12_cooks_46 : decode cX12_cooks 46 = .ok (.iconst 5, 1) := by decide +kernel
theorem dX12_cooks_47 : decode cX12_cooks 47 = .ok (.iload_n 1, 1) := by decide +kernel
theorem dX12_cooks_48 : decode cX12_cooks 48 = .ok (.invokevirtual 82, 3) := by decide +kernel
theorem dX12_cooks_51 : decode cX12_cooks 51 = .ok (.aload_n 0, 1) := by decide +kernel
theorem dX12_cooks_52 : decode cX12_cooks 52 = .ok (.aload_n 0, 1) := by decide +kernel
theorem dX12_cooks_53 : decode cX12_cooks 53 = .ok (.iload_n 1, 1) := by decide +kernel
theorem dX12_cooks_54 : decode cX12_cooks 54 = .ok (.iconst 3, 1) := by decide +kernel
theorem dX12_cooks_55 : decode cX12_cooks 55 = .ok (.invokevirtual 101, 3) := by decide +kernel
theorem dX12_cooks_58 : decode cX12_cooks 58 = .ok (.ifCond .ne 7, 3) := by decide +kernel
theorem dX12_cooks_61 : decode cX12_cooks 61 = .ok (.iconst 1, 1) := by decide +kernel
theorem dX12_cooks_62 : decode cX12_cooks 62 = .ok (.goto 4, 3) := by decide +kernel
theorem dX12_cooks_65 : decode cX12_cooks 65 = .ok (.iconst 0, 1) := by decide +kernel
theorem dX12_cooks_66 : decode cX12_cooks 66 = .ok (.bipush 9, 2) := by decide +kernel
theorem dX12_cooks_68 : decode cX12_cooks 68 = .ok (.iload_n 1, 1) := by decide +kernel
theorem dX12_cooks_69 : decode cX12_cooks 69 = .ok (.invokevirtual 82, 3) := by decide +kernel
theorem dX12_cooks_72 : decode cX12_cooks 72 = .ok (.aload_n 0, 1) := by decide +kernel
theorem dX12_cooks_73 : decode cX12_cooks 73 = .ok (.iload_n 1, 1) := by decide +kernel
theorem dX12_cooks_74 : decode cX12_cooks 74 = .ok (.iconst 0, 1) := by decide +kernel
theorem dX12_cooks_75 : decode cX12_cooks 75 = .ok (.invokevirtual 101, 3) := by decide +kernel
theorem dX12_cooks_78 : decode cX12_cooks 78 = .ok (.invokestatic 153, 3) := by decide +kernel
theorem dX12_cooks_81 : decode cX12_cooks 81 = .ok (.istore_n 3, 1) := by decide +kernel
theorem dX12_cooks_82 : decode cX12_cooks 82 = .ok (.aload_n 0, 1) := by decide +kernel
theorem dX12_cooks_83 : decode cX12_cooks 83 = .ok (.iload_n 1, 1) := by decide +kernel
theorem dX12_cooks_84 : decode cX12_cooks 84 = .ok (.iconst 5, 1) := by decide +kernel
theorem dX12_cooks_85 : decode cX12_cooks 85 = .ok (.invokevirtual 101, 3) := by decide +kernel
theorem dX12_cooks_88 : decode cX12_cooks 88 = .ok (.iload_n 2, 1) := by decide +kernel
theorem dX12_cooks_89 : decode cX12_cooks 89 = .ok (.iadd, 1) := by decide +kernel
theorem dX12_cooks_90 : decode cX12_cooks 90 = .ok (.istore 4, 2) := by decide +kernel
theorem dX12_cooks_92 : decode cX12_cooks 92 = .ok (.aload_n 0, 1) := by decide +kernel
theorem dX12_cooks_93 : decode cX12_cooks 93 = .ok (.iload_n 1, 1) := by decide +kernel
theorem dX12_cooks_94 : decode cX12_cooks 94 = .ok (.iconst 3, 1) := by decide +kernel
theorem dX12_cooks_95 : decode cX12_cooks 95 = .ok (.invokevirtual 101, 3) := by decide +kernel
theorem dX12_cooks_98 : decode cX12_cooks 98 = .ok (.iload 4, 2) := by decide +kernel
theorem dX12_cooks_100 : decode cX12_cooks 100 = .ok (.iload_n 3, 1) := by decide +kernel
theorem dX12_cooks_101 : decode cX12_cooks 101 = .ok (.idiv, 1) := by decide +kernel
theorem dX12_cooks_102 : decode cX12_cooks 102 = .ok (.invokestatic 156, 3) := by decide +kernel
theorem dX12_cooks_105 : decode cX12_cooks 105 = .ok (.istore 5, 2) := by decide +kernel
theorem dX12_cooks_107 : decode cX12_cooks 107 = .ok (.aload_n 0, 1) := by decide +kernel
theorem dX12_cooks_108 : decode cX12_cooks 108 = .ok (.iload_n 1, 1) := by decide +kernel
theorem dX12_cooks_109 : decode cX12_cooks 109 = .ok (.iconst 3, 1) := by decide +kernel
theorem dX12_cooks_110 : decode cX12_cooks 110 = .ok (.aload_n 0, 1) := by decide +kernel
theorem dX12_cooks_111 : decode cX12_cooks 111 = .ok (.iload_n 1, 1) := by decide +kernel
theorem dX12_cooks_112 : decode cX12_cooks 112 = .ok (.iconst 3, 1) := by decide +kernel
theorem dX12_cooks_113 : decode cX12_cooks 113 = .ok (.invokevirtual 101, 3) := by decide +kernel
theorem dX12_cooks_116 : decode cX12_cooks 116 = .ok (.iload 5, 2) := by decide +kernel
theorem dX12_cooks_118 : decode cX12_cooks 118 = .ok (.isub, 1) := by decide +kernel
theorem dX12_cooks_119 : decode cX12_cooks 119 = .ok (.invokevirtual 123, 3) := by decide +kernel
theorem dX12_cooks_122 : decode cX12_cooks 122 = .ok (.aload_n 0, 1) := by decide +kernel
theorem dX12_cooks_123 : decode cX12_cooks 123 = .ok (.iload_n 1, 1) := by decide +kernel
theorem dX12_cooks_124 : decode cX12_cooks 124 = .ok (.iconst 5, 1) := by decide +kernel
theorem dX12_cooks_125 : decode cX12_cooks 125 = .ok (.aload_n 0, 1) := by decide +kernel
theorem dX12_cooks_126 : decode cX12_cooks 126 = .ok (.iload_n 1, 1) := by decide +kernel
theorem dX12_cooks_127 : decode cX12_cooks 127 = .ok (.iconst 3, 1) := by decide +kernel
theorem dX12_cooks_128 : decode cX12_cooks 128 = .ok (.invokevirtual 101, 3) := by decide +kernel
theorem dX12_cooks_131 : decode cX12_cooks 131 = .ok (.ifCond .ne 7, 3) := by decide +kernel
theorem dX12_cooks_134 : decode cX12_cooks 134 = .ok (.iconst 0, 1) := by decide +kernel
theorem dX12_cooks_135 : decode cX12_cooks 135 = .ok (.goto 7, 3) := by decide +kernel
theorem dX12_cooks_138 : decode cX12_cooks 138 = .ok (.iload 4, 2) := by decide +kernel
theorem dX12_cooks_140 : decode cX12_cooks 140 = .ok (.iload_n 3, 1) := by decide +kernel
theorem dX12_cooks_141 : decode cX12_cooks 141 = .ok (.irem, 1) := by decide +kernel
theorem dX12_cooks_142 : decode cX12_cooks 142 = .ok (.invokevirtual 123, 3) := by decide +kernel
theorem dX12_cooks_145 : decode cX12_cooks 145 = .ok (.aload_n 0, 1) := by decide +kernel
theorem dX12_cooks_146 : decode cX12_cooks 146 = .ok (.iload_n 1, 1) := by decide +kernel
theorem dX12_cooks_147 : decode cX12_cooks 147 = .ok (.iconst 4, 1) := by decide +kernel
theorem dX12_cooks_148 : decode cX12_cooks 148 = .ok (.aload_n 0, 1) := by decide +kernel
theorem dX12_cooks_149 : decode cX12_cooks 149 = .ok (.iload_n 1, 1) := by decide +kernel
theorem dX12_cooks_150 : decode cX12_cooks 150 = .ok (.iconst 4, 1) := by decide +kernel
theorem dX12_cooks_151 : decode cX12_cooks 151 = .ok (.invokevirtual 101, 3) := by decide +kernel
theorem dX12_cooks_154 : decode cX12_cooks 154 = .ok (.iload_n 2, 1) := by decide +kernel
theorem dX12_cooks_155 : decode cX12_cooks 155 = .ok (.iadd, 1) := by decide +kernel
theorem dX12_cooks_156 : decode cX12_cooks 156 = .ok (.invokevirtual 123, 3) := by decide +kernel
theorem dX12_cooks_159 : decode cX12_cooks 159 = .ok (.aload_n 0, 1) := by decide +kernel
theorem dX12_cooks_160 : decode cX12_cooks 160 = .ok (.getfield 9, 3) := by decide +kernel
theorem dX12_cooks_163 : decode cX12_cooks 163 = .ok (.bipush 6, 2) := by decide +kernel
theorem dX12_cooks_165 : decode cX12_cooks 165 = .ok (.dup2, 1) := by decide +kernel
theorem dX12_cooks_166 : decode cX12_cooks 166 = .ok (.iaload, 1) := by decide +kernel
theorem dX12_cooks_167 : decode cX12_cooks 167 = .ok (.iload_n 2, 1) := by decide +kernel
theorem dX12_cooks_168 : decode cX12_cooks 168 = .ok (.iadd, 1) := by decide +kernel
theorem dX12_cooks_169 : decode cX12_cooks 169 = .ok (.iastore, 1) := by decide +kernel
theorem dX12_cooks_170 : decode cX12_cooks 170 = .ok (.aload_n 0, 1) := by decide +kernel
theorem dX12_cooks_171 : decode cX12_cooks 171 = .ok (.iload_n 1, 1) := by decide +kernel
theorem dX12_cooks_172 : decode cX12_cooks 172 = .ok (.iconst 3, 1) := by decide +kernel
theorem dX12_cooks_173 : decode cX12_cooks 173 = .ok (.invokevirtual 101, 3) := by decide +kernel
theorem dX12_cooks_176 : decode cX12_cooks 176 = .ok (.ireturn, 1) := by decide +kernel
theorem dX12_cook_0 : decode cX12_cook 0 = .ok (.aload_n 0, 1) := by decide +kernel
theorem dX12_cook_1 : decode cX12_cook 1 = .ok (.invokevirtual 86, 3) := by decide +kernel
theorem dX12_cook_4 : decode cX12_cook 4 = .ok (.aload_n 0, 1) := by decide +kernel
theorem dX12_cook_5 : decode cX12_cook 5 = .ok (.aload_n 0, 1) := by decide +kernel
theorem dX12_cook_6 : decode cX12_cook 6 = .ok (.iload_n 1, 1) := by decide +kernel
theorem dX12_cook_7 : decode cX12_cook 7 = .ok (.iload_n 2, 1) := by decide +kernel
theorem dX12_cook_8 : decode cX12_cook 8 = .ok (.invokevirtual 159, 3) := by decide +kernel
theorem dX12_cook_11 : decode cX12_cook 11 = .ok (.invokevirtual 93, 3) := by decide +kernel
theorem dX12_cook_14 : decode cX12_cook 14 = .ok (.ireturn, 1) := by decide +kernel
theorem dX12_potOf_0 : decode cX12_potOf 0 = .ok (.aload_n 0, 1) := by decide +kernel
theorem dX12_potOf_1 : decode cX12_potOf 1 = .ok (.iload_n 1, 1) := by decide +kernel
theorem dX12_potOf_2 : decode cX12_potOf 2 = .ok (.invokevirtual 129, 3) := by decide +kernel
theorem dX12_potOf_5 : decode cX12_potOf 5 = .ok (.ifCond .ne 5, 3) := by decide +kernel
theorem dX12_potOf_8 : decode cX12_potOf 8 = .ok (.iconst (-1), 1) := by decide +kernel
theorem dX12_potOf_9 : decode cX12_potOf 9 = .ok (.ireturn, 1) := by decide +kernel
theorem dX12_potOf_10 : decode cX12_potOf 10 = .ok (.iload_n 2, 1) := by decide +kernel
theorem dX12_potOf_11 : decode cX12_potOf 11 = .ok (.tableswitch 112 0 9 #[53, 53, 60, 66, 66, 66, 75, 89, 103, 103], 53) := by decide +kernel
theorem dX12_potOf_64 : decode cX12_potOf 64 = .ok (.aload_n 0, 1) := by decide +kernel
theorem dX12_potOf_65 : decode cX12_potOf 65 = .ok (.iload_n 1, 1) := by decide +kernel
theorem dX12_potOf_66 : decode cX12_potOf 66 = .ok (.iload_n 2, 1) := by decide +kernel
theorem dX12_potOf_67 : decode cX12_potOf 67 = .ok (.invokevirtual 101, 3) := by decide +kernel
theorem dX12_potOf_70 : decode cX12_potOf 70 = .ok (.ireturn, 1) := by decide +kernel
theorem dX12_potOf_71 : decode cX12_potOf 71 = .ok (.aload_n 0, 1) := by decide +kernel
theorem dX12_potOf_72 : decode cX12_potOf 72 = .ok (.iload_n 1, 1) := by decide +kernel
theorem dX12_potOf_73 : decode cX12_potOf 73 = .ok (.invokevirtual 117, 3) := by decide +kernel
theorem dX12_potOf_76 : decode cX12_potOf 76 = .ok (.ireturn, 1) := by decide +kernel
theorem dX12_potOf_77 : decode cX12_potOf 77 = .ok (.aload_n 0, 1) := by decide +kernel
theorem dX12_potOf_78 : decode cX12_potOf 78 = .ok (.iload_n 1, 1) := by decide +kernel
theorem dX12_potOf_79 : decode cX12_potOf 79 = .ok (.iload_n 2, 1) := by decide +kernel
theorem dX12_potOf_80 : decode cX12_potOf 80 = .ok (.iconst 1, 1) := by decide +kernel
theorem dX12_potOf_81 : decode cX12_potOf 81 = .ok (.isub, 1) := by decide +kernel
theorem dX12_potOf_82 : decode cX12_potOf 82 = .ok (.invokevirtual 101, 3) := by decide +kernel
theorem dX12_potOf_85 : decode cX12_potOf 85 = .ok (.ireturn, 1) := by decide +kernel
theorem dX12_potOf_86 : decode cX12_potOf 86 = .ok (.aload_n 0, 1) := by decide +kernel
theorem dX12_potOf_87 : decode cX12_potOf 87 = .ok (.iload_n 1, 1) := by decide +kernel
theorem dX12_potOf_88 : decode cX12_potOf 88 = .ok (.invokevirtual 147, 3) := by decide +kernel
theorem dX12_potOf_91 : decode cX12_potOf 91 = .ok (.ifCond .ne 7, 3) := by decide +kernel
theorem dX12_potOf_94 : decode cX12_potOf 94 = .ok (.iconst 1, 1) := by decide +kernel
theorem dX12_potOf_95 : decode cX12_potOf 95 = .ok (.goto 4, 3) := by decide +kernel
theorem dX12_potOf_98 : decode cX12_potOf 98 = .ok (.iconst 0, 1) := by decide +kernel
theorem dX12_potOf_99 : decode cX12_potOf 99 = .ok (.ireturn, 1) := by decide +kernel
theorem dX12_potOf_100 : decode cX12_potOf 100 = .ok (.aload_n 0, 1) := by decide +kernel
theorem dX12_potOf_101 : decode cX12_potOf 101 = .ok (.iload_n 1, 1) := by decide +kernel
theorem dX12_potOf_102 : decode cX12_potOf 102 = .ok (.invokevirtual 135, 3) := by decide +kernel
theorem dX12_potOf_105 : decode cX12_potOf 105 = .ok (.ifCond .eq 7, 3) := by decide +kernel
theorem dX12_potOf_108 : decode cX12_potOf 108 = .ok (.iconst 1, 1) := by decide +kernel
theorem dX12_potOf_109 : decode cX12_potOf 109 = .ok (.goto 4, 3) := by decide +kernel
theorem dX12_potOf_112 : decode cX12_potOf 112 = .ok (.iconst 0, 1) := by decide +kernel
theorem dX12_potOf_113 : decode cX12_potOf 113 = .ok (.ireturn, 1) := by decide +kernel
theorem dX12_potOf_114 : decode cX12_potOf 114 = .ok (.aload_n 0, 1) := by decide +kernel
theorem dX12_potOf_115 : decode cX12_potOf 115 = .ok (.iload_n 1, 1) := by decide +kernel
theorem dX12_potOf_116 : decode cX12_potOf 116 = .ok (.iload_n 2, 1) := by decide +kernel
theorem dX12_potOf_117 : decode cX12_potOf 117 = .ok (.iconst 2, 1) := by decide +kernel
theorem dX12_potOf_118 : decode cX12_potOf 118 = .ok (.isub, 1) := by decide +kernel
theorem dX12_potOf_119 : decode cX12_potOf 119 = .ok (.invokevirtual 101, 3) := by decide +kernel
theorem dX12_potOf_122 : decode cX12_potOf 122 = .ok (.ireturn, 1) := by decide +kernel
theorem dX12_potOf_123 : decode cX12_potOf 123 = .ok (.bipush (-2), 2) := by decide +kernel
theorem dX12_potOf_125 : decode cX12_potOf 125 = .ok (.ireturn, 1) := by decide +kernel
theorem dX12_ofOrder_0 : decode cX12_ofOrder 0 = .ok (.aload_n 0, 1) := by decide +kernel
theorem dX12_ofOrder_1 : decode cX12_ofOrder 1 = .ok (.getfield 9, 3) := by decide +kernel
theorem dX12_ofOrder_4 : decode cX12_ofOrder 4 = .ok (.sipush 188, 3) := by decide +kernel
theorem dX12_ofOrder_7 : decode cX12_ofOrder 7 = .ok (.iconst 5, 1) := by decide +kernel
theorem dX12_ofOrder_8 : decode cX12_ofOrder 8 = .ok (.iload_n 1, 1) := by decide +kernel
theorem dX12_ofOrder_9 : decode cX12_ofOrder 9 = .ok (.imul, 1) := by decide +kernel
theorem dX12_ofOrder_10 : decode cX12_ofOrder 10 = .ok (.iadd, 1) := by decide +kernel
theorem dX12_ofOrder_11 : decode cX12_ofOrder 11 = .ok (.iload_n 2, 1) := by decide +kernel
theorem dX12_ofOrder_12 : decode cX12_ofOrder 12 = .ok (.iadd, 1) := by decide +kernel
theorem dX12_ofOrder_13 : decode cX12_ofOrder 13 = .ok (.iaload, 1) := by decide +kernel
theorem dX12_ofOrder_14 : decode cX12_ofOrder 14 = .ok (.ireturn, 1) := by decide +kernel
theorem dX12_baker_0 : decode cX12_baker 0 = .ok (.iload_n 1, 1) := by decide +kernel
theorem dX12_baker_1 : decode cX12_baker 1 = .ok (.invokestatic 120, 3) := by decide +kernel
theorem dX12_baker_4 : decode cX12_baker 4 = .ok (.ifCond .eq 23, 3) := by decide +kernel
theorem dX12_baker_7 : decode cX12_baker 7 = .ok (.iload_n 2, 1) := by decide +kernel
theorem dX12_baker_8 : decode cX12_baker 8 = .ok (.iconst 1, 1) := by decide +kernel
theorem dX12_baker_9 : decode cX12_baker 9 = .ok (.bipush 9, 2) := by decide +kernel
theorem dX12_baker_11 : decode cX12_baker 11 = .ok (.invokestatic 74, 3) := by decide +kernel
theorem dX12_baker_14 : decode cX12_baker 14 = .ok (.ifCond .eq 13, 3) := by decide +kernel
theorem dX12_baker_17 : decode cX12_baker 17 = .ok (.iload_n 3, 1) := by decide +kernel
theorem dX12_baker_18 : decode cX12_baker 18 = .ok (.iconst 1, 1) := by decide +kernel
theorem dX12_baker_19 : decode cX12_baker 19 = .ok (.bipush 99, 2) := by decide +kernel
theorem dX12_baker_21 : decode cX12_baker 21 = .ok (.invokestatic 74, 3) := by decide +kernel
theorem dX12_baker_24 : decode cX12_baker 24 = .ok (.ifCond .ne 6, 3) := by decide +kernel
theorem dX12_baker_27 : decode cX12_baker 27 = .ok (.bipush (-2), 2) := by decide +kernel
theorem dX12_baker_29 : decode cX12_baker 29 = .ok (.ireturn, 1) := by decide +kernel
theorem dX12_baker_30 : decode cX12_baker 30 = .ok (.aload_n 0, 1) := by decide +kernel
theorem dX12_baker_31 : decode cX12_baker 31 = .ok (.invokevirtual 86, 3) := by decide +kernel
theorem dX12_baker_34 : decode cX12_baker 34 = .ok (.aload_n 0, 1) := by decide +kernel
theorem dX12_baker_35 : decode cX12_baker 35 = .ok (.getfield 9, 3) := by decide +kernel
theorem dX12_baker_38 : decode cX12_baker 38 = .ok (.iconst 4, 1) := by decide +kernel
theorem dX12_baker_39 : decode cX12_baker 39 = .ok (.iaload, 1) := by decide +kernel
theorem dX12_baker_40 : decode cX12_baker 40 = .ok (.istore 4, 2) := by decide +kernel
theorem dX12_baker_42 : decode cX12_baker 42 = .ok (.aload_n 0, 1) := by decide +kernel
theorem dX12_baker_43 : decode cX12_baker 43 = .ok (.iload 4, 2) := by decide +kernel
theorem dX12_baker_45 : decode cX12_baker 45 = .ok (.bipush 8, 2) := by decide +kernel
theorem dX12_baker_47 : decode cX12_baker 47 = .ok (.if_icmp .ne 7, 3) := by decide +kernel
theorem dX12_baker_50 : decode cX12_baker 50 = .ok (.iconst 1, 1) := by decide +kernel
theorem dX12_baker_51 : decode cX12_baker 51 = .ok (.goto 4, 3) := by decide +kernel
theorem dX12_baker_54 : decode cX12_baker 54 = .ok (.iconst 0, 1) := by decide +kernel
theorem dX12_baker_55 : decode cX12_baker 55 = .ok (.iconst 1, 1) := by decide +kernel
theorem dX12_baker_56 : decode cX12_baker 56 = .ok (.bipush 8, 2) := by decide +kernel
theorem dX12_baker_58 : decode cX12_baker 58 = .ok (.invokevirtual 82, 3) := by decide +kernel
theorem dX12_baker_61 : decode cX12_baker 61 = .ok (.aload_n 0, 1) := by decide +kernel
theorem dX12_baker_62 : decode cX12_baker 62 = .ok (.getfield 51, 3) := by decide +kernel
theorem dX12_baker_65 : decode cX12_baker 65 = .ok (.ifCond .ne 72, 3) := by decide +kernel
theorem dX12_baker_68 : decode cX12_baker 68 = .ok (.sipush 188, 3) := by decide +kernel
theorem dX12_baker_71 : decode cX12_baker 71 = .ok (.iconst 5, 1) := by decide +kernel
theorem dX12_baker_72 : decode cX12_baker 72 = .ok (.iload 4, 2) := by decide +kernel
theorem dX12_baker_74 : decode cX12_baker 74 = .ok (.imul, 1) := by decide +kernel
theorem dX12_baker_75 : decode cX12_baker 75 = .ok (.iadd, 1) := by decide +kernel
theorem dX12_baker_76 : decode cX12_baker 76 = .ok (.istore 5, 2) := by decide +kernel
theorem dX12_baker_78 : decode cX12_baker 78 = .ok (.aload_n 0, 1) := by decide +kernel
theorem dX12_baker_79 : decode cX12_baker 79 = .ok (.getfield 9, 3) := by decide +kernel
theorem dX12_baker_82 : decode cX12_baker 82 = .ok (.iload 5, 2) := by decide +kernel
theorem dX12_baker_84 : decode cX12_baker 84 = .ok (.iload_n 1, 1) := by decide +kernel
theorem dX12_baker_85 : decode cX12_baker 85 = .ok (.iastore, 1) := by decide +kernel
theorem dX12_baker_86 : decode cX12_baker 86 = .ok (.aload_n 0, 1) := by decide +kernel
theorem dX12_baker_87 : decode cX12_baker 87 = .ok (.getfield 9, 3) := by decide +kernel
theorem dX12_baker_90 : decode cX12_baker 90 = .ok (.iload 5, 2) := by decide +kernel
theorem dX12_baker_92 : decode cX12_baker 92 = .ok (.iconst 1, 1) := by decide +kernel
theorem dX12_baker_93 : decode cX12_baker 93 = .ok (.iadd, 1) := by decide +kernel
theorem dX12_baker_94 : decode cX12_baker 94 = .ok (.iload_n 2, 1) := by decide +kernel
theorem dX12_baker_95 : decode cX12_baker 95 = .ok (.iastore, 1) := by decide +kernel
theorem dX12_baker_96 : decode cX12_baker 96 = .ok (.aload_n 0, 1) := by decide +kernel
theorem dX12_baker_97 : decode cX12_baker 97 = .ok (.getfield 9, 3) := by decide +kernel
theorem dX12_baker_100 : decode cX12_baker 100 = .ok (.iload 5, 2) := by decide +kernel
theorem dX12_baker_102 : decode cX12_baker 102 = .ok (.iconst 2, 1) := by decide +kernel
theorem dX12_baker_103 : decode cX12_baker 103 = .ok (.iadd, 1) := by decide +kernel
theorem dX12_baker_104 : decode cX12_baker 104 = .ok (.iload_n 3, 1) := by decide +kernel
theorem dX12_baker_105 : decode cX12_baker 105 = .ok (.iastore, 1) := by decide +kernel
theorem dX12_baker_106 : decode cX12_baker 106 = .ok (.aload_n 0, 1) := by decide +kernel
theorem dX12_baker_107 : decode cX12_baker 107 = .ok (.getfield 9, 3) := by decide +kernel
theorem dX12_baker_110 : decode cX12_baker 110 = .ok (.iload 5, 2) := by decide +kernel
theorem dX12_baker_112 : decode cX12_baker 112 = .ok (.iconst 3, 1) := by decide +kernel
theorem dX12_baker_113 : decode cX12_baker 113 = .ok (.iadd, 1) := by decide +kernel
theorem dX12_baker_114 : decode cX12_baker 114 = .ok (.bipush (-4), 2) := by decide +kernel
theorem dX12_baker_116 : decode cX12_baker 116 = .ok (.iastore, 1) := by decide +kernel
theorem dX12_baker_117 : decode cX12_baker 117 = .ok (.aload_n 0, 1) := by decide +kernel
theorem dX12_baker_118 : decode cX12_baker 118 = .ok (.getfield 9, 3) := by decide +kernel
theorem dX12_baker_121 : decode cX12_baker 121 = .ok (.iload 5, 2) := by decide +kernel
theorem dX12_baker_123 : decode cX12_baker 123 = .ok (.iconst 4, 1) := by decide +kernel
theorem dX12_baker_124 : decode cX12_baker 124 = .ok (.iadd, 1) := by decide +kernel
theorem dX12_baker_125 : decode cX12_baker 125 = .ok (.iconst 0, 1) := by decide +kernel
theorem dX12_baker_126 : decode cX12_baker 126 = .ok (.iastore, 1) := by decide +kernel
theorem dX12_baker_127 : decode cX12_baker 127 = .ok (.aload_n 0, 1) := by decide +kernel
theorem dX12_baker_128 : decode cX12_baker 128 = .ok (.getfield 9, 3) := by decide +kernel
theorem dX12_baker_131 : decode cX12_baker 131 = .ok (.iconst 4, 1) := by decide +kernel
theorem dX12_baker_132 : decode cX12_baker 132 = .ok (.dup2, 1) := by decide +kernel
theorem dX12_baker_133 : decode cX12_baker 133 = .ok (.iaload, 1) := by decide +kernel
theorem dX12_baker_134 : decode cX12_baker 134 = .ok (.iconst 1, 1) := by decide +kernel
theorem dX12_baker_135 : decode cX12_baker 135 = .ok (.iadd, 1) := by decide +kernel
theorem dX12_baker_136 : decode cX12_baker 136 = .ok (.iastore, 1) := by decide +kernel
theorem dX12_baker_137 : decode cX12_baker 137 = .ok (.aload_n 0, 1) := by decide +kernel
theorem dX12_baker_138 : decode cX12_baker 138 = .ok (.iload 4, 2) := by decide +kernel
theorem dX12_baker_140 : decode cX12_baker 140 = .ok (.invokevirtual 93, 3) := by decide +kernel
theorem dX12_baker_143 : decode cX12_baker 143 = .ok (.ireturn, 1) := by decide +kernel
theorem dX12_isNew_0 : decode cX12_isNew 0 = .ok (.aload_n 0, 1) := by decide +kernel
theorem dX12_isNew_1 : decode cX12_isNew 1 = .ok (.iload_n 1, 1) := by decide +kernel
theorem dX12_isNew_2 : decode cX12_isNew 2 = .ok (.iconst 4, 1) := by decide +kernel
theorem dX12_isNew_3 : decode cX12_isNew 3 = .ok (.invokevirtual 101, 3) := by decide +kernel
theorem dX12_isNew_6 : decode cX12_isNew 6 = .ok (.ifCond .ne 7, 3) := by decide +kernel
theorem dX12_isNew_9 : decode cX12_isNew 9 = .ok (.iconst 1, 1) := by decide +kernel
theorem dX12_isNew_10 : decode cX12_isNew 10 = .ok (.goto 4, 3) := by decide +kernel
theorem dX12_isNew_13 : decode cX12_isNew 13 = .ok (.iconst 0, 1) := by decide +kernel
theorem dX12_isNew_14 : decode cX12_isNew 14 = .ok (.ireturn, 1) := by decide +kernel
theorem dX12_missingTin_0 : decode cX12_missingTin 0 = .ok (.aload_n 0, 1) := by decide +kernel
theorem dX12_missingTin_1 : decode cX12_missingTin 1 = .ok (.iload_n 2, 1) := by decide +kernel
theorem dX12_missingTin_2 : decode cX12_missingTin 2 = .ok (.iconst 1, 1) := by decide +kernel
theorem dX12_missingTin_3 : decode cX12_missingTin 3 = .ok (.invokevirtual 162, 3) := by decide +kernel
theorem dX12_missingTin_6 : decode cX12_missingTin 6 = .ok (.aload_n 0, 1) := by decide +kernel
theorem dX12_missingTin_7 : decode cX12_missingTin 7 = .ok (.iload_n 1, 1) := by decide +kernel
theorem dX12_missingTin_8 : decode cX12_missingTin 8 = .ok (.invokevirtual 165, 3) := by decide +kernel
theorem dX12_missingTin_11 : decode cX12_missingTin 11 = .ok (.ifCond .eq 7, 3) := by decide +kernel
theorem dX12_missingTin_14 : decode cX12_missingTin 14 = .ok (.iconst 3, 1) := by decide +kernel
theorem dX12_missingTin_15 : decode cX12_missingTin 15 = .ok (.goto 4, 3) := by decide +kernel
theorem dX12_missingTin_18 : decode cX12_missingTin 18 = .ok (.iconst 0, 1) := by decide +kernel
theorem dX12_missingTin_19 : decode cX12_missingTin 19 = .ok (.invokestatic 108, 3) := by decide +kernel
theorem dX12_missingTin_22 : decode cX12_missingTin 22 = .ok (.istore_n 3, 1) := by decide +kernel
theorem dX12_missingTin_23 : decode cX12_missingTin 23 = .ok (.iconst 0, 1) := by decide +kernel
theorem dX12_missingTin_24 : decode cX12_missingTin 24 = .ok (.iload_n 3, 1) := by decide +kernel
theorem dX12_missingTin_25 : decode cX12_missingTin 25 = .ok (.aload_n 0, 1) := by decide +kernel
theorem dX12_missingTin_26 : decode cX12_missingTin 26 = .ok (.iload_n 1, 1) := by decide +kernel
theorem dX12_missingTin_27 : decode cX12_missingTin 27 = .ok (.iconst 3, 1) := by decide +kernel
theorem dX12_missingTin_28 : decode cX12_missingTin 28 = .ok (.invokevirtual 101, 3) := by decide +kernel
theorem dX12_missingTin_31 : decode cX12_missingTin 31 = .ok (.isub, 1) := by decide +kernel
theorem dX12_missingTin_32 : decode cX12_missingTin 32 = .ok (.invokestatic 108, 3) := by decide +kernel
theorem dX12_missingTin_35 : decode cX12_missingTin 35 = .ok (.ireturn, 1) := by decide +kernel
theorem dX12_unfit_0 : decode cX12_unfit 0 = .ok (.aload_n 0, 1) := by decide +kernel
theorem dX12_unfit_1 : decode cX12_unfit 1 = .ok (.iload_n 1, 1) := by decide +kernel
theorem dX12_unfit_2 : decode cX12_unfit 2 = .ok (.iconst 0, 1) := by decide +kernel
theorem dX12_unfit_3 : decode cX12_unfit 3 = .ok (.invokevirtual 101, 3) := by decide +kernel
theorem dX12_unfit_6 : decode cX12_unfit 6 = .ok (.aload_n 0, 1) := by decide +kernel
theorem dX12_unfit_7 : decode cX12_unfit 7 = .ok (.iload_n 2, 1) := by decide +kernel
theorem dX12_unfit_8 : decode cX12_unfit 8 = .ok (.iconst 0, 1) := by decide +kernel
theorem dX12_unfit_9 : decode cX12_unfit 9 = .ok (.invokevirtual 162, 3) := by decide +kernel
theorem dX12_unfit_12 : decode cX12_unfit 12 = .ok (.if_icmp .eq 6, 3) := by decide +kernel
theorem dX12_unfit_15 : decode cX12_unfit 15 = .ok (.bipush 12, 2) := by decide +kernel
theorem dX12_unfit_17 : decode cX12_unfit 17 = .ok (.ireturn, 1) := by decide +kernel
theorem dX12_unfit_18 : decode cX12_unfit 18 = .ok (.aload_n 0, 1) := by decide +kernel
theorem dX12_unfit_19 : decode cX12_unfit 19 = .ok (.iload_n 1, 1) := by decide +kernel
theorem dX12_unfit_20 : decode cX12_unfit 20 = .ok (.invokevirtual 135, 3) := by decide +kernel
theorem dX12_unfit_23 : decode cX12_unfit 23 = .ok (.ifCond .eq 7, 3) := by decide +kernel
theorem dX12_unfit_26 : decode cX12_unfit 26 = .ok (.iconst 5, 1) := by decide +kernel
theorem dX12_unfit_27 : decode cX12_unfit 27 = .ok (.goto 31, 3) := by decide +kernel
theorem dX12_unfit_30 : decode cX12_unfit 30 = .ok (.aload_n 0, 1) := by decide +kernel
theorem dX12_unfit_31 : decode cX12_unfit 31 = .ok (.iload_n 1, 1) := by decide +kernel
theorem dX12_unfit_32 : decode cX12_unfit 32 = .ok (.invokevirtual 147, 3) := by decide +kernel
theorem dX12_unfit_35 : decode cX12_unfit 35 = .ok (.ifCond .le 8, 3) := by decide +kernel
theorem dX12_unfit_38 : decode cX12_unfit 38 = .ok (.bipush 6, 2) := by decide +kernel
theorem dX12_unfit_40 : decode cX12_unfit 40 = .ok (.goto 18, 3) := by decide +kernel
theorem dX12_unfit_43 : decode cX12_unfit 43 = .ok (.aload_n 0, 1) := by decide +kernel
theorem dX12_unfit_44 : decode cX12_unfit 44 = .ok (.iload_n 1, 1) := by decide +kernel
theorem dX12_unfit_45 : decode cX12_unfit 45 = .ok (.iload_n 2, 1) := by decide +kernel
theorem dX12_unfit_46 : decode cX12_unfit 46 = .ok (.invokevirtual 168, 3) := by decide +kernel
theorem dX12_unfit_49 : decode cX12_unfit 49 = .ok (.ifCond .le 8, 3) := by decide +kernel
theorem dX12_unfit_52 : decode cX12_unfit 52 = .ok (.bipush 13, 2) := by decide +kernel
theorem dX12_unfit_54 : decode cX12_unfit 54 = .ok (.goto 4, 3) := by decide +kernel
theorem dX12_unfit_57 : decode cX12_unfit 57 = .ok (.iconst 0, 1) := by decide +kernel
theorem dX12_unfit_58 : decode cX12_unfit 58 = .ok (.ireturn, 1) := by decide +kernel
theorem dX12_payFor_0 : decode cX12_payFor 0 = .ok (.aload_n 0, 1) := by decide +kernel
theorem dX12_payFor_1 : decode cX12_payFor 1 = .ok (.iload_n 1, 1) := by decide +kernel
theorem dX12_payFor_2 : decode cX12_payFor 2 = .ok (.invokevirtual 165, 3) := by decide +kernel
theorem dX12_payFor_5 : decode cX12_payFor 5 = .ok (.ifCond .eq 12, 3) := by decide +kernel
theorem dX12_payFor_8 : decode cX12_payFor 8 = .ok (.aload_n 0, 1) := by decide +kernel
theorem dX12_payFor_9 : decode cX12_payFor 9 = .ok (.iload_n 2, 1) := by decide +kernel
theorem dX12_payFor_10 : decode cX12_payFor 10 = .ok (.iconst 2, 1) := by decide +kernel
theorem dX12_payFor_11 : decode cX12_payFor 11 = .ok (.invokevirtual 162, 3) := by decide +kernel
theorem dX12_payFor_14 : decode cX12_payFor 14 = .ok (.goto 11, 3) := by decide +kernel
theorem dX12_payFor_17 : decode cX12_payFor 17 = .ok (.aload_n 0, 1) := by decide +kernel
theorem dX12_payFor_18 : decode cX12_payFor 18 = .ok (.iload_n 2, 1) := by decide +kernel
theorem dX12_payFor_19 : decode cX12_payFor 19 = .ok (.iconst 2, 1) := by decide +kernel
theorem dX12_payFor_20 : decode cX12_payFor 20 = .ok (.invokevirtual 162, 3) := by decide +kernel
theorem dX12_payFor_23 : decode cX12_payFor 23 = .ok (.iconst 2, 1) := by decide +kernel
theorem dX12_payFor_24 : decode cX12_payFor 24 = .ok (.idiv, 1) := by decide +kernel
theorem dX12_payFor_25 : decode cX12_payFor 25 = .ok (.ireturn, 1) := by decide +kernel
theorem dX12_sells_0 : decode cX12_sells 0 = .ok (.aload_n 0, 1) := by decide +kernel
theorem dX12_sells_1 : decode cX12_sells 1 = .ok (.iload_n 1, 1) := by decide +kernel
theorem dX12_sells_2 : decode cX12_sells 2 = .ok (.invokevirtual 129, 3) := by decide +kernel
theorem dX12_sells_5 : decode cX12_sells 5 = .ok (.ifCond .eq 11, 3) := by decide +kernel
theorem dX12_sells_8 : decode cX12_sells 8 = .ok (.aload_n 0, 1) := by decide +kernel
theorem dX12_sells_9 : decode cX12_sells 9 = .ok (.iload_n 2, 1) := by decide +kernel
theorem dX12_sells_10 : decode cX12_sells 10 = .ok (.invokevirtual 171, 3) := by decide +kernel
theorem dX12_sells_13 : decode cX12_sells 13 = .ok (.ifCond .ne 5, 3) := by decide +kernel
theorem dX12_sells_16 : decode cX12_sells 16 = .ok (.iconst (-1), 1) := by decide +kernel
theorem dX12_sells_17 : decode cX12_sells 17 = .ok (.ireturn, 1) := by decide +kernel
theorem dX12_sells_18 : decode cX12_sells 18 = .ok (.aload_n 0, 1) := by decide +kernel
theorem dX12_sells_19 : decode cX12_sells 19 = .ok (.iload_n 1, 1) := by decide +kernel
theorem dX12_sells_20 : decode cX12_sells 20 = .ok (.iload_n 2, 1) := by decide +kernel
theorem dX12_sells_21 : decode cX12_sells 21 = .ok (.invokevirtual 174, 3) := by decide +kernel
theorem dX12_sells_24 : decode cX12_sells 24 = .ok (.istore_n 3, 1) := by decide +kernel
theorem dX12_sells_25 : decode cX12_sells 25 = .ok (.aload_n 0, 1) := by decide +kernel
theorem dX12_sells_26 : decode cX12_sells 26 = .ok (.aload_n 0, 1) := by decide +kernel
theorem dX12_sells_27 : decode cX12_sells 27 = .ok (.iload_n 2, 1) := by decide +kernel
theorem dX12_sells_28 : decode cX12_sells 28 = .ok (.iconst 3, 1) := by decide +kernel
theorem dX12_sells_29 : decode cX12_sells 29 = .ok (.invokevirtual 162, 3) := by decide +kernel
theorem dX12_sells_32 : decode cX12_sells 32 = .ok (.bipush (-4), 2) := by decide +kernel
theorem dX12_sells_34 : decode cX12_sells 34 = .ok (.if_icmp .eq 7, 3) := by decide +kernel
theorem dX12_sells_37 : decode cX12_sells 37 = .ok (.iconst 1, 1) := by decide +kernel
theorem dX12_sells_38 : decode cX12_sells 38 = .ok (.goto 4, 3) := by decide +kernel
theorem dX12_sells_41 : decode cX12_sells 41 = .ok (.iconst 0, 1) := by decide +kernel
theorem dX12_sells_42 : decode cX12_sells 42 = .ok (.bipush 10, 2) := by decide +kernel
theorem dX12_sells_44 : decode cX12_sells 44 = .ok (.aload_n 0, 1) := by decide +kernel
theorem dX12_sells_45 : decode cX12_sells 45 = .ok (.iload_n 2, 1) := by decide +kernel
theorem dX12_sells_46 : decode cX12_sells 46 = .ok (.iconst 3, 1) := by decide +kernel
theorem dX12_sells_47 : decode cX12_sells 47 = .ok (.invokevirtual 162, 3) := by decide +kernel
theorem dX12_sells_50 : decode cX12_sells 50 = .ok (.invokevirtual 82, 3) := by decide +kernel
theorem dX12_sells_53 : decode cX12_sells 53 = .ok (.aload_n 0, 1) := by decide +kernel
theorem dX12_sells_54 : decode cX12_sells 54 = .ok (.aload_n 0, 1) := by decide +kernel
theorem dX12_sells_55 : decode cX12_sells 55 = .ok (.iload_n 1, 1) := by decide +kernel
theorem dX12_sells_56 : decode cX12_sells 56 = .ok (.invokevirtual 132, 3) := by decide +kernel
theorem dX12_sells_59 : decode cX12_sells 59 = .ok (.iconst 4, 1) := by decide +kernel
theorem dX12_sells_60 : decode cX12_sells 60 = .ok (.aload_n 0, 1) := by decide +kernel
theorem dX12_sells_61 : decode cX12_sells 61 = .ok (.iload_n 1, 1) := by decide +kernel
theorem dX12_sells_62 : decode cX12_sells 62 = .ok (.bipush 6, 2) := by decide +kernel
theorem dX12_sells_64 : decode cX12_sells 64 = .ok (.invokevirtual 101, 3) := by decide +kernel
theorem dX12_sells_67 : decode cX12_sells 67 = .ok (.invokevirtual 82, 3) := by decide +kernel
theorem dX12_sells_70 : decode cX12_sells 70 = .ok (.aload_n 0, 1) := by decide +kernel
theorem dX12_sells_71 : decode cX12_sells 71 = .ok (.iload_n 3, 1) := by decide +kernel
theorem dX12_sells_72 : decode cX12_sells 72 = .ok (.ifCond .eq 7, 3) := by decide +kernel
theorem dX12_sells_75 : decode cX12_sells 75 = .ok (.iconst 1, 1) := by decide +kernel
theorem dX12_sells_76 : decode cX12_sells 76 = .ok (.goto 4, 3) := by decide +kernel
theorem dX12_sells_79 : decode cX12_sells 79 = .ok (.iconst 0, 1) := by decide +kernel
theorem dX12_sells_80 : decode cX12_sells 80 = .ok (.bipush 11, 2) := by decide +kernel
theorem dX12_sells_82 : decode cX12_sells 82 = .ok (.iload_n 1, 1) := by decide +kernel
theorem dX12_sells_83 : decode cX12_sells 83 = .ok (.invokevirtual 82, 3) := by decide +kernel
theorem dX12_sells_86 : decode cX12_sells 86 = .ok (.aload_n 0, 1) := by decide +kernel
theorem dX12_sells_87 : decode cX12_sells 87 = .ok (.aload_n 0, 1) := by decide +kernel
theorem dX12_sells_88 : decode cX12_sells 88 = .ok (.getfield 51, 3) := by decide +kernel
theorem dX12_sells_91 : decode cX12_sells 91 = .ok (.bipush 11, 2) := by decide +kernel
theorem dX12_sells_93 : decode cX12_sells 93 = .ok (.if_icmp .ne 7, 3) := by decide +kernel
theorem dX12_sells_96 : decode cX12_sells 96 = .ok (.iload_n 3, 1) := by decide +kernel
theorem dX12_sells_97 : decode cX12_sells 97 = .ok (.goto 4, 3) := by decide +kernel
theorem dX12_sells_100 : decode cX12_sells 100 = .ok (.iconst 0, 1) := by decide +kernel
theorem dX12_sells_101 : decode cX12_sells 101 = .ok (.putfield 61, 3) := by decide +kernel
theorem dX12_sells_104 : decode cX12_sells 104 = .ok (.aload_n 0, 1) := by decide +kernel
theorem dX12_sells_105 : decode cX12_sells 105 = .ok (.iload_n 3, 1) := by decide +kernel
theorem dX12_sells_106 : decode cX12_sells 106 = .ok (.bipush 12, 2) := by decide +kernel
theorem dX12_sells_108 : decode cX12_sells 108 = .ok (.if_icmp .ne 12, 3) := by decide +kernel
theorem dX12_sells_111 : decode cX12_sells 111 = .ok (.aload_n 0, 1) := by decide +kernel
theorem dX12_sells_112 : decode cX12_sells 112 = .ok (.iload_n 1, 1) := by decide +kernel
theorem dX12_sells_113 : decode cX12_sells 113 = .ok (.iconst 0, 1) := by decide +kernel
theorem dX12_sells_114 : decode cX12_sells 114 = .ok (.invokevirtual 101, 3) := by decide +kernel
theorem dX12_sells_117 : decode cX12_sells 117 = .ok (.goto 32, 3) := by decide +kernel
theorem dX12_sells_120 : decode cX12_sells 120 = .ok (.iload_n 3, 1) := by decide +kernel
theorem dX12_sells_121 : decode cX12_sells 121 = .ok (.iconst 5, 1) := by decide +kernel
theorem dX12_sells_122 : decode cX12_sells 122 = .ok (.if_icmp .ne 7, 3) := by decide +kernel
theorem dX12_sells_125 : decode cX12_sells 125 = .ok (.iload_n 1, 1) := by decide +kernel
theorem dX12_sells_126 : decode cX12_sells 126 = .ok (.goto 23, 3) := by decide +kernel
theorem dX12_sells_129 : decode cX12_sells 129 = .ok (.iload_n 3, 1) := by decide +kernel
theorem dX12_sells_130 : decode cX12_sells 130 = .ok (.bipush 6, 2) := by decide +kernel
theorem dX12_sells_132 : decode cX12_sells 132 = .ok (.if_icmp .ne 11, 3) := by decide +kernel
theorem dX12_sells_135 : decode cX12_sells 135 = .ok (.aload_n 0, 1) := by decide +kernel
theorem dX12_sells_136 : decode cX12_sells 136 = .ok (.iload_n 1, 1) := by decide +kernel
theorem dX12_sells_137 : decode cX12_sells 137 = .ok (.invokevirtual 147, 3) := by decide +kernel
theorem dX12_sells_140 : decode cX12_sells 140 = .ok (.goto 9, 3) := by decide +kernel
theorem dX12_sells_143 : decode cX12_sells 143 = .ok (.aload_n 0, 1) := by decide +kernel
theorem dX12_sells_144 : decode cX12_sells 144 = .ok (.iload_n 1, 1) := by decide +kernel
theorem dX12_sells_145 : decode cX12_sells 145 = .ok (.iload_n 2, 1) := by decide +kernel
theorem dX12_sells_146 : decode cX12_sells 146 = .ok (.invokevirtual 168, 3) := by decide +kernel
theorem dX12_sells_149 : decode cX12_sells 149 = .ok (.putfield 68, 3) := by decide +kernel
theorem dX12_sells_152 : decode cX12_sells 152 = .ok (.aload_n 0, 1) := by decide +kernel
theorem dX12_sells_153 : decode cX12_sells 153 = .ok (.iload_n 1, 1) := by decide +kernel
theorem dX12_sells_154 : decode cX12_sells 154 = .ok (.iload_n 2, 1) := by decide +kernel
theorem dX12_sells_155 : decode cX12_sells 155 = .ok (.invokevirtual 177, 3) := by decide +kernel
theorem dX12_sells_158 : decode cX12_sells 158 = .ok (.istore 4, 2) := by decide +kernel
theorem dX12_sells_160 : decode cX12_sells 160 = .ok (.aload_n 0, 1) := by decide +kernel
theorem dX12_sells_161 : decode cX12_sells 161 = .ok (.iload_n 1, 1) := by decide +kernel
theorem dX12_sells_162 : decode cX12_sells 162 = .ok (.bipush 6, 2) := by decide +kernel
theorem dX12_sells_164 : decode cX12_sells 164 = .ok (.iload_n 2, 1) := by decide +kernel
theorem dX12_sells_165 : decode cX12_sells 165 = .ok (.invokevirtual 123, 3) := by decide +kernel
theorem dX12_sells_168 : decode cX12_sells 168 = .ok (.aload_n 0, 1) := by decide +kernel
theorem dX12_sells_169 : decode cX12_sells 169 = .ok (.getfield 9, 3) := by decide +kernel
theorem dX12_sells_172 : decode cX12_sells 172 = .ok (.sipush 188, 3) := by decide +kernel
theorem dX12_sells_175 : decode cX12_sells 175 = .ok (.iconst 5, 1) := by decide +kernel
theorem dX12_sells_176 : decode cX12_sells 176 = .ok (.iload_n 2, 1) := by decide +kernel
theorem dX12_sells_177 : decode cX12_sells 177 = .ok (.imul, 1) := by decide +kernel
theorem dX12_sells_178 : decode cX12_sells 178 = .ok (.iadd, 1) := by decide +kernel
theorem dX12_sells_179 : decode cX12_sells 179 = .ok (.iconst 3, 1) := by decide +kernel
theorem dX12_sells_180 : decode cX12_sells 180 = .ok (.iadd, 1) := by decide +kernel
theorem dX12_sells_181 : decode cX12_sells 181 = .ok (.iload_n 1, 1) := by decide +kernel
theorem dX12_sells_182 : decode cX12_sells 182 = .ok (.iastore, 1) := by decide +kernel
theorem dX12_sells_183 : decode cX12_sells 183 = .ok (.aload_n 0, 1) := by decide +kernel
theorem dX12_sells_184 : decode cX12_sells 184 = .ok (.getfield 9, 3) := by decide +kernel
theorem dX12_sells_187 : decode cX12_sells 187 = .ok (.sipush 188, 3) := by decide +kernel
theorem dX12_sells_190 : decode cX12_sells 190 = .ok (.iconst 5, 1) := by decide +kernel
theorem dX12_sells_191 : decode cX12_sells 191 = .ok (.iload_n 2, 1) := by decide +kernel
theorem dX12_sells_192 : decode cX12_sells 192 = .ok (.imul, 1) := by decide +kernel
theorem dX12_sells_193 : decode cX12_sells 193 = .ok (.iadd, 1) := by decide +kernel
theorem dX12_sells_194 : decode cX12_sells 194 = .ok (.iconst 4, 1) := by decide +kernel
theorem dX12_sells_195 : decode cX12_sells 195 = .ok (.iadd, 1) := by decide +kernel
theorem dX12_sells_196 : decode cX12_sells 196 = .ok (.iload 4, 2) := by decide +kernel
theorem dX12_sells_198 : decode cX12_sells 198 = .ok (.iastore, 1) := by decide +kernel
theorem dX12_sells_199 : decode cX12_sells 199 = .ok (.aload_n 0, 1) := by decide +kernel
theorem dX12_sells_200 : decode cX12_sells 200 = .ok (.getfield 9, 3) := by decide +kernel
theorem dX12_sells_203 : decode cX12_sells 203 = .ok (.iconst 0, 1) := by decide +kernel
theorem dX12_sells_204 : decode cX12_sells 204 = .ok (.dup2, 1) := by decide +kernel
theorem dX12_sells_205 : decode cX12_sells 205 = .ok (.iaload, 1) := by decide +kernel
theorem dX12_sells_206 : decode cX12_sells 206 = .ok (.iload 4, 2) := by decide +kernel
theorem dX12_sells_208 : decode cX12_sells 208 = .ok (.iadd, 1) := by decide +kernel
theorem dX12_sells_209 : decode cX12_sells 209 = .ok (.iastore, 1) := by decide +kernel
theorem dX12_sells_210 : decode cX12_sells 210 = .ok (.aload_n 0, 1) := by decide +kernel
theorem dX12_sells_211 : decode cX12_sells 211 = .ok (.getfield 9, 3) := by decide +kernel
theorem dX12_sells_214 : decode cX12_sells 214 = .ok (.bipush 9, 2) := by decide +kernel
theorem dX12_sells_216 : decode cX12_sells 216 = .ok (.dup2, 1) := by decide +kernel
theorem dX12_sells_217 : decode cX12_sells 217 = .ok (.iaload, 1) := by decide +kernel
theorem dX12_sells_218 : decode cX12_sells 218 = .ok (.iload 4, 2) := by decide +kernel
theorem dX12_sells_220 : decode cX12_sells 220 = .ok (.iadd, 1) := by decide +kernel
theorem dX12_sells_221 : decode cX12_sells 221 = .ok (.iastore, 1) := by decide +kernel
theorem dX12_sells_222 : decode cX12_sells 222 = .ok (.aload_n 0, 1) := by decide +kernel
theorem dX12_sells_223 : decode cX12_sells 223 = .ok (.getfield 9, 3) := by decide +kernel
theorem dX12_sells_226 : decode cX12_sells 226 = .ok (.iconst 0, 1) := by decide +kernel
theorem dX12_sells_227 : decode cX12_sells 227 = .ok (.iaload, 1) := by decide +kernel
theorem dX12_sells_228 : decode cX12_sells 228 = .ok (.ireturn, 1) := by decide +kernel
theorem dX12_sell_0 : decode cX12_sell 0 = .ok (.aload_n 0, 1) := by decide +kernel
theorem dX12_sell_1 : decode cX12_sell 1 = .ok (.invokevirtual 86, 3) := by decide +kernel
theorem dX12_sell_4 : decode cX12_sell 4 = .ok (.aload_n 0, 1) := by decide +kernel
theorem dX12_sell_5 : decode cX12_sell 5 = .ok (.aload_n 0, 1) := by decide +kernel
theorem dX12_sell_6 : decode cX12_sell 6 = .ok (.iload_n 1, 1) := by decide +kernel
theorem dX12_sell_7 : decode cX12_sell 7 = .ok (.iload_n 2, 1) := by decide +kernel
theorem dX12_sell_8 : decode cX12_sell 8 = .ok (.invokevirtual 180, 3) := by decide +kernel
theorem dX12_sell_11 : decode cX12_sell 11 = .ok (.invokevirtual 93, 3) := by decide +kernel
theorem dX12_sell_14 : decode cX12_sell 14 = .ok (.ireturn, 1) := by decide +kernel
theorem dX12_orderOf_0 : decode cX12_orderOf 0 = .ok (.aload_n 0, 1) := by decide +kernel
theorem dX12_orderOf_1 : decode cX12_orderOf 1 = .ok (.iload_n 1, 1) := by decide +kernel
theorem dX12_orderOf_2 : decode cX12_orderOf 2 = .ok (.invokevirtual 171, 3) := by decide +kernel
theorem dX12_orderOf_5 : decode cX12_orderOf 5 = .ok (.ifCond .ne 5, 3) := by decide +kernel
theorem dX12_orderOf_8 : decode cX12_orderOf 8 = .ok (.iconst (-1), 1) := by decide +kernel
theorem dX12_orderOf_9 : decode cX12_orderOf 9 = .ok (.ireturn, 1) := by decide +kernel
theorem dX12_orderOf_10 : decode cX12_orderOf 10 = .ok (.iload_n 2, 1) := by decide +kernel
theorem dX12_orderOf_11 : decode cX12_orderOf 11 = .ok (.iconst 0, 1) := by decide +kernel
theorem dX12_orderOf_12 : decode cX12_orderOf 12 = .ok (.iconst 4, 1) := by decide +kernel
theorem dX12_orderOf_13 : decode cX12_orderOf 13 = .ok (.invokestatic 74, 3) := by decide +kernel
theorem dX12_orderOf_16 : decode cX12_orderOf 16 = .ok (.ifCond .eq 12, 3) := by decide +kernel
theorem dX12_orderOf_19 : decode cX12_orderOf 19 = .ok (.aload_n 0, 1) := by decide +kernel
theorem dX12_orderOf_20 : decode cX12_orderOf 20 = .ok (.iload_n 1, 1) := by decide +kernel
theorem dX12_orderOf_21 : decode cX12_orderOf 21 = .ok (.iload_n 2, 1) := by decide +kernel
theorem dX12_orderOf_22 : decode cX12_orderOf 22 = .ok (.invokevirtual 162, 3) := by decide +kernel
theorem dX12_orderOf_25 : decode cX12_orderOf 25 = .ok (.goto 5, 3) := by decide +kernel
theorem dX12_orderOf_28 : decode cX12_orderOf 28 = .ok (.bipush (-2), 2) := by decide +kernel
theorem dX12_orderOf_30 : decode cX12_orderOf 30 = .ok (.ireturn, 1) := by decide +kernel
theorem dX12_fits_0 : decode cX12_fits 0 = .ok (.aload_n 0, 1) := by decide +kernel
theorem dX12_fits_1 : decode cX12_fits 1 = .ok (.iload_n 1, 1) := by decide +kernel
theorem dX12_fits_2 : decode cX12_fits 2 = .ok (.invokevirtual 129, 3) := by decide +kernel
theorem dX12_fits_5 : decode cX12_fits 5 = .ok (.ifCond .eq 20, 3) := by decide +kernel
theorem dX12_fits_8 : decode cX12_fits 8 = .ok (.aload_n 0, 1) := by decide +kernel
theorem dX12_fits_9 : decode cX12_fits 9 = .ok (.iload_n 2, 1) := by decide +kernel
theorem dX12_fits_10 : decode cX12_fits 10 = .ok (.invokevirtual 171, 3) := by decide +kernel
theorem dX12_fits_13 : decode cX12_fits 13 = .ok (.ifCond .eq 12, 3) := by decide +kernel
theorem dX12_fits_16 : decode cX12_fits 16 = .ok (.aload_n 0, 1) := by decide +kernel
theorem dX12_fits_17 : decode cX12_fits 17 = .ok (.iload_n 1, 1) := by decide +kernel
theorem dX12_fits_18 : decode cX12_fits 18 = .ok (.iload_n 2, 1) := by decide +kernel
theorem dX12_fits_19 : decode cX12_fits 19 = .ok (.invokevirtual 174, 3) := by decide +kernel
theorem dX12_fits_22 : decode cX12_fits 22 = .ok (.goto 4, 3) := by decide +kernel
theorem dX12_fits_25 : decode cX12_fits 25 = .ok (.iconst (-1), 1) := by decide +kernel
theorem dX12_fits_26 : decode cX12_fits 26 = .ok (.ireturn, 1) := by decide +kernel
theorem dX12_isGood_0 : decode cX12_isGood 0 = .ok (.aload_n 0, 1) := by decide +kernel
theorem dX12_isGood_1 : decode cX12_isGood 1 = .ok (.iload_n 1, 1) := by decide +kernel
theorem dX12_isGood_2 : decode cX12_isGood 2 = .ok (.invokevirtual 132, 3) := by decide +kernel
theorem dX12_isGood_5 : decode cX12_isGood 5 = .ok (.ifCond .ne 16, 3) := by decide +kernel
theorem dX12_isGood_8 : decode cX12_isGood 8 = .ok (.aload_n 0, 1) := by decide +kernel
theorem dX12_isGood_9 : decode cX12_isGood 9 = .ok (.iload_n 1, 1) := by decide +kernel
theorem dX12_isGood_10 : decode cX12_isGood 10 = .ok (.iload_n 2, 1) := by decide +kernel
theorem dX12_isGood_11 : decode cX12_isGood 11 = .ok (.invokevirtual 174, 3) := by decide +kernel
theorem dX12_isGood_14 : decode cX12_isGood 14 = .ok (.ifCond .ne 7, 3) := by decide +kernel
theorem dX12_isGood_17 : decode cX12_isGood 17 = .ok (.iconst 1, 1) := by decide +kernel
theorem dX12_isGood_18 : decode cX12_isGood 18 = .ok (.goto 4, 3) := by decide +kernel
theorem dX12_isGood_21 : decode cX12_isGood 21 = .ok (.iconst 0, 1) := by decide +kernel
theorem dX12_isGood_22 : decode cX12_isGood 22 = .ok (.ireturn, 1) := by decide +kernel
theorem dX12_goodFor_0 : decode cX12_goodFor 0 = .ok (.aload_n 0, 1) := by decide +kernel
theorem dX12_goodFor_1 : decode cX12_goodFor 1 = .ok (.iload_n 1, 1) := by decide +kernel
theorem dX12_goodFor_2 : decode cX12_goodFor 2 = .ok (.invokevirtual 171, 3) := by decide +kernel
theorem dX12_goodFor_5 : decode cX12_goodFor 5 = .ok (.ifCond .ne 5, 3) := by decide +kernel
theorem dX12_goodFor_8 : decode cX12_goodFor 8 = .ok (.iconst (-1), 1) := by decide +kernel
theorem dX12_goodFor_9 : decode cX12_goodFor 9 = .ok (.ireturn, 1) := by decide +kernel
theorem dX12_goodFor_10 : decode cX12_goodFor 10 = .ok (.bipush (-4), 2) := by decide +kernel
theorem dX12_goodFor_12 : decode cX12_goodFor 12 = .ok (.istore_n 2, 1) := by decide +kernel
theorem dX12_goodFor_13 : decode cX12_goodFor 13 = .ok (.iconst 0, 1) := by decide +kernel
theorem dX12_goodFor_14 : decode cX12_goodFor 14 = .ok (.istore_n 3, 1) := by decide +kernel
theorem dX12_goodFor_15 : decode cX12_goodFor 15 = .ok (.iload_n 3, 1) := by decide +kernel
theorem dX12_goodFor_16 : decode cX12_goodFor 16 = .ok (.aload_n 0, 1) := by decide +kernel
theorem dX12_goodFor_17 : decode cX12_goodFor 17 = .ok (.getfield 9, 3) := by decide +kernel
theorem dX12_goodFor_20 : decode cX12_goodFor 20 = .ok (.iconst 3, 1) := by decide +kernel
theorem dX12_goodFor_21 : decode cX12_goodFor 21 = .ok (.iaload, 1) := by decide +kernel
theorem dX12_goodFor_22 : decode cX12_goodFor 22 = .ok (.if_icmp .ge 30, 3) := by decide +kernel
theorem dX12_goodFor_25 : decode cX12_goodFor 25 = .ok (.iload_n 2, 1) := by decide +kernel
theorem dX12_goodFor_26 : decode cX12_goodFor 26 = .ok (.bipush (-4), 2) := by decide +kernel
theorem dX12_goodFor_28 : decode cX12_goodFor 28 = .ok (.if_icmp .ne 16, 3) := by decide +kernel
theorem dX12_goodFor_31 : decode cX12_goodFor 31 = .ok (.aload_n 0, 1) := by decide +kernel
theorem dX12_goodFor_32 : decode cX12_goodFor 32 = .ok (.iload_n 3, 1) := by decide +kernel
theorem dX12_goodFor_33 : decode cX12_goodFor 33 = .ok (.iload_n 1, 1) := by decide +kernel
theorem dX12_goodFor_34 : decode cX12_goodFor 34 = .ok (.invokevirtual 183, 3) := by decide +kernel
theorem dX12_goodFor_37 : decode cX12_goodFor 37 = .ok (.ifCond .eq 7, 3) := by decide +kernel
theorem dX12_goodFor_40 : decode cX12_goodFor 40 = .ok (.iload_n 3, 1) := by decide +kernel
theorem dX12_goodFor_41 : decode cX12_goodFor 41 = .ok (.goto 4, 3) := by decide +kernel
theorem dX12_goodFor_44 : decode cX12_goodFor 44 = .ok (.iload_n 2, 1) := by decide +kernel
theorem dX12_goodFor_45 : decode cX12_goodFor 45 = .ok (.istore_n 2, 1) := by decide +kernel
theorem dX12_goodFor_46 : decode cX12_goodFor 46 = .ok (.iinc 3 1, 3) := by decide +kernel
theorem dX12_goodFor_49 : decode cX12_goodFor 49 = .ok (.goto (-34), 3) := by decide +kernel
theorem dX12_goodFor_52 : decode cX12_goodFor 52 = .ok (.iload_n 2, 1) := by decide +kernel
theorem dX12_goodFor_53 : decode cX12_goodFor 53 = .ok (.ireturn, 1) := by decide +kernel
theorem dX12_bits_0 : decode cX12_bits 0 = .ok (.iconst 0, 1) := by decide +kernel
theorem dX12_bits_1 : decode cX12_bits 1 = .ok (.istore_n 1, 1) := by decide +kernel
theorem dX12_bits_2 : decode cX12_bits 2 = .ok (.iconst 0, 1) := by decide +kernel
theorem dX12_bits_3 : decode cX12_bits 3 = .ok (.istore_n 2, 1) := by decide +kernel
theorem dX12_bits_4 : decode cX12_bits 4 = .ok (.iload_n 2, 1) := by decide +kernel
theorem dX12_bits_5 : decode cX12_bits 5 = .ok (.bipush 8, 2) := by decide +kernel
theorem dX12_bits_7 : decode cX12_bits 7 = .ok (.if_icmp .ge 17, 3) := by decide +kernel
theorem dX12_bits_10 : decode cX12_bits 10 = .ok (.iload_n 1, 1) := by decide +kernel
theorem dX12_bits_11 : decode cX12_bits 11 = .ok (.iload_n 0, 1) := by decide +kernel
theorem dX12_bits_12 : decode cX12_bits 12 = .ok (.iload_n 2, 1) := by decide +kernel
theorem dX12_bits_13 : decode cX12_bits 13 = .ok (.ishr, 1) := by decide +kernel
theorem dX12_bits_14 : decode cX12_bits 14 = .ok (.iconst 1, 1) := by decide +kernel
theorem dX12_bits_15 : decode cX12_bits 15 = .ok (.iand, 1) := by decide +kernel
theorem dX12_bits_16 : decode cX12_bits 16 = .ok (.iadd, 1) := by decide +kernel
theorem dX12_bits_17 : decode cX12_bits 17 = .ok (.istore_n 1, 1) := by decide +kernel
theorem dX12_bits_18 : decode cX12_bits 18 = .ok (.iinc 2 1, 3) := by decide +kernel
theorem dX12_bits_21 : decode cX12_bits 21 = .ok (.goto (-17), 3) := by decide +kernel
theorem dX12_bits_24 : decode cX12_bits 24 = .ok (.iload_n 1, 1) := by decide +kernel
theorem dX12_bits_25 : decode cX12_bits 25 = .ok (.ireturn, 1) := by decide +kernel
theorem dX12_filled_0 : decode cX12_filled 0 = .ok (.iconst 0, 1) := by decide +kernel
theorem dX12_filled_1 : decode cX12_filled 1 = .ok (.istore_n 1, 1) := by decide +kernel
theorem dX12_filled_2 : decode cX12_filled 2 = .ok (.iload_n 1, 1) := by decide +kernel
theorem dX12_filled_3 : decode cX12_filled 3 = .ok (.sipush 256, 3) := by decide +kernel
theorem dX12_filled_6 : decode cX12_filled 6 = .ok (.if_icmp .ge 24, 3) := by decide +kernel
theorem dX12_filled_9 : decode cX12_filled 9 = .ok (.aload_n 0, 1) := by decide +kernel
theorem dX12_filled_10 : decode cX12_filled 10 = .ok (.getfield 38, 3) := by decide +kernel
theorem dX12_filled_13 : decode cX12_filled 13 = .ok (.iload_n 1, 1) := by decide +kernel
theorem dX12_filled_14 : decode cX12_filled 14 = .ok (.iload_n 1, 1) := by decide +kernel
theorem dX12_filled_15 : decode cX12_filled 15 = .ok (.ifCond .ne 7, 3) := by decide +kernel
theorem dX12_filled_18 : decode cX12_filled 18 = .ok (.iconst 1, 1) := by decide +kernel
theorem dX12_filled_19 : decode cX12_filled 19 = .ok (.goto 4, 3) := by decide +kernel
theorem dX12_filled_22 : decode cX12_filled 22 = .ok (.iconst 0, 1) := by decide +kernel
theorem dX12_filled_23 : decode cX12_filled 23 = .ok (.bastore, 1) := by decide +kernel
theorem dX12_filled_24 : decode cX12_filled 24 = .ok (.iinc 1 1, 3) := by decide +kernel
theorem dX12_filled_27 : decode cX12_filled 27 = .ok (.goto (-25), 3) := by decide +kernel
theorem dX12_filled_30 : decode cX12_filled 30 = .ok (.iconst 0, 1) := by decide +kernel
theorem dX12_filled_31 : decode cX12_filled 31 = .ok (.istore_n 1, 1) := by decide +kernel
theorem dX12_filled_32 : decode cX12_filled 32 = .ok (.iload_n 1, 1) := by decide +kernel
theorem dX12_filled_33 : decode cX12_filled 33 = .ok (.aload_n 0, 1) := by decide +kernel
theorem dX12_filled_34 : decode cX12_filled 34 = .ok (.getfield 9, 3) := by decide +kernel
theorem dX12_filled_37 : decode cX12_filled 37 = .ok (.iconst 3, 1) := by decide +kernel
theorem dX12_filled_38 : decode cX12_filled 38 = .ok (.iaload, 1) := by decide +kernel
theorem dX12_filled_39 : decode cX12_filled 39 = .ok (.if_icmp .ge 105, 3) := by decide +kernel
theorem dX12_filled_42 : decode cX12_filled 42 = .ok (.sipush 255, 3) := by decide +kernel
theorem dX12_filled_45 : decode cX12_filled 45 = .ok (.istore_n 2, 1) := by decide +kernel
theorem dX12_filled_46 : decode cX12_filled 46 = .ok (.iload_n 2, 1) := by decide +kernel
theorem dX12_filled_47 : decode cX12_filled 47 = .ok (.ifCond .lt 91, 3) := by decide +kernel
theorem dX12_filled_50 : decode cX12_filled 50 = .ok (.iconst 0, 1) := by decide +kernel
theorem dX12_filled_51 : decode cX12_filled 51 = .ok (.istore_n 3, 1) := by decide +kernel
theorem dX12_filled_52 : decode cX12_filled 52 = .ok (.iload_n 3, 1) := by decide +kernel
theorem dX12_filled_53 : decode cX12_filled 53 = .ok (.aload_n 0, 1) := by decide +kernel
theorem dX12_filled_54 : decode cX12_filled 54 = .ok (.getfield 9, 3) := by decide +kernel
theorem dX12_filled_57 : decode cX12_filled 57 = .ok (.iconst 4, 1) := by decide +kernel
theorem dX12_filled_58 : decode cX12_filled 58 = .ok (.iaload, 1) := by decide +kernel
theorem dX12_filled_59 : decode cX12_filled 59 = .ok (.if_icmp .ge 73, 3) := by decide +kernel
theorem dX12_filled_62 : decode cX12_filled 62 = .ok (.aload_n 0, 1) := by decide +kernel
theorem dX12_filled_63 : decode cX12_filled 63 = .ok (.getfield 38, 3) := by decide +kernel
theorem dX12_filled_66 : decode cX12_filled 66 = .ok (.iload_n 2, 1) := by decide +kernel
theorem dX12_filled_67 : decode cX12_filled 67 = .ok (.baload, 1) := by decide +kernel
theorem dX12_filled_68 : decode cX12_filled 68 = .ok (.ifCond .eq 64, 3) := by decide +kernel
theorem dX12_filled_71 : decode cX12_filled 71 = .ok (.iload_n 2, 1) := by decide +kernel
theorem dX12_filled_72 : decode cX12_filled 72 = .ok (.iload_n 3, 1) := by decide +kernel
theorem dX12_filled_73 : decode cX12_filled 73 = .ok (.ishr, 1) := by decide +kernel
theorem dX12_filled_74 : decode cX12_filled 74 = .ok (.iconst 1, 1) := by decide +kernel
theorem dX12_filled_75 : decode cX12_filled 75 = .ok (.iand, 1) := by decide +kernel
theorem dX12_filled_76 : decode cX12_filled 76 = .ok (.ifCond .ne 27, 3) := by decide +kernel
theorem dX12_filled_79 : decode cX12_filled 79 = .ok (.aload_n 0, 1) := by decide +kernel
theorem dX12_filled_80 : decode cX12_filled 80 = .ok (.iload_n 3, 1) := by decide +kernel
theorem dX12_filled_81 : decode cX12_filled 81 = .ok (.iconst 3, 1) := by decide +kernel
theorem dX12_filled_82 : decode cX12_filled 82 = .ok (.invokevirtual 162, 3) := by decide +kernel
theorem dX12_filled_85 : decode cX12_filled 85 = .ok (.bipush (-4), 2) := by decide +kernel
theorem dX12_filled_87 : decode cX12_filled 87 = .ok (.if_icmp .ne 16, 3) := by decide +kernel
theorem dX12_filled_90 : decode cX12_filled 90 = .ok (.aload_n 0, 1) := by decide +kernel
theorem dX12_filled_91 : decode cX12_filled 91 = .ok (.iload_n 1, 1) := by decide +kernel
theorem dX12_filled_92 : decode cX12_filled 92 = .ok (.iload_n 3, 1) := by decide +kernel
theorem dX12_filled_93 : decode cX12_filled 93 = .ok (.invokevirtual 183, 3) := by decide +kernel
theorem dX12_filled_96 : decode cX12_filled 96 = .ok (.ifCond .eq 7, 3) := by decide +kernel
theorem dX12_filled_99 : decode cX12_filled 99 = .ok (.iconst 1, 1) := by decide +kernel
theorem dX12_filled_100 : decode cX12_filled 100 = .ok (.goto 4, 3) := by decide +kernel
theorem dX12_filled_103 : decode cX12_filled 103 = .ok (.iconst 0, 1) := by decide +kernel
theorem dX12_filled_104 : decode cX12_filled 104 = .ok (.istore 4, 2) := by decide +kernel
theorem dX12_filled_106 : decode cX12_filled 106 = .ok (.aload_n 0, 1) := by decide +kernel
theorem dX12_filled_107 : decode cX12_filled 107 = .ok (.getfield 38, 3) := by decide +kernel
theorem dX12_filled_110 : decode cX12_filled 110 = .ok (.iload_n 2, 1) := by decide +kernel
theorem dX12_filled_111 : decode cX12_filled 111 = .ok (.iload 4, 2) := by decide +kernel
theorem dX12_filled_113 : decode cX12_filled 113 = .ok (.ifCond .eq 9, 3) := by decide +kernel
theorem dX12_filled_116 : decode cX12_filled 116 = .ok (.iconst 1, 1) := by decide +kernel
theorem dX12_filled_117 : decode cX12_filled 117 = .ok (.iload_n 3, 1) := by decide +kernel
theorem dX12_filled_118 : decode cX12_filled 118 = .ok (.ishl, 1) := by decide +kernel
theorem dX12_filled_119 : decode cX12_filled 119 = .ok (.goto 4, 3) := by decide +kernel
theorem dX12_filled_122 : decode cX12_filled 122 = .ok (.iconst 0, 1) := by decide +kernel
theorem dX12_filled_123 : decode cX12_filled 123 = .ok (.ior, 1) := by decide +kernel
theorem dX12_filled_124 : decode cX12_filled 124 = .ok (.iconst 1, 1) := by decide +kernel
theorem dX12_filled_125 : decode cX12_filled 125 = .ok (.bastore, 1) := by decide +kernel
theorem dX12_filled_126 : decode cX12_filled 126 = .ok (.iinc 3 1, 3) := by decide +kernel
theorem dX12_filled_129 : decode cX12_filled 129 = .ok (.goto (-77), 3) := by decide +kernel
theorem dX12_filled_132 : decode cX12_filled 132 = .ok (.iinc 2 (-1), 3) := by decide +kernel
theorem dX12_filled_135 : decode cX12_filled 135 = .ok (.goto (-89), 3) := by decide +kernel
theorem dX12_filled_138 : decode cX12_filled 138 = .ok (.iinc 1 1, 3) := by decide +kernel
theorem dX12_filled_141 : decode cX12_filled 141 = .ok (.goto (-109), 3) := by decide +kernel
theorem dX12_filled_144 : decode cX12_filled 144 = .ok (.iconst 0, 1) := by decide +kernel
theorem dX12_filled_145 : decode cX12_filled 145 = .ok (.istore_n 1, 1) := by decide +kernel
theorem dX12_filled_146 : decode cX12_filled 146 = .ok (.iconst 0, 1) := by decide +kernel
theorem dX12_filled_147 : decode cX12_filled 147 = .ok (.istore_n 2, 1) := by decide +kernel
theorem dX12_filled_148 : decode cX12_filled 148 = .ok (.iload_n 2, 1) := by decide +kernel
theorem dX12_filled_149 : decode cX12_filled 149 = .ok (.sipush 256, 3) := by decide +kernel
theorem dX12_filled_152 : decode cX12_filled 152 = .ok (.if_icmp .ge 31, 3) := by decide +kernel
theorem dX12_filled_155 : decode cX12_filled 155 = .ok (.aload_n 0, 1) := by decide +kernel
theorem dX12_filled_156 : decode cX12_filled 156 = .ok (.getfield 38, 3) := by decide +kernel
theorem dX12_filled_159 : decode cX12_filled 159 = .ok (.iload_n 2, 1) := by decide +kernel
theorem dX12_filled_160 : decode cX12_filled 160 = .ok (.baload, 1) := by decide +kernel
theorem dX12_filled_161 : decode cX12_filled 161 = .ok (.ifCond .eq 14, 3) := by decide +kernel
theorem dX12_filled_164 : decode cX12_filled 164 = .ok (.iload_n 1, 1) := by decide +kernel
theorem dX12_filled_165 : decode cX12_filled 165 = .ok (.iload_n 2, 1) := by decide +kernel
theorem dX12_filled_166 : decode cX12_filled 166 = .ok (.invokestatic 187, 3) := by decide +kernel
theorem dX12_filled_169 : decode cX12_filled 169 = .ok (.invokestatic 108, 3) := by decide +kernel
theorem dX12_filled_172 : decode cX12_filled 172 = .ok (.goto 4, 3) := by decide +kernel
theorem dX12_filled_175 : decode cX12_filled 175 = .ok (.iload_n 1, 1) := by decide +kernel
theorem dX12_filled_176 : decode cX12_filled 176 = .ok (.istore_n 1, 1) := by decide +kernel
theorem dX12_filled_177 : decode cX12_filled 177 = .ok (.iinc 2 1, 3) := by decide +kernel
theorem dX12_filled_180 : decode cX12_filled 180 = .ok (.goto (-32), 3) := by decide +kernel
theorem dX12_filled_183 : decode cX12_filled 183 = .ok (.iload_n 1, 1) := by decide +kernel
theorem dX12_filled_184 : decode cX12_filled 184 = .ok (.ireturn, 1) := by decide +kernel
theorem dX12_worth_0 : decode cX12_worth 0 = .ok (.iconst 0, 1) := by decide +kernel
theorem dX12_worth_1 : decode cX12_worth 1 = .ok (.istore_n 1, 1) := by decide +kernel
theorem dX12_worth_2 : decode cX12_worth 2 = .ok (.iconst 0, 1) := by decide +kernel
theorem dX12_worth_3 : decode cX12_worth 3 = .ok (.istore_n 2, 1) := by decide +kernel
theorem dX12_worth_4 : decode cX12_worth 4 = .ok (.iconst 0, 1) := by decide +kernel
theorem dX12_worth_5 : decode cX12_worth 5 = .ok (.istore_n 3, 1) := by decide +kernel
theorem dX12_worth_6 : decode cX12_worth 6 = .ok (.iload_n 3, 1) := by decide +kernel
theorem dX12_worth_7 : decode cX12_worth 7 = .ok (.aload_n 0, 1) := by decide +kernel
theorem dX12_worth_8 : decode cX12_worth 8 = .ok (.getfield 9, 3) := by decide +kernel
theorem dX12_worth_11 : decode cX12_worth 11 = .ok (.iconst 4, 1) := by decide +kernel
theorem dX12_worth_12 : decode cX12_worth 12 = .ok (.iaload, 1) := by decide +kernel
theorem dX12_worth_13 : decode cX12_worth 13 = .ok (.if_icmp .ge 114, 3) := by decide +kernel
theorem dX12_worth_16 : decode cX12_worth 16 = .ok (.iconst (-1), 1) := by decide +kernel
theorem dX12_worth_17 : decode cX12_worth 17 = .ok (.istore 4, 2) := by decide +kernel
theorem dX12_worth_19 : decode cX12_worth 19 = .ok (.iconst 0, 1) := by decide +kernel
theorem dX12_worth_20 : decode cX12_worth 20 = .ok (.istore 5, 2) := by decide +kernel
theorem dX12_worth_22 : decode cX12_worth 22 = .ok (.iload 5, 2) := by decide +kernel
theorem dX12_worth_24 : decode cX12_worth 24 = .ok (.aload_n 0, 1) := by decide +kernel
theorem dX12_worth_25 : decode cX12_worth 25 = .ok (.getfield 9, 3) := by decide +kernel
theorem dX12_worth_28 : decode cX12_worth 28 = .ok (.iconst 3, 1) := by decide +kernel
theorem dX12_worth_29 : decode cX12_worth 29 = .ok (.iaload, 1) := by decide +kernel
theorem dX12_worth_30 : decode cX12_worth 30 = .ok (.if_icmp .ge 54, 3) := by decide +kernel
theorem dX12_worth_33 : decode cX12_worth 33 = .ok (.aload_n 0, 1) := by decide +kernel
theorem dX12_worth_34 : decode cX12_worth 34 = .ok (.iload_n 3, 1) := by decide +kernel
theorem dX12_worth_35 : decode cX12_worth 35 = .ok (.iconst 3, 1) := by decide +kernel
theorem dX12_worth_36 : decode cX12_worth 36 = .ok (.invokevirtual 162, 3) := by decide +kernel
theorem dX12_worth_39 : decode cX12_worth 39 = .ok (.bipush (-4), 2) := by decide +kernel
theorem dX12_worth_41 : decode cX12_worth 41 = .ok (.if_icmp .ne 43, 3) := by decide +kernel
theorem dX12_worth_44 : decode cX12_worth 44 = .ok (.iload 4, 2) := by decide +kernel
theorem dX12_worth_46 : decode cX12_worth 46 = .ok (.iconst (-1), 1) := by decide +kernel
theorem dX12_worth_47 : decode cX12_worth 47 = .ok (.if_icmp .ne 27, 3) := by decide +kernel
theorem dX12_worth_50 : decode cX12_worth 50 = .ok (.iload_n 1, 1) := by decide +kernel
theorem dX12_worth_51 : decode cX12_worth 51 = .ok (.iload 5, 2) := by decide +kernel
theorem dX12_worth_53 : decode cX12_worth 53 = .ok (.ishr, 1) := by decide +kernel
theorem dX12_worth_54 : decode cX12_worth 54 = .ok (.iconst 1, 1) := by decide +kernel
theorem dX12_worth_55 : decode cX12_worth 55 = .ok (.iand, 1) := by decide +kernel
theorem dX12_worth_56 : decode cX12_worth 56 = .ok (.ifCond .ne 18, 3) := by decide +kernel
theorem dX12_worth_59 : decode cX12_worth 59 = .ok (.aload_n 0, 1) := by decide +kernel
theorem dX12_worth_60 : decode cX12_worth 60 = .ok (.iload 5, 2) := by decide +kernel
theorem dX12_worth_62 : decode cX12_worth 62 = .ok (.iload_n 3, 1) := by decide +kernel
theorem dX12_worth_63 : decode cX12_worth 63 = .ok (.invokevirtual 183, 3) := by decide +kernel
theorem dX12_worth_66 : decode cX12_worth 66 = .ok (.ifCond .eq 8, 3) := by decide +kernel
theorem dX12_worth_69 : decode cX12_worth 69 = .ok (.iload 5, 2) := by decide +kernel
theorem dX12_worth_71 : decode cX12_worth 71 = .ok (.goto 5, 3) := by decide +kernel
theorem dX12_worth_74 : decode cX12_worth 74 = .ok (.iload 4, 2) := by decide +kernel
theorem dX12_worth_76 : decode cX12_worth 76 = .ok (.istore 4, 2) := by decide +kernel
theorem dX12_worth_78 : decode cX12_worth 78 = .ok (.iinc 5 1, 3) := by decide +kernel
theorem dX12_worth_81 : decode cX12_worth 81 = .ok (.goto (-59), 3) := by decide +kernel
theorem dX12_worth_84 : decode cX12_worth 84 = .ok (.iload_n 1, 1) := by decide +kernel
theorem dX12_worth_85 : decode cX12_worth 85 = .ok (.iload 4, 2) := by decide +kernel
theorem dX12_worth_87 : decode cX12_worth 87 = .ok (.iconst (-1), 1) := by decide +kernel
theorem dX12_worth_88 : decode cX12_worth 88 = .ok (.if_icmp .ne 7, 3) := by decide +kernel
theorem dX12_worth_91 : decode cX12_worth 91 = .ok (.iconst 0, 1) := by decide +kernel
theorem dX12_worth_92 : decode cX12_worth 92 = .ok (.goto 7, 3) := by decide +kernel
theorem dX12_worth_95 : decode cX12_worth 95 = .ok (.iconst 1, 1) := by decide +kernel
theorem dX12_worth_96 : decode cX12_worth 96 = .ok (.iload 4, 2) := by decide +kernel
theorem dX12_worth_98 : decode cX12_worth 98 = .ok (.ishl, 1) := by decide +kernel
theorem dX12_worth_99 : decode cX12_worth 99 = .ok (.ior, 1) := by decide +kernel
theorem dX12_worth_100 : decode cX12_worth 100 = .ok (.istore_n 1, 1) := by decide +kernel
theorem dX12_worth_101 : decode cX12_worth 101 = .ok (.iload_n 2, 1) := by decide +kernel
theorem dX12_worth_102 : decode cX12_worth 102 = .ok (.iload 4, 2) := by decide +kernel
theorem dX12_worth_104 : decode cX12_worth 104 = .ok (.iconst (-1), 1) := by decide +kernel
theorem dX12_worth_105 : decode cX12_worth 105 = .ok (.if_icmp .ne 7, 3) := by decide +kernel
theorem dX12_worth_108 : decode cX12_worth 108 = .ok (.iconst 0, 1) := by decide +kernel
theorem dX12_worth_109 : decode cX12_worth 109 = .ok (.goto 10, 3) := by decide +kernel
theorem dX12_worth_112 : decode cX12_worth 112 = .ok (.aload_n 0, 1) := by decide +kernel
theorem dX12_worth_113 : decode cX12_worth 113 = .ok (.iload 4, 2) := by decide +kernel
theorem dX12_worth_115 : decode cX12_worth 115 = .ok (.iload_n 3, 1) := by decide +kernel
theorem dX12_worth_116 : decode cX12_worth 116 = .ok (.invokevirtual 177, 3) := by decide +kernel
theorem dX12_worth_119 : decode cX12_worth 119 = .ok (.iadd, 1) := by decide +kernel
theorem dX12_worth_120 : decode cX12_worth 120 = .ok (.istore_n 2, 1) := by decide +kernel
theorem dX12_worth_121 : decode cX12_worth 121 = .ok (.iinc 3 1, 3) := by decide +kernel
theorem dX12_worth_124 : decode cX12_worth 124 = .ok (.goto (-118), 3) := by decide +kernel
theorem dX12_worth_127 : decode cX12_worth 127 = .ok (.iload_n 2, 1) := by decide +kernel
theorem dX12_worth_128 : decode cX12_worth 128 = .ok (.ireturn, 1) := by decide +kernel
theorem dX12_soundBy_0 : decode cX12_soundBy 0 = .ok (.iload_n 0, 1) := by decide +kernel
theorem dX12_soundBy_1 : decode cX12_soundBy 1 = .ok (.iload_n 1, 1) := by decide +kernel
theorem dX12_soundBy_2 : decode cX12_soundBy 2 = .ok (.iload_n 2, 1) := by decide +kernel
theorem dX12_soundBy_3 : decode cX12_soundBy 3 = .ok (.invokestatic 113, 3) := by decide +kernel
theorem dX12_soundBy_6 : decode cX12_soundBy 6 = .ok (.istore 4, 2) := by decide +kernel
theorem dX12_soundBy_8 : decode cX12_soundBy 8 = .ok (.iload_n 0, 1) := by decide +kernel
theorem dX12_soundBy_9 : decode cX12_soundBy 9 = .ok (.ifCond .ne 15, 3) := by decide +kernel
theorem dX12_soundBy_12 : decode cX12_soundBy 12 = .ok (.bipush 30, 2) := by decide +kernel
theorem dX12_soundBy_14 : decode cX12_soundBy 14 = .ok (.iconst 5, 1) := by decide +kernel
theorem dX12_soundBy_15 : decode cX12_soundBy 15 = .ok (.iload 4, 2) := by decide +kernel
theorem dX12_soundBy_17 : decode cX12_soundBy 17 = .ok (.imul, 1) := by decide +kernel
theorem dX12_soundBy_18 : decode cX12_soundBy 18 = .ok (.iadd, 1) := by decide +kernel
theorem dX12_soundBy_19 : decode cX12_soundBy 19 = .ok (.iload_n 3, 1) := by decide +kernel
theorem dX12_soundBy_20 : decode cX12_soundBy 20 = .ok (.isub, 1) := by decide +kernel
theorem dX12_soundBy_21 : decode cX12_soundBy 21 = .ok (.goto 33, 3) := by decide +kernel
theorem dX12_soundBy_24 : decode cX12_soundBy 24 = .ok (.iload_n 0, 1) := by decide +kernel
theorem dX12_soundBy_25 : decode cX12_soundBy 25 = .ok (.iconst 1, 1) := by decide +kernel
theorem dX12_soundBy_26 : decode cX12_soundBy 26 = .ok (.if_icmp .ne 17, 3) := by decide +kernel
theorem dX12_soundBy_29 : decode cX12_soundBy 29 = .ok (.bipush 50, 2) := by decide +kernel
theorem dX12_soundBy_31 : decode cX12_soundBy 31 = .ok (.iconst 4, 1) := by decide +kernel
theorem dX12_soundBy_32 : decode cX12_soundBy 32 = .ok (.iload 4, 2) := by decide +kernel
theorem dX12_soundBy_34 : decode cX12_soundBy 34 = .ok (.imul, 1) := by decide +kernel
theorem dX12_soundBy_35 : decode cX12_soundBy 35 = .ok (.iadd, 1) := by decide +kernel
theorem dX12_soundBy_36 : decode cX12_soundBy 36 = .ok (.iconst 2, 1) := by decide +kernel
theorem dX12_soundBy_37 : decode cX12_soundBy 37 = .ok (.iload_n 3, 1) := by decide +kernel
theorem dX12_soundBy_38 : decode cX12_soundBy 38 = .ok (.imul, 1) := by decide +kernel
theorem dX12_soundBy_39 : decode cX12_soundBy 39 = .ok (.isub, 1) := by decide +kernel
theorem dX12_soundBy_40 : decode cX12_soundBy 40 = .ok (.goto 14, 3) := by decide +kernel
theorem dX12_soundBy_43 : decode cX12_soundBy 43 = .ok (.bipush 10, 2) := by decide +kernel
theorem dX12_soundBy_45 : decode cX12_soundBy 45 = .ok (.iconst 3, 1) := by decide +kernel
theorem dX12_soundBy_46 : decode cX12_soundBy 46 = .ok (.iload 4, 2) := by decide +kernel
theorem dX12_soundBy_48 : decode cX12_soundBy 48 = .ok (.imul, 1) := by decide +kernel
theorem dX12_soundBy_49 : decode cX12_soundBy 49 = .ok (.iadd, 1) := by decide +kernel
theorem dX12_soundBy_50 : decode cX12_soundBy 50 = .ok (.iload_n 3, 1) := by decide +kernel
theorem dX12_soundBy_51 : decode cX12_soundBy 51 = .ok (.iconst 2, 1) := by decide +kernel
theorem dX12_soundBy_52 : decode cX12_soundBy 52 = .ok (.idiv, 1) := by decide +kernel
theorem dX12_soundBy_53 : decode cX12_soundBy 53 = .ok (.isub, 1) := by decide +kernel
theorem dX12_soundBy_54 : decode cX12_soundBy 54 = .ok (.istore 5, 2) := by decide +kernel
theorem dX12_soundBy_56 : decode cX12_soundBy 56 = .ok (.iload 4, 2) := by decide +kernel
theorem dX12_soundBy_58 : decode cX12_soundBy 58 = .ok (.ifCond .ne 7, 3) := by decide +kernel
theorem dX12_soundBy_61 : decode cX12_soundBy 61 = .ok (.iconst 0, 1) := by decide +kernel
theorem dX12_soundBy_62 : decode cX12_soundBy 62 = .ok (.goto 22, 3) := by decide +kernel
theorem dX12_soundBy_65 : decode cX12_soundBy 65 = .ok (.iload_n 2, 1) := by decide +kernel
theorem dX12_soundBy_66 : decode cX12_soundBy 66 = .ok (.iconst 2, 1) := by decide +kernel
theorem dX12_soundBy_67 : decode cX12_soundBy 67 = .ok (.iload_n 0, 1) := by decide +kernel
theorem dX12_soundBy_68 : decode cX12_soundBy 68 = .ok (.invokestatic 105, 3) := by decide +kernel
theorem dX12_soundBy_71 : decode cX12_soundBy 71 = .ok (.imul, 1) := by decide +kernel
theorem dX12_soundBy_72 : decode cX12_soundBy 72 = .ok (.if_icmp .lt 10, 3) := by decide +kernel
theorem dX12_soundBy_75 : decode cX12_soundBy 75 = .ok (.iload 5, 2) := by decide +kernel
theorem dX12_soundBy_77 : decode cX12_soundBy 77 = .ok (.iconst 2, 1) := by decide +kernel
theorem dX12_soundBy_78 : decode cX12_soundBy 78 = .ok (.iadd, 1) := by decide +kernel
theorem dX12_soundBy_79 : decode cX12_soundBy 79 = .ok (.goto 5, 3) := by decide +kernel
theorem dX12_soundBy_82 : decode cX12_soundBy 82 = .ok (.iload 5, 2) := by decide +kernel
theorem dX12_soundBy_84 : decode cX12_soundBy 84 = .ok (.ireturn, 1) := by decide +kernel
theorem dX12_soundOf_0 : decode cX12_soundOf 0 = .ok (.aload_n 0, 1) := by decide +kernel
theorem dX12_soundOf_1 : decode cX12_soundOf 1 = .ok (.iload_n 1, 1) := by decide +kernel
theorem dX12_soundOf_2 : decode cX12_soundOf 2 = .ok (.iconst 0, 1) := by decide +kernel
theorem dX12_soundOf_3 : decode cX12_soundOf 3 = .ok (.invokevirtual 101, 3) := by decide +kernel
theorem dX12_soundOf_6 : decode cX12_soundOf 6 = .ok (.aload_n 0, 1) := by decide +kernel
theorem dX12_soundOf_7 : decode cX12_soundOf 7 = .ok (.iload_n 1, 1) := by decide +kernel
theorem dX12_soundOf_8 : decode cX12_soundOf 8 = .ok (.iconst 1, 1) := by decide +kernel
theorem dX12_soundOf_9 : decode cX12_soundOf 9 = .ok (.invokevirtual 101, 3) := by decide +kernel
theorem dX12_soundOf_12 : decode cX12_soundOf 12 = .ok (.aload_n 0, 1) := by decide +kernel
theorem dX12_soundOf_13 : decode cX12_soundOf 13 = .ok (.iload_n 1, 1) := by decide +kernel
theorem dX12_soundOf_14 : decode cX12_soundOf 14 = .ok (.iconst 2, 1) := by decide +kernel
theorem dX12_soundOf_15 : decode cX12_soundOf 15 = .ok (.invokevirtual 101, 3) := by decide +kernel
theorem dX12_soundOf_18 : decode cX12_soundOf 18 = .ok (.aload_n 0, 1) := by decide +kernel
theorem dX12_soundOf_19 : decode cX12_soundOf 19 = .ok (.iload_n 1, 1) := by decide +kernel
theorem dX12_soundOf_20 : decode cX12_soundOf 20 = .ok (.iconst 3, 1) := by decide +kernel
theorem dX12_soundOf_21 : decode cX12_soundOf 21 = .ok (.invokevirtual 101, 3) := by decide +kernel
theorem dX12_soundOf_24 : decode cX12_soundOf 24 = .ok (.invokestatic 190, 3) := by decide +kernel
theorem dX12_soundOf_27 : decode cX12_soundOf 27 = .ok (.ireturn, 1) := by decide +kernel
theorem dX12_sound_0 : decode cX12_sound 0 = .ok (.aload_n 0, 1) := by decide +kernel
theorem dX12_sound_1 : decode cX12_sound 1 = .ok (.iload_n 1, 1) := by decide +kernel
theorem dX12_sound_2 : decode cX12_sound 2 = .ok (.invokevirtual 129, 3) := by decide +kernel
theorem dX12_sound_5 : decode cX12_sound 5 = .ok (.ifCond .eq 11, 3) := by decide +kernel
theorem dX12_sound_8 : decode cX12_sound 8 = .ok (.aload_n 0, 1) := by decide +kernel
theorem dX12_sound_9 : decode cX12_sound 9 = .ok (.iload_n 1, 1) := by decide +kernel
theorem dX12_sound_10 : decode cX12_sound 10 = .ok (.invokevirtual 194, 3) := by decide +kernel
theorem dX12_sound_13 : decode cX12_sound 13 = .ok (.goto 4, 3) := by decide +kernel
theorem dX12_sound_16 : decode cX12_sound 16 = .ok (.iconst (-1), 1) := by decide +kernel
theorem dX12_sound_17 : decode cX12_sound 17 = .ok (.ireturn, 1) := by decide +kernel
theorem dX12_soundAgain_0 : decode cX12_soundAgain 0 = .ok (.aload_n 0, 1) := by decide +kernel
theorem dX12_soundAgain_1 : decode cX12_soundAgain 1 = .ok (.iload_n 1, 1) := by decide +kernel
theorem dX12_soundAgain_2 : decode cX12_soundAgain 2 = .ok (.invokevirtual 197, 3) := by decide +kernel
theorem dX12_soundAgain_5 : decode cX12_soundAgain 5 = .ok (.ireturn, 1) := by decide +kernel
theorem dX12_wouldSound_0 : decode cX12_wouldSound 0 = .ok (.aload_n 0, 1) := by decide +kernel
theorem dX12_wouldSound_1 : decode cX12_wouldSound 1 = .ok (.iload_n 1, 1) := by decide +kernel
theorem dX12_wouldSound_2 : decode cX12_wouldSound 2 = .ok (.invokevirtual 129, 3) := by decide +kernel
theorem dX12_wouldSound_5 : decode cX12_wouldSound 5 = .ok (.ifCond .ne 5, 3) := by decide +kernel
theorem dX12_wouldSound_8 : decode cX12_wouldSound 8 = .ok (.iconst (-1), 1) := by decide +kernel
theorem dX12_wouldSound_9 : decode cX12_wouldSound 9 = .ok (.ireturn, 1) := by decide +kernel
theorem dX12_wouldSound_10 : decode cX12_wouldSound 10 = .ok (.iload_n 2, 1) := by decide +kernel
theorem dX12_wouldSound_11 : decode cX12_wouldSound 11 = .ok (.iconst 0, 1) := by decide +kernel
theorem dX12_wouldSound_12 : decode cX12_wouldSound 12 = .ok (.bipush 99, 2) := by decide +kernel
theorem dX12_wouldSound_14 : decode cX12_wouldSound 14 = .ok (.invokestatic 74, 3) := by decide +kernel
theorem dX12_wouldSound_17 : decode cX12_wouldSound 17 = .ok (.ifCond .eq 13, 3) := by decide +kernel
theorem dX12_wouldSound_20 : decode cX12_wouldSound 20 = .ok (.iload_n 3, 1) := by decide +kernel
theorem dX12_wouldSound_21 : decode cX12_wouldSound 21 = .ok (.iconst 0, 1) := by decide +kernel
theorem dX12_wouldSound_22 : decode cX12_wouldSound 22 = .ok (.bipush 9, 2) := by decide +kernel
theorem dX12_wouldSound_24 : decode cX12_wouldSound 24 = .ok (.invokestatic 74, 3) := by decide +kernel
theorem dX12_wouldSound_27 : decode cX12_wouldSound 27 = .ok (.ifCond .ne 6, 3) := by decide +kernel
theorem dX12_wouldSound_30 : decode cX12_wouldSound 30 = .ok (.bipush (-2), 2) := by decide +kernel
theorem dX12_wouldSound_32 : decode cX12_wouldSound 32 = .ok (.ireturn, 1) := by decide +kernel
theorem dX12_wouldSound_33 : decode cX12_wouldSound 33 = .ok (.aload_n 0, 1) := by decide +kernel
theorem dX12_wouldSound_34 : decode cX12_wouldSound 34 = .ok (.iload_n 1, 1) := by decide +kernel
theorem dX12_wouldSound_35 : decode cX12_wouldSound 35 = .ok (.iconst 0, 1) := by decide +kernel
theorem dX12_wouldSound_36 : decode cX12_wouldSound 36 = .ok (.invokevirtual 101, 3) := by decide +kernel
theorem dX12_wouldSound_39 : decode cX12_wouldSound 39 = .ok (.aload_n 0, 1) := by decide +kernel
theorem dX12_wouldSound_40 : decode cX12_wouldSound 40 = .ok (.iload_n 1, 1) := by decide +kernel
theorem dX12_wouldSound_41 : decode cX12_wouldSound 41 = .ok (.iconst 1, 1) := by decide +kernel
theorem dX12_wouldSound_42 : decode cX12_wouldSound 42 = .ok (.invokevirtual 101, 3) := by decide +kernel
theorem dX12_wouldSound_45 : decode cX12_wouldSound 45 = .ok (.aload_n 0, 1) := by decide +kernel
theorem dX12_wouldSound_46 : decode cX12_wouldSound 46 = .ok (.iload_n 1, 1) := by decide +kernel
theorem dX12_wouldSound_47 : decode cX12_wouldSound 47 = .ok (.iconst 2, 1) := by decide +kernel
theorem dX12_wouldSound_48 : decode cX12_wouldSound 48 = .ok (.invokevirtual 101, 3) := by decide +kernel
theorem dX12_wouldSound_51 : decode cX12_wouldSound 51 = .ok (.iload_n 2, 1) := by decide +kernel
theorem dX12_wouldSound_52 : decode cX12_wouldSound 52 = .ok (.iadd, 1) := by decide +kernel
theorem dX12_wouldSound_53 : decode cX12_wouldSound 53 = .ok (.bipush 9, 2) := by decide +kernel
theorem dX12_wouldSound_55 : decode cX12_wouldSound 55 = .ok (.aload_n 0, 1) := by decide +kernel
theorem dX12_wouldSound_56 : decode cX12_wouldSound 56 = .ok (.iload_n 1, 1) := by decide +kernel
theorem dX12_wouldSound_57 : decode cX12_wouldSound 57 = .ok (.iconst 3, 1) := by decide +kernel
theorem dX12_wouldSound_58 : decode cX12_wouldSound 58 = .ok (.invokevirtual 101, 3) := by decide +kernel
theorem dX12_wouldSound_61 : decode cX12_wouldSound 61 = .ok (.iload_n 3, 1) := by decide +kernel
theorem dX12_wouldSound_62 : decode cX12_wouldSound 62 = .ok (.iadd, 1) := by decide +kernel
theorem dX12_wouldSound_63 : decode cX12_wouldSound 63 = .ok (.invokestatic 156, 3) := by decide +kernel
theorem dX12_wouldSound_66 : decode cX12_wouldSound 66 = .ok (.invokestatic 190, 3) := by decide +kernel
theorem dX12_wouldSound_69 : decode cX12_wouldSound 69 = .ok (.ireturn, 1) := by decide +kernel
theorem dX12_isAlike_0 : decode cX12_isAlike 0 = .ok (.aload_n 0, 1) := by decide +kernel
theorem dX12_isAlike_1 : decode cX12_isAlike 1 = .ok (.iload_n 1, 1) := by decide +kernel
theorem dX12_isAlike_2 : decode cX12_isAlike 2 = .ok (.invokevirtual 129, 3) := by decide +kernel
theorem dX12_isAlike_5 : decode cX12_isAlike 5 = .ok (.ifCond .eq 33, 3) := by decide +kernel
theorem dX12_isAlike_8 : decode cX12_isAlike 8 = .ok (.aload_n 0, 1) := by decide +kernel
theorem dX12_isAlike_9 : decode cX12_isAlike 9 = .ok (.iload_n 2, 1) := by decide +kernel
theorem dX12_isAlike_10 : decode cX12_isAlike 10 = .ok (.invokevirtual 129, 3) := by decide +kernel
theorem dX12_isAlike_13 : decode cX12_isAlike 13 = .ok (.ifCond .eq 25, 3) := by decide +kernel
theorem dX12_isAlike_16 : decode cX12_isAlike 16 = .ok (.aload_n 0, 1) := by decide +kernel
theorem dX12_isAlike_17 : decode cX12_isAlike 17 = .ok (.iload_n 1, 1) := by decide +kernel
theorem dX12_isAlike_18 : decode cX12_isAlike 18 = .ok (.invokevirtual 194, 3) := by decide +kernel
theorem dX12_isAlike_21 : decode cX12_isAlike 21 = .ok (.aload_n 0, 1) := by decide +kernel
theorem dX12_isAlike_22 : decode cX12_isAlike 22 = .ok (.iload_n 2, 1) := by decide +kernel
theorem dX12_isAlike_23 : decode cX12_isAlike 23 = .ok (.invokevirtual 194, 3) := by decide +kernel
theorem dX12_isAlike_26 : decode cX12_isAlike 26 = .ok (.isub, 1) := by decide +kernel
theorem dX12_isAlike_27 : decode cX12_isAlike 27 = .ok (.invokestatic 200, 3) := by decide +kernel
theorem dX12_isAlike_30 : decode cX12_isAlike 30 = .ok (.iconst 2, 1) := by decide +kernel
theorem dX12_isAlike_31 : decode cX12_isAlike 31 = .ok (.if_icmp .gt 7, 3) := by decide +kernel
theorem dX12_isAlike_34 : decode cX12_isAlike 34 = .ok (.iconst 1, 1) := by decide +kernel
theorem dX12_isAlike_35 : decode cX12_isAlike 35 = .ok (.goto 4, 3) := by decide +kernel
theorem dX12_isAlike_38 : decode cX12_isAlike 38 = .ok (.iconst 0, 1) := by decide +kernel
theorem dX12_isAlike_39 : decode cX12_isAlike 39 = .ok (.ireturn, 1) := by decide +kernel
theorem dX12_alike_0 : decode cX12_alike 0 = .ok (.iconst 0, 1) := by decide +kernel
theorem dX12_alike_1 : decode cX12_alike 1 = .ok (.istore_n 1, 1) := by decide +kernel
theorem dX12_alike_2 : decode cX12_alike 2 = .ok (.iconst 0, 1) := by decide +kernel
theorem dX12_alike_3 : decode cX12_alike 3 = .ok (.istore_n 2, 1) := by decide +kernel
theorem dX12_alike_4 : decode cX12_alike 4 = .ok (.iload_n 2, 1) := by decide +kernel
theorem dX12_alike_5 : decode cX12_alike 5 = .ok (.aload_n 0, 1) := by decide +kernel
theorem dX12_alike_6 : decode cX12_alike 6 = .ok (.getfield 9, 3) := by decide +kernel
theorem dX12_alike_9 : decode cX12_alike 9 = .ok (.iconst 3, 1) := by decide +kernel
theorem dX12_alike_10 : decode cX12_alike 10 = .ok (.iaload, 1) := by decide +kernel
theorem dX12_alike_11 : decode cX12_alike 11 = .ok (.if_icmp .ge 62, 3) := by decide +kernel
theorem dX12_alike_14 : decode cX12_alike 14 = .ok (.iload_n 2, 1) := by decide +kernel
theorem dX12_alike_15 : decode cX12_alike 15 = .ok (.iconst 1, 1) := by decide +kernel
theorem dX12_alike_16 : decode cX12_alike 16 = .ok (.iadd, 1) := by decide +kernel
theorem dX12_alike_17 : decode cX12_alike 17 = .ok (.istore_n 3, 1) := by decide +kernel
theorem dX12_alike_18 : decode cX12_alike 18 = .ok (.iload_n 3, 1) := by decide +kernel
theorem dX12_alike_19 : decode cX12_alike 19 = .ok (.aload_n 0, 1) := by decide +kernel
theorem dX12_alike_20 : decode cX12_alike 20 = .ok (.getfield 9, 3) := by decide +kernel
theorem dX12_alike_23 : decode cX12_alike 23 = .ok (.iconst 3, 1) := by decide +kernel
theorem dX12_alike_24 : decode cX12_alike 24 = .ok (.iaload, 1) := by decide +kernel
theorem dX12_alike_25 : decode cX12_alike 25 = .ok (.if_icmp .ge 42, 3) := by decide +kernel
theorem dX12_alike_28 : decode cX12_alike 28 = .ok (.iload_n 1, 1) := by decide +kernel
theorem dX12_alike_29 : decode cX12_alike 29 = .ok (.aload_n 0, 1) := by decide +kernel
theorem dX12_alike_30 : decode cX12_alike 30 = .ok (.iload_n 2, 1) := by decide +kernel
theorem dX12_alike_31 : decode cX12_alike 31 = .ok (.invokevirtual 132, 3) := by decide +kernel
theorem dX12_alike_34 : decode cX12_alike 34 = .ok (.ifCond .ne 24, 3) := by decide +kernel
theorem dX12_alike_37 : decode cX12_alike 37 = .ok (.aload_n 0, 1) := by decide +kernel
theorem dX12_alike_38 : decode cX12_alike 38 = .ok (.iload_n 3, 1) := by decide +kernel
theorem dX12_alike_39 : decode cX12_alike 39 = .ok (.invokevirtual 132, 3) := by decide +kernel
theorem dX12_alike_42 : decode cX12_alike 42 = .ok (.ifCond .ne 16, 3) := by decide +kernel
theorem dX12_alike_45 : decode cX12_alike 45 = .ok (.aload_n 0, 1) := by decide +kernel
theorem dX12_alike_46 : decode cX12_alike 46 = .ok (.iload_n 2, 1) := by decide +kernel
theorem dX12_alike_47 : decode cX12_alike 47 = .ok (.iload_n 3, 1) := by decide +kernel
theorem dX12_alike_48 : decode cX12_alike 48 = .ok (.invokevirtual 203, 3) := by decide +kernel
theorem dX12_alike_51 : decode cX12_alike 51 = .ok (.ifCond .eq 7, 3) := by decide +kernel
theorem dX12_alike_54 : decode cX12_alike 54 = .ok (.iconst 1, 1) := by decide +kernel
theorem dX12_alike_55 : decode cX12_alike 55 = .ok (.goto 4, 3) := by decide +kernel
theorem dX12_alike_58 : decode cX12_alike 58 = .ok (.iconst 0, 1) := by decide +kernel
theorem dX12_alike_59 : decode cX12_alike 59 = .ok (.iadd, 1) := by decide +kernel
theorem dX12_alike_60 : decode cX12_alike 60 = .ok (.istore_n 1, 1) := by decide +kernel
theorem dX12_alike_61 : decode cX12_alike 61 = .ok (.iinc 3 1, 3) := by decide +kernel
theorem dX12_alike_64 : decode cX12_alike 64 = .ok (.goto (-46), 3) := by decide +kernel
theorem dX12_alike_67 : decode cX12_alike 67 = .ok (.iinc 2 1, 3) := by decide +kernel
theorem dX12_alike_70 : decode cX12_alike 70 = .ok (.goto (-66), 3) := by decide +kernel
theorem dX12_alike_73 : decode cX12_alike 73 = .ok (.iload_n 1, 1) := by decide +kernel
theorem dX12_alike_74 : decode cX12_alike 74 = .ok (.ireturn, 1) := by decide +kernel
theorem dX12_ranked_0 : decode cX12_ranked 0 = .ok (.iconst (-1), 1) := by decide +kernel
theorem dX12_ranked_1 : decode cX12_ranked 1 = .ok (.istore_n 2, 1) := by decide +kernel
theorem dX12_ranked_2 : decode cX12_ranked 2 = .ok (.iconst 0, 1) := by decide +kernel
theorem dX12_ranked_3 : decode cX12_ranked 3 = .ok (.istore_n 3, 1) := by decide +kernel
theorem dX12_ranked_4 : decode cX12_ranked 4 = .ok (.iload_n 3, 1) := by decide +kernel
theorem dX12_ranked_5 : decode cX12_ranked 5 = .ok (.aload_n 0, 1) := by decide +kernel
theorem dX12_ranked_6 : decode cX12_ranked 6 = .ok (.getfield 9, 3) := by decide +kernel
theorem dX12_ranked_9 : decode cX12_ranked 9 = .ok (.iconst 3, 1) := by decide +kernel
theorem dX12_ranked_10 : decode cX12_ranked 10 = .ok (.iaload, 1) := by decide +kernel
theorem dX12_ranked_11 : decode cX12_ranked 11 = .ok (.if_icmp .ge 107, 3) := by decide +kernel
theorem dX12_ranked_14 : decode cX12_ranked 14 = .ok (.iconst 0, 1) := by decide +kernel
theorem dX12_ranked_15 : decode cX12_ranked 15 = .ok (.istore 4, 2) := by decide +kernel
theorem dX12_ranked_17 : decode cX12_ranked 17 = .ok (.iconst 0, 1) := by decide +kernel
theorem dX12_ranked_18 : decode cX12_ranked 18 = .ok (.istore 5, 2) := by decide +kernel
theorem dX12_ranked_20 : decode cX12_ranked 20 = .ok (.iload 5, 2) := by decide +kernel
theorem dX12_ranked_22 : decode cX12_ranked 22 = .ok (.aload_n 0, 1) := by decide +kernel
theorem dX12_ranked_23 : decode cX12_ranked 23 = .ok (.getfield 9, 3) := by decide +kernel
theorem dX12_ranked_26 : decode cX12_ranked 26 = .ok (.iconst 3, 1) := by decide +kernel
theorem dX12_ranked_27 : decode cX12_ranked 27 = .ok (.iaload, 1) := by decide +kernel
theorem dX12_ranked_28 : decode cX12_ranked 28 = .ok (.if_icmp .ge 64, 3) := by decide +kernel
theorem dX12_ranked_31 : decode cX12_ranked 31 = .ok (.aload_n 0, 1) := by decide +kernel
theorem dX12_ranked_32 : decode cX12_ranked 32 = .ok (.iload 5, 2) := by decide +kernel
theorem dX12_ranked_34 : decode cX12_ranked 34 = .ok (.invokevirtual 194, 3) := by decide +kernel
theorem dX12_ranked_37 : decode cX12_ranked 37 = .ok (.aload_n 0, 1) := by decide +kernel
theorem dX12_ranked_38 : decode cX12_ranked 38 = .ok (.iload_n 3, 1) := by decide +kernel
theorem dX12_ranked_39 : decode cX12_ranked 39 = .ok (.invokevirtual 194, 3) := by decide +kernel
theorem dX12_ranked_42 : decode cX12_ranked 42 = .ok (.isub, 1) := by decide +kernel
theorem dX12_ranked_43 : decode cX12_ranked 43 = .ok (.istore 6, 2) := by decide +kernel
theorem dX12_ranked_45 : decode cX12_ranked 45 = .ok (.iload 4, 2) := by decide +kernel
theorem dX12_ranked_47 : decode cX12_ranked 47 = .ok (.iload 5, 2) := by decide +kernel
theorem dX12_ranked_49 : decode cX12_ranked 49 = .ok (.iload_n 3, 1) := by decide +kernel
theorem dX12_ranked_50 : decode cX12_ranked 50 = .ok (.if_icmp .eq 32, 3) := by decide +kernel
theorem dX12_ranked_53 : decode cX12_ranked 53 = .ok (.aload_n 0, 1) := by decide +kernel
theorem dX12_ranked_54 : decode cX12_ranked 54 = .ok (.iload 5, 2) := by decide +kernel
theorem dX12_ranked_56 : decode cX12_ranked 56 = .ok (.invokevirtual 132, 3) := by decide +kernel
theorem dX12_ranked_59 : decode cX12_ranked 59 = .ok (.ifCond .ne 23, 3) := by decide +kernel
theorem dX12_ranked_62 : decode cX12_ranked 62 = .ok (.iload 6, 2) := by decide +kernel
theorem dX12_ranked_64 : decode cX12_ranked 64 = .ok (.ifCond .gt 14, 3) := by decide +kernel
theorem dX12_ranked_67 : decode cX12_ranked 67 = .ok (.iload 6, 2) := by decide +kernel
theorem dX12_ranked_69 : decode cX12_ranked 69 = .ok (.ifCond .ne 13, 3) := by decide +kernel
theorem dX12_ranked_72 : decode cX12_ranked 72 = .ok (.iload 5, 2) := by decide +kernel
theorem dX12_ranked_74 : decode cX12_ranked 74 = .ok (.iload_n 3, 1) := by decide +kernel
theorem dX12_ranked_75 : decode cX12_ranked 75 = .ok (.if_icmp .ge 7, 3) := by decide +kernel
theorem dX12_ranked_78 : decode cX12_ranked 78 = .ok (.iconst 1, 1) := by decide +kernel
theorem dX12_ranked_79 : decode cX12_ranked 79 = .ok (.goto 4, 3) := by decide +kernel
theorem dX12_ranked_82 : decode cX12_ranked 82 = .ok (.iconst 0, 1) := by decide +kernel
theorem dX12_ranked_83 : decode cX12_ranked 83 = .ok (.iadd, 1) := by decide +kernel
theorem dX12_ranked_84 : decode cX12_ranked 84 = .ok (.istore 4, 2) := by decide +kernel
theorem dX12_ranked_86 : decode cX12_ranked 86 = .ok (.iinc 5 1, 3) := by decide +kernel
theorem dX12_ranked_89 : decode cX12_ranked 89 = .ok (.goto (-69), 3) := by decide +kernel
theorem dX12_ranked_92 : decode cX12_ranked 92 = .ok (.aload_n 0, 1) := by decide +kernel
theorem dX12_ranked_93 : decode cX12_ranked 93 = .ok (.iload_n 3, 1) := by decide +kernel
theorem dX12_ranked_94 : decode cX12_ranked 94 = .ok (.invokevirtual 132, 3) := by decide +kernel
theorem dX12_ranked_97 : decode cX12_ranked 97 = .ok (.ifCond .ne 13, 3) := by decide +kernel
theorem dX12_ranked_100 : decode cX12_ranked 100 = .ok (.iload 4, 2) := by decide +kernel
theorem dX12_ranked_102 : decode cX12_ranked 102 = .ok (.iload_n 1, 1) := by decide +kernel
theorem dX12_ranked_103 : decode cX12_ranked 103 = .ok (.if_icmp .ne 7, 3) := by decide +kernel
theorem dX12_ranked_106 : decode cX12_ranked 106 = .ok (.iload_n 3, 1) := by decide +kernel
theorem dX12_ranked_107 : decode cX12_ranked 107 = .ok (.goto 4, 3) := by decide +kernel
theorem dX12_ranked_110 : decode cX12_ranked 110 = .ok (.iload_n 2, 1) := by decide +kernel
theorem dX12_ranked_111 : decode cX12_ranked 111 = .ok (.istore_n 2, 1) := by decide +kernel
theorem dX12_ranked_112 : decode cX12_ranked 112 = .ok (.iinc 3 1, 3) := by decide +kernel
theorem dX12_ranked_115 : decode cX12_ranked 115 = .ok (.goto (-111), 3) := by decide +kernel
theorem dX12_ranked_118 : decode cX12_ranked 118 = .ok (.iload_n 2, 1) := by decide +kernel
theorem dX12_ranked_119 : decode cX12_ranked 119 = .ok (.ireturn, 1) := by decide +kernel
theorem dX12_nextSound_0 : decode cX12_nextSound 0 = .ok (.iconst (-1), 1) := by decide +kernel
theorem dX12_nextSound_1 : decode cX12_nextSound 1 = .ok (.istore_n 2, 1) := by decide +kernel
theorem dX12_nextSound_2 : decode cX12_nextSound 2 = .ok (.iconst 0, 1) := by decide +kernel
theorem dX12_nextSound_3 : decode cX12_nextSound 3 = .ok (.istore_n 3, 1) := by decide +kernel
theorem dX12_nextSound_4 : decode cX12_nextSound 4 = .ok (.iload_n 3, 1) := by decide +kernel
theorem dX12_nextSound_5 : decode cX12_nextSound 5 = .ok (.aload_n 0, 1) := by decide +kernel
theorem dX12_nextSound_6 : decode cX12_nextSound 6 = .ok (.getfield 9, 3) := by decide +kernel
theorem dX12_nextSound_9 : decode cX12_nextSound 9 = .ok (.iconst 3, 1) := by decide +kernel
theorem dX12_nextSound_10 : decode cX12_nextSound 10 = .ok (.iaload, 1) := by decide +kernel
theorem dX12_nextSound_11 : decode cX12_nextSound 11 = .ok (.if_icmp .ge 62, 3) := by decide +kernel
theorem dX12_nextSound_14 : decode cX12_nextSound 14 = .ok (.aload_n 0, 1) := by decide +kernel
theorem dX12_nextSound_15 : decode cX12_nextSound 15 = .ok (.iload_n 3, 1) := by decide +kernel
theorem dX12_nextSound_16 : decode cX12_nextSound 16 = .ok (.invokevirtual 132, 3) := by decide +kernel
theorem dX12_nextSound_19 : decode cX12_nextSound 19 = .ok (.ifCond .ne 16, 3) := by decide +kernel
theorem dX12_nextSound_22 : decode cX12_nextSound 22 = .ok (.aload_n 0, 1) := by decide +kernel
theorem dX12_nextSound_23 : decode cX12_nextSound 23 = .ok (.iload_n 3, 1) := by decide +kernel
theorem dX12_nextSound_24 : decode cX12_nextSound 24 = .ok (.invokevirtual 194, 3) := by decide +kernel
theorem dX12_nextSound_27 : decode cX12_nextSound 27 = .ok (.iload_n 1, 1) := by decide +kernel
theorem dX12_nextSound_28 : decode cX12_nextSound 28 = .ok (.if_icmp .le 7, 3) := by decide +kernel
theorem dX12_nextSound_31 : decode cX12_nextSound 31 = .ok (.iconst 1, 1) := by decide +kernel
theorem dX12_nextSound_32 : decode cX12_nextSound 32 = .ok (.goto 4, 3) := by decide +kernel
theorem dX12_nextSound_35 : decode cX12_nextSound 35 = .ok (.iconst 0, 1) := by decide +kernel
theorem dX12_nextSound_36 : decode cX12_nextSound 36 = .ok (.istore 4, 2) := by decide +kernel
theorem dX12_nextSound_38 : decode cX12_nextSound 38 = .ok (.iload 4, 2) := by decide +kernel
theorem dX12_nextSound_40 : decode cX12_nextSound 40 = .ok (.ifCond .eq 25, 3) := by decide +kernel
theorem dX12_nextSound_43 : decode cX12_nextSound 43 = .ok (.iload_n 2, 1) := by decide +kernel
theorem dX12_nextSound_44 : decode cX12_nextSound 44 = .ok (.iconst (-1), 1) := by decide +kernel
theorem dX12_nextSound_45 : decode cX12_nextSound 45 = .ok (.if_icmp .eq 12, 3) := by decide +kernel
theorem dX12_nextSound_48 : decode cX12_nextSound 48 = .ok (.aload_n 0, 1) := by decide +kernel
theorem dX12_nextSound_49 : decode cX12_nextSound 49 = .ok (.iload_n 3, 1) := by decide +kernel
theorem dX12_nextSound_50 : decode cX12_nextSound 50 = .ok (.invokevirtual 194, 3) := by decide +kernel
theorem dX12_nextSound_53 : decode cX12_nextSound 53 = .ok (.iload_n 2, 1) := by decide +kernel
theorem dX12_nextSound_54 : decode cX12_nextSound 54 = .ok (.if_icmp .ge 11, 3) := by decide +kernel
theorem dX12_nextSound_57 : decode cX12_nextSound 57 = .ok (.aload_n 0, 1) := by decide +kernel
theorem dX12_nextSound_58 : decode cX12_nextSound 58 = .ok (.iload_n 3, 1) := by decide +kernel
theorem dX12_nextSound_59 : decode cX12_nextSound 59 = .ok (.invokevirtual 194, 3) := by decide +kernel
theorem dX12_nextSound_62 : decode cX12_nextSound 62 = .ok (.goto 4, 3) := by decide +kernel
theorem dX12_nextSound_65 : decode cX12_nextSound 65 = .ok (.iload_n 2, 1) := by decide +kernel
theorem dX12_nextSound_66 : decode cX12_nextSound 66 = .ok (.istore_n 2, 1) := by decide +kernel
theorem dX12_nextSound_67 : decode cX12_nextSound 67 = .ok (.iinc 3 1, 3) := by decide +kernel
theorem dX12_nextSound_70 : decode cX12_nextSound 70 = .ok (.goto (-66), 3) := by decide +kernel
theorem dX12_nextSound_73 : decode cX12_nextSound 73 = .ok (.iload_n 2, 1) := by decide +kernel
theorem dX12_nextSound_74 : decode cX12_nextSound 74 = .ok (.ireturn, 1) := by decide +kernel
theorem dX12_peal_0 : decode cX12_peal 0 = .ok (.iload_n 1, 1) := by decide +kernel
theorem dX12_peal_1 : decode cX12_peal 1 = .ok (.iconst 1, 1) := by decide +kernel
theorem dX12_peal_2 : decode cX12_peal 2 = .ok (.bipush 20, 2) := by decide +kernel
theorem dX12_peal_4 : decode cX12_peal 4 = .ok (.invokestatic 74, 3) := by decide +kernel
theorem dX12_peal_7 : decode cX12_peal 7 = .ok (.ifCond .ne 6, 3) := by decide +kernel
theorem dX12_peal_10 : decode cX12_peal 10 = .ok (.bipush (-2), 2) := by decide +kernel
theorem dX12_peal_12 : decode cX12_peal 12 = .ok (.ireturn, 1) := by decide +kernel
theorem dX12_peal_13 : decode cX12_peal 13 = .ok (.iconst 0, 1) := by decide +kernel
theorem dX12_peal_14 : decode cX12_peal 14 = .ok (.istore_n 2, 1) := by decide +kernel
theorem dX12_peal_15 : decode cX12_peal 15 = .ok (.aload_n 0, 1) := by decide +kernel
theorem dX12_peal_16 : decode cX12_peal 16 = .ok (.iconst (-1), 1) := by decide +kernel
theorem dX12_peal_17 : decode cX12_peal 17 = .ok (.invokevirtual 206, 3) := by decide +kernel
theorem dX12_peal_20 : decode cX12_peal 20 = .ok (.istore_n 3, 1) := by decide +kernel
theorem dX12_peal_21 : decode cX12_peal 21 = .ok (.iload_n 3, 1) := by decide +kernel
theorem dX12_peal_22 : decode cX12_peal 22 = .ok (.istore 4, 2) := by decide +kernel
theorem dX12_peal_24 : decode cX12_peal 24 = .ok (.iload 4, 2) := by decide +kernel
theorem dX12_peal_26 : decode cX12_peal 26 = .ok (.iconst (-1), 1) := by decide +kernel
theorem dX12_peal_27 : decode cX12_peal 27 = .ok (.if_icmp .eq 27, 3) := by decide +kernel
theorem dX12_peal_30 : decode cX12_peal 30 = .ok (.iload 4, 2) := by decide +kernel
theorem dX12_peal_32 : decode cX12_peal 32 = .ok (.iload_n 3, 1) := by decide +kernel
theorem dX12_peal_33 : decode cX12_peal 33 = .ok (.isub, 1) := by decide +kernel
theorem dX12_peal_34 : decode cX12_peal 34 = .ok (.iload_n 1, 1) := by decide +kernel
theorem dX12_peal_35 : decode cX12_peal 35 = .ok (.if_icmp .gt 19, 3) := by decide +kernel
theorem dX12_peal_38 : decode cX12_peal 38 = .ok (.iinc 2 1, 3) := by decide +kernel
theorem dX12_peal_41 : decode cX12_peal 41 = .ok (.iload 4, 2) := by decide +kernel
theorem dX12_peal_43 : decode cX12_peal 43 = .ok (.istore_n 3, 1) := by decide +kernel
theorem dX12_peal_44 : decode cX12_peal 44 = .ok (.aload_n 0, 1) := by decide +kernel
theorem dX12_peal_45 : decode cX12_peal 45 = .ok (.iload_n 3, 1) := by decide +kernel
theorem dX12_peal_46 : decode cX12_peal 46 = .ok (.invokevirtual 206, 3) := by decide +kernel
theorem dX12_peal_49 : decode cX12_peal 49 = .ok (.istore 4, 2) := by decide +kernel
theorem dX12_peal_51 : decode cX12_peal 51 = .ok (.goto (-27), 3) := by decide +kernel
theorem dX12_peal_54 : decode cX12_peal 54 = .ok (.iload_n 2, 1) := by decide +kernel
theorem dX12_peal_55 : decode cX12_peal 55 = .ok (.ireturn, 1) := by decide +kernel
theorem dX12_nearest_0 : decode cX12_nearest 0 = .ok (.iload_n 1, 1) := by decide +kernel
theorem dX12_nearest_1 : decode cX12_nearest 1 = .ok (.iconst 0, 1) := by decide +kernel
theorem dX12_nearest_2 : decode cX12_nearest 2 = .ok (.bipush 120, 2) := by decide +kernel
theorem dX12_nearest_4 : decode cX12_nearest 4 = .ok (.invokestatic 74, 3) := by decide +kernel
theorem dX12_nearest_7 : decode cX12_nearest 7 = .ok (.ifCond .ne 6, 3) := by decide +kernel
theorem dX12_nearest_10 : decode cX12_nearest 10 = .ok (.bipush (-2), 2) := by decide +kernel
theorem dX12_nearest_12 : decode cX12_nearest 12 = .ok (.ireturn, 1) := by decide +kernel
theorem dX12_nearest_13 : decode cX12_nearest 13 = .ok (.bipush (-4), 2) := by decide +kernel
theorem dX12_nearest_15 : decode cX12_nearest 15 = .ok (.istore_n 2, 1) := by decide +kernel
theorem dX12_nearest_16 : decode cX12_nearest 16 = .ok (.iconst 0, 1) := by decide +kernel
theorem dX12_nearest_17 : decode cX12_nearest 17 = .ok (.istore_n 3, 1) := by decide +kernel
theorem dX12_nearest_18 : decode cX12_nearest 18 = .ok (.iload_n 3, 1) := by decide +kernel
theorem dX12_nearest_19 : decode cX12_nearest 19 = .ok (.aload_n 0, 1) := by decide +kernel
theorem dX12_nearest_20 : decode cX12_nearest 20 = .ok (.getfield 9, 3) := by decide +kernel
theorem dX12_nearest_23 : decode cX12_nearest 23 = .ok (.iconst 3, 1) := by decide +kernel
theorem dX12_nearest_24 : decode cX12_nearest 24 = .ok (.iaload, 1) := by decide +kernel
theorem dX12_nearest_25 : decode cX12_nearest 25 = .ok (.if_icmp .ge 64, 3) := by decide +kernel
theorem dX12_nearest_28 : decode cX12_nearest 28 = .ok (.aload_n 0, 1) := by decide +kernel
theorem dX12_nearest_29 : decode cX12_nearest 29 = .ok (.iload_n 3, 1) := by decide +kernel
theorem dX12_nearest_30 : decode cX12_nearest 30 = .ok (.invokevirtual 132, 3) := by decide +kernel
theorem dX12_nearest_33 : decode cX12_nearest 33 = .ok (.ifCond .ne 36, 3) := by decide +kernel
theorem dX12_nearest_36 : decode cX12_nearest 36 = .ok (.iload_n 2, 1) := by decide +kernel
theorem dX12_nearest_37 : decode cX12_nearest 37 = .ok (.bipush (-4), 2) := by decide +kernel
theorem dX12_nearest_39 : decode cX12_nearest 39 = .ok (.if_icmp .eq 26, 3) := by decide +kernel
theorem dX12_nearest_42 : decode cX12_nearest 42 = .ok (.aload_n 0, 1) := by decide +kernel
theorem dX12_nearest_43 : decode cX12_nearest 43 = .ok (.iload_n 3, 1) := by decide +kernel
theorem dX12_nearest_44 : decode cX12_nearest 44 = .ok (.invokevirtual 194, 3) := by decide +kernel
theorem dX12_nearest_47 : decode cX12_nearest 47 = .ok (.iload_n 1, 1) := by decide +kernel
theorem dX12_nearest_48 : decode cX12_nearest 48 = .ok (.isub, 1) := by decide +kernel
theorem dX12_nearest_49 : decode cX12_nearest 49 = .ok (.invokestatic 200, 3) := by decide +kernel
theorem dX12_nearest_52 : decode cX12_nearest 52 = .ok (.aload_n 0, 1) := by decide +kernel
theorem dX12_nearest_53 : decode cX12_nearest 53 = .ok (.iload_n 2, 1) := by decide +kernel
theorem dX12_nearest_54 : decode cX12_nearest 54 = .ok (.invokevirtual 194, 3) := by decide +kernel
theorem dX12_nearest_57 : decode cX12_nearest 57 = .ok (.iload_n 1, 1) := by decide +kernel
theorem dX12_nearest_58 : decode cX12_nearest 58 = .ok (.isub, 1) := by decide +kernel
theorem dX12_nearest_59 : decode cX12_nearest 59 = .ok (.invokestatic 200, 3) := by decide +kernel
theorem dX12_nearest_62 : decode cX12_nearest 62 = .ok (.if_icmp .ge 7, 3) := by decide +kernel
theorem dX12_nearest_65 : decode cX12_nearest 65 = .ok (.iconst 1, 1) := by decide +kernel
theorem dX12_nearest_66 : decode cX12_nearest 66 = .ok (.goto 4, 3) := by decide +kernel
theorem dX12_nearest_69 : decode cX12_nearest 69 = .ok (.iconst 0, 1) := by decide +kernel
theorem dX12_nearest_70 : decode cX12_nearest 70 = .ok (.istore 4, 2) := by decide +kernel
theorem dX12_nearest_72 : decode cX12_nearest 72 = .ok (.iload 4, 2) := by decide +kernel
theorem dX12_nearest_74 : decode cX12_nearest 74 = .ok (.ifCond .eq 7, 3) := by decide +kernel
theorem dX12_nearest_77 : decode cX12_nearest 77 = .ok (.iload_n 3, 1) := by decide +kernel
theorem dX12_nearest_78 : decode cX12_nearest 78 = .ok (.goto 4, 3) := by decide +kernel
theorem dX12_nearest_81 : decode cX12_nearest 81 = .ok (.iload_n 2, 1) := by decide +kernel
theorem dX12_nearest_82 : decode cX12_nearest 82 = .ok (.istore_n 2, 1) := by decide +kernel
theorem dX12_nearest_83 : decode cX12_nearest 83 = .ok (.iinc 3 1, 3) := by decide +kernel
theorem dX12_nearest_86 : decode cX12_nearest 86 = .ok (.goto (-68), 3) := by decide +kernel
theorem dX12_nearest_89 : decode cX12_nearest 89 = .ok (.iload_n 2, 1) := by decide +kernel
theorem dX12_nearest_90 : decode cX12_nearest 90 = .ok (.ireturn, 1) := by decide +kernel
theorem dX12_blowsTo_0 : decode cX12_blowsTo 0 = .ok (.aload_n 0, 1) := by decide +kernel
theorem dX12_blowsTo_1 : decode cX12_blowsTo 1 = .ok (.iload_n 1, 1) := by decide +kernel
theorem dX12_blowsTo_2 : decode cX12_blowsTo 2 = .ok (.invokevirtual 129, 3) := by decide +kernel
theorem dX12_blowsTo_5 : decode cX12_blowsTo 5 = .ok (.ifCond .ne 5, 3) := by decide +kernel
theorem dX12_blowsTo_8 : decode cX12_blowsTo 8 = .ok (.iconst (-1), 1) := by decide +kernel
theorem dX12_blowsTo_9 : decode cX12_blowsTo 9 = .ok (.ireturn, 1) := by decide +kernel
theorem dX12_blowsTo_10 : decode cX12_blowsTo 10 = .ok (.iload_n 2, 1) := by decide +kernel
theorem dX12_blowsTo_11 : decode cX12_blowsTo 11 = .ok (.iconst 0, 1) := by decide +kernel
theorem dX12_blowsTo_12 : decode cX12_blowsTo 12 = .ok (.iconst 1, 1) := by decide +kernel
theorem dX12_blowsTo_13 : decode cX12_blowsTo 13 = .ok (.invokestatic 74, 3) := by decide +kernel
theorem dX12_blowsTo_16 : decode cX12_blowsTo 16 = .ok (.ifCond .ne 6, 3) := by decide +kernel
theorem dX12_blowsTo_19 : decode cX12_blowsTo 19 = .ok (.bipush (-2), 2) := by decide +kernel
theorem dX12_blowsTo_21 : decode cX12_blowsTo 21 = .ok (.ireturn, 1) := by decide +kernel
theorem dX12_blowsTo_22 : decode cX12_blowsTo 22 = .ok (.iload_n 2, 1) := by decide +kernel
theorem dX12_blowsTo_23 : decode cX12_blowsTo 23 = .ok (.ifCond .ne 11, 3) := by decide +kernel
theorem dX12_blowsTo_26 : decode cX12_blowsTo 26 = .ok (.aload_n 0, 1) := by decide +kernel
theorem dX12_blowsTo_27 : decode cX12_blowsTo 27 = .ok (.iload_n 1, 1) := by decide +kernel
theorem dX12_blowsTo_28 : decode cX12_blowsTo 28 = .ok (.invokevirtual 147, 3) := by decide +kernel
theorem dX12_blowsTo_31 : decode cX12_blowsTo 31 = .ok (.goto 35, 3) := by decide +kernel
theorem dX12_blowsTo_34 : decode cX12_blowsTo 34 = .ok (.iconst 0, 1) := by decide +kernel
theorem dX12_blowsTo_35 : decode cX12_blowsTo 35 = .ok (.iconst 2, 1) := by decide +kernel
theorem dX12_blowsTo_36 : decode cX12_blowsTo 36 = .ok (.aload_n 0, 1) := by decide +kernel
theorem dX12_blowsTo_37 : decode cX12_blowsTo 37 = .ok (.iload_n 1, 1) := by decide +kernel
theorem dX12_blowsTo_38 : decode cX12_blowsTo 38 = .ok (.iconst 0, 1) := by decide +kernel
theorem dX12_blowsTo_39 : decode cX12_blowsTo 39 = .ok (.invokevirtual 101, 3) := by decide +kernel
theorem dX12_blowsTo_42 : decode cX12_blowsTo 42 = .ok (.invokestatic 105, 3) := by decide +kernel
theorem dX12_blowsTo_45 : decode cX12_blowsTo 45 = .ok (.imul, 1) := by decide +kernel
theorem dX12_blowsTo_46 : decode cX12_blowsTo 46 = .ok (.bipush 6, 2) := by decide +kernel
theorem dX12_blowsTo_48 : decode cX12_blowsTo 48 = .ok (.aload_n 0, 1) := by decide +kernel
theorem dX12_blowsTo_49 : decode cX12_blowsTo 49 = .ok (.iload_n 1, 1) := by decide +kernel
theorem dX12_blowsTo_50 : decode cX12_blowsTo 50 = .ok (.iconst 1, 1) := by decide +kernel
theorem dX12_blowsTo_51 : decode cX12_blowsTo 51 = .ok (.invokevirtual 101, 3) := by decide +kernel
theorem dX12_blowsTo_54 : decode cX12_blowsTo 54 = .ok (.imul, 1) := by decide +kernel
theorem dX12_blowsTo_55 : decode cX12_blowsTo 55 = .ok (.iadd, 1) := by decide +kernel
theorem dX12_blowsTo_56 : decode cX12_blowsTo 56 = .ok (.aload_n 0, 1) := by decide +kernel
theorem dX12_blowsTo_57 : decode cX12_blowsTo 57 = .ok (.iload_n 1, 1) := by decide +kernel
theorem dX12_blowsTo_58 : decode cX12_blowsTo 58 = .ok (.iconst 2, 1) := by decide +kernel
theorem dX12_blowsTo_59 : decode cX12_blowsTo 59 = .ok (.invokevirtual 101, 3) := by decide +kernel
theorem dX12_blowsTo_62 : decode cX12_blowsTo 62 = .ok (.isub, 1) := by decide +kernel
theorem dX12_blowsTo_63 : decode cX12_blowsTo 63 = .ok (.invokestatic 108, 3) := by decide +kernel
theorem dX12_blowsTo_66 : decode cX12_blowsTo 66 = .ok (.ireturn, 1) := by decide +kernel
theorem dX12_mealsTo_0 : decode cX12_mealsTo 0 = .ok (.aload_n 0, 1) := by decide +kernel
theorem dX12_mealsTo_1 : decode cX12_mealsTo 1 = .ok (.iload_n 1, 1) := by decide +kernel
theorem dX12_mealsTo_2 : decode cX12_mealsTo 2 = .ok (.invokevirtual 129, 3) := by decide +kernel
theorem dX12_mealsTo_5 : decode cX12_mealsTo 5 = .ok (.ifCond .ne 5, 3) := by decide +kernel
theorem dX12_mealsTo_8 : decode cX12_mealsTo 8 = .ok (.iconst (-1), 1) := by decide +kernel
theorem dX12_mealsTo_9 : decode cX12_mealsTo 9 = .ok (.ireturn, 1) := by decide +kernel
theorem dX12_mealsTo_10 : decode cX12_mealsTo 10 = .ok (.aload_n 0, 1) := by decide +kernel
theorem dX12_mealsTo_11 : decode cX12_mealsTo 11 = .ok (.iload_n 1, 1) := by decide +kernel
theorem dX12_mealsTo_12 : decode cX12_mealsTo 12 = .ok (.iconst 3, 1) := by decide +kernel
theorem dX12_mealsTo_13 : decode cX12_mealsTo 13 = .ok (.invokevirtual 101, 3) := by decide +kernel
theorem dX12_mealsTo_16 : decode cX12_mealsTo 16 = .ok (.ifCond .ne 7, 3) := by decide +kernel
theorem dX12_mealsTo_19 : decode cX12_mealsTo 19 = .ok (.iconst 0, 1) := by decide +kernel
theorem dX12_mealsTo_20 : decode cX12_mealsTo 20 = .ok (.goto 26, 3) := by decide +kernel
theorem dX12_mealsTo_23 : decode cX12_mealsTo 23 = .ok (.aload_n 0, 1) := by decide +kernel
theorem dX12_mealsTo_24 : decode cX12_mealsTo 24 = .ok (.iload_n 1, 1) := by decide +kernel
theorem dX12_mealsTo_25 : decode cX12_mealsTo 25 = .ok (.iconst 3, 1) := by decide +kernel
theorem dX12_mealsTo_26 : decode cX12_mealsTo 26 = .ok (.invokevirtual 101, 3) := by decide +kernel
theorem dX12_mealsTo_29 : decode cX12_mealsTo 29 = .ok (.aload_n 0, 1) := by decide +kernel
theorem dX12_mealsTo_30 : decode cX12_mealsTo 30 = .ok (.iload_n 1, 1) := by decide +kernel
theorem dX12_mealsTo_31 : decode cX12_mealsTo 31 = .ok (.iconst 0, 1) := by decide +kernel
theorem dX12_mealsTo_32 : decode cX12_mealsTo 32 = .ok (.invokevirtual 101, 3) := by decide +kernel
theorem dX12_mealsTo_35 : decode cX12_mealsTo 35 = .ok (.invokestatic 153, 3) := by decide +kernel
theorem dX12_mealsTo_38 : decode cX12_mealsTo 38 = .ok (.imul, 1) := by decide +kernel
theorem dX12_mealsTo_39 : decode cX12_mealsTo 39 = .ok (.aload_n 0, 1) := by decide +kernel
theorem dX12_mealsTo_40 : decode cX12_mealsTo 40 = .ok (.iload_n 1, 1) := by decide +kernel
theorem dX12_mealsTo_41 : decode cX12_mealsTo 41 = .ok (.iconst 5, 1) := by decide +kernel
theorem dX12_mealsTo_42 : decode cX12_mealsTo 42 = .ok (.invokevirtual 101, 3) := by decide +kernel
theorem dX12_mealsTo_45 : decode cX12_mealsTo 45 = .ok (.isub, 1) := by decide +kernel
theorem dX12_mealsTo_46 : decode cX12_mealsTo 46 = .ok (.ireturn, 1) := by decide +kernel
theorem dX12_barsFor_0 : decode cX12_barsFor 0 = .ok (.aload_n 0, 1) := by decide +kernel
theorem dX12_barsFor_1 : decode cX12_barsFor 1 = .ok (.iload_n 1, 1) := by decide +kernel
theorem dX12_barsFor_2 : decode cX12_barsFor 2 = .ok (.invokevirtual 129, 3) := by decide +kernel
theorem dX12_barsFor_5 : decode cX12_barsFor 5 = .ok (.ifCond .ne 5, 3) := by decide +kernel
theorem dX12_barsFor_8 : decode cX12_barsFor 8 = .ok (.iconst (-1), 1) := by decide +kernel
theorem dX12_barsFor_9 : decode cX12_barsFor 9 = .ok (.ireturn, 1) := by decide +kernel
theorem dX12_barsFor_10 : decode cX12_barsFor 10 = .ok (.iload_n 2, 1) := by decide +kernel
theorem dX12_barsFor_11 : decode cX12_barsFor 11 = .ok (.iconst 1, 1) := by decide +kernel
theorem dX12_barsFor_12 : decode cX12_barsFor 12 = .ok (.bipush 9, 2) := by decide +kernel
theorem dX12_barsFor_14 : decode cX12_barsFor 14 = .ok (.invokestatic 74, 3) := by decide +kernel
theorem dX12_barsFor_17 : decode cX12_barsFor 17 = .ok (.ifCond .eq 16, 3) := by decide +kernel
theorem dX12_barsFor_20 : decode cX12_barsFor 20 = .ok (.aload_n 0, 1) := by decide +kernel
theorem dX12_barsFor_21 : decode cX12_barsFor 21 = .ok (.iload_n 1, 1) := by decide +kernel
theorem dX12_barsFor_22 : decode cX12_barsFor 22 = .ok (.iconst 0, 1) := by decide +kernel
theorem dX12_barsFor_23 : decode cX12_barsFor 23 = .ok (.invokevirtual 101, 3) := by decide +kernel
theorem dX12_barsFor_26 : decode cX12_barsFor 26 = .ok (.iload_n 2, 1) := by decide +kernel
theorem dX12_barsFor_27 : decode cX12_barsFor 27 = .ok (.invokestatic 144, 3) := by decide +kernel
theorem dX12_barsFor_30 : decode cX12_barsFor 30 = .ok (.goto 5, 3) := by decide +kernel
theorem dX12_barsFor_33 : decode cX12_barsFor 33 = .ok (.bipush (-2), 2) := by decide +kernel
theorem dX12_barsFor_35 : decode cX12_barsFor 35 = .ok (.ireturn, 1) := by decide +kernel
theorem dX12_copper_0 : decode cX12_copper 0 = .ok (.iconst 0, 1) := by decide +kernel
theorem dX12_copper_1 : decode cX12_copper 1 = .ok (.istore_n 1, 1) := by decide +kernel
theorem dX12_copper_2 : decode cX12_copper 2 = .ok (.iconst 0, 1) := by decide +kernel
theorem dX12_copper_3 : decode cX12_copper 3 = .ok (.istore_n 2, 1) := by decide +kernel
theorem dX12_copper_4 : decode cX12_copper 4 = .ok (.iload_n 2, 1) := by decide +kernel
theorem dX12_copper_5 : decode cX12_copper 5 = .ok (.aload_n 0, 1) := by decide +kernel
theorem dX12_copper_6 : decode cX12_copper 6 = .ok (.getfield 9, 3) := by decide +kernel
theorem dX12_copper_9 : decode cX12_copper 9 = .ok (.iconst 2, 1) := by decide +kernel
theorem dX12_copper_10 : decode cX12_copper 10 = .ok (.iaload, 1) := by decide +kernel
theorem dX12_copper_11 : decode cX12_copper 11 = .ok (.if_icmp .ge 37, 3) := by decide +kernel
theorem dX12_copper_14 : decode cX12_copper 14 = .ok (.iload_n 1, 1) := by decide +kernel
theorem dX12_copper_15 : decode cX12_copper 15 = .ok (.aload_n 0, 1) := by decide +kernel
theorem dX12_copper_16 : decode cX12_copper 16 = .ok (.getfield 9, 3) := by decide +kernel
theorem dX12_copper_19 : decode cX12_copper 19 = .ok (.bipush 12, 2) := by decide +kernel
theorem dX12_copper_21 : decode cX12_copper 21 = .ok (.iconst 4, 1) := by decide +kernel
theorem dX12_copper_22 : decode cX12_copper 22 = .ok (.iload_n 2, 1) := by decide +kernel
theorem dX12_copper_23 : decode cX12_copper 23 = .ok (.imul, 1) := by decide +kernel
theorem dX12_copper_24 : decode cX12_copper 24 = .ok (.iadd, 1) := by decide +kernel
theorem dX12_copper_25 : decode cX12_copper 25 = .ok (.iaload, 1) := by decide +kernel
theorem dX12_copper_26 : decode cX12_copper 26 = .ok (.aload_n 0, 1) := by decide +kernel
theorem dX12_copper_27 : decode cX12_copper 27 = .ok (.getfield 9, 3) := by decide +kernel
theorem dX12_copper_30 : decode cX12_copper 30 = .ok (.bipush 12, 2) := by decide +kernel
theorem dX12_copper_32 : decode cX12_copper 32 = .ok (.iconst 4, 1) := by decide +kernel
theorem dX12_copper_33 : decode cX12_copper 33 = .ok (.iload_n 2, 1) := by decide +kernel
theorem dX12_copper_34 : decode cX12_copper 34 = .ok (.imul, 1) := by decide +kernel
theorem dX12_copper_35 : decode cX12_copper 35 = .ok (.iadd, 1) := by decide +kernel
theorem dX12_copper_36 : decode cX12_copper 36 = .ok (.iconst 1, 1) := by decide +kernel
theorem dX12_copper_37 : decode cX12_copper 37 = .ok (.iadd, 1) := by decide +kernel
theorem dX12_copper_38 : decode cX12_copper 38 = .ok (.iaload, 1) := by decide +kernel
theorem dX12_copper_39 : decode cX12_copper 39 = .ok (.imul, 1) := by decide +kernel
theorem dX12_copper_40 : decode cX12_copper 40 = .ok (.iadd, 1) := by decide +kernel
theorem dX12_copper_41 : decode cX12_copper 41 = .ok (.istore_n 1, 1) := by decide +kernel
theorem dX12_copper_42 : decode cX12_copper 42 = .ok (.iinc 2 1, 3) := by decide +kernel
theorem dX12_copper_45 : decode cX12_copper 45 = .ok (.goto (-41), 3) := by decide +kernel
theorem dX12_copper_48 : decode cX12_copper 48 = .ok (.iconst 0, 1) := by decide +kernel
theorem dX12_copper_49 : decode cX12_copper 49 = .ok (.istore_n 2, 1) := by decide +kernel
theorem dX12_copper_50 : decode cX12_copper 50 = .ok (.iload_n 2, 1) := by decide +kernel
theorem dX12_copper_51 : decode cX12_copper 51 = .ok (.aload_n 0, 1) := by decide +kernel
theorem dX12_copper_52 : decode cX12_copper 52 = .ok (.getfield 9, 3) := by decide +kernel
theorem dX12_copper_55 : decode cX12_copper 55 = .ok (.iconst 3, 1) := by decide +kernel
theorem dX12_copper_56 : decode cX12_copper 56 = .ok (.iaload, 1) := by decide +kernel
theorem dX12_copper_57 : decode cX12_copper 57 = .ok (.if_icmp .ge 28, 3) := by decide +kernel
theorem dX12_copper_60 : decode cX12_copper 60 = .ok (.iload_n 1, 1) := by decide +kernel
theorem dX12_copper_61 : decode cX12_copper 61 = .ok (.aload_n 0, 1) := by decide +kernel
theorem dX12_copper_62 : decode cX12_copper 62 = .ok (.iload_n 2, 1) := by decide +kernel
theorem dX12_copper_63 : decode cX12_copper 63 = .ok (.iconst 1, 1) := by decide +kernel
theorem dX12_copper_64 : decode cX12_copper 64 = .ok (.invokevirtual 101, 3) := by decide +kernel
theorem dX12_copper_67 : decode cX12_copper 67 = .ok (.aload_n 0, 1) := by decide +kernel
theorem dX12_copper_68 : decode cX12_copper 68 = .ok (.iload_n 2, 1) := by decide +kernel
theorem dX12_copper_69 : decode cX12_copper 69 = .ok (.iconst 0, 1) := by decide +kernel
theorem dX12_copper_70 : decode cX12_copper 70 = .ok (.invokevirtual 101, 3) := by decide +kernel
theorem dX12_copper_73 : decode cX12_copper 73 = .ok (.invokestatic 105, 3) := by decide +kernel
theorem dX12_copper_76 : decode cX12_copper 76 = .ok (.imul, 1) := by decide +kernel
theorem dX12_copper_77 : decode cX12_copper 77 = .ok (.iadd, 1) := by decide +kernel
theorem dX12_copper_78 : decode cX12_copper 78 = .ok (.istore_n 1, 1) := by decide +kernel
theorem dX12_copper_79 : decode cX12_copper 79 = .ok (.iinc 2 1, 3) := by decide +kernel
theorem dX12_copper_82 : decode cX12_copper 82 = .ok (.goto (-32), 3) := by decide +kernel
theorem dX12_copper_85 : decode cX12_copper 85 = .ok (.iload_n 1, 1) := by decide +kernel
theorem dX12_copper_86 : decode cX12_copper 86 = .ok (.ireturn, 1) := by decide +kernel
theorem dX12_copperAgain_0 : decode cX12_copperAgain 0 = .ok (.iconst 0, 1) := by decide +kernel
theorem dX12_copperAgain_1 : decode cX12_copperAgain 1 = .ok (.istore_n 1, 1) := by decide +kernel
theorem dX12_copperAgain_2 : decode cX12_copperAgain 2 = .ok (.iconst 0, 1) := by decide +kernel
theorem dX12_copperAgain_3 : decode cX12_copperAgain 3 = .ok (.istore_n 2, 1) := by decide +kernel
theorem dX12_copperAgain_4 : decode cX12_copperAgain 4 = .ok (.iload_n 2, 1) := by decide +kernel
theorem dX12_copperAgain_5 : decode cX12_copperAgain 5 = .ok (.aload_n 0, 1) := by decide +kernel
theorem dX12_copperAgain_6 : decode cX12_copperAgain 6 = .ok (.getfield 9, 3) := by decide +kernel
theorem dX12_copperAgain_9 : decode cX12_copperAgain 9 = .ok (.iconst 2, 1) := by decide +kernel
theorem dX12_copperAgain_10 : decode cX12_copperAgain 10 = .ok (.iaload, 1) := by decide +kernel
theorem dX12_copperAgain_11 : decode cX12_copperAgain 11 = .ok (.if_icmp .ge 37, 3) := by decide +kernel
theorem dX12_copperAgain_14 : decode cX12_copperAgain 14 = .ok (.iload_n 1, 1) := by decide +kernel
theorem dX12_copperAgain_15 : decode cX12_copperAgain 15 = .ok (.aload_n 0, 1) := by decide +kernel
theorem dX12_copperAgain_16 : decode cX12_copperAgain 16 = .ok (.getfield 9, 3) := by decide +kernel
theorem dX12_copperAgain_19 : decode cX12_copperAgain 19 = .ok (.bipush 12, 2) := by decide +kernel
theorem dX12_copperAgain_21 : decode cX12_copperAgain 21 = .ok (.iconst 4, 1) := by decide +kernel
theorem dX12_copperAgain_22 : decode cX12_copperAgain 22 = .ok (.iload_n 2, 1) := by decide +kernel
theorem dX12_copperAgain_23 : decode cX12_copperAgain 23 = .ok (.imul, 1) := by decide +kernel
theorem dX12_copperAgain_24 : decode cX12_copperAgain 24 = .ok (.iadd, 1) := by decide +kernel
theorem dX12_copperAgain_25 : decode cX12_copperAgain 25 = .ok (.iaload, 1) := by decide +kernel
theorem dX12_copperAgain_26 : decode cX12_copperAgain 26 = .ok (.aload_n 0, 1) := by decide +kernel
theorem dX12_copperAgain_27 : decode cX12_copperAgain 27 = .ok (.getfield 9, 3) := by decide +kernel
theorem dX12_copperAgain_30 : decode cX12_copperAgain 30 = .ok (.bipush 12, 2) := by decide +kernel
theorem dX12_copperAgain_32 : decode cX12_copperAgain 32 = .ok (.iconst 4, 1) := by decide +kernel
theorem dX12_copperAgain_33 : decode cX12_copperAgain 33 = .ok (.iload_n 2, 1) := by decide +kernel
theorem dX12_copperAgain_34 : decode cX12_copperAgain 34 = .ok (.imul, 1) := by decide +kernel
theorem dX12_copperAgain_35 : decode cX12_copperAgain 35 = .ok (.iadd, 1) := by decide +kernel
theorem dX12_copperAgain_36 : decode cX12_copperAgain 36 = .ok (.iconst 3, 1) := by decide +kernel
theorem dX12_copperAgain_37 : decode cX12_copperAgain 37 = .ok (.iadd, 1) := by decide +kernel
theorem dX12_copperAgain_38 : decode cX12_copperAgain 38 = .ok (.iaload, 1) := by decide +kernel
theorem dX12_copperAgain_39 : decode cX12_copperAgain 39 = .ok (.imul, 1) := by decide +kernel
theorem dX12_copperAgain_40 : decode cX12_copperAgain 40 = .ok (.iadd, 1) := by decide +kernel
theorem dX12_copperAgain_41 : decode cX12_copperAgain 41 = .ok (.istore_n 1, 1) := by decide +kernel
theorem dX12_copperAgain_42 : decode cX12_copperAgain 42 = .ok (.iinc 2 1, 3) := by decide +kernel
theorem dX12_copperAgain_45 : decode cX12_copperAgain 45 = .ok (.goto (-41), 3) := by decide +kernel
theorem dX12_copperAgain_48 : decode cX12_copperAgain 48 = .ok (.iload_n 1, 1) := by decide +kernel
theorem dX12_copperAgain_49 : decode cX12_copperAgain 49 = .ok (.ireturn, 1) := by decide +kernel
theorem dX12_coinsAgain_0 : decode cX12_coinsAgain 0 = .ok (.bipush 30, 2) := by decide +kernel
theorem dX12_coinsAgain_2 : decode cX12_coinsAgain 2 = .ok (.aload_n 0, 1) := by decide +kernel
theorem dX12_coinsAgain_3 : decode cX12_coinsAgain 3 = .ok (.getfield 9, 3) := by decide +kernel
theorem dX12_coinsAgain_6 : decode cX12_coinsAgain 6 = .ok (.bipush 9, 2) := by decide +kernel
theorem dX12_coinsAgain_8 : decode cX12_coinsAgain 8 = .ok (.iaload, 1) := by decide +kernel
theorem dX12_coinsAgain_9 : decode cX12_coinsAgain 9 = .ok (.iadd, 1) := by decide +kernel
theorem dX12_coinsAgain_10 : decode cX12_coinsAgain 10 = .ok (.aload_n 0, 1) := by decide +kernel
theorem dX12_coinsAgain_11 : decode cX12_coinsAgain 11 = .ok (.getfield 9, 3) := by decide +kernel
theorem dX12_coinsAgain_14 : decode cX12_coinsAgain 14 = .ok (.bipush 10, 2) := by decide +kernel
theorem dX12_coinsAgain_16 : decode cX12_coinsAgain 16 = .ok (.iaload, 1) := by decide +kernel
theorem dX12_coinsAgain_17 : decode cX12_coinsAgain 17 = .ok (.isub, 1) := by decide +kernel
theorem dX12_coinsAgain_18 : decode cX12_coinsAgain 18 = .ok (.ireturn, 1) := by decide +kernel
theorem dX12_barsAgain_0 : decode cX12_barsAgain 0 = .ok (.aload_n 0, 1) := by decide +kernel
theorem dX12_barsAgain_1 : decode cX12_barsAgain 1 = .ok (.getfield 9, 3) := by decide +kernel
theorem dX12_barsAgain_4 : decode cX12_barsAgain 4 = .ok (.bipush 11, 2) := by decide +kernel
theorem dX12_barsAgain_6 : decode cX12_barsAgain 6 = .ok (.iaload, 1) := by decide +kernel
theorem dX12_barsAgain_7 : decode cX12_barsAgain 7 = .ok (.aload_n 0, 1) := by decide +kernel
theorem dX12_barsAgain_8 : decode cX12_barsAgain 8 = .ok (.getfield 9, 3) := by decide +kernel
theorem dX12_barsAgain_11 : decode cX12_barsAgain 11 = .ok (.bipush 8, 2) := by decide +kernel
theorem dX12_barsAgain_13 : decode cX12_barsAgain 13 = .ok (.iaload, 1) := by decide +kernel
theorem dX12_barsAgain_14 : decode cX12_barsAgain 14 = .ok (.isub, 1) := by decide +kernel
theorem dX12_barsAgain_15 : decode cX12_barsAgain 15 = .ok (.ireturn, 1) := by decide +kernel
theorem dX12_ofPots_0 : decode cX12_ofPots 0 = .ok (.iconst 0, 1) := by decide +kernel
theorem dX12_ofPots_1 : decode cX12_ofPots 1 = .ok (.istore_n 2, 1) := by decide +kernel
theorem dX12_ofPots_2 : decode cX12_ofPots 2 = .ok (.iconst 0, 1) := by decide +kernel
theorem dX12_ofPots_3 : decode cX12_ofPots 3 = .ok (.istore_n 3, 1) := by decide +kernel
theorem dX12_ofPots_4 : decode cX12_ofPots 4 = .ok (.iload_n 3, 1) := by decide +kernel
theorem dX12_ofPots_5 : decode cX12_ofPots 5 = .ok (.aload_n 0, 1) := by decide +kernel
theorem dX12_ofPots_6 : decode cX12_ofPots 6 = .ok (.getfield 9, 3) := by decide +kernel
theorem dX12_ofPots_9 : decode cX12_ofPots 9 = .ok (.iconst 3, 1) := by decide +kernel
theorem dX12_ofPots_10 : decode cX12_ofPots 10 = .ok (.iaload, 1) := by decide +kernel
theorem dX12_ofPots_11 : decode cX12_ofPots 11 = .ok (.if_icmp .ge 86, 3) := by decide +kernel
theorem dX12_ofPots_14 : decode cX12_ofPots 14 = .ok (.aload_n 0, 1) := by decide +kernel
theorem dX12_ofPots_15 : decode cX12_ofPots 15 = .ok (.iload_n 3, 1) := by decide +kernel
theorem dX12_ofPots_16 : decode cX12_ofPots 16 = .ok (.invokevirtual 132, 3) := by decide +kernel
theorem dX12_ofPots_19 : decode cX12_ofPots 19 = .ok (.ifCond .eq 7, 3) := by decide +kernel
theorem dX12_ofPots_22 : decode cX12_ofPots 22 = .ok (.iconst 0, 1) := by decide +kernel
theorem dX12_ofPots_23 : decode cX12_ofPots 23 = .ok (.goto 4, 3) := by decide +kernel
theorem dX12_ofPots_26 : decode cX12_ofPots 26 = .ok (.iconst 1, 1) := by decide +kernel
theorem dX12_ofPots_27 : decode cX12_ofPots 27 = .ok (.istore 4, 2) := by decide +kernel
theorem dX12_ofPots_29 : decode cX12_ofPots 29 = .ok (.iload_n 2, 1) := by decide +kernel
theorem dX12_ofPots_30 : decode cX12_ofPots 30 = .ok (.iload_n 1, 1) := by decide +kernel
theorem dX12_ofPots_31 : decode cX12_ofPots 31 = .ok (.ifCond .ne 8, 3) := by decide +kernel
theorem dX12_ofPots_34 : decode cX12_ofPots 34 = .ok (.iload 4, 2) := by decide +kernel
theorem dX12_ofPots_36 : decode cX12_ofPots 36 = .ok (.goto 53, 3) := by decide +kernel
theorem dX12_ofPots_39 : decode cX12_ofPots 39 = .ok (.iload_n 1, 1) := by decide +kernel
theorem dX12_ofPots_40 : decode cX12_ofPots 40 = .ok (.iconst 1, 1) := by decide +kernel
theorem dX12_ofPots_41 : decode cX12_ofPots 41 = .ok (.if_icmp .ne 19, 3) := by decide +kernel
theorem dX12_ofPots_44 : decode cX12_ofPots 44 = .ok (.aload_n 0, 1) := by decide +kernel
theorem dX12_ofPots_45 : decode cX12_ofPots 45 = .ok (.iload_n 3, 1) := by decide +kernel
theorem dX12_ofPots_46 : decode cX12_ofPots 46 = .ok (.invokevirtual 147, 3) := by decide +kernel
theorem dX12_ofPots_49 : decode cX12_ofPots 49 = .ok (.ifCond .ne 7, 3) := by decide +kernel
theorem dX12_ofPots_52 : decode cX12_ofPots 52 = .ok (.iconst 1, 1) := by decide +kernel
theorem dX12_ofPots_53 : decode cX12_ofPots 53 = .ok (.goto 36, 3) := by decide +kernel
theorem dX12_ofPots_56 : decode cX12_ofPots 56 = .ok (.iconst 0, 1) := by decide +kernel
theorem dX12_ofPots_57 : decode cX12_ofPots 57 = .ok (.goto 32, 3) := by decide +kernel
theorem dX12_ofPots_60 : decode cX12_ofPots 60 = .ok (.iload_n 1, 1) := by decide +kernel
theorem dX12_ofPots_61 : decode cX12_ofPots 61 = .ok (.iconst 2, 1) := by decide +kernel
theorem dX12_ofPots_62 : decode cX12_ofPots 62 = .ok (.if_icmp .ne 19, 3) := by decide +kernel
theorem dX12_ofPots_65 : decode cX12_ofPots 65 = .ok (.aload_n 0, 1) := by decide +kernel
theorem dX12_ofPots_66 : decode cX12_ofPots 66 = .ok (.iload_n 3, 1) := by decide +kernel
theorem dX12_ofPots_67 : decode cX12_ofPots 67 = .ok (.invokevirtual 135, 3) := by decide +kernel
theorem dX12_ofPots_70 : decode cX12_ofPots 70 = .ok (.ifCond .eq 7, 3) := by decide +kernel
theorem dX12_ofPots_73 : decode cX12_ofPots 73 = .ok (.iconst 1, 1) := by decide +kernel
theorem dX12_ofPots_74 : decode cX12_ofPots 74 = .ok (.goto 15, 3) := by decide +kernel
theorem dX12_ofPots_77 : decode cX12_ofPots 77 = .ok (.iconst 0, 1) := by decide +kernel
theorem dX12_ofPots_78 : decode cX12_ofPots 78 = .ok (.goto 11, 3) := by decide +kernel
theorem dX12_ofPots_81 : decode cX12_ofPots 81 = .ok (.iload 4, 2) := by decide +kernel
theorem dX12_ofPots_83 : decode cX12_ofPots 83 = .ok (.aload_n 0, 1) := by decide +kernel
theorem dX12_ofPots_84 : decode cX12_ofPots 84 = .ok (.iload_n 3, 1) := by decide +kernel
theorem dX12_ofPots_85 : decode cX12_ofPots 85 = .ok (.invokevirtual 194, 3) := by decide +kernel
theorem dX12_ofPots_88 : decode cX12_ofPots 88 = .ok (.imul, 1) := by decide +kernel
theorem dX12_ofPots_89 : decode cX12_ofPots 89 = .ok (.iadd, 1) := by decide +kernel
theorem dX12_ofPots_90 : decode cX12_ofPots 90 = .ok (.istore_n 2, 1) := by decide +kernel
theorem dX12_ofPots_91 : decode cX12_ofPots 91 = .ok (.iinc 3 1, 3) := by decide +kernel
theorem dX12_ofPots_94 : decode cX12_ofPots 94 = .ok (.goto (-90), 3) := by decide +kernel
theorem dX12_ofPots_97 : decode cX12_ofPots 97 = .ok (.iload_n 2, 1) := by decide +kernel
theorem dX12_ofPots_98 : decode cX12_ofPots 98 = .ok (.ireturn, 1) := by decide +kernel
theorem dX12_filledOrders_0 : decode cX12_filledOrders 0 = .ok (.iconst 0, 1) := by decide +kernel
theorem dX12_filledOrders_1 : decode cX12_filledOrders 1 = .ok (.istore_n 1, 1) := by decide +kernel
theorem dX12_filledOrders_2 : decode cX12_filledOrders 2 = .ok (.iconst 0, 1) := by decide +kernel
theorem dX12_filledOrders_3 : decode cX12_filledOrders 3 = .ok (.istore_n 2, 1) := by decide +kernel
theorem dX12_filledOrders_4 : decode cX12_filledOrders 4 = .ok (.iload_n 2, 1) := by decide +kernel
theorem dX12_filledOrders_5 : decode cX12_filledOrders 5 = .ok (.aload_n 0, 1) := by decide +kernel
theorem dX12_filledOrders_6 : decode cX12_filledOrders 6 = .ok (.getfield 9, 3) := by decide +kernel
theorem dX12_filledOrders_9 : decode cX12_filledOrders 9 = .ok (.iconst 4, 1) := by decide +kernel
theorem dX12_filledOrders_10 : decode cX12_filledOrders 10 = .ok (.iaload, 1) := by decide +kernel
theorem dX12_filledOrders_11 : decode cX12_filledOrders 11 = .ok (.if_icmp .ge 28, 3) := by decide +kernel
theorem dX12_filledOrders_14 : decode cX12_filledOrders 14 = .ok (.iload_n 1, 1) := by decide +kernel
theorem dX12_filledOrders_15 : decode cX12_filledOrders 15 = .ok (.aload_n 0, 1) := by decide +kernel
theorem dX12_filledOrders_16 : decode cX12_filledOrders 16 = .ok (.iload_n 2, 1) := by decide +kernel
theorem dX12_filledOrders_17 : decode cX12_filledOrders 17 = .ok (.iconst 3, 1) := by decide +kernel
theorem dX12_filledOrders_18 : decode cX12_filledOrders 18 = .ok (.invokevirtual 162, 3) := by decide +kernel
theorem dX12_filledOrders_21 : decode cX12_filledOrders 21 = .ok (.bipush (-4), 2) := by decide +kernel
theorem dX12_filledOrders_23 : decode cX12_filledOrders 23 = .ok (.if_icmp .ne 7, 3) := by decide +kernel
theorem dX12_filledOrders_26 : decode cX12_filledOrders 26 = .ok (.iconst 0, 1) := by decide +kernel
theorem dX12_filledOrders_27 : decode cX12_filledOrders 27 = .ok (.goto 4, 3) := by decide +kernel
theorem dX12_filledOrders_30 : decode cX12_filledOrders 30 = .ok (.iconst 1, 1) := by decide +kernel
theorem dX12_filledOrders_31 : decode cX12_filledOrders 31 = .ok (.iadd, 1) := by decide +kernel
theorem dX12_filledOrders_32 : decode cX12_filledOrders 32 = .ok (.istore_n 1, 1) := by decide +kernel
theorem dX12_filledOrders_33 : decode cX12_filledOrders 33 = .ok (.iinc 2 1, 3) := by decide +kernel
theorem dX12_filledOrders_36 : decode cX12_filledOrders 36 = .ok (.goto (-32), 3) := by decide +kernel
theorem dX12_filledOrders_39 : decode cX12_filledOrders 39 = .ok (.iload_n 1, 1) := by decide +kernel
theorem dX12_filledOrders_40 : decode cX12_filledOrders 40 = .ok (.ireturn, 1) := by decide +kernel
theorem dX12_meanSound_0 : decode cX12_meanSound 0 = .ok (.aload_n 0, 1) := by decide +kernel
theorem dX12_meanSound_1 : decode cX12_meanSound 1 = .ok (.iconst 0, 1) := by decide +kernel
theorem dX12_meanSound_2 : decode cX12_meanSound 2 = .ok (.invokevirtual 209, 3) := by decide +kernel
theorem dX12_meanSound_5 : decode cX12_meanSound 5 = .ok (.istore_n 1, 1) := by decide +kernel
theorem dX12_meanSound_6 : decode cX12_meanSound 6 = .ok (.iload_n 1, 1) := by decide +kernel
theorem dX12_meanSound_7 : decode cX12_meanSound 7 = .ok (.ifCond .ne 7, 3) := by decide +kernel
theorem dX12_meanSound_10 : decode cX12_meanSound 10 = .ok (.fconst 0, 1) := by decide +kernel
theorem dX12_meanSound_11 : decode cX12_meanSound 11 = .ok (.goto 12, 3) := by decide +kernel
theorem dX12_meanSound_14 : decode cX12_meanSound 14 = .ok (.aload_n 0, 1) := by decide +kernel
theorem dX12_meanSound_15 : decode cX12_meanSound 15 = .ok (.iconst 3, 1) := by decide +kernel
theorem dX12_meanSound_16 : decode cX12_meanSound 16 = .ok (.invokevirtual 209, 3) := by decide +kernel
theorem dX12_meanSound_19 : decode cX12_meanSound 19 = .ok (.i2f, 1) := by decide +kernel
theorem dX12_meanSound_20 : decode cX12_meanSound 20 = .ok (.iload_n 1, 1) := by decide +kernel
theorem dX12_meanSound_21 : decode cX12_meanSound 21 = .ok (.i2f, 1) := by decide +kernel
theorem dX12_meanSound_22 : decode cX12_meanSound 22 = .ok (.fdiv, 1) := by decide +kernel
theorem dX12_meanSound_23 : decode cX12_meanSound 23 = .ok (.freturn, 1) := by decide +kernel
theorem dX12_soldShare_0 : decode cX12_soldShare 0 = .ok (.aload_n 0, 1) := by decide +kernel
theorem dX12_soldShare_1 : decode cX12_soldShare 1 = .ok (.getfield 9, 3) := by decide +kernel
theorem dX12_soldShare_4 : decode cX12_soldShare 4 = .ok (.iconst 3, 1) := by decide +kernel
theorem dX12_soldShare_5 : decode cX12_soldShare 5 = .ok (.iaload, 1) := by decide +kernel
theorem dX12_soldShare_6 : decode cX12_soldShare 6 = .ok (.ifCond .ne 7, 3) := by decide +kernel
theorem dX12_soldShare_9 : decode cX12_soldShare 9 = .ok (.dconst 0, 1) := by decide +kernel
theorem dX12_soldShare_10 : decode cX12_soldShare 10 = .ok (.goto 24, 3) := by decide +kernel
theorem dX12_soldShare_13 : decode cX12_soldShare 13 = .ok (.aload_n 0, 1) := by decide +kernel
theorem dX12_soldShare_14 : decode cX12_soldShare 14 = .ok (.getfield 9, 3) := by decide +kernel
theorem dX12_soldShare_17 : decode cX12_soldShare 17 = .ok (.iconst 3, 1) := by decide +kernel
theorem dX12_soldShare_18 : decode cX12_soldShare 18 = .ok (.iaload, 1) := by decide +kernel
theorem dX12_soldShare_19 : decode cX12_soldShare 19 = .ok (.aload_n 0, 1) := by decide +kernel
theorem dX12_soldShare_20 : decode cX12_soldShare 20 = .ok (.iconst 0, 1) := by decide +kernel
theorem dX12_soldShare_21 : decode cX12_soldShare 21 = .ok (.invokevirtual 209, 3) := by decide +kernel
theorem dX12_soldShare_24 : decode cX12_soldShare 24 = .ok (.isub, 1) := by decide +kernel
theorem dX12_soldShare_25 : decode cX12_soldShare 25 = .ok (.i2d, 1) := by decide +kernel
theorem dX12_soldShare_26 : decode cX12_soldShare 26 = .ok (.aload_n 0, 1) := by decide +kernel
theorem dX12_soldShare_27 : decode cX12_soldShare 27 = .ok (.getfield 9, 3) := by decide +kernel
theorem dX12_soldShare_30 : decode cX12_soldShare 30 = .ok (.iconst 3, 1) := by decide +kernel
theorem dX12_soldShare_31 : decode cX12_soldShare 31 = .ok (.iaload, 1) := by decide +kernel
theorem dX12_soldShare_32 : decode cX12_soldShare 32 = .ok (.i2d, 1) := by decide +kernel
theorem dX12_soldShare_33 : decode cX12_soldShare 33 = .ok (.ddiv, 1) := by decide +kernel
theorem dX12_soldShare_34 : decode cX12_soldShare 34 = .ok (.dreturn, 1) := by decide +kernel
theorem dX12_account_0 : decode cX12_account 0 = .ok (.iload_n 1, 1) := by decide +kernel
theorem dX12_account_1 : decode cX12_account 1 = .ok (.tableswitch 128 0 15 #[79, 79, 79, 79, 86, 86, 86, 94, 101, 106, 106, 106, 106, 106, 118, 123], 79) := by decide +kernel
theorem dX12_account_80 : decode cX12_account 80 = .ok (.aload_n 0, 1) := by decide +kernel
theorem dX12_account_81 : decode cX12_account 81 = .ok (.getfield 9, 3) := by decide +kernel
theorem dX12_account_84 : decode cX12_account 84 = .ok (.iload_n 1, 1) := by decide +kernel
theorem dX12_account_85 : decode cX12_account 85 = .ok (.iaload, 1) := by decide +kernel
theorem dX12_account_86 : decode cX12_account 86 = .ok (.ireturn, 1) := by decide +kernel
theorem dX12_account_87 : decode cX12_account 87 = .ok (.aload_n 0, 1) := by decide +kernel
theorem dX12_account_88 : decode cX12_account 88 = .ok (.iload_n 1, 1) := by decide +kernel
theorem dX12_account_89 : decode cX12_account 89 = .ok (.iconst 4, 1) := by decide +kernel
theorem dX12_account_90 : decode cX12_account 90 = .ok (.isub, 1) := by decide +kernel
theorem dX12_account_91 : decode cX12_account 91 = .ok (.invokevirtual 209, 3) := by decide +kernel
theorem dX12_account_94 : decode cX12_account 94 = .ok (.ireturn, 1) := by decide +kernel
theorem dX12_account_95 : decode cX12_account 95 = .ok (.aload_n 0, 1) := by decide +kernel
theorem dX12_account_96 : decode cX12_account 96 = .ok (.getfield 9, 3) := by decide +kernel
theorem dX12_account_99 : decode cX12_account 99 = .ok (.iconst 4, 1) := by decide +kernel
theorem dX12_account_100 : decode cX12_account 100 = .ok (.iaload, 1) := by decide +kernel
theorem dX12_account_101 : decode cX12_account 101 = .ok (.ireturn, 1) := by decide +kernel
theorem dX12_account_102 : decode cX12_account 102 = .ok (.aload_n 0, 1) := by decide +kernel
theorem dX12_account_103 : decode cX12_account 103 = .ok (.invokevirtual 212, 3) := by decide +kernel
theorem dX12_account_106 : decode cX12_account 106 = .ok (.ireturn, 1) := by decide +kernel
theorem dX12_account_107 : decode cX12_account 107 = .ok (.aload_n 0, 1) := by decide +kernel
theorem dX12_account_108 : decode cX12_account 108 = .ok (.getfield 9, 3) := by decide +kernel
theorem dX12_account_111 : decode cX12_account 111 = .ok (.iconst 5, 1) := by decide +kernel
theorem dX12_account_112 : decode cX12_account 112 = .ok (.iload_n 1, 1) := by decide +kernel
theorem dX12_account_113 : decode cX12_account 113 = .ok (.iadd, 1) := by decide +kernel
theorem dX12_account_114 : decode cX12_account 114 = .ok (.bipush 9, 2) := by decide +kernel
theorem dX12_account_116 : decode cX12_account 116 = .ok (.isub, 1) := by decide +kernel
theorem dX12_account_117 : decode cX12_account 117 = .ok (.iaload, 1) := by decide +kernel
theorem dX12_account_118 : decode cX12_account 118 = .ok (.ireturn, 1) := by decide +kernel
theorem dX12_account_119 : decode cX12_account 119 = .ok (.aload_n 0, 1) := by decide +kernel
theorem dX12_account_120 : decode cX12_account 120 = .ok (.getfield 216, 3) := by decide +kernel
theorem dX12_account_123 : decode cX12_account 123 = .ok (.ireturn, 1) := by decide +kernel
theorem dX12_account_124 : decode cX12_account 124 = .ok (.aload_n 0, 1) := by decide +kernel
theorem dX12_account_125 : decode cX12_account 125 = .ok (.getfield 48, 3) := by decide +kernel
theorem dX12_account_128 : decode cX12_account 128 = .ok (.ireturn, 1) := by decide +kernel
theorem dX12_account_129 : decode cX12_account 129 = .ok (.bipush (-2), 2) := by decide +kernel
theorem dX12_account_131 : decode cX12_account 131 = .ok (.ireturn, 1) := by decide +kernel
theorem dX12_begin_0 : decode cX12_begin 0 = .ok (.iload_n 0, 1) := by decide +kernel
theorem dX12_begin_1 : decode cX12_begin 1 = .ok (.tableswitch 91 0 10 #[59, 61, 64, 67, 70, 73, 76, 79, 82, 85, 88], 59) := by decide +kernel
theorem dX12_begin_60 : decode cX12_begin 60 = .ok (.iconst 0, 1) := by decide +kernel
theorem dX12_begin_61 : decode cX12_begin 61 = .ok (.ireturn, 1) := by decide +kernel
theorem dX12_begin_62 : decode cX12_begin 62 = .ok (.bipush 6, 2) := by decide +kernel
theorem dX12_begin_64 : decode cX12_begin 64 = .ok (.ireturn, 1) := by decide +kernel
theorem dX12_begin_65 : decode cX12_begin 65 = .ok (.bipush 9, 2) := by decide +kernel
theorem dX12_begin_67 : decode cX12_begin 67 = .ok (.ireturn, 1) := by decide +kernel
theorem dX12_begin_68 : decode cX12_begin 68 = .ok (.bipush 17, 2) := by decide +kernel
theorem dX12_begin_70 : decode cX12_begin 70 = .ok (.ireturn, 1) := by decide +kernel
theorem dX12_begin_71 : decode cX12_begin 71 = .ok (.bipush 22, 2) := by decide +kernel
theorem dX12_begin_73 : decode cX12_begin 73 = .ok (.ireturn, 1) := by decide +kernel
theorem dX12_begin_74 : decode cX12_begin 74 = .ok (.bipush 27, 2) := by decide +kernel
theorem dX12_begin_76 : decode cX12_begin 76 = .ok (.ireturn, 1) := by decide +kernel
theorem dX12_begin_77 : decode cX12_begin 77 = .ok (.bipush 32, 2) := by decide +kernel
theorem dX12_begin_79 : decode cX12_begin 79 = .ok (.ireturn, 1) := by decide +kernel
theorem dX12_begin_80 : decode cX12_begin 80 = .ok (.bipush 35, 2) := by decide +kernel
theorem dX12_begin_82 : decode cX12_begin 82 = .ok (.ireturn, 1) := by decide +kernel
theorem dX12_begin_83 : decode cX12_begin 83 = .ok (.bipush 38, 2) := by decide +kernel
theorem dX12_begin_85 : decode cX12_begin 85 = .ok (.ireturn, 1) := by decide +kernel
theorem dX12_begin_86 : decode cX12_begin 86 = .ok (.bipush 42, 2) := by decide +kernel
theorem dX12_begin_88 : decode cX12_begin 88 = .ok (.ireturn, 1) := by decide +kernel
theorem dX12_begin_89 : decode cX12_begin 89 = .ok (.bipush 46, 2) := by decide +kernel
theorem dX12_begin_91 : decode cX12_begin 91 = .ok (.ireturn, 1) := by decide +kernel
theorem dX12_begin_92 : decode cX12_begin 92 = .ok (.bipush 50, 2) := by decide +kernel
theorem dX12_begin_94 : decode cX12_begin 94 = .ok (.ireturn, 1) := by decide +kernel
theorem dX12_put_0 : decode cX12_put 0 = .ok (.aload_n 0, 1) := by decide +kernel
theorem dX12_put_1 : decode cX12_put 1 = .ok (.getfield 35, 3) := by decide +kernel
theorem dX12_put_4 : decode cX12_put 4 = .ok (.iload_n 1, 1) := by decide +kernel
theorem dX12_put_5 : decode cX12_put 5 = .ok (.iload_n 2, 1) := by decide +kernel
theorem dX12_put_6 : decode cX12_put 6 = .ok (.iastore, 1) := by decide +kernel
theorem dX12_put_7 : decode cX12_put 7 = .ok (.iload_n 1, 1) := by decide +kernel
theorem dX12_put_8 : decode cX12_put 8 = .ok (.iconst 1, 1) := by decide +kernel
theorem dX12_put_9 : decode cX12_put 9 = .ok (.iadd, 1) := by decide +kernel
theorem dX12_put_10 : decode cX12_put 10 = .ok (.ireturn, 1) := by decide +kernel
theorem dX12_writesWord_0 : decode cX12_writesWord 0 = .ok (.iload_n 1, 1) := by decide +kernel
theorem dX12_writesWord_1 : decode cX12_writesWord 1 = .ok (.istore_n 3, 1) := by decide +kernel
theorem dX12_writesWord_2 : decode cX12_writesWord 2 = .ok (.iload_n 2, 1) := by decide +kernel
theorem dX12_writesWord_3 : decode cX12_writesWord 3 = .ok (.invokestatic 219, 3) := by decide +kernel
theorem dX12_writesWord_6 : decode cX12_writesWord 6 = .ok (.istore 4, 2) := by decide +kernel
theorem dX12_writesWord_8 : decode cX12_writesWord 8 = .ok (.iload 4, 2) := by decide +kernel
theorem dX12_writesWord_10 : decode cX12_writesWord 10 = .ok (.iload_n 2, 1) := by decide +kernel
theorem dX12_writesWord_11 : decode cX12_writesWord 11 = .ok (.iconst 1, 1) := by decide +kernel
theorem dX12_writesWord_12 : decode cX12_writesWord 12 = .ok (.iadd, 1) := by decide +kernel
theorem dX12_writesWord_13 : decode cX12_writesWord 13 = .ok (.invokestatic 219, 3) := by decide +kernel
theorem dX12_writesWord_16 : decode cX12_writesWord 16 = .ok (.if_icmp .ge 22, 3) := by decide +kernel
theorem dX12_writesWord_19 : decode cX12_writesWord 19 = .ok (.aload_n 0, 1) := by decide +kernel
theorem dX12_writesWord_20 : decode cX12_writesWord 20 = .ok (.iload_n 3, 1) := by decide +kernel
theorem dX12_writesWord_21 : decode cX12_writesWord 21 = .ok (.ldc 222, 2) := by decide +kernel
theorem dX12_writesWord_23 : decode cX12_writesWord 23 = .ok (.iload 4, 2) := by decide +kernel
theorem dX12_writesWord_25 : decode cX12_writesWord 25 = .ok (.invokevirtual 224, 3) := by decide +kernel
theorem dX12_writesWord_28 : decode cX12_writesWord 28 = .ok (.invokevirtual 230, 3) := by decide +kernel
theorem dX12_writesWord_31 : decode cX12_writesWord 31 = .ok (.istore_n 3, 1) := by decide +kernel
theorem dX12_writesWord_32 : decode cX12_writesWord 32 = .ok (.iinc 4 1, 3) := by decide +kernel
theorem dX12_writesWord_35 : decode cX12_writesWord 35 = .ok (.goto (-27), 3) := by decide +kernel
theorem dX12_writesWord_38 : decode cX12_writesWord 38 = .ok (.iload_n 3, 1) := by decide +kernel
theorem dX12_writesWord_39 : decode cX12_writesWord 39 = .ok (.ireturn, 1) := by decide +kernel
theorem dX12_writesNumber_0 : decode cX12_writesNumber 0 = .ok (.iload_n 2, 1) := by decide +kernel
theorem dX12_writesNumber_1 : decode cX12_writesNumber 1 = .ok (.bipush 10, 2) := by decide +kernel
theorem dX12_writesNumber_3 : decode cX12_writesNumber 3 = .ok (.if_icmp .ge 7, 3) := by decide +kernel
theorem dX12_writesNumber_6 : decode cX12_writesNumber 6 = .ok (.iload_n 1, 1) := by decide +kernel
theorem dX12_writesNumber_7 : decode cX12_writesNumber 7 = .ok (.goto 15, 3) := by decide +kernel
theorem dX12_writesNumber_10 : decode cX12_writesNumber 10 = .ok (.aload_n 0, 1) := by decide +kernel
theorem dX12_writesNumber_11 : decode cX12_writesNumber 11 = .ok (.iload_n 1, 1) := by decide +kernel
theorem dX12_writesNumber_12 : decode cX12_writesNumber 12 = .ok (.bipush 48, 2) := by decide +kernel
theorem dX12_writesNumber_14 : decode cX12_writesNumber 14 = .ok (.iload_n 2, 1) := by decide +kernel
theorem dX12_writesNumber_15 : decode cX12_writesNumber 15 = .ok (.bipush 10, 2) := by decide +kernel
theorem dX12_writesNumber_17 : decode cX12_writesNumber 17 = .ok (.idiv, 1) := by decide +kernel
theorem dX12_writesNumber_18 : decode cX12_writesNumber 18 = .ok (.iadd, 1) := by decide +kernel
theorem dX12_writesNumber_19 : decode cX12_writesNumber 19 = .ok (.invokevirtual 230, 3) := by decide +kernel
theorem dX12_writesNumber_22 : decode cX12_writesNumber 22 = .ok (.istore_n 3, 1) := by decide +kernel
theorem dX12_writesNumber_23 : decode cX12_writesNumber 23 = .ok (.aload_n 0, 1) := by decide +kernel
theorem dX12_writesNumber_24 : decode cX12_writesNumber 24 = .ok (.iload_n 3, 1) := by decide +kernel
theorem dX12_writesNumber_25 : decode cX12_writesNumber 25 = .ok (.bipush 48, 2) := by decide +kernel
theorem dX12_writesNumber_27 : decode cX12_writesNumber 27 = .ok (.iload_n 2, 1) := by decide +kernel
theorem dX12_writesNumber_28 : decode cX12_writesNumber 28 = .ok (.bipush 10, 2) := by decide +kernel
theorem dX12_writesNumber_30 : decode cX12_writesNumber 30 = .ok (.irem, 1) := by decide +kernel
theorem dX12_writesNumber_31 : decode cX12_writesNumber 31 = .ok (.iadd, 1) := by decide +kernel
theorem dX12_writesNumber_32 : decode cX12_writesNumber 32 = .ok (.invokevirtual 230, 3) := by decide +kernel
theorem dX12_writesNumber_35 : decode cX12_writesNumber 35 = .ok (.ireturn, 1) := by decide +kernel
theorem dX12_describe_0 : decode cX12_describe 0 = .ok (.aload_n 0, 1) := by decide +kernel
theorem dX12_describe_1 : decode cX12_describe 1 = .ok (.iload_n 1, 1) := by decide +kernel
theorem dX12_describe_2 : decode cX12_describe 2 = .ok (.invokevirtual 129, 3) := by decide +kernel
theorem dX12_describe_5 : decode cX12_describe 5 = .ok (.ifCond .ne 5, 3) := by decide +kernel
theorem dX12_describe_8 : decode cX12_describe 8 = .ok (.iconst (-1), 1) := by decide +kernel
theorem dX12_describe_9 : decode cX12_describe 9 = .ok (.ireturn, 1) := by decide +kernel
theorem dX12_describe_10 : decode cX12_describe 10 = .ok (.aload_n 0, 1) := by decide +kernel
theorem dX12_describe_11 : decode cX12_describe 11 = .ok (.aload_n 0, 1) := by decide +kernel
theorem dX12_describe_12 : decode cX12_describe 12 = .ok (.aload_n 0, 1) := by decide +kernel
theorem dX12_describe_13 : decode cX12_describe 13 = .ok (.iconst 0, 1) := by decide +kernel
theorem dX12_describe_14 : decode cX12_describe 14 = .ok (.aload_n 0, 1) := by decide +kernel
theorem dX12_describe_15 : decode cX12_describe 15 = .ok (.iload_n 1, 1) := by decide +kernel
theorem dX12_describe_16 : decode cX12_describe 16 = .ok (.iconst 0, 1) := by decide +kernel
theorem dX12_describe_17 : decode cX12_describe 17 = .ok (.invokevirtual 101, 3) := by decide +kernel
theorem dX12_describe_20 : decode cX12_describe 20 = .ok (.invokevirtual 233, 3) := by decide +kernel
theorem dX12_describe_23 : decode cX12_describe 23 = .ok (.iload_n 1, 1) := by decide +kernel
theorem dX12_describe_24 : decode cX12_describe 24 = .ok (.invokevirtual 236, 3) := by decide +kernel
theorem dX12_describe_27 : decode cX12_describe 27 = .ok (.bipush 58, 2) := by decide +kernel
theorem dX12_describe_29 : decode cX12_describe 29 = .ok (.invokevirtual 230, 3) := by decide +kernel
theorem dX12_describe_32 : decode cX12_describe 32 = .ok (.istore_n 2, 1) := by decide +kernel
theorem dX12_describe_33 : decode cX12_describe 33 = .ok (.aload_n 0, 1) := by decide +kernel
theorem dX12_describe_34 : decode cX12_describe 34 = .ok (.iload_n 2, 1) := by decide +kernel
theorem dX12_describe_35 : decode cX12_describe 35 = .ok (.aload_n 0, 1) := by decide +kernel
theorem dX12_describe_36 : decode cX12_describe 36 = .ok (.iload_n 1, 1) := by decide +kernel
theorem dX12_describe_37 : decode cX12_describe 37 = .ok (.invokevirtual 117, 3) := by decide +kernel
theorem dX12_describe_40 : decode cX12_describe 40 = .ok (.invokevirtual 236, 3) := by decide +kernel
theorem dX12_describe_43 : decode cX12_describe 43 = .ok (.istore_n 2, 1) := by decide +kernel
theorem dX12_describe_44 : decode cX12_describe 44 = .ok (.aload_n 0, 1) := by decide +kernel
theorem dX12_describe_45 : decode cX12_describe 45 = .ok (.iload_n 1, 1) := by decide +kernel
theorem dX12_describe_46 : decode cX12_describe 46 = .ok (.invokevirtual 147, 3) := by decide +kernel
theorem dX12_describe_49 : decode cX12_describe 49 = .ok (.ifCond .ne 13, 3) := by decide +kernel
theorem dX12_describe_52 : decode cX12_describe 52 = .ok (.aload_n 0, 1) := by decide +kernel
theorem dX12_describe_53 : decode cX12_describe 53 = .ok (.iload_n 2, 1) := by decide +kernel
theorem dX12_describe_54 : decode cX12_describe 54 = .ok (.bipush 42, 2) := by decide +kernel
theorem dX12_describe_56 : decode cX12_describe 56 = .ok (.invokevirtual 230, 3) := by decide +kernel
theorem dX12_describe_59 : decode cX12_describe 59 = .ok (.goto 4, 3) := by decide +kernel
theorem dX12_describe_62 : decode cX12_describe 62 = .ok (.iload_n 2, 1) := by decide +kernel
theorem dX12_describe_63 : decode cX12_describe 63 = .ok (.istore_n 2, 1) := by decide +kernel
theorem dX12_describe_64 : decode cX12_describe 64 = .ok (.aload_n 0, 1) := by decide +kernel
theorem dX12_describe_65 : decode cX12_describe 65 = .ok (.iload_n 1, 1) := by decide +kernel
theorem dX12_describe_66 : decode cX12_describe 66 = .ok (.iconst 3, 1) := by decide +kernel
theorem dX12_describe_67 : decode cX12_describe 67 = .ok (.invokevirtual 101, 3) := by decide +kernel
theorem dX12_describe_70 : decode cX12_describe 70 = .ok (.ifCond .le 23, 3) := by decide +kernel
theorem dX12_describe_73 : decode cX12_describe 73 = .ok (.aload_n 0, 1) := by decide +kernel
theorem dX12_describe_74 : decode cX12_describe 74 = .ok (.aload_n 0, 1) := by decide +kernel
theorem dX12_describe_75 : decode cX12_describe 75 = .ok (.iload_n 2, 1) := by decide +kernel
theorem dX12_describe_76 : decode cX12_describe 76 = .ok (.bipush 43, 2) := by decide +kernel
theorem dX12_describe_78 : decode cX12_describe 78 = .ok (.invokevirtual 230, 3) := by decide +kernel
theorem dX12_describe_81 : decode cX12_describe 81 = .ok (.aload_n 0, 1) := by decide +kernel
theorem dX12_describe_82 : decode cX12_describe 82 = .ok (.iload_n 1, 1) := by decide +kernel
theorem dX12_describe_83 : decode cX12_describe 83 = .ok (.iconst 3, 1) := by decide +kernel
theorem dX12_describe_84 : decode cX12_describe 84 = .ok (.invokevirtual 101, 3) := by decide +kernel
theorem dX12_describe_87 : decode cX12_describe 87 = .ok (.invokevirtual 236, 3) := by decide +kernel
theorem dX12_describe_90 : decode cX12_describe 90 = .ok (.goto 4, 3) := by decide +kernel
theorem dX12_describe_93 : decode cX12_describe 93 = .ok (.iload_n 2, 1) := by decide +kernel
theorem dX12_describe_94 : decode cX12_describe 94 = .ok (.istore_n 2, 1) := by decide +kernel
theorem dX12_describe_95 : decode cX12_describe 95 = .ok (.aload_n 0, 1) := by decide +kernel
theorem dX12_describe_96 : decode cX12_describe 96 = .ok (.iload_n 1, 1) := by decide +kernel
theorem dX12_describe_97 : decode cX12_describe 97 = .ok (.invokevirtual 135, 3) := by decide +kernel
theorem dX12_describe_100 : decode cX12_describe 100 = .ok (.ifCond .eq 13, 3) := by decide +kernel
theorem dX12_describe_103 : decode cX12_describe 103 = .ok (.aload_n 0, 1) := by decide +kernel
theorem dX12_describe_104 : decode cX12_describe 104 = .ok (.iload_n 2, 1) := by decide +kernel
theorem dX12_describe_105 : decode cX12_describe 105 = .ok (.bipush 33, 2) := by decide +kernel
theorem dX12_describe_107 : decode cX12_describe 107 = .ok (.invokevirtual 230, 3) := by decide +kernel
theorem dX12_describe_110 : decode cX12_describe 110 = .ok (.goto 4, 3) := by decide +kernel
theorem dX12_describe_113 : decode cX12_describe 113 = .ok (.iload_n 2, 1) := by decide +kernel
theorem dX12_describe_114 : decode cX12_describe 114 = .ok (.istore_n 2, 1) := by decide +kernel
theorem dX12_describe_115 : decode cX12_describe 115 = .ok (.aload_n 0, 1) := by decide +kernel
theorem dX12_describe_116 : decode cX12_describe 116 = .ok (.iload_n 1, 1) := by decide +kernel
theorem dX12_describe_117 : decode cX12_describe 117 = .ok (.invokevirtual 165, 3) := by decide +kernel
theorem dX12_describe_120 : decode cX12_describe 120 = .ok (.ifCond .eq 7, 3) := by decide +kernel
theorem dX12_describe_123 : decode cX12_describe 123 = .ok (.iload_n 2, 1) := by decide +kernel
theorem dX12_describe_124 : decode cX12_describe 124 = .ok (.goto 9, 3) := by decide +kernel
theorem dX12_describe_127 : decode cX12_describe 127 = .ok (.aload_n 0, 1) := by decide +kernel
theorem dX12_describe_128 : decode cX12_describe 128 = .ok (.iload_n 2, 1) := by decide +kernel
theorem dX12_describe_129 : decode cX12_describe 129 = .ok (.iconst 3, 1) := by decide +kernel
theorem dX12_describe_130 : decode cX12_describe 130 = .ok (.invokevirtual 233, 3) := by decide +kernel
theorem dX12_describe_133 : decode cX12_describe 133 = .ok (.istore_n 2, 1) := by decide +kernel
theorem dX12_describe_134 : decode cX12_describe 134 = .ok (.aload_n 0, 1) := by decide +kernel
theorem dX12_describe_135 : decode cX12_describe 135 = .ok (.iload_n 1, 1) := by decide +kernel
theorem dX12_describe_136 : decode cX12_describe 136 = .ok (.invokevirtual 132, 3) := by decide +kernel
theorem dX12_describe_139 : decode cX12_describe 139 = .ok (.ifCond .eq 12, 3) := by decide +kernel
theorem dX12_describe_142 : decode cX12_describe 142 = .ok (.aload_n 0, 1) := by decide +kernel
theorem dX12_describe_143 : decode cX12_describe 143 = .ok (.iload_n 2, 1) := by decide +kernel
theorem dX12_describe_144 : decode cX12_describe 144 = .ok (.iconst 4, 1) := by decide +kernel
theorem dX12_describe_145 : decode cX12_describe 145 = .ok (.invokevirtual 233, 3) := by decide +kernel
theorem dX12_describe_148 : decode cX12_describe 148 = .ok (.goto 4, 3) := by decide +kernel
theorem dX12_describe_151 : decode cX12_describe 151 = .ok (.iload_n 2, 1) := by decide +kernel
theorem dX12_describe_152 : decode cX12_describe 152 = .ok (.istore_n 2, 1) := by decide +kernel
theorem dX12_describe_153 : decode cX12_describe 153 = .ok (.aload_n 0, 1) := by decide +kernel
theorem dX12_describe_154 : decode cX12_describe 154 = .ok (.iload_n 2, 1) := by decide +kernel
theorem dX12_describe_155 : decode cX12_describe 155 = .ok (.putfield 239, 3) := by decide +kernel
theorem dX12_describe_158 : decode cX12_describe 158 = .ok (.iload_n 2, 1) := by decide +kernel
theorem dX12_describe_159 : decode cX12_describe 159 = .ok (.ireturn, 1) := by decide +kernel
theorem dX12_written_0 : decode cX12_written 0 = .ok (.iload_n 1, 1) := by decide +kernel
theorem dX12_written_1 : decode cX12_written 1 = .ok (.iconst 0, 1) := by decide +kernel
theorem dX12_written_2 : decode cX12_written 2 = .ok (.aload_n 0, 1) := by decide +kernel
theorem dX12_written_3 : decode cX12_written 3 = .ok (.getfield 239, 3) := by decide +kernel
theorem dX12_written_6 : decode cX12_written 6 = .ok (.iconst 1, 1) := by decide +kernel
theorem dX12_written_7 : decode cX12_written 7 = .ok (.isub, 1) := by decide +kernel
theorem dX12_written_8 : decode cX12_written 8 = .ok (.invokestatic 74, 3) := by decide +kernel
theorem dX12_written_11 : decode cX12_written 11 = .ok (.ifCond .eq 12, 3) := by decide +kernel
theorem dX12_written_14 : decode cX12_written 14 = .ok (.aload_n 0, 1) := by decide +kernel
theorem dX12_written_15 : decode cX12_written 15 = .ok (.getfield 35, 3) := by decide +kernel
theorem dX12_written_18 : decode cX12_written 18 = .ok (.iload_n 1, 1) := by decide +kernel
theorem dX12_written_19 : decode cX12_written 19 = .ok (.iaload, 1) := by decide +kernel
theorem dX12_written_20 : decode cX12_written 20 = .ok (.goto 4, 3) := by decide +kernel
theorem dX12_written_23 : decode cX12_written 23 = .ok (.iconst (-1), 1) := by decide +kernel
theorem dX12_written_24 : decode cX12_written 24 = .ok (.ireturn, 1) := by decide +kernel
theorem dX12_append_0 : decode cX12_append 0 = .ok (.iload_n 1, 1) := by decide +kernel
theorem dX12_append_1 : decode cX12_append 1 = .ok (.bipush 32, 2) := by decide +kernel
theorem dX12_append_3 : decode cX12_append 3 = .ok (.bipush 126, 2) := by decide +kernel
theorem dX12_append_5 : decode cX12_append 5 = .ok (.invokestatic 74, 3) := by decide +kernel
theorem dX12_append_8 : decode cX12_append 8 = .ok (.ifCond .eq 12, 3) := by decide +kernel
theorem dX12_append_11 : decode cX12_append 11 = .ok (.aload_n 0, 1) := by decide +kernel
theorem dX12_append_12 : decode cX12_append 12 = .ok (.getfield 216, 3) := by decide +kernel
theorem dX12_append_15 : decode cX12_append 15 = .ok (.bipush 60, 2) := by decide +kernel
theorem dX12_append_17 : decode cX12_append 17 = .ok (.if_icmp .ne 6, 3) := by decide +kernel
theorem dX12_append_20 : decode cX12_append 20 = .ok (.bipush (-2), 2) := by decide +kernel
theorem dX12_append_22 : decode cX12_append 22 = .ok (.ireturn, 1) := by decide +kernel
theorem dX12_append_23 : decode cX12_append 23 = .ok (.aload_n 0, 1) := by decide +kernel
theorem dX12_append_24 : decode cX12_append 24 = .ok (.getfield 28, 3) := by decide +kernel
theorem dX12_append_27 : decode cX12_append 27 = .ok (.aload_n 0, 1) := by decide +kernel
theorem dX12_append_28 : decode cX12_append 28 = .ok (.getfield 216, 3) := by decide +kernel
theorem dX12_append_31 : decode cX12_append 31 = .ok (.iload_n 1, 1) := by decide +kernel
theorem dX12_append_32 : decode cX12_append 32 = .ok (.iastore, 1) := by decide +kernel
theorem dX12_append_33 : decode cX12_append 33 = .ok (.aload_n 0, 1) := by decide +kernel
theorem dX12_append_34 : decode cX12_append 34 = .ok (.dup, 1) := by decide +kernel
theorem dX12_append_35 : decode cX12_append 35 = .ok (.getfield 216, 3) := by decide +kernel
theorem dX12_append_38 : decode cX12_append 38 = .ok (.iconst 1, 1) := by decide +kernel
theorem dX12_append_39 : decode cX12_append 39 = .ok (.iadd, 1) := by decide +kernel
theorem dX12_append_40 : decode cX12_append 40 = .ok (.putfield 216, 3) := by decide +kernel
theorem dX12_append_43 : decode cX12_append 43 = .ok (.aload_n 0, 1) := by decide +kernel
theorem dX12_append_44 : decode cX12_append 44 = .ok (.getfield 216, 3) := by decide +kernel
theorem dX12_append_47 : decode cX12_append 47 = .ok (.ireturn, 1) := by decide +kernel
theorem dX12_sign_0 : decode cX12_sign 0 = .ok (.aload_n 0, 1) := by decide +kernel
theorem dX12_sign_1 : decode cX12_sign 1 = .ok (.getfield 242, 3) := by decide +kernel
theorem dX12_sign_4 : decode cX12_sign 4 = .ok (.aload_n 0, 1) := by decide +kernel
theorem dX12_sign_5 : decode cX12_sign 5 = .ok (.getfield 245, 3) := by decide +kernel
theorem dX12_sign_8 : decode cX12_sign 8 = .ok (.if_icmp .ge 15, 3) := by decide +kernel
theorem dX12_sign_11 : decode cX12_sign 11 = .ok (.aload_n 0, 1) := by decide +kernel
theorem dX12_sign_12 : decode cX12_sign 12 = .ok (.getfield 28, 3) := by decide +kernel
theorem dX12_sign_15 : decode cX12_sign 15 = .ok (.aload_n 0, 1) := by decide +kernel
theorem dX12_sign_16 : decode cX12_sign 16 = .ok (.getfield 242, 3) := by decide +kernel
theorem dX12_sign_19 : decode cX12_sign 19 = .ok (.iaload, 1) := by decide +kernel
theorem dX12_sign_20 : decode cX12_sign 20 = .ok (.goto 4, 3) := by decide +kernel
theorem dX12_sign_23 : decode cX12_sign 23 = .ok (.iconst (-1), 1) := by decide +kernel
theorem dX12_sign_24 : decode cX12_sign 24 = .ok (.ireturn, 1) := by decide +kernel
theorem dX12_takes_0 : decode cX12_takes 0 = .ok (.aload_n 0, 1) := by decide +kernel
theorem dX12_takes_1 : decode cX12_takes 1 = .ok (.getfield 248, 3) := by decide +kernel
theorem dX12_takes_4 : decode cX12_takes 4 = .ok (.iconst (-1), 1) := by decide +kernel
theorem dX12_takes_5 : decode cX12_takes 5 = .ok (.if_icmp .ne 40, 3) := by decide +kernel
theorem dX12_takes_8 : decode cX12_takes 8 = .ok (.aload_n 0, 1) := by decide +kernel
theorem dX12_takes_9 : decode cX12_takes 9 = .ok (.invokevirtual 251, 3) := by decide +kernel
theorem dX12_takes_12 : decode cX12_takes 12 = .ok (.iload_n 1, 1) := by decide +kernel
theorem dX12_takes_13 : decode cX12_takes 13 = .ok (.iload_n 2, 1) := by decide +kernel
theorem dX12_takes_14 : decode cX12_takes 14 = .ok (.invokestatic 74, 3) := by decide +kernel
theorem dX12_takes_17 : decode cX12_takes 17 = .ok (.ifCond .eq 28, 3) := by decide +kernel
theorem dX12_takes_20 : decode cX12_takes 20 = .ok (.aload_n 0, 1) := by decide +kernel
theorem dX12_takes_21 : decode cX12_takes 21 = .ok (.dup, 1) := by decide +kernel
theorem dX12_takes_22 : decode cX12_takes 22 = .ok (.getfield 242, 3) := by decide +kernel
theorem dX12_takes_25 : decode cX12_takes 25 = .ok (.iconst 1, 1) := by decide +kernel
theorem dX12_takes_26 : decode cX12_takes 26 = .ok (.iadd, 1) := by decide +kernel
theorem dX12_takes_27 : decode cX12_takes 27 = .ok (.putfield 242, 3) := by decide +kernel
theorem dX12_takes_30 : decode cX12_takes 30 = .ok (.aload_n 0, 1) := by decide +kernel
theorem dX12_takes_31 : decode cX12_takes 31 = .ok (.getfield 28, 3) := by decide +kernel
theorem dX12_takes_34 : decode cX12_takes 34 = .ok (.aload_n 0, 1) := by decide +kernel
theorem dX12_takes_35 : decode cX12_takes 35 = .ok (.getfield 242, 3) := by decide +kernel
theorem dX12_takes_38 : decode cX12_takes 38 = .ok (.iconst 1, 1) := by decide +kernel
theorem dX12_takes_39 : decode cX12_takes 39 = .ok (.isub, 1) := by decide +kernel
theorem dX12_takes_40 : decode cX12_takes 40 = .ok (.iaload, 1) := by decide +kernel
theorem dX12_takes_41 : decode cX12_takes 41 = .ok (.bipush 48, 2) := by decide +kernel
theorem dX12_takes_43 : decode cX12_takes 43 = .ok (.isub, 1) := by decide +kernel
theorem dX12_takes_44 : decode cX12_takes 44 = .ok (.ireturn, 1) := by decide +kernel
theorem dX12_takes_45 : decode cX12_takes 45 = .ok (.aload_n 0, 1) := by decide +kernel
theorem dX12_takes_46 : decode cX12_takes 46 = .ok (.aload_n 0, 1) := by decide +kernel
theorem dX12_takes_47 : decode cX12_takes 47 = .ok (.getfield 248, 3) := by decide +kernel
theorem dX12_takes_50 : decode cX12_takes 50 = .ok (.iconst (-1), 1) := by decide +kernel
theorem dX12_takes_51 : decode cX12_takes 51 = .ok (.if_icmp .ne 10, 3) := by decide +kernel
theorem dX12_takes_54 : decode cX12_takes 54 = .ok (.aload_n 0, 1) := by decide +kernel
theorem dX12_takes_55 : decode cX12_takes 55 = .ok (.getfield 242, 3) := by decide +kernel
theorem dX12_takes_58 : decode cX12_takes 58 = .ok (.goto 7, 3) := by decide +kernel
theorem dX12_takes_61 : decode cX12_takes 61 = .ok (.aload_n 0, 1) := by decide +kernel
theorem dX12_takes_62 : decode cX12_takes 62 = .ok (.getfield 248, 3) := by decide +kernel
theorem dX12_takes_65 : decode cX12_takes 65 = .ok (.putfield 248, 3) := by decide +kernel
theorem dX12_takes_68 : decode cX12_takes 68 = .ok (.iconst 0, 1) := by decide +kernel
theorem dX12_takes_69 : decode cX12_takes 69 = .ok (.ireturn, 1) := by decide +kernel
theorem dX12_number_0 : decode cX12_number 0 = .ok (.aload_n 0, 1) := by decide +kernel
theorem dX12_number_1 : decode cX12_number 1 = .ok (.bipush 32, 2) := by decide +kernel
theorem dX12_number_3 : decode cX12_number 3 = .ok (.bipush 32, 2) := by decide +kernel
theorem dX12_number_5 : decode cX12_number 5 = .ok (.invokevirtual 254, 3) := by decide +kernel
theorem dX12_number_8 : decode cX12_number 8 = .ok (.istore_n 2, 1) := by decide +kernel
theorem dX12_number_9 : decode cX12_number 9 = .ok (.aload_n 0, 1) := by decide +kernel
theorem dX12_number_10 : decode cX12_number 10 = .ok (.bipush 48, 2) := by decide +kernel
theorem dX12_number_12 : decode cX12_number 12 = .ok (.bipush 57, 2) := by decide +kernel
theorem dX12_number_14 : decode cX12_number 14 = .ok (.invokevirtual 254, 3) := by decide +kernel
theorem dX12_number_17 : decode cX12_number 17 = .ok (.istore_n 3, 1) := by decide +kernel
theorem dX12_number_18 : decode cX12_number 18 = .ok (.iload_n 1, 1) := by decide +kernel
theorem dX12_number_19 : decode cX12_number 19 = .ok (.ifCond .eq 41, 3) := by decide +kernel
theorem dX12_number_22 : decode cX12_number 22 = .ok (.aload_n 0, 1) := by decide +kernel
theorem dX12_number_23 : decode cX12_number 23 = .ok (.getfield 248, 3) := by decide +kernel
theorem dX12_number_26 : decode cX12_number 26 = .ok (.iconst (-1), 1) := by decide +kernel
theorem dX12_number_27 : decode cX12_number 27 = .ok (.if_icmp .ne 33, 3) := by decide +kernel
theorem dX12_number_30 : decode cX12_number 30 = .ok (.aload_n 0, 1) := by decide +kernel
theorem dX12_number_31 : decode cX12_number 31 = .ok (.invokevirtual 251, 3) := by decide +kernel
theorem dX12_number_34 : decode cX12_number 34 = .ok (.bipush 48, 2) := by decide +kernel
theorem dX12_number_36 : decode cX12_number 36 = .ok (.bipush 57, 2) := by decide +kernel
theorem dX12_number_38 : decode cX12_number 38 = .ok (.invokestatic 74, 3) := by decide +kernel
theorem dX12_number_41 : decode cX12_number 41 = .ok (.ifCond .eq 19, 3) := by decide +kernel
theorem dX12_number_44 : decode cX12_number 44 = .ok (.bipush 10, 2) := by decide +kernel
theorem dX12_number_46 : decode cX12_number 46 = .ok (.iload_n 3, 1) := by decide +kernel
theorem dX12_number_47 : decode cX12_number 47 = .ok (.imul, 1) := by decide +kernel
theorem dX12_number_48 : decode cX12_number 48 = .ok (.aload_n 0, 1) := by decide +kernel
theorem dX12_number_49 : decode cX12_number 49 = .ok (.bipush 48, 2) := by decide +kernel
theorem dX12_number_51 : decode cX12_number 51 = .ok (.bipush 57, 2) := by decide +kernel
theorem dX12_number_53 : decode cX12_number 53 = .ok (.invokevirtual 254, 3) := by decide +kernel
theorem dX12_number_56 : decode cX12_number 56 = .ok (.iadd, 1) := by decide +kernel
theorem dX12_number_57 : decode cX12_number 57 = .ok (.goto 4, 3) := by decide +kernel
theorem dX12_number_60 : decode cX12_number 60 = .ok (.iload_n 3, 1) := by decide +kernel
theorem dX12_number_61 : decode cX12_number 61 = .ok (.ireturn, 1) := by decide +kernel
theorem dX12_word_0 : decode cX12_word 0 = .ok (.aload_n 0, 1) := by decide +kernel
theorem dX12_word_1 : decode cX12_word 1 = .ok (.getfield 248, 3) := by decide +kernel
theorem dX12_word_4 : decode cX12_word 4 = .ok (.iconst (-1), 1) := by decide +kernel
theorem dX12_word_5 : decode cX12_word 5 = .ok (.if_icmp .eq 5, 3) := by decide +kernel
theorem dX12_word_8 : decode cX12_word 8 = .ok (.iconst 5, 1) := by decide +kernel
theorem dX12_word_9 : decode cX12_word 9 = .ok (.ireturn, 1) := by decide +kernel
theorem dX12_word_10 : decode cX12_word 10 = .ok (.aload_n 0, 1) := by decide +kernel
theorem dX12_word_11 : decode cX12_word 11 = .ok (.getfield 242, 3) := by decide +kernel
theorem dX12_word_14 : decode cX12_word 14 = .ok (.istore_n 1, 1) := by decide +kernel
theorem dX12_word_15 : decode cX12_word 15 = .ok (.iconst (-1), 1) := by decide +kernel
theorem dX12_word_16 : decode cX12_word 16 = .ok (.istore_n 2, 1) := by decide +kernel
theorem dX12_word_17 : decode cX12_word 17 = .ok (.iconst 5, 1) := by decide +kernel
theorem dX12_word_18 : decode cX12_word 18 = .ok (.istore_n 3, 1) := by decide +kernel
theorem dX12_word_19 : decode cX12_word 19 = .ok (.iload_n 3, 1) := by decide +kernel
theorem dX12_word_20 : decode cX12_word 20 = .ok (.bipush 10, 2) := by decide +kernel
theorem dX12_word_22 : decode cX12_word 22 = .ok (.if_icmp .gt 109, 3) := by decide +kernel
theorem dX12_word_25 : decode cX12_word 25 = .ok (.iload_n 2, 1) := by decide +kernel
theorem dX12_word_26 : decode cX12_word 26 = .ok (.iconst (-1), 1) := by decide +kernel
theorem dX12_word_27 : decode cX12_word 27 = .ok (.if_icmp .ne 104, 3) := by decide +kernel
theorem dX12_word_30 : decode cX12_word 30 = .ok (.iload_n 3, 1) := by decide +kernel
theorem dX12_word_31 : decode cX12_word 31 = .ok (.iconst 1, 1) := by decide +kernel
theorem dX12_word_32 : decode cX12_word 32 = .ok (.iadd, 1) := by decide +kernel
theorem dX12_word_33 : decode cX12_word 33 = .ok (.invokestatic 219, 3) := by decide +kernel
theorem dX12_word_36 : decode cX12_word 36 = .ok (.iload_n 3, 1) := by decide +kernel
theorem dX12_word_37 : decode cX12_word 37 = .ok (.invokestatic 219, 3) := by decide +kernel
theorem dX12_word_40 : decode cX12_word 40 = .ok (.isub, 1) := by decide +kernel
theorem dX12_word_41 : decode cX12_word 41 = .ok (.istore 4, 2) := by decide +kernel
theorem dX12_word_43 : decode cX12_word 43 = .ok (.iconst 0, 1) := by decide +kernel
theorem dX12_word_44 : decode cX12_word 44 = .ok (.istore 5, 2) := by decide +kernel
theorem dX12_word_46 : decode cX12_word 46 = .ok (.iload 5, 2) := by decide +kernel
theorem dX12_word_48 : decode cX12_word 48 = .ok (.iload 4, 2) := by decide +kernel
theorem dX12_word_50 : decode cX12_word 50 = .ok (.if_icmp .ge 50, 3) := by decide +kernel
theorem dX12_word_53 : decode cX12_word 53 = .ok (.aload_n 0, 1) := by decide +kernel
theorem dX12_word_54 : decode cX12_word 54 = .ok (.getfield 242, 3) := by decide +kernel
theorem dX12_word_57 : decode cX12_word 57 = .ok (.iload 5, 2) := by decide +kernel
theorem dX12_word_59 : decode cX12_word 59 = .ok (.iadd, 1) := by decide +kernel
theorem dX12_word_60 : decode cX12_word 60 = .ok (.aload_n 0, 1) := by decide +kernel
theorem dX12_word_61 : decode cX12_word 61 = .ok (.getfield 245, 3) := by decide +kernel
theorem dX12_word_64 : decode cX12_word 64 = .ok (.if_icmp .ge 36, 3) := by decide +kernel
theorem dX12_word_67 : decode cX12_word 67 = .ok (.aload_n 0, 1) := by decide +kernel
theorem dX12_word_68 : decode cX12_word 68 = .ok (.getfield 28, 3) := by decide +kernel
theorem dX12_word_71 : decode cX12_word 71 = .ok (.aload_n 0, 1) := by decide +kernel
theorem dX12_word_72 : decode cX12_word 72 = .ok (.getfield 242, 3) := by decide +kernel
theorem dX12_word_75 : decode cX12_word 75 = .ok (.iload 5, 2) := by decide +kernel
theorem dX12_word_77 : decode cX12_word 77 = .ok (.iadd, 1) := by decide +kernel
theorem dX12_word_78 : decode cX12_word 78 = .ok (.iaload, 1) := by decide +kernel
theorem dX12_word_79 : decode cX12_word 79 = .ok (.ldc 222, 2) := by decide +kernel
theorem dX12_word_81 : decode cX12_word 81 = .ok (.iload_n 3, 1) := by decide +kernel
theorem dX12_word_82 : decode cX12_word 82 = .ok (.invokestatic 219, 3) := by decide +kernel
theorem dX12_word_85 : decode cX12_word 85 = .ok (.iload 5, 2) := by decide +kernel
theorem dX12_word_87 : decode cX12_word 87 = .ok (.iadd, 1) := by decide +kernel
theorem dX12_word_88 : decode cX12_word 88 = .ok (.invokevirtual 224, 3) := by decide +kernel
theorem dX12_word_91 : decode cX12_word 91 = .ok (.if_icmp .ne 9, 3) := by decide +kernel
theorem dX12_word_94 : decode cX12_word 94 = .ok (.iinc 5 1, 3) := by decide +kernel
theorem dX12_word_97 : decode cX12_word 97 = .ok (.goto (-51), 3) := by decide +kernel
theorem dX12_word_100 : decode cX12_word 100 = .ok (.iload_n 1, 1) := by decide +kernel
theorem dX12_word_101 : decode cX12_word 101 = .ok (.aload_n 0, 1) := by decide +kernel
theorem dX12_word_102 : decode cX12_word 102 = .ok (.getfield 242, 3) := by decide +kernel
theorem dX12_word_105 : decode cX12_word 105 = .ok (.iload 5, 2) := by decide +kernel
theorem dX12_word_107 : decode cX12_word 107 = .ok (.iadd, 1) := by decide +kernel
theorem dX12_word_108 : decode cX12_word 108 = .ok (.invokestatic 108, 3) := by decide +kernel
theorem dX12_word_111 : decode cX12_word 111 = .ok (.istore_n 1, 1) := by decide +kernel
theorem dX12_word_112 : decode cX12_word 112 = .ok (.iload 5, 2) := by decide +kernel
theorem dX12_word_114 : decode cX12_word 114 = .ok (.iload 4, 2) := by decide +kernel
theorem dX12_word_116 : decode cX12_word 116 = .ok (.if_icmp .ne 7, 3) := by decide +kernel
theorem dX12_word_119 : decode cX12_word 119 = .ok (.iload_n 3, 1) := by decide +kernel
theorem dX12_word_120 : decode cX12_word 120 = .ok (.goto 4, 3) := by decide +kernel
theorem dX12_word_123 : decode cX12_word 123 = .ok (.iload_n 2, 1) := by decide +kernel
theorem dX12_word_124 : decode cX12_word 124 = .ok (.istore_n 2, 1) := by decide +kernel
theorem dX12_word_125 : decode cX12_word 125 = .ok (.iinc 3 1, 3) := by decide +kernel
theorem dX12_word_128 : decode cX12_word 128 = .ok (.goto (-109), 3) := by decide +kernel
theorem dX12_word_131 : decode cX12_word 131 = .ok (.aload_n 0, 1) := by decide +kernel
theorem dX12_word_132 : decode cX12_word 132 = .ok (.iload_n 2, 1) := by decide +kernel
theorem dX12_word_133 : decode cX12_word 133 = .ok (.iconst (-1), 1) := by decide +kernel
theorem dX12_word_134 : decode cX12_word 134 = .ok (.if_icmp .ne 7, 3) := by decide +kernel
theorem dX12_word_137 : decode cX12_word 137 = .ok (.iload_n 1, 1) := by decide +kernel
theorem dX12_word_138 : decode cX12_word 138 = .ok (.goto 7, 3) := by decide +kernel
theorem dX12_word_141 : decode cX12_word 141 = .ok (.aload_n 0, 1) := by decide +kernel
theorem dX12_word_142 : decode cX12_word 142 = .ok (.getfield 248, 3) := by decide +kernel
theorem dX12_word_145 : decode cX12_word 145 = .ok (.putfield 248, 3) := by decide +kernel
theorem dX12_word_148 : decode cX12_word 148 = .ok (.aload_n 0, 1) := by decide +kernel
theorem dX12_word_149 : decode cX12_word 149 = .ok (.dup, 1) := by decide +kernel
theorem dX12_word_150 : decode cX12_word 150 = .ok (.getfield 242, 3) := by decide +kernel
theorem dX12_word_153 : decode cX12_word 153 = .ok (.iload_n 2, 1) := by decide +kernel
theorem dX12_word_154 : decode cX12_word 154 = .ok (.iconst (-1), 1) := by decide +kernel
theorem dX12_word_155 : decode cX12_word 155 = .ok (.if_icmp .ne 7, 3) := by decide +kernel
theorem dX12_word_158 : decode cX12_word 158 = .ok (.iconst 0, 1) := by decide +kernel
theorem dX12_word_159 : decode cX12_word 159 = .ok (.goto 14, 3) := by decide +kernel
theorem dX12_word_162 : decode cX12_word 162 = .ok (.iload_n 2, 1) := by decide +kernel
theorem dX12_word_163 : decode cX12_word 163 = .ok (.iconst 1, 1) := by decide +kernel
theorem dX12_word_164 : decode cX12_word 164 = .ok (.iadd, 1) := by decide +kernel
theorem dX12_word_165 : decode cX12_word 165 = .ok (.invokestatic 219, 3) := by decide +kernel
theorem dX12_word_168 : decode cX12_word 168 = .ok (.iload_n 2, 1) := by decide +kernel
theorem dX12_word_169 : decode cX12_word 169 = .ok (.invokestatic 219, 3) := by decide +kernel
theorem dX12_word_172 : decode cX12_word 172 = .ok (.isub, 1) := by decide +kernel
theorem dX12_word_173 : decode cX12_word 173 = .ok (.iadd, 1) := by decide +kernel
theorem dX12_word_174 : decode cX12_word 174 = .ok (.putfield 242, 3) := by decide +kernel
theorem dX12_word_177 : decode cX12_word 177 = .ok (.iload_n 2, 1) := by decide +kernel
theorem dX12_word_178 : decode cX12_word 178 = .ok (.iconst (-1), 1) := by decide +kernel
theorem dX12_word_179 : decode cX12_word 179 = .ok (.if_icmp .ne 7, 3) := by decide +kernel
theorem dX12_word_182 : decode cX12_word 182 = .ok (.iconst 5, 1) := by decide +kernel
theorem dX12_word_183 : decode cX12_word 183 = .ok (.goto 4, 3) := by decide +kernel
theorem dX12_word_186 : decode cX12_word 186 = .ok (.iload_n 2, 1) := by decide +kernel
theorem dX12_word_187 : decode cX12_word 187 = .ok (.ireturn, 1) := by decide +kernel
theorem dX12_readsCommand_0 : decode cX12_readsCommand 0 = .ok (.aload_n 0, 1) := by decide +kernel
theorem dX12_readsCommand_1 : decode cX12_readsCommand 1 = .ok (.invokevirtual 257, 3) := by decide +kernel
theorem dX12_readsCommand_4 : decode cX12_readsCommand 4 = .ok (.istore_n 1, 1) := by decide +kernel
theorem dX12_readsCommand_5 : decode cX12_readsCommand 5 = .ok (.aload_n 0, 1) := by decide +kernel
theorem dX12_readsCommand_6 : decode cX12_readsCommand 6 = .ok (.getfield 42, 3) := by decide +kernel
theorem dX12_readsCommand_9 : decode cX12_readsCommand 9 = .ok (.aload_n 0, 1) := by decide +kernel
theorem dX12_readsCommand_10 : decode cX12_readsCommand 10 = .ok (.getfield 260, 3) := by decide +kernel
theorem dX12_readsCommand_13 : decode cX12_readsCommand 13 = .ok (.iload_n 1, 1) := by decide +kernel
theorem dX12_readsCommand_14 : decode cX12_readsCommand 14 = .ok (.iastore, 1) := by decide +kernel
theorem dX12_readsCommand_15 : decode cX12_readsCommand 15 = .ok (.aload_n 0, 1) := by decide +kernel
theorem dX12_readsCommand_16 : decode cX12_readsCommand 16 = .ok (.getfield 45, 3) := by decide +kernel
theorem dX12_readsCommand_19 : decode cX12_readsCommand 19 = .ok (.iconst 2, 1) := by decide +kernel
theorem dX12_readsCommand_20 : decode cX12_readsCommand 20 = .ok (.aload_n 0, 1) := by decide +kernel
theorem dX12_readsCommand_21 : decode cX12_readsCommand 21 = .ok (.getfield 260, 3) := by decide +kernel
theorem dX12_readsCommand_24 : decode cX12_readsCommand 24 = .ok (.imul, 1) := by decide +kernel
theorem dX12_readsCommand_25 : decode cX12_readsCommand 25 = .ok (.aload_n 0, 1) := by decide +kernel
theorem dX12_readsCommand_26 : decode cX12_readsCommand 26 = .ok (.iconst 1, 1) := by decide +kernel
theorem dX12_readsCommand_27 : decode cX12_readsCommand 27 = .ok (.invokevirtual 263, 3) := by decide +kernel
theorem dX12_readsCommand_30 : decode cX12_readsCommand 30 = .ok (.iastore, 1) := by decide +kernel
theorem dX12_readsCommand_31 : decode cX12_readsCommand 31 = .ok (.iload_n 1, 1) := by decide +kernel
theorem dX12_readsCommand_32 : decode cX12_readsCommand 32 = .ok (.bipush 10, 2) := by decide +kernel
theorem dX12_readsCommand_34 : decode cX12_readsCommand 34 = .ok (.if_icmp .ge 37, 3) := by decide +kernel
theorem dX12_readsCommand_37 : decode cX12_readsCommand 37 = .ok (.aload_n 0, 1) := by decide +kernel
theorem dX12_readsCommand_38 : decode cX12_readsCommand 38 = .ok (.getfield 45, 3) := by decide +kernel
theorem dX12_readsCommand_41 : decode cX12_readsCommand 41 = .ok (.iconst 2, 1) := by decide +kernel
theorem dX12_readsCommand_42 : decode cX12_readsCommand 42 = .ok (.aload_n 0, 1) := by decide +kernel
theorem dX12_readsCommand_43 : decode cX12_readsCommand 43 = .ok (.getfield 260, 3) := by decide +kernel
theorem dX12_readsCommand_46 : decode cX12_readsCommand 46 = .ok (.imul, 1) := by decide +kernel
theorem dX12_readsCommand_47 : decode cX12_readsCommand 47 = .ok (.iconst 1, 1) := by decide +kernel
theorem dX12_readsCommand_48 : decode cX12_readsCommand 48 = .ok (.iadd, 1) := by decide +kernel
theorem dX12_readsCommand_49 : decode cX12_readsCommand 49 = .ok (.aload_n 0, 1) := by decide +kernel
theorem dX12_readsCommand_50 : decode cX12_readsCommand 50 = .ok (.iload_n 1, 1) := by decide +kernel
theorem dX12_readsCommand_51 : decode cX12_readsCommand 51 = .ok (.bipush 6, 2) := by decide +kernel
theorem dX12_readsCommand_53 : decode cX12_readsCommand 53 = .ok (.if_icmp .eq 9, 3) := by decide +kernel
theorem dX12_readsCommand_56 : decode cX12_readsCommand 56 = .ok (.iload_n 1, 1) := by decide +kernel
theorem dX12_readsCommand_57 : decode cX12_readsCommand 57 = .ok (.bipush 8, 2) := by decide +kernel
theorem dX12_readsCommand_59 : decode cX12_readsCommand 59 = .ok (.if_icmp .ne 7, 3) := by decide +kernel
theorem dX12_readsCommand_62 : decode cX12_readsCommand 62 = .ok (.iconst 1, 1) := by decide +kernel
theorem dX12_readsCommand_63 : decode cX12_readsCommand 63 = .ok (.goto 4, 3) := by decide +kernel
theorem dX12_readsCommand_66 : decode cX12_readsCommand 66 = .ok (.iconst 0, 1) := by decide +kernel
theorem dX12_readsCommand_67 : decode cX12_readsCommand 67 = .ok (.invokevirtual 263, 3) := by decide +kernel
theorem dX12_readsCommand_70 : decode cX12_readsCommand 70 = .ok (.iastore, 1) := by decide +kernel
theorem dX12_readsCommand_71 : decode cX12_readsCommand 71 = .ok (.aload_n 0, 1) := by decide +kernel
theorem dX12_readsCommand_72 : decode cX12_readsCommand 72 = .ok (.dup, 1) := by decide +kernel
theorem dX12_readsCommand_73 : decode cX12_readsCommand 73 = .ok (.getfield 260, 3) := by decide +kernel
theorem dX12_readsCommand_76 : decode cX12_readsCommand 76 = .ok (.iconst 1, 1) := by decide +kernel
theorem dX12_readsCommand_77 : decode cX12_readsCommand 77 = .ok (.iadd, 1) := by decide +kernel
theorem dX12_readsCommand_78 : decode cX12_readsCommand 78 = .ok (.putfield 260, 3) := by decide +kernel
theorem dX12_readsCommand_81 : decode cX12_readsCommand 81 = .ok (.return_, 1) := by decide +kernel
theorem dX12_readsAll_0 : decode cX12_readsAll 0 = .ok (.aload_n 0, 1) := by decide +kernel
theorem dX12_readsAll_1 : decode cX12_readsAll 1 = .ok (.iconst 0, 1) := by decide +kernel
theorem dX12_readsAll_2 : decode cX12_readsAll 2 = .ok (.putfield 242, 3) := by decide +kernel
theorem dX12_readsAll_5 : decode cX12_readsAll 5 = .ok (.aload_n 0, 1) := by decide +kernel
theorem dX12_readsAll_6 : decode cX12_readsAll 6 = .ok (.iconst (-1), 1) := by decide +kernel
theorem dX12_readsAll_7 : decode cX12_readsAll 7 = .ok (.putfield 248, 3) := by decide +kernel
theorem dX12_readsAll_10 : decode cX12_readsAll 10 = .ok (.aload_n 0, 1) := by decide +kernel
theorem dX12_readsAll_11 : decode cX12_readsAll 11 = .ok (.iconst 0, 1) := by decide +kernel
theorem dX12_readsAll_12 : decode cX12_readsAll 12 = .ok (.putfield 260, 3) := by decide +kernel
theorem dX12_readsAll_15 : decode cX12_readsAll 15 = .ok (.aload_n 0, 1) := by decide +kernel
theorem dX12_readsAll_16 : decode cX12_readsAll 16 = .ok (.invokevirtual 267, 3) := by decide +kernel
theorem dX12_readsAll_19 : decode cX12_readsAll 19 = .ok (.aload_n 0, 1) := by decide +kernel
theorem dX12_readsAll_20 : decode cX12_readsAll 20 = .ok (.getfield 248, 3) := by decide +kernel
theorem dX12_readsAll_23 : decode cX12_readsAll 23 = .ok (.iconst (-1), 1) := by decide +kernel
theorem dX12_readsAll_24 : decode cX12_readsAll 24 = .ok (.if_icmp .ne 38, 3) := by decide +kernel
theorem dX12_readsAll_27 : decode cX12_readsAll 27 = .ok (.aload_n 0, 1) := by decide +kernel
theorem dX12_readsAll_28 : decode cX12_readsAll 28 = .ok (.getfield 242, 3) := by decide +kernel
theorem dX12_readsAll_31 : decode cX12_readsAll 31 = .ok (.aload_n 0, 1) := by decide +kernel
theorem dX12_readsAll_32 : decode cX12_readsAll 32 = .ok (.getfield 245, 3) := by decide +kernel
theorem dX12_readsAll_35 : decode cX12_readsAll 35 = .ok (.if_icmp .ge 27, 3) := by decide +kernel
theorem dX12_readsAll_38 : decode cX12_readsAll 38 = .ok (.aload_n 0, 1) := by decide +kernel
theorem dX12_readsAll_39 : decode cX12_readsAll 39 = .ok (.bipush 59, 2) := by decide +kernel
theorem dX12_readsAll_41 : decode cX12_readsAll 41 = .ok (.bipush 59, 2) := by decide +kernel
theorem dX12_readsAll_43 : decode cX12_readsAll 43 = .ok (.invokevirtual 254, 3) := by decide +kernel
theorem dX12_readsAll_46 : decode cX12_readsAll 46 = .ok (.istore_n 1, 1) := by decide +kernel
theorem dX12_readsAll_47 : decode cX12_readsAll 47 = .ok (.aload_n 0, 1) := by decide +kernel
theorem dX12_readsAll_48 : decode cX12_readsAll 48 = .ok (.getfield 248, 3) := by decide +kernel
theorem dX12_readsAll_51 : decode cX12_readsAll 51 = .ok (.iconst (-1), 1) := by decide +kernel
theorem dX12_readsAll_52 : decode cX12_readsAll 52 = .ok (.if_icmp .ne 7, 3) := by decide +kernel
theorem dX12_readsAll_55 : decode cX12_readsAll 55 = .ok (.aload_n 0, 1) := by decide +kernel
theorem dX12_readsAll_56 : decode cX12_readsAll 56 = .ok (.invokevirtual 267, 3) := by decide +kernel
theorem dX12_readsAll_59 : decode cX12_readsAll 59 = .ok (.goto (-40), 3) := by decide +kernel
theorem dX12_readsAll_62 : decode cX12_readsAll 62 = .ok (.return_, 1) := by decide +kernel
theorem dX12_does_0 : decode cX12_does 0 = .ok (.aload_n 0, 1) := by decide +kernel
theorem dX12_does_1 : decode cX12_does 1 = .ok (.getfield 45, 3) := by decide +kernel
theorem dX12_does_4 : decode cX12_does 4 = .ok (.iconst 2, 1) := by decide +kernel
theorem dX12_does_5 : decode cX12_does 5 = .ok (.iload_n 1, 1) := by decide +kernel
theorem dX12_does_6 : decode cX12_does 6 = .ok (.imul, 1) := by decide +kernel
theorem dX12_does_7 : decode cX12_does 7 = .ok (.iaload, 1) := by decide +kernel
theorem dX12_does_8 : decode cX12_does 8 = .ok (.istore_n 2, 1) := by decide +kernel
theorem dX12_does_9 : decode cX12_does 9 = .ok (.aload_n 0, 1) := by decide +kernel
theorem dX12_does_10 : decode cX12_does 10 = .ok (.getfield 45, 3) := by decide +kernel
theorem dX12_does_13 : decode cX12_does 13 = .ok (.iconst 2, 1) := by decide +kernel
theorem dX12_does_14 : decode cX12_does 14 = .ok (.iload_n 1, 1) := by decide +kernel
theorem dX12_does_15 : decode cX12_does 15 = .ok (.imul, 1) := by decide +kernel
theorem dX12_does_16 : decode cX12_does 16 = .ok (.iconst 1, 1) := by decide +kernel
theorem dX12_does_17 : decode cX12_does 17 = .ok (.iadd, 1) := by decide +kernel
theorem dX12_does_18 : decode cX12_does 18 = .ok (.iaload, 1) := by decide +kernel
theorem dX12_does_19 : decode cX12_does 19 = .ok (.istore_n 3, 1) := by decide +kernel
theorem dX12_does_20 : decode cX12_does 20 = .ok (.aload_n 0, 1) := by decide +kernel
theorem dX12_does_21 : decode cX12_does 21 = .ok (.getfield 42, 3) := by decide +kernel
theorem dX12_does_24 : decode cX12_does 24 = .ok (.iload_n 1, 1) := by decide +kernel
theorem dX12_does_25 : decode cX12_does 25 = .ok (.iaload, 1) := by decide +kernel
theorem dX12_does_26 : decode cX12_does 26 = .ok (.tableswitch 69 5 9 #[34, 41, 48, 55, 62], 34) := by decide +kernel
theorem dX12_does_60 : decode cX12_does 60 = .ok (.aload_n 0, 1) := by decide +kernel
theorem dX12_does_61 : decode cX12_does 61 = .ok (.iload_n 2, 1) := by decide +kernel
theorem dX12_does_62 : decode cX12_does 62 = .ok (.iload_n 3, 1) := by decide +kernel
theorem dX12_does_63 : decode cX12_does 63 = .ok (.invokevirtual 126, 3) := by decide +kernel
theorem dX12_does_66 : decode cX12_does 66 = .ok (.ireturn, 1) := by decide +kernel
theorem dX12_does_67 : decode cX12_does 67 = .ok (.aload_n 0, 1) := by decide +kernel
theorem dX12_does_68 : decode cX12_does 68 = .ok (.iload_n 2, 1) := by decide +kernel
theorem dX12_does_69 : decode cX12_does 69 = .ok (.iload_n 3, 1) := by decide +kernel
theorem dX12_does_70 : decode cX12_does 70 = .ok (.invokevirtual 138, 3) := by decide +kernel
theorem dX12_does_73 : decode cX12_does 73 = .ok (.ireturn, 1) := by decide +kernel
theorem dX12_does_74 : decode cX12_does 74 = .ok (.aload_n 0, 1) := by decide +kernel
theorem dX12_does_75 : decode cX12_does 75 = .ok (.iload_n 2, 1) := by decide +kernel
theorem dX12_does_76 : decode cX12_does 76 = .ok (.iload_n 3, 1) := by decide +kernel
theorem dX12_does_77 : decode cX12_does 77 = .ok (.invokevirtual 150, 3) := by decide +kernel
theorem dX12_does_80 : decode cX12_does 80 = .ok (.ireturn, 1) := by decide +kernel
theorem dX12_does_81 : decode cX12_does 81 = .ok (.aload_n 0, 1) := by decide +kernel
theorem dX12_does_82 : decode cX12_does 82 = .ok (.iload_n 2, 1) := by decide +kernel
theorem dX12_does_83 : decode cX12_does 83 = .ok (.iload_n 3, 1) := by decide +kernel
theorem dX12_does_84 : decode cX12_does 84 = .ok (.invokevirtual 159, 3) := by decide +kernel
theorem dX12_does_87 : decode cX12_does 87 = .ok (.ireturn, 1) := by decide +kernel
theorem dX12_does_88 : decode cX12_does 88 = .ok (.aload_n 0, 1) := by decide +kernel
theorem dX12_does_89 : decode cX12_does 89 = .ok (.iload_n 2, 1) := by decide +kernel
theorem dX12_does_90 : decode cX12_does 90 = .ok (.iload_n 3, 1) := by decide +kernel
theorem dX12_does_91 : decode cX12_does 91 = .ok (.invokevirtual 180, 3) := by decide +kernel
theorem dX12_does_94 : decode cX12_does 94 = .ok (.ireturn, 1) := by decide +kernel
theorem dX12_does_95 : decode cX12_does 95 = .ok (.aload_n 0, 1) := by decide +kernel
theorem dX12_does_96 : decode cX12_does 96 = .ok (.iload_n 2, 1) := by decide +kernel
theorem dX12_does_97 : decode cX12_does 97 = .ok (.invokevirtual 141, 3) := by decide +kernel
theorem dX12_does_100 : decode cX12_does 100 = .ok (.ireturn, 1) := by decide +kernel
theorem dX12_read_0 : decode cX12_read 0 = .ok (.aload_n 0, 1) := by decide +kernel
theorem dX12_read_1 : decode cX12_read 1 = .ok (.aload_n 0, 1) := by decide +kernel
theorem dX12_read_2 : decode cX12_read 2 = .ok (.getfield 216, 3) := by decide +kernel
theorem dX12_read_5 : decode cX12_read 5 = .ok (.putfield 245, 3) := by decide +kernel
theorem dX12_read_8 : decode cX12_read 8 = .ok (.aload_n 0, 1) := by decide +kernel
theorem dX12_read_9 : decode cX12_read 9 = .ok (.iconst 0, 1) := by decide +kernel
theorem dX12_read_10 : decode cX12_read 10 = .ok (.putfield 216, 3) := by decide +kernel
theorem dX12_read_13 : decode cX12_read 13 = .ok (.aload_n 0, 1) := by decide +kernel
theorem dX12_read_14 : decode cX12_read 14 = .ok (.invokevirtual 270, 3) := by decide +kernel
theorem dX12_read_17 : decode cX12_read 17 = .ok (.aload_n 0, 1) := by decide +kernel
theorem dX12_read_18 : decode cX12_read 18 = .ok (.getfield 248, 3) := by decide +kernel
theorem dX12_read_21 : decode cX12_read 21 = .ok (.iconst (-1), 1) := by decide +kernel
theorem dX12_read_22 : decode cX12_read 22 = .ok (.if_icmp .eq 14, 3) := by decide +kernel
theorem dX12_read_25 : decode cX12_read 25 = .ok (.aload_n 0, 1) := by decide +kernel
theorem dX12_read_26 : decode cX12_read 26 = .ok (.aload_n 0, 1) := by decide +kernel
theorem dX12_read_27 : decode cX12_read 27 = .ok (.getfield 248, 3) := by decide +kernel
theorem dX12_read_30 : decode cX12_read 30 = .ok (.putfield 31, 3) := by decide +kernel
theorem dX12_read_33 : decode cX12_read 33 = .ok (.bipush (-2), 2) := by decide +kernel
theorem dX12_read_35 : decode cX12_read 35 = .ok (.ireturn, 1) := by decide +kernel
theorem dX12_read_36 : decode cX12_read 36 = .ok (.aload_n 0, 1) := by decide +kernel
theorem dX12_read_37 : decode cX12_read 37 = .ok (.invokevirtual 86, 3) := by decide +kernel
theorem dX12_read_40 : decode cX12_read 40 = .ok (.iconst 0, 1) := by decide +kernel
theorem dX12_read_41 : decode cX12_read 41 = .ok (.istore_n 1, 1) := by decide +kernel
theorem dX12_read_42 : decode cX12_read 42 = .ok (.iload_n 1, 1) := by decide +kernel
theorem dX12_read_43 : decode cX12_read 43 = .ok (.aload_n 0, 1) := by decide +kernel
theorem dX12_read_44 : decode cX12_read 44 = .ok (.getfield 260, 3) := by decide +kernel
theorem dX12_read_47 : decode cX12_read 47 = .ok (.if_icmp .ge 76, 3) := by decide +kernel
theorem dX12_read_50 : decode cX12_read 50 = .ok (.aload_n 0, 1) := by decide +kernel
theorem dX12_read_51 : decode cX12_read 51 = .ok (.iload_n 1, 1) := by decide +kernel
theorem dX12_read_52 : decode cX12_read 52 = .ok (.invokevirtual 273, 3) := by decide +kernel
theorem dX12_read_55 : decode cX12_read 55 = .ok (.istore_n 2, 1) := by decide +kernel
theorem dX12_read_56 : decode cX12_read 56 = .ok (.aload_n 0, 1) := by decide +kernel
theorem dX12_read_57 : decode cX12_read 57 = .ok (.getfield 51, 3) := by decide +kernel
theorem dX12_read_60 : decode cX12_read 60 = .ok (.ifCond .ne 7, 3) := by decide +kernel
theorem dX12_read_63 : decode cX12_read 63 = .ok (.iload_n 2, 1) := by decide +kernel
theorem dX12_read_64 : decode cX12_read 64 = .ok (.ifCond .ge 53, 3) := by decide +kernel
theorem dX12_read_67 : decode cX12_read 67 = .ok (.aload_n 0, 1) := by decide +kernel
theorem dX12_read_68 : decode cX12_read 68 = .ok (.iconst 0, 1) := by decide +kernel
theorem dX12_read_69 : decode cX12_read 69 = .ok (.bipush 14, 2) := by decide +kernel
theorem dX12_read_71 : decode cX12_read 71 = .ok (.iload_n 1, 1) := by decide +kernel
theorem dX12_read_72 : decode cX12_read 72 = .ok (.invokevirtual 64, 3) := by decide +kernel
theorem dX12_read_75 : decode cX12_read 75 = .ok (.aload_n 0, 1) := by decide +kernel
theorem dX12_read_76 : decode cX12_read 76 = .ok (.iconst 1, 1) := by decide +kernel
theorem dX12_read_77 : decode cX12_read 77 = .ok (.aload_n 0, 1) := by decide +kernel
theorem dX12_read_78 : decode cX12_read 78 = .ok (.getfield 51, 3) := by decide +kernel
theorem dX12_read_81 : decode cX12_read 81 = .ok (.aload_n 0, 1) := by decide +kernel
theorem dX12_read_82 : decode cX12_read 82 = .ok (.getfield 54, 3) := by decide +kernel
theorem dX12_read_85 : decode cX12_read 85 = .ok (.invokevirtual 64, 3) := by decide +kernel
theorem dX12_read_88 : decode cX12_read 88 = .ok (.aload_n 0, 1) := by decide +kernel
theorem dX12_read_89 : decode cX12_read 89 = .ok (.iconst 2, 1) := by decide +kernel
theorem dX12_read_90 : decode cX12_read 90 = .ok (.aload_n 0, 1) := by decide +kernel
theorem dX12_read_91 : decode cX12_read 91 = .ok (.getfield 61, 3) := by decide +kernel
theorem dX12_read_94 : decode cX12_read 94 = .ok (.aload_n 0, 1) := by decide +kernel
theorem dX12_read_95 : decode cX12_read 95 = .ok (.getfield 68, 3) := by decide +kernel
theorem dX12_read_98 : decode cX12_read 98 = .ok (.invokevirtual 64, 3) := by decide +kernel
theorem dX12_read_101 : decode cX12_read 101 = .ok (.aload_n 0, 1) := by decide +kernel
theorem dX12_read_102 : decode cX12_read 102 = .ok (.getfield 13, 3) := by decide +kernel
theorem dX12_read_105 : decode cX12_read 105 = .ok (.iconst 0, 1) := by decide +kernel
theorem dX12_read_106 : decode cX12_read 106 = .ok (.aload_n 0, 1) := by decide +kernel
theorem dX12_read_107 : decode cX12_read 107 = .ok (.getfield 9, 3) := by decide +kernel
theorem dX12_read_110 : decode cX12_read 110 = .ok (.iconst 0, 1) := by decide +kernel
theorem dX12_read_111 : decode cX12_read 111 = .ok (.invokestatic 57, 3) := by decide +kernel
theorem dX12_read_114 : decode cX12_read 114 = .ok (.bipush (-3), 2) := by decide +kernel
theorem dX12_read_116 : decode cX12_read 116 = .ok (.ireturn, 1) := by decide +kernel
theorem dX12_read_117 : decode cX12_read 117 = .ok (.iinc 1 1, 3) := by decide +kernel
theorem dX12_read_120 : decode cX12_read 120 = .ok (.goto (-78), 3) := by decide +kernel
theorem dX12_read_123 : decode cX12_read 123 = .ok (.aload_n 0, 1) := by decide +kernel
theorem dX12_read_124 : decode cX12_read 124 = .ok (.aload_n 0, 1) := by decide +kernel
theorem dX12_read_125 : decode cX12_read 125 = .ok (.getfield 260, 3) := by decide +kernel
theorem dX12_read_128 : decode cX12_read 128 = .ok (.invokevirtual 93, 3) := by decide +kernel
theorem dX12_read_131 : decode cX12_read 131 = .ok (.ireturn, 1) := by decide +kernel
theorem dX12_fault_0 : decode cX12_fault 0 = .ok (.aload_n 0, 1) := by decide +kernel
theorem dX12_fault_1 : decode cX12_fault 1 = .ok (.getfield 31, 3) := by decide +kernel
theorem dX12_fault_4 : decode cX12_fault 4 = .ok (.iconst (-1), 1) := by decide +kernel
theorem dX12_fault_5 : decode cX12_fault 5 = .ok (.if_icmp .ne 8, 3) := by decide +kernel
theorem dX12_fault_8 : decode cX12_fault 8 = .ok (.bipush (-4), 2) := by decide +kernel
theorem dX12_fault_10 : decode cX12_fault 10 = .ok (.goto 7, 3) := by decide +kernel
theorem dX12_fault_13 : decode cX12_fault 13 = .ok (.aload_n 0, 1) := by decide +kernel
theorem dX12_fault_14 : decode cX12_fault 14 = .ok (.getfield 31, 3) := by decide +kernel
theorem dX12_fault_17 : decode cX12_fault 17 = .ok (.ireturn, 1) := by decide +kernel
