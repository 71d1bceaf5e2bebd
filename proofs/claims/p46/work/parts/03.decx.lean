theorem dX0_init_0 : decode cX0_init 0 = .ok (.aload_n 0, 1) := by decide +kernel
theorem dX0_init_1 : decode cX0_init 1 = .ok (.invokespecial 3, 3) := by decide +kernel
theorem dX0_init_4 : decode cX0_init 4 = .ok (.aload_n 0, 1) := by decide +kernel
theorem dX0_init_5 : decode cX0_init 5 = .ok (.bipush 16, 2) := by decide +kernel
theorem dX0_init_7 : decode cX0_init 7 = .ok (.newarray .int, 2) := by decide +kernel
theorem dX0_init_9 : decode cX0_init 9 = .ok (.putfield 9, 3) := by decide +kernel
theorem dX0_init_12 : decode cX0_init 12 = .ok (.aload_n 0, 1) := by decide +kernel
theorem dX0_init_13 : decode cX0_init 13 = .ok (.iconst 0, 1) := by decide +kernel
theorem dX0_init_14 : decode cX0_init 14 = .ok (.putfield 15, 3) := by decide +kernel
theorem dX0_init_17 : decode cX0_init 17 = .ok (.return_, 1) := by decide +kernel
theorem dX0_listen_0 : decode cX0_listen 0 = .ok (.aload_n 0, 1) := by decide +kernel
theorem dX0_listen_1 : decode cX0_listen 1 = .ok (.aload_n 1, 1) := by decide +kernel
theorem dX0_listen_2 : decode cX0_listen 2 = .ok (.getfield 19, 3) := by decide +kernel
theorem dX0_listen_5 : decode cX0_listen 5 = .ok (.putfield 15, 3) := by decide +kernel
theorem dX0_listen_8 : decode cX0_listen 8 = .ok (.iconst 0, 1) := by decide +kernel
theorem dX0_listen_9 : decode cX0_listen 9 = .ok (.istore_n 2, 1) := by decide +kernel
theorem dX0_listen_10 : decode cX0_listen 10 = .ok (.iload_n 2, 1) := by decide +kernel
theorem dX0_listen_11 : decode cX0_listen 11 = .ok (.aload_n 0, 1) := by decide +kernel
theorem dX0_listen_12 : decode cX0_listen 12 = .ok (.getfield 15, 3) := by decide +kernel
theorem dX0_listen_15 : decode cX0_listen 15 = .ok (.if_icmp .ge 37, 3) := by decide +kernel
theorem dX0_listen_18 : decode cX0_listen 18 = .ok (.aload_n 1, 1) := by decide +kernel
theorem dX0_listen_19 : decode cX0_listen 19 = .ok (.getfield 24, 3) := by decide +kernel
theorem dX0_listen_22 : decode cX0_listen 22 = .ok (.iload_n 2, 1) := by decide +kernel
theorem dX0_listen_23 : decode cX0_listen 23 = .ok (.aaload, 1) := by decide +kernel
theorem dX0_listen_24 : decode cX0_listen 24 = .ok (.astore_n 3, 1) := by decide +kernel
theorem dX0_listen_25 : decode cX0_listen 25 = .ok (.aload_n 0, 1) := by decide +kernel
theorem dX0_listen_26 : decode cX0_listen 26 = .ok (.getfield 9, 3) := by decide +kernel
theorem dX0_listen_29 : decode cX0_listen 29 = .ok (.iload_n 2, 1) := by decide +kernel
theorem dX0_listen_30 : decode cX0_listen 30 = .ok (.aload_n 3, 1) := by decide +kernel
theorem dX0_listen_31 : decode cX0_listen 31 = .ok (.invokevirtual 28, 3) := by decide +kernel
theorem dX0_listen_34 : decode cX0_listen 34 = .ok (.ifCond .eq 7, 3) := by decide +kernel
theorem dX0_listen_37 : decode cX0_listen 37 = .ok (.iconst (-1), 1) := by decide +kernel
theorem dX0_listen_38 : decode cX0_listen 38 = .ok (.goto 7, 3) := by decide +kernel
theorem dX0_listen_41 : decode cX0_listen 41 = .ok (.aload_n 3, 1) := by decide +kernel
theorem dX0_listen_42 : decode cX0_listen 42 = .ok (.invokevirtual 34, 3) := by decide +kernel
theorem dX0_listen_45 : decode cX0_listen 45 = .ok (.iastore, 1) := by decide +kernel
theorem dX0_listen_46 : decode cX0_listen 46 = .ok (.iinc 2 1, 3) := by decide +kernel
theorem dX0_listen_49 : decode cX0_listen 49 = .ok (.goto (-39), 3) := by decide +kernel
theorem dX0_listen_52 : decode cX0_listen 52 = .ok (.return_, 1) := by decide +kernel
theorem dX0_pairs_0 : decode cX0_pairs 0 = .ok (.iconst 0, 1) := by decide +kernel
theorem dX0_pairs_1 : decode cX0_pairs 1 = .ok (.istore_n 1, 1) := by decide +kernel
theorem dX0_pairs_2 : decode cX0_pairs 2 = .ok (.iconst 0, 1) := by decide +kernel
theorem dX0_pairs_3 : decode cX0_pairs 3 = .ok (.istore_n 2, 1) := by decide +kernel
theorem dX0_pairs_4 : decode cX0_pairs 4 = .ok (.iload_n 2, 1) := by decide +kernel
theorem dX0_pairs_5 : decode cX0_pairs 5 = .ok (.aload_n 0, 1) := by decide +kernel
theorem dX0_pairs_6 : decode cX0_pairs 6 = .ok (.getfield 15, 3) := by decide +kernel
theorem dX0_pairs_9 : decode cX0_pairs 9 = .ok (.if_icmp .ge 61, 3) := by decide +kernel
theorem dX0_pairs_12 : decode cX0_pairs 12 = .ok (.iconst 0, 1) := by decide +kernel
theorem dX0_pairs_13 : decode cX0_pairs 13 = .ok (.istore_n 3, 1) := by decide +kernel
theorem dX0_pairs_14 : decode cX0_pairs 14 = .ok (.iload_n 3, 1) := by decide +kernel
theorem dX0_pairs_15 : decode cX0_pairs 15 = .ok (.iload_n 2, 1) := by decide +kernel
theorem dX0_pairs_16 : decode cX0_pairs 16 = .ok (.if_icmp .ge 48, 3) := by decide +kernel
theorem dX0_pairs_19 : decode cX0_pairs 19 = .ok (.aload_n 0, 1) := by decide +kernel
theorem dX0_pairs_20 : decode cX0_pairs 20 = .ok (.getfield 9, 3) := by decide +kernel
theorem dX0_pairs_23 : decode cX0_pairs 23 = .ok (.iload_n 2, 1) := by decide +kernel
theorem dX0_pairs_24 : decode cX0_pairs 24 = .ok (.iaload, 1) := by decide +kernel
theorem dX0_pairs_25 : decode cX0_pairs 25 = .ok (.ifCond .lt 33, 3) := by decide +kernel
theorem dX0_pairs_28 : decode cX0_pairs 28 = .ok (.aload_n 0, 1) := by decide +kernel
theorem dX0_pairs_29 : decode cX0_pairs 29 = .ok (.getfield 9, 3) := by decide +kernel
theorem dX0_pairs_32 : decode cX0_pairs 32 = .ok (.iload_n 3, 1) := by decide +kernel
theorem dX0_pairs_33 : decode cX0_pairs 33 = .ok (.iaload, 1) := by decide +kernel
theorem dX0_pairs_34 : decode cX0_pairs 34 = .ok (.ifCond .lt 24, 3) := by decide +kernel
theorem dX0_pairs_37 : decode cX0_pairs 37 = .ok (.aload_n 0, 1) := by decide +kernel
theorem dX0_pairs_38 : decode cX0_pairs 38 = .ok (.getfield 9, 3) := by decide +kernel
theorem dX0_pairs_41 : decode cX0_pairs 41 = .ok (.iload_n 2, 1) := by decide +kernel
theorem dX0_pairs_42 : decode cX0_pairs 42 = .ok (.iaload, 1) := by decide +kernel
theorem dX0_pairs_43 : decode cX0_pairs 43 = .ok (.aload_n 0, 1) := by decide +kernel
theorem dX0_pairs_44 : decode cX0_pairs 44 = .ok (.getfield 9, 3) := by decide +kernel
theorem dX0_pairs_47 : decode cX0_pairs 47 = .ok (.iload_n 3, 1) := by decide +kernel
theorem dX0_pairs_48 : decode cX0_pairs 48 = .ok (.iaload, 1) := by decide +kernel
theorem dX0_pairs_49 : decode cX0_pairs 49 = .ok (.invokestatic 38, 3) := by decide +kernel
theorem dX0_pairs_52 : decode cX0_pairs 52 = .ok (.ifCond .eq 6, 3) := by decide +kernel
theorem dX0_pairs_55 : decode cX0_pairs 55 = .ok (.iinc 1 1, 3) := by decide +kernel
theorem dX0_pairs_58 : decode cX0_pairs 58 = .ok (.iinc 3 1, 3) := by decide +kernel
theorem dX0_pairs_61 : decode cX0_pairs 61 = .ok (.goto (-47), 3) := by decide +kernel
theorem dX0_pairs_64 : decode cX0_pairs 64 = .ok (.iinc 2 1, 3) := by decide +kernel
theorem dX0_pairs_67 : decode cX0_pairs 67 = .ok (.goto (-63), 3) := by decide +kernel
theorem dX0_pairs_70 : decode cX0_pairs 70 = .ok (.iload_n 1, 1) := by decide +kernel
theorem dX0_pairs_71 : decode cX0_pairs 71 = .ok (.ireturn, 1) := by decide +kernel
theorem dX0_atPlace_0 : decode cX0_atPlace 0 = .ok (.iconst 0, 1) := by decide +kernel
theorem dX0_atPlace_1 : decode cX0_atPlace 1 = .ok (.istore_n 2, 1) := by decide +kernel
theorem dX0_atPlace_2 : decode cX0_atPlace 2 = .ok (.iload_n 2, 1) := by decide +kernel
theorem dX0_atPlace_3 : decode cX0_atPlace 3 = .ok (.aload_n 0, 1) := by decide +kernel
theorem dX0_atPlace_4 : decode cX0_atPlace 4 = .ok (.getfield 15, 3) := by decide +kernel
theorem dX0_atPlace_7 : decode cX0_atPlace 7 = .ok (.if_icmp .ge 29, 3) := by decide +kernel
theorem dX0_atPlace_10 : decode cX0_atPlace 10 = .ok (.aload_n 0, 1) := by decide +kernel
theorem dX0_atPlace_11 : decode cX0_atPlace 11 = .ok (.getfield 9, 3) := by decide +kernel
theorem dX0_atPlace_14 : decode cX0_atPlace 14 = .ok (.iload_n 2, 1) := by decide +kernel
theorem dX0_atPlace_15 : decode cX0_atPlace 15 = .ok (.iaload, 1) := by decide +kernel
theorem dX0_atPlace_16 : decode cX0_atPlace 16 = .ok (.ifCond .lt 14, 3) := by decide +kernel
theorem dX0_atPlace_19 : decode cX0_atPlace 19 = .ok (.aload_n 0, 1) := by decide +kernel
theorem dX0_atPlace_20 : decode cX0_atPlace 20 = .ok (.iload_n 2, 1) := by decide +kernel
theorem dX0_atPlace_21 : decode cX0_atPlace 21 = .ok (.invokevirtual 42, 3) := by decide +kernel
theorem dX0_atPlace_24 : decode cX0_atPlace 24 = .ok (.iload_n 1, 1) := by decide +kernel
theorem dX0_atPlace_25 : decode cX0_atPlace 25 = .ok (.if_icmp .ne 5, 3) := by decide +kernel
theorem dX0_atPlace_28 : decode cX0_atPlace 28 = .ok (.iload_n 2, 1) := by decide +kernel
theorem dX0_atPlace_29 : decode cX0_atPlace 29 = .ok (.ireturn, 1) := by decide +kernel
theorem dX0_atPlace_30 : decode cX0_atPlace 30 = .ok (.iinc 2 1, 3) := by decide +kernel
theorem dX0_atPlace_33 : decode cX0_atPlace 33 = .ok (.goto (-31), 3) := by decide +kernel
theorem dX0_atPlace_36 : decode cX0_atPlace 36 = .ok (.iconst (-1), 1) := by decide +kernel
theorem dX0_atPlace_37 : decode cX0_atPlace 37 = .ok (.ireturn, 1) := by decide +kernel
theorem dX0_aheadOf_0 : decode cX0_aheadOf 0 = .ok (.iconst 0, 1) := by decide +kernel
theorem dX0_aheadOf_1 : decode cX0_aheadOf 1 = .ok (.istore_n 2, 1) := by decide +kernel
theorem dX0_aheadOf_2 : decode cX0_aheadOf 2 = .ok (.iconst 0, 1) := by decide +kernel
theorem dX0_aheadOf_3 : decode cX0_aheadOf 3 = .ok (.istore_n 3, 1) := by decide +kernel
theorem dX0_aheadOf_4 : decode cX0_aheadOf 4 = .ok (.iload_n 3, 1) := by decide +kernel
theorem dX0_aheadOf_5 : decode cX0_aheadOf 5 = .ok (.aload_n 0, 1) := by decide +kernel
theorem dX0_aheadOf_6 : decode cX0_aheadOf 6 = .ok (.getfield 15, 3) := by decide +kernel
theorem dX0_aheadOf_9 : decode cX0_aheadOf 9 = .ok (.if_icmp .ge 47, 3) := by decide +kernel
theorem dX0_aheadOf_12 : decode cX0_aheadOf 12 = .ok (.aload_n 0, 1) := by decide +kernel
theorem dX0_aheadOf_13 : decode cX0_aheadOf 13 = .ok (.getfield 9, 3) := by decide +kernel
theorem dX0_aheadOf_16 : decode cX0_aheadOf 16 = .ok (.iload_n 3, 1) := by decide +kernel
theorem dX0_aheadOf_17 : decode cX0_aheadOf 17 = .ok (.iaload, 1) := by decide +kernel
theorem dX0_aheadOf_18 : decode cX0_aheadOf 18 = .ok (.aload_n 0, 1) := by decide +kernel
theorem dX0_aheadOf_19 : decode cX0_aheadOf 19 = .ok (.getfield 9, 3) := by decide +kernel
theorem dX0_aheadOf_22 : decode cX0_aheadOf 22 = .ok (.iload_n 1, 1) := by decide +kernel
theorem dX0_aheadOf_23 : decode cX0_aheadOf 23 = .ok (.iaload, 1) := by decide +kernel
theorem dX0_aheadOf_24 : decode cX0_aheadOf 24 = .ok (.if_icmp .gt 23, 3) := by decide +kernel
theorem dX0_aheadOf_27 : decode cX0_aheadOf 27 = .ok (.aload_n 0, 1) := by decide +kernel
theorem dX0_aheadOf_28 : decode cX0_aheadOf 28 = .ok (.getfield 9, 3) := by decide +kernel
theorem dX0_aheadOf_31 : decode cX0_aheadOf 31 = .ok (.iload_n 3, 1) := by decide +kernel
theorem dX0_aheadOf_32 : decode cX0_aheadOf 32 = .ok (.iaload, 1) := by decide +kernel
theorem dX0_aheadOf_33 : decode cX0_aheadOf 33 = .ok (.aload_n 0, 1) := by decide +kernel
theorem dX0_aheadOf_34 : decode cX0_aheadOf 34 = .ok (.getfield 9, 3) := by decide +kernel
theorem dX0_aheadOf_37 : decode cX0_aheadOf 37 = .ok (.iload_n 1, 1) := by decide +kernel
theorem dX0_aheadOf_38 : decode cX0_aheadOf 38 = .ok (.iaload, 1) := by decide +kernel
theorem dX0_aheadOf_39 : decode cX0_aheadOf 39 = .ok (.if_icmp .ne 11, 3) := by decide +kernel
theorem dX0_aheadOf_42 : decode cX0_aheadOf 42 = .ok (.iload_n 3, 1) := by decide +kernel
theorem dX0_aheadOf_43 : decode cX0_aheadOf 43 = .ok (.iload_n 1, 1) := by decide +kernel
theorem dX0_aheadOf_44 : decode cX0_aheadOf 44 = .ok (.if_icmp .ge 6, 3) := by decide +kernel
theorem dX0_aheadOf_47 : decode cX0_aheadOf 47 = .ok (.iinc 2 1, 3) := by decide +kernel
theorem dX0_aheadOf_50 : decode cX0_aheadOf 50 = .ok (.iinc 3 1, 3) := by decide +kernel
theorem dX0_aheadOf_53 : decode cX0_aheadOf 53 = .ok (.goto (-49), 3) := by decide +kernel
theorem dX0_aheadOf_56 : decode cX0_aheadOf 56 = .ok (.iload_n 2, 1) := by decide +kernel
theorem dX0_aheadOf_57 : decode cX0_aheadOf 57 = .ok (.ireturn, 1) := by decide +kernel
theorem dX0_chain_0 : decode cX0_chain 0 = .ok (.aload_n 0, 1) := by decide +kernel
theorem dX0_chain_1 : decode cX0_chain 1 = .ok (.iconst (-1), 1) := by decide +kernel
theorem dX0_chain_2 : decode cX0_chain 2 = .ok (.invokevirtual 46, 3) := by decide +kernel
theorem dX0_chain_5 : decode cX0_chain 5 = .ok (.istore_n 2, 1) := by decide +kernel
theorem dX0_chain_6 : decode cX0_chain 6 = .ok (.iload_n 2, 1) := by decide +kernel
theorem dX0_chain_7 : decode cX0_chain 7 = .ok (.iconst (-1), 1) := by decide +kernel
theorem dX0_chain_8 : decode cX0_chain 8 = .ok (.if_icmp .ne 5, 3) := by decide +kernel
theorem dX0_chain_11 : decode cX0_chain 11 = .ok (.iconst 0, 1) := by decide +kernel
theorem dX0_chain_12 : decode cX0_chain 12 = .ok (.ireturn, 1) := by decide +kernel
theorem dX0_chain_13 : decode cX0_chain 13 = .ok (.iconst 1, 1) := by decide +kernel
theorem dX0_chain_14 : decode cX0_chain 14 = .ok (.istore_n 3, 1) := by decide +kernel
theorem dX0_chain_15 : decode cX0_chain 15 = .ok (.iload_n 3, 1) := by decide +kernel
theorem dX0_chain_16 : decode cX0_chain 16 = .ok (.aload_n 0, 1) := by decide +kernel
theorem dX0_chain_17 : decode cX0_chain 17 = .ok (.getfield 15, 3) := by decide +kernel
theorem dX0_chain_20 : decode cX0_chain 20 = .ok (.if_icmp .ge 35, 3) := by decide +kernel
theorem dX0_chain_23 : decode cX0_chain 23 = .ok (.aload_n 0, 1) := by decide +kernel
theorem dX0_chain_24 : decode cX0_chain 24 = .ok (.iload_n 2, 1) := by decide +kernel
theorem dX0_chain_25 : decode cX0_chain 25 = .ok (.invokevirtual 46, 3) := by decide +kernel
theorem dX0_chain_28 : decode cX0_chain 28 = .ok (.istore 4, 2) := by decide +kernel
theorem dX0_chain_30 : decode cX0_chain 30 = .ok (.iload 4, 2) := by decide +kernel
theorem dX0_chain_32 : decode cX0_chain 32 = .ok (.iconst (-1), 1) := by decide +kernel
theorem dX0_chain_33 : decode cX0_chain 33 = .ok (.if_icmp .eq 11, 3) := by decide +kernel
theorem dX0_chain_36 : decode cX0_chain 36 = .ok (.iload 4, 2) := by decide +kernel
theorem dX0_chain_38 : decode cX0_chain 38 = .ok (.iload_n 2, 1) := by decide +kernel
theorem dX0_chain_39 : decode cX0_chain 39 = .ok (.isub, 1) := by decide +kernel
theorem dX0_chain_40 : decode cX0_chain 40 = .ok (.iload_n 1, 1) := by decide +kernel
theorem dX0_chain_41 : decode cX0_chain 41 = .ok (.if_icmp .le 5, 3) := by decide +kernel
theorem dX0_chain_44 : decode cX0_chain 44 = .ok (.iload_n 3, 1) := by decide +kernel
theorem dX0_chain_45 : decode cX0_chain 45 = .ok (.ireturn, 1) := by decide +kernel
theorem dX0_chain_46 : decode cX0_chain 46 = .ok (.iload 4, 2) := by decide +kernel
theorem dX0_chain_48 : decode cX0_chain 48 = .ok (.istore_n 2, 1) := by decide +kernel
theorem dX0_chain_49 : decode cX0_chain 49 = .ok (.iinc 3 1, 3) := by decide +kernel
theorem dX0_chain_52 : decode cX0_chain 52 = .ok (.goto (-37), 3) := by decide +kernel
theorem dX0_chain_55 : decode cX0_chain 55 = .ok (.aload_n 0, 1) := by decide +kernel
theorem dX0_chain_56 : decode cX0_chain 56 = .ok (.getfield 15, 3) := by decide +kernel
theorem dX0_chain_59 : decode cX0_chain 59 = .ok (.ireturn, 1) := by decide +kernel
theorem dX0_lowestAbove_0 : decode cX0_lowestAbove 0 = .ok (.iconst (-1), 1) := by decide +kernel
theorem dX0_lowestAbove_1 : decode cX0_lowestAbove 1 = .ok (.istore_n 2, 1) := by decide +kernel
theorem dX0_lowestAbove_2 : decode cX0_lowestAbove 2 = .ok (.iconst 0, 1) := by decide +kernel
theorem dX0_lowestAbove_3 : decode cX0_lowestAbove 3 = .ok (.istore_n 3, 1) := by decide +kernel
theorem dX0_lowestAbove_4 : decode cX0_lowestAbove 4 = .ok (.iload_n 3, 1) := by decide +kernel
theorem dX0_lowestAbove_5 : decode cX0_lowestAbove 5 = .ok (.aload_n 0, 1) := by decide +kernel
theorem dX0_lowestAbove_6 : decode cX0_lowestAbove 6 = .ok (.getfield 15, 3) := by decide +kernel
theorem dX0_lowestAbove_9 : decode cX0_lowestAbove 9 = .ok (.if_icmp .ge 41, 3) := by decide +kernel
theorem dX0_lowestAbove_12 : decode cX0_lowestAbove 12 = .ok (.aload_n 0, 1) := by decide +kernel
theorem dX0_lowestAbove_13 : decode cX0_lowestAbove 13 = .ok (.getfield 9, 3) := by decide +kernel
theorem dX0_lowestAbove_16 : decode cX0_lowestAbove 16 = .ok (.iload_n 3, 1) := by decide +kernel
theorem dX0_lowestAbove_17 : decode cX0_lowestAbove 17 = .ok (.iaload, 1) := by decide +kernel
theorem dX0_lowestAbove_18 : decode cX0_lowestAbove 18 = .ok (.iload_n 1, 1) := by decide +kernel
theorem dX0_lowestAbove_19 : decode cX0_lowestAbove 19 = .ok (.if_icmp .le 25, 3) := by decide +kernel
theorem dX0_lowestAbove_22 : decode cX0_lowestAbove 22 = .ok (.iload_n 2, 1) := by decide +kernel
theorem dX0_lowestAbove_23 : decode cX0_lowestAbove 23 = .ok (.iconst (-1), 1) := by decide +kernel
theorem dX0_lowestAbove_24 : decode cX0_lowestAbove 24 = .ok (.if_icmp .eq 13, 3) := by decide +kernel
theorem dX0_lowestAbove_27 : decode cX0_lowestAbove 27 = .ok (.aload_n 0, 1) := by decide +kernel
theorem dX0_lowestAbove_28 : decode cX0_lowestAbove 28 = .ok (.getfield 9, 3) := by decide +kernel
theorem dX0_lowestAbove_31 : decode cX0_lowestAbove 31 = .ok (.iload_n 3, 1) := by decide +kernel
theorem dX0_lowestAbove_32 : decode cX0_lowestAbove 32 = .ok (.iaload, 1) := by decide +kernel
theorem dX0_lowestAbove_33 : decode cX0_lowestAbove 33 = .ok (.iload_n 2, 1) := by decide +kernel
theorem dX0_lowestAbove_34 : decode cX0_lowestAbove 34 = .ok (.if_icmp .ge 10, 3) := by decide +kernel
theorem dX0_lowestAbove_37 : decode cX0_lowestAbove 37 = .ok (.aload_n 0, 1) := by decide +kernel
theorem dX0_lowestAbove_38 : decode cX0_lowestAbove 38 = .ok (.getfield 9, 3) := by decide +kernel
theorem dX0_lowestAbove_41 : decode cX0_lowestAbove 41 = .ok (.iload_n 3, 1) := by decide +kernel
theorem dX0_lowestAbove_42 : decode cX0_lowestAbove 42 = .ok (.iaload, 1) := by decide +kernel
theorem dX0_lowestAbove_43 : decode cX0_lowestAbove 43 = .ok (.istore_n 2, 1) := by decide +kernel
theorem dX0_lowestAbove_44 : decode cX0_lowestAbove 44 = .ok (.iinc 3 1, 3) := by decide +kernel
theorem dX0_lowestAbove_47 : decode cX0_lowestAbove 47 = .ok (.goto (-43), 3) := by decide +kernel
theorem dX0_lowestAbove_50 : decode cX0_lowestAbove 50 = .ok (.iload_n 2, 1) := by decide +kernel
theorem dX0_lowestAbove_51 : decode cX0_lowestAbove 51 = .ok (.ireturn, 1) := by decide +kernel
theorem dX0_closest_0 : decode cX0_closest 0 = .ok (.bipush (-4), 2) := by decide +kernel
theorem dX0_closest_2 : decode cX0_closest 2 = .ok (.istore_n 2, 1) := by decide +kernel
theorem dX0_closest_3 : decode cX0_closest 3 = .ok (.iconst 0, 1) := by decide +kernel
theorem dX0_closest_4 : decode cX0_closest 4 = .ok (.istore_n 3, 1) := by decide +kernel
theorem dX0_closest_5 : decode cX0_closest 5 = .ok (.iload_n 3, 1) := by decide +kernel
theorem dX0_closest_6 : decode cX0_closest 6 = .ok (.aload_n 0, 1) := by decide +kernel
theorem dX0_closest_7 : decode cX0_closest 7 = .ok (.getfield 15, 3) := by decide +kernel
theorem dX0_closest_10 : decode cX0_closest 10 = .ok (.if_icmp .ge 49, 3) := by decide +kernel
theorem dX0_closest_13 : decode cX0_closest 13 = .ok (.aload_n 0, 1) := by decide +kernel
theorem dX0_closest_14 : decode cX0_closest 14 = .ok (.getfield 9, 3) := by decide +kernel
theorem dX0_closest_17 : decode cX0_closest 17 = .ok (.iload_n 3, 1) := by decide +kernel
theorem dX0_closest_18 : decode cX0_closest 18 = .ok (.iaload, 1) := by decide +kernel
theorem dX0_closest_19 : decode cX0_closest 19 = .ok (.ifCond .lt 34, 3) := by decide +kernel
theorem dX0_closest_22 : decode cX0_closest 22 = .ok (.iload_n 2, 1) := by decide +kernel
theorem dX0_closest_23 : decode cX0_closest 23 = .ok (.ifCond .lt 28, 3) := by decide +kernel
theorem dX0_closest_26 : decode cX0_closest 26 = .ok (.aload_n 0, 1) := by decide +kernel
theorem dX0_closest_27 : decode cX0_closest 27 = .ok (.getfield 9, 3) := by decide +kernel
theorem dX0_closest_30 : decode cX0_closest 30 = .ok (.iload_n 3, 1) := by decide +kernel
theorem dX0_closest_31 : decode cX0_closest 31 = .ok (.iaload, 1) := by decide +kernel
theorem dX0_closest_32 : decode cX0_closest 32 = .ok (.iload_n 1, 1) := by decide +kernel
theorem dX0_closest_33 : decode cX0_closest 33 = .ok (.isub, 1) := by decide +kernel
theorem dX0_closest_34 : decode cX0_closest 34 = .ok (.invokestatic 49, 3) := by decide +kernel
theorem dX0_closest_37 : decode cX0_closest 37 = .ok (.aload_n 0, 1) := by decide +kernel
theorem dX0_closest_38 : decode cX0_closest 38 = .ok (.getfield 9, 3) := by decide +kernel
theorem dX0_closest_41 : decode cX0_closest 41 = .ok (.iload_n 2, 1) := by decide +kernel
theorem dX0_closest_42 : decode cX0_closest 42 = .ok (.iaload, 1) := by decide +kernel
theorem dX0_closest_43 : decode cX0_closest 43 = .ok (.iload_n 1, 1) := by decide +kernel
theorem dX0_closest_44 : decode cX0_closest 44 = .ok (.isub, 1) := by decide +kernel
theorem dX0_closest_45 : decode cX0_closest 45 = .ok (.invokestatic 49, 3) := by decide +kernel
theorem dX0_closest_48 : decode cX0_closest 48 = .ok (.if_icmp .ge 5, 3) := by decide +kernel
theorem dX0_closest_51 : decode cX0_closest 51 = .ok (.iload_n 3, 1) := by decide +kernel
theorem dX0_closest_52 : decode cX0_closest 52 = .ok (.istore_n 2, 1) := by decide +kernel
theorem dX0_closest_53 : decode cX0_closest 53 = .ok (.iinc 3 1, 3) := by decide +kernel
theorem dX0_closest_56 : decode cX0_closest 56 = .ok (.goto (-51), 3) := by decide +kernel
theorem dX0_closest_59 : decode cX0_closest 59 = .ok (.iload_n 2, 1) := by decide +kernel
theorem dX0_closest_60 : decode cX0_closest 60 = .ok (.ireturn, 1) := by decide +kernel
theorem dX0_mean_0 : decode cX0_mean 0 = .ok (.iconst 0, 1) := by decide +kernel
theorem dX0_mean_1 : decode cX0_mean 1 = .ok (.istore_n 1, 1) := by decide +kernel
theorem dX0_mean_2 : decode cX0_mean 2 = .ok (.iconst 0, 1) := by decide +kernel
theorem dX0_mean_3 : decode cX0_mean 3 = .ok (.istore_n 2, 1) := by decide +kernel
theorem dX0_mean_4 : decode cX0_mean 4 = .ok (.iconst 0, 1) := by decide +kernel
theorem dX0_mean_5 : decode cX0_mean 5 = .ok (.istore_n 3, 1) := by decide +kernel
theorem dX0_mean_6 : decode cX0_mean 6 = .ok (.iload_n 3, 1) := by decide +kernel
theorem dX0_mean_7 : decode cX0_mean 7 = .ok (.aload_n 0, 1) := by decide +kernel
theorem dX0_mean_8 : decode cX0_mean 8 = .ok (.getfield 15, 3) := by decide +kernel
theorem dX0_mean_11 : decode cX0_mean 11 = .ok (.if_icmp .ge 30, 3) := by decide +kernel
theorem dX0_mean_14 : decode cX0_mean 14 = .ok (.aload_n 0, 1) := by decide +kernel
theorem dX0_mean_15 : decode cX0_mean 15 = .ok (.getfield 9, 3) := by decide +kernel
theorem dX0_mean_18 : decode cX0_mean 18 = .ok (.iload_n 3, 1) := by decide +kernel
theorem dX0_mean_19 : decode cX0_mean 19 = .ok (.iaload, 1) := by decide +kernel
theorem dX0_mean_20 : decode cX0_mean 20 = .ok (.ifCond .lt 15, 3) := by decide +kernel
theorem dX0_mean_23 : decode cX0_mean 23 = .ok (.iload_n 1, 1) := by decide +kernel
theorem dX0_mean_24 : decode cX0_mean 24 = .ok (.aload_n 0, 1) := by decide +kernel
theorem dX0_mean_25 : decode cX0_mean 25 = .ok (.getfield 9, 3) := by decide +kernel
theorem dX0_mean_28 : decode cX0_mean 28 = .ok (.iload_n 3, 1) := by decide +kernel
theorem dX0_mean_29 : decode cX0_mean 29 = .ok (.iaload, 1) := by decide +kernel
theorem dX0_mean_30 : decode cX0_mean 30 = .ok (.iadd, 1) := by decide +kernel
theorem dX0_mean_31 : decode cX0_mean 31 = .ok (.istore_n 1, 1) := by decide +kernel
theorem dX0_mean_32 : decode cX0_mean 32 = .ok (.iinc 2 1, 3) := by decide +kernel
theorem dX0_mean_35 : decode cX0_mean 35 = .ok (.iinc 3 1, 3) := by decide +kernel
theorem dX0_mean_38 : decode cX0_mean 38 = .ok (.goto (-32), 3) := by decide +kernel
theorem dX0_mean_41 : decode cX0_mean 41 = .ok (.iload_n 2, 1) := by decide +kernel
theorem dX0_mean_42 : decode cX0_mean 42 = .ok (.ifCond .ne 7, 3) := by decide +kernel
theorem dX0_mean_45 : decode cX0_mean 45 = .ok (.fconst 0, 1) := by decide +kernel
theorem dX0_mean_46 : decode cX0_mean 46 = .ok (.goto 8, 3) := by decide +kernel
theorem dX0_mean_49 : decode cX0_mean 49 = .ok (.iload_n 1, 1) := by decide +kernel
theorem dX0_mean_50 : decode cX0_mean 50 = .ok (.i2f, 1) := by decide +kernel
theorem dX0_mean_51 : decode cX0_mean 51 = .ok (.iload_n 2, 1) := by decide +kernel
theorem dX0_mean_52 : decode cX0_mean 52 = .ok (.i2f, 1) := by decide +kernel
theorem dX0_mean_53 : decode cX0_mean 53 = .ok (.fdiv, 1) := by decide +kernel
theorem dX0_mean_54 : decode cX0_mean 54 = .ok (.freturn, 1) := by decide +kernel
theorem dX1_init_0 : decode cX1_init 0 = .ok (.aload_n 0, 1) := by decide +kernel
theorem dX1_init_1 : decode cX1_init 1 = .ok (.invokespecial 3, 3) := by decide +kernel
theorem dX1_init_4 : decode cX1_init 4 = .ok (.aload_n 0, 1) := by decide +kernel
theorem dX1_init_5 : decode cX1_init 5 = .ok (.bipush 9, 2) := by decide +kernel
theorem dX1_init_7 : decode cX1_init 7 = .ok (.anewarray 9, 3) := by decide +kernel
theorem dX1_init_10 : decode cX1_init 10 = .ok (.putfield 11, 3) := by decide +kernel
theorem dX1_init_13 : decode cX1_init 13 = .ok (.aload_n 0, 1) := by decide +kernel
theorem dX1_init_14 : decode cX1_init 14 = .ok (.iconst 0, 1) := by decide +kernel
theorem dX1_init_15 : decode cX1_init 15 = .ok (.putfield 17, 3) := by decide +kernel
theorem dX1_init_18 : decode cX1_init 18 = .ok (.aload_n 0, 1) := by decide +kernel
theorem dX1_init_19 : decode cX1_init 19 = .ok (.iconst 0, 1) := by decide +kernel
theorem dX1_init_20 : decode cX1_init 20 = .ok (.putfield 21, 3) := by decide +kernel
theorem dX1_init_23 : decode cX1_init 23 = .ok (.iconst 0, 1) := by decide +kernel
theorem dX1_init_24 : decode cX1_init 24 = .ok (.istore_n 1, 1) := by decide +kernel
theorem dX1_init_25 : decode cX1_init 25 = .ok (.iload_n 1, 1) := by decide +kernel
theorem dX1_init_26 : decode cX1_init 26 = .ok (.aload_n 0, 1) := by decide +kernel
theorem dX1_init_27 : decode cX1_init 27 = .ok (.getfield 11, 3) := by decide +kernel
theorem dX1_init_30 : decode cX1_init 30 = .ok (.arraylength, 1) := by decide +kernel
theorem dX1_init_31 : decode cX1_init 31 = .ok (.if_icmp .ge 22, 3) := by decide +kernel
theorem dX1_init_34 : decode cX1_init 34 = .ok (.aload_n 0, 1) := by decide +kernel
theorem dX1_init_35 : decode cX1_init 35 = .ok (.getfield 11, 3) := by decide +kernel
theorem dX1_init_38 : decode cX1_init 38 = .ok (.iload_n 1, 1) := by decide +kernel
theorem dX1_init_39 : decode cX1_init 39 = .ok (.new 9, 3) := by decide +kernel
theorem dX1_init_42 : decode cX1_init 42 = .ok (.dup, 1) := by decide +kernel
theorem dX1_init_43 : decode cX1_init 43 = .ok (.invokespecial 24, 3) := by decide +kernel
theorem dX1_init_46 : decode cX1_init 46 = .ok (.aastore, 1) := by decide +kernel
theorem dX1_init_47 : decode cX1_init 47 = .ok (.iinc 1 1, 3) := by decide +kernel
theorem dX1_init_50 : decode cX1_init 50 = .ok (.goto (-25), 3) := by decide +kernel
theorem dX1_init_53 : decode cX1_init 53 = .ok (.return_, 1) := by decide +kernel
theorem dX1_size_0 : decode cX1_size 0 = .ok (.aload_n 0, 1) := by decide +kernel
theorem dX1_size_1 : decode cX1_size 1 = .ok (.getfield 21, 3) := by decide +kernel
theorem dX1_size_4 : decode cX1_size 4 = .ok (.ireturn, 1) := by decide +kernel
theorem dX1_note_0 : decode cX1_note 0 = .ok (.aload_n 0, 1) := by decide +kernel
theorem dX1_note_1 : decode cX1_note 1 = .ok (.getfield 11, 3) := by decide +kernel
theorem dX1_note_4 : decode cX1_note 4 = .ok (.aload_n 0, 1) := by decide +kernel
theorem dX1_note_5 : decode cX1_note 5 = .ok (.getfield 17, 3) := by decide +kernel
theorem dX1_note_8 : decode cX1_note 8 = .ok (.aaload, 1) := by decide +kernel
theorem dX1_note_9 : decode cX1_note 9 = .ok (.aload_n 1, 1) := by decide +kernel
theorem dX1_note_10 : decode cX1_note 10 = .ok (.invokevirtual 25, 3) := by decide +kernel
theorem dX1_note_13 : decode cX1_note 13 = .ok (.return_, 1) := by decide +kernel
theorem dX1_keep_0 : decode cX1_keep 0 = .ok (.aload_n 0, 1) := by decide +kernel
theorem dX1_keep_1 : decode cX1_keep 1 = .ok (.aload_n 0, 1) := by decide +kernel
theorem dX1_keep_2 : decode cX1_keep 2 = .ok (.getfield 17, 3) := by decide +kernel
theorem dX1_keep_5 : decode cX1_keep 5 = .ok (.iconst 1, 1) := by decide +kernel
theorem dX1_keep_6 : decode cX1_keep 6 = .ok (.iadd, 1) := by decide +kernel
theorem dX1_keep_7 : decode cX1_keep 7 = .ok (.bipush 9, 2) := by decide +kernel
theorem dX1_keep_9 : decode cX1_keep 9 = .ok (.irem, 1) := by decide +kernel
theorem dX1_keep_10 : decode cX1_keep 10 = .ok (.putfield 17, 3) := by decide +kernel
theorem dX1_keep_13 : decode cX1_keep 13 = .ok (.aload_n 0, 1) := by decide +kernel
theorem dX1_keep_14 : decode cX1_keep 14 = .ok (.aload_n 0, 1) := by decide +kernel
theorem dX1_keep_15 : decode cX1_keep 15 = .ok (.getfield 21, 3) := by decide +kernel
theorem dX1_keep_18 : decode cX1_keep 18 = .ok (.iconst 1, 1) := by decide +kernel
theorem dX1_keep_19 : decode cX1_keep 19 = .ok (.iadd, 1) := by decide +kernel
theorem dX1_keep_20 : decode cX1_keep 20 = .ok (.bipush 8, 2) := by decide +kernel
theorem dX1_keep_22 : decode cX1_keep 22 = .ok (.invokestatic 29, 3) := by decide +kernel
theorem dX1_keep_25 : decode cX1_keep 25 = .ok (.putfield 21, 3) := by decide +kernel
theorem dX1_keep_28 : decode cX1_keep 28 = .ok (.return_, 1) := by decide +kernel
theorem dX2_numbered_0 : decode cX2_numbered 0 = .ok (.iload_n 0, 1) := by decide +kernel
theorem dX2_numbered_1 : decode cX2_numbered 1 = .ok (.ifCond .lt 19, 3) := by decide +kernel
theorem dX2_numbered_4 : decode cX2_numbered 4 = .ok (.iload_n 0, 1) := by decide +kernel
theorem dX2_numbered_5 : decode cX2_numbered 5 = .ok (.getstatic 58, 3) := by decide +kernel
theorem dX2_numbered_8 : decode cX2_numbered 8 = .ok (.arraylength, 1) := by decide +kernel
theorem dX2_numbered_9 : decode cX2_numbered 9 = .ok (.if_icmp .ge 11, 3) := by decide +kernel
theorem dX2_numbered_12 : decode cX2_numbered 12 = .ok (.getstatic 58, 3) := by decide +kernel
theorem dX2_numbered_15 : decode cX2_numbered 15 = .ok (.iload_n 0, 1) := by decide +kernel
theorem dX2_numbered_16 : decode cX2_numbered 16 = .ok (.aaload, 1) := by decide +kernel
theorem dX2_numbered_17 : decode cX2_numbered 17 = .ok (.goto 4, 3) := by decide +kernel
theorem dX2_numbered_20 : decode cX2_numbered 20 = .ok (.aconst_null, 1) := by decide +kernel
theorem dX2_numbered_21 : decode cX2_numbered 21 = .ok (.areturn, 1) := by decide +kernel
theorem dX2_barsOf_0 : decode cX2_barsOf 0 = .ok (.aload_n 0, 1) := by decide +kernel
theorem dX2_barsOf_1 : decode cX2_barsOf 1 = .ok (.getfield 40, 3) := by decide +kernel
theorem dX2_barsOf_4 : decode cX2_barsOf 4 = .ok (.iload_n 1, 1) := by decide +kernel
theorem dX2_barsOf_5 : decode cX2_barsOf 5 = .ok (.imul, 1) := by decide +kernel
theorem dX2_barsOf_6 : decode cX2_barsOf 6 = .ok (.iconst 3, 1) := by decide +kernel
theorem dX2_barsOf_7 : decode cX2_barsOf 7 = .ok (.iadd, 1) := by decide +kernel
theorem dX2_barsOf_8 : decode cX2_barsOf 8 = .ok (.iconst 4, 1) := by decide +kernel
theorem dX2_barsOf_9 : decode cX2_barsOf 9 = .ok (.idiv, 1) := by decide +kernel
theorem dX2_barsOf_10 : decode cX2_barsOf 10 = .ok (.ireturn, 1) := by decide +kernel
theorem dX3_init_0 : decode cX3_init 0 = .ok (.aload_n 0, 1) := by decide +kernel
theorem dX3_init_1 : decode cX3_init 1 = .ok (.invokespecial 3, 3) := by decide +kernel
theorem dX3_init_4 : decode cX3_init 4 = .ok (.aload_n 0, 1) := by decide +kernel
theorem dX3_init_5 : decode cX3_init 5 = .ok (.getstatic 9, 3) := by decide +kernel
theorem dX3_init_8 : decode cX3_init 8 = .ok (.putfield 15, 3) := by decide +kernel
theorem dX3_init_11 : decode cX3_init 11 = .ok (.aload_n 0, 1) := by decide +kernel
theorem dX3_init_12 : decode cX3_init 12 = .ok (.iconst 0, 1) := by decide +kernel
theorem dX3_init_13 : decode cX3_init 13 = .ok (.putfield 20, 3) := by decide +kernel
theorem dX3_init_16 : decode cX3_init 16 = .ok (.aload_n 0, 1) := by decide +kernel
theorem dX3_init_17 : decode cX3_init 17 = .ok (.iconst 0, 1) := by decide +kernel
theorem dX3_init_18 : decode cX3_init 18 = .ok (.putfield 24, 3) := by decide +kernel
theorem dX3_init_21 : decode cX3_init 21 = .ok (.aload_n 0, 1) := by decide +kernel
theorem dX3_init_22 : decode cX3_init 22 = .ok (.bipush (-4), 2) := by decide +kernel
theorem dX3_init_24 : decode cX3_init 24 = .ok (.putfield 27, 3) := by decide +kernel
theorem dX3_init_27 : decode cX3_init 27 = .ok (.aload_n 0, 1) := by decide +kernel
theorem dX3_init_28 : decode cX3_init 28 = .ok (.iconst 0, 1) := by decide +kernel
theorem dX3_init_29 : decode cX3_init 29 = .ok (.putfield 30, 3) := by decide +kernel
theorem dX3_init_32 : decode cX3_init 32 = .ok (.return_, 1) := by decide +kernel
theorem dX3_arrive_0 : decode cX3_arrive 0 = .ok (.aload_n 0, 1) := by decide +kernel
theorem dX3_arrive_1 : decode cX3_arrive 1 = .ok (.aload_n 1, 1) := by decide +kernel
theorem dX3_arrive_2 : decode cX3_arrive 2 = .ok (.putfield 15, 3) := by decide +kernel
theorem dX3_arrive_5 : decode cX3_arrive 5 = .ok (.aload_n 0, 1) := by decide +kernel
theorem dX3_arrive_6 : decode cX3_arrive 6 = .ok (.iload_n 2, 1) := by decide +kernel
theorem dX3_arrive_7 : decode cX3_arrive 7 = .ok (.putfield 20, 3) := by decide +kernel
theorem dX3_arrive_10 : decode cX3_arrive 10 = .ok (.aload_n 0, 1) := by decide +kernel
theorem dX3_arrive_11 : decode cX3_arrive 11 = .ok (.iload_n 3, 1) := by decide +kernel
theorem dX3_arrive_12 : decode cX3_arrive 12 = .ok (.putfield 24, 3) := by decide +kernel
theorem dX3_arrive_15 : decode cX3_arrive 15 = .ok (.aload_n 0, 1) := by decide +kernel
theorem dX3_arrive_16 : decode cX3_arrive 16 = .ok (.bipush (-4), 2) := by decide +kernel
theorem dX3_arrive_18 : decode cX3_arrive 18 = .ok (.putfield 27, 3) := by decide +kernel
theorem dX3_arrive_21 : decode cX3_arrive 21 = .ok (.aload_n 0, 1) := by decide +kernel
theorem dX3_arrive_22 : decode cX3_arrive 22 = .ok (.iconst 0, 1) := by decide +kernel
theorem dX3_arrive_23 : decode cX3_arrive 23 = .ok (.putfield 30, 3) := by decide +kernel
theorem dX3_arrive_26 : decode cX3_arrive 26 = .ok (.return_, 1) := by decide +kernel
theorem dX3_copyFrom_0 : decode cX3_copyFrom 0 = .ok (.aload_n 0, 1) := by decide +kernel
theorem dX3_copyFrom_1 : decode cX3_copyFrom 1 = .ok (.aload_n 1, 1) := by decide +kernel
theorem dX3_copyFrom_2 : decode cX3_copyFrom 2 = .ok (.getfield 15, 3) := by decide +kernel
theorem dX3_copyFrom_5 : decode cX3_copyFrom 5 = .ok (.putfield 15, 3) := by decide +kernel
theorem dX3_copyFrom_8 : decode cX3_copyFrom 8 = .ok (.aload_n 0, 1) := by decide +kernel
theorem dX3_copyFrom_9 : decode cX3_copyFrom 9 = .ok (.aload_n 1, 1) := by decide +kernel
theorem dX3_copyFrom_10 : decode cX3_copyFrom 10 = .ok (.getfield 20, 3) := by decide +kernel
theorem dX3_copyFrom_13 : decode cX3_copyFrom 13 = .ok (.putfield 20, 3) := by decide +kernel
theorem dX3_copyFrom_16 : decode cX3_copyFrom 16 = .ok (.aload_n 0, 1) := by decide +kernel
theorem dX3_copyFrom_17 : decode cX3_copyFrom 17 = .ok (.aload_n 1, 1) := by decide +kernel
theorem dX3_copyFrom_18 : decode cX3_copyFrom 18 = .ok (.getfield 24, 3) := by decide +kernel
theorem dX3_copyFrom_21 : decode cX3_copyFrom 21 = .ok (.putfield 24, 3) := by decide +kernel
theorem dX3_copyFrom_24 : decode cX3_copyFrom 24 = .ok (.aload_n 0, 1) := by decide +kernel
theorem dX3_copyFrom_25 : decode cX3_copyFrom 25 = .ok (.aload_n 1, 1) := by decide +kernel
theorem dX3_copyFrom_26 : decode cX3_copyFrom 26 = .ok (.getfield 27, 3) := by decide +kernel
theorem dX3_copyFrom_29 : decode cX3_copyFrom 29 = .ok (.putfield 27, 3) := by decide +kernel
theorem dX3_copyFrom_32 : decode cX3_copyFrom 32 = .ok (.aload_n 0, 1) := by decide +kernel
theorem dX3_copyFrom_33 : decode cX3_copyFrom 33 = .ok (.aload_n 1, 1) := by decide +kernel
theorem dX3_copyFrom_34 : decode cX3_copyFrom 34 = .ok (.getfield 30, 3) := by decide +kernel
theorem dX3_copyFrom_37 : decode cX3_copyFrom 37 = .ok (.putfield 30, 3) := by decide +kernel
theorem dX3_copyFrom_40 : decode cX3_copyFrom 40 = .ok (.return_, 1) := by decide +kernel
theorem dX3_isFilled_0 : decode cX3_isFilled 0 = .ok (.aload_n 0, 1) := by decide +kernel
theorem dX3_isFilled_1 : decode cX3_isFilled 1 = .ok (.getfield 27, 3) := by decide +kernel
theorem dX3_isFilled_4 : decode cX3_isFilled 4 = .ok (.bipush (-4), 2) := by decide +kernel
theorem dX3_isFilled_6 : decode cX3_isFilled 6 = .ok (.if_icmp .eq 7, 3) := by decide +kernel
theorem dX3_isFilled_9 : decode cX3_isFilled 9 = .ok (.iconst 1, 1) := by decide +kernel
theorem dX3_isFilled_10 : decode cX3_isFilled 10 = .ok (.goto 4, 3) := by decide +kernel
theorem dX3_isFilled_13 : decode cX3_isFilled 13 = .ok (.iconst 0, 1) := by decide +kernel
theorem dX3_isFilled_14 : decode cX3_isFilled 14 = .ok (.ireturn, 1) := by decide +kernel
theorem dX3_payFor_0 : decode cX3_payFor 0 = .ok (.aload_n 1, 1) := by decide +kernel
theorem dX3_payFor_1 : decode cX3_payFor 1 = .ok (.invokevirtual 33, 3) := by decide +kernel
theorem dX3_payFor_4 : decode cX3_payFor 4 = .ok (.ifCond .eq 10, 3) := by decide +kernel
theorem dX3_payFor_7 : decode cX3_payFor 7 = .ok (.aload_n 0, 1) := by decide +kernel
theorem dX3_payFor_8 : decode cX3_payFor 8 = .ok (.getfield 24, 3) := by decide +kernel
theorem dX3_payFor_11 : decode cX3_payFor 11 = .ok (.goto 9, 3) := by decide +kernel
theorem dX3_payFor_14 : decode cX3_payFor 14 = .ok (.aload_n 0, 1) := by decide +kernel
theorem dX3_payFor_15 : decode cX3_payFor 15 = .ok (.getfield 24, 3) := by decide +kernel
theorem dX3_payFor_18 : decode cX3_payFor 18 = .ok (.iconst 2, 1) := by decide +kernel
theorem dX3_payFor_19 : decode cX3_payFor 19 = .ok (.idiv, 1) := by decide +kernel
theorem dX3_payFor_20 : decode cX3_payFor 20 = .ok (.ireturn, 1) := by decide +kernel
theorem dX3_tinFor_0 : decode cX3_tinFor 0 = .ok (.aload_n 1, 1) := by decide +kernel
theorem dX3_tinFor_1 : decode cX3_tinFor 1 = .ok (.invokevirtual 33, 3) := by decide +kernel
theorem dX3_tinFor_4 : decode cX3_tinFor 4 = .ok (.ifCond .eq 14, 3) := by decide +kernel
theorem dX3_tinFor_7 : decode cX3_tinFor 7 = .ok (.aload_n 0, 1) := by decide +kernel
theorem dX3_tinFor_8 : decode cX3_tinFor 8 = .ok (.getfield 20, 3) := by decide +kernel
theorem dX3_tinFor_11 : decode cX3_tinFor 11 = .ok (.iconst 3, 1) := by decide +kernel
theorem dX3_tinFor_12 : decode cX3_tinFor 12 = .ok (.invokestatic 39, 3) := by decide +kernel
theorem dX3_tinFor_15 : decode cX3_tinFor 15 = .ok (.goto 7, 3) := by decide +kernel
theorem dX3_tinFor_18 : decode cX3_tinFor 18 = .ok (.aload_n 0, 1) := by decide +kernel
theorem dX3_tinFor_19 : decode cX3_tinFor 19 = .ok (.getfield 20, 3) := by decide +kernel
theorem dX3_tinFor_22 : decode cX3_tinFor 22 = .ok (.ireturn, 1) := by decide +kernel
theorem dX3_tell_0 : decode cX3_tell 0 = .ok (.iload_n 1, 1) := by decide +kernel
theorem dX3_tell_1 : decode cX3_tell 1 = .ok (.tableswitch 63 0 4 #[35, 43, 48, 53, 58], 35) := by decide +kernel
theorem dX3_tell_36 : decode cX3_tell 36 = .ok (.aload_n 0, 1) := by decide +kernel
theorem dX3_tell_37 : decode cX3_tell 37 = .ok (.getfield 15, 3) := by decide +kernel
theorem dX3_tell_40 : decode cX3_tell 40 = .ok (.getfield 45, 3) := by decide +kernel
theorem dX3_tell_43 : decode cX3_tell 43 = .ok (.ireturn, 1) := by decide +kernel
theorem dX3_tell_44 : decode cX3_tell 44 = .ok (.aload_n 0, 1) := by decide +kernel
theorem dX3_tell_45 : decode cX3_tell 45 = .ok (.getfield 20, 3) := by decide +kernel
theorem dX3_tell_48 : decode cX3_tell 48 = .ok (.ireturn, 1) := by decide +kernel
theorem dX3_tell_49 : decode cX3_tell 49 = .ok (.aload_n 0, 1) := by decide +kernel
theorem dX3_tell_50 : decode cX3_tell 50 = .ok (.getfield 24, 3) := by decide +kernel
theorem dX3_tell_53 : decode cX3_tell 53 = .ok (.ireturn, 1) := by decide +kernel
theorem dX3_tell_54 : decode cX3_tell 54 = .ok (.aload_n 0, 1) := by decide +kernel
theorem dX3_tell_55 : decode cX3_tell 55 = .ok (.getfield 27, 3) := by decide +kernel
theorem dX3_tell_58 : decode cX3_tell 58 = .ok (.ireturn, 1) := by decide +kernel
theorem dX3_tell_59 : decode cX3_tell 59 = .ok (.aload_n 0, 1) := by decide +kernel
theorem dX3_tell_60 : decode cX3_tell 60 = .ok (.getfield 30, 3) := by decide +kernel
theorem dX3_tell_63 : decode cX3_tell 63 = .ok (.ireturn, 1) := by decide +kernel
theorem dX3_tell_64 : decode cX3_tell 64 = .ok (.bipush (-2), 2) := by decide +kernel
theorem dX3_tell_66 : decode cX3_tell 66 = .ok (.ireturn, 1) := by decide +kernel
theorem dX4_init_0 : decode cX4_init 0 = .ok (.aload_n 0, 1) := by decide +kernel
theorem dX4_init_1 : decode cX4_init 1 = .ok (.invokespecial 3, 3) := by decide +kernel
theorem dX4_init_4 : decode cX4_init 4 = .ok (.aload_n 0, 1) := by decide +kernel
theorem dX4_init_5 : decode cX4_init 5 = .ok (.getstatic 9, 3) := by decide +kernel
theorem dX4_init_8 : decode cX4_init 8 = .ok (.putfield 15, 3) := by decide +kernel
theorem dX4_init_11 : decode cX4_init 11 = .ok (.aload_n 0, 1) := by decide +kernel
theorem dX4_init_12 : decode cX4_init 12 = .ok (.iconst 0, 1) := by decide +kernel
theorem dX4_init_13 : decode cX4_init 13 = .ok (.putfield 20, 3) := by decide +kernel
theorem dX4_init_16 : decode cX4_init 16 = .ok (.aload_n 0, 1) := by decide +kernel
theorem dX4_init_17 : decode cX4_init 17 = .ok (.iconst 0, 1) := by decide +kernel
theorem dX4_init_18 : decode cX4_init 18 = .ok (.putfield 24, 3) := by decide +kernel
theorem dX4_init_21 : decode cX4_init 21 = .ok (.aload_n 0, 1) := by decide +kernel
theorem dX4_init_22 : decode cX4_init 22 = .ok (.iconst 0, 1) := by decide +kernel
theorem dX4_init_23 : decode cX4_init 23 = .ok (.putfield 27, 3) := by decide +kernel
theorem dX4_init_26 : decode cX4_init 26 = .ok (.aload_n 0, 1) := by decide +kernel
theorem dX4_init_27 : decode cX4_init 27 = .ok (.iconst 0, 1) := by decide +kernel
theorem dX4_init_28 : decode cX4_init 28 = .ok (.putfield 30, 3) := by decide +kernel
theorem dX4_init_31 : decode cX4_init 31 = .ok (.aload_n 0, 1) := by decide +kernel
theorem dX4_init_32 : decode cX4_init 32 = .ok (.iconst 0, 1) := by decide +kernel
theorem dX4_init_33 : decode cX4_init 33 = .ok (.putfield 33, 3) := by decide +kernel
theorem dX4_init_36 : decode cX4_init 36 = .ok (.aload_n 0, 1) := by decide +kernel
theorem dX4_init_37 : decode cX4_init 37 = .ok (.iconst 0, 1) := by decide +kernel
theorem dX4_init_38 : decode cX4_init 38 = .ok (.putfield 36, 3) := by decide +kernel
theorem dX4_init_41 : decode cX4_init 41 = .ok (.aload_n 0, 1) := by decide +kernel
theorem dX4_init_42 : decode cX4_init 42 = .ok (.bipush (-4), 2) := by decide +kernel
theorem dX4_init_44 : decode cX4_init 44 = .ok (.putfield 39, 3) := by decide +kernel
theorem dX4_init_47 : decode cX4_init 47 = .ok (.aload_n 0, 1) := by decide +kernel
theorem dX4_init_48 : decode cX4_init 48 = .ok (.iload_n 1, 1) := by decide +kernel
theorem dX4_init_49 : decode cX4_init 49 = .ok (.putfield 42, 3) := by decide +kernel
theorem dX4_init_52 : decode cX4_init 52 = .ok (.return_, 1) := by decide +kernel
theorem dX4_arrive_0 : decode cX4_arrive 0 = .ok (.aload_n 0, 1) := by decide +kernel
theorem dX4_arrive_1 : decode cX4_arrive 1 = .ok (.aload_n 1, 1) := by decide +kernel
theorem dX4_arrive_2 : decode cX4_arrive 2 = .ok (.putfield 15, 3) := by decide +kernel
theorem dX4_arrive_5 : decode cX4_arrive 5 = .ok (.aload_n 0, 1) := by decide +kernel
theorem dX4_arrive_6 : decode cX4_arrive 6 = .ok (.iload_n 2, 1) := by decide +kernel
theorem dX4_arrive_7 : decode cX4_arrive 7 = .ok (.putfield 20, 3) := by decide +kernel
theorem dX4_arrive_10 : decode cX4_arrive 10 = .ok (.aload_n 0, 1) := by decide +kernel
theorem dX4_arrive_11 : decode cX4_arrive 11 = .ok (.iload_n 3, 1) := by decide +kernel
theorem dX4_arrive_12 : decode cX4_arrive 12 = .ok (.putfield 24, 3) := by decide +kernel
theorem dX4_arrive_15 : decode cX4_arrive 15 = .ok (.aload_n 0, 1) := by decide +kernel
theorem dX4_arrive_16 : decode cX4_arrive 16 = .ok (.iconst 0, 1) := by decide +kernel
theorem dX4_arrive_17 : decode cX4_arrive 17 = .ok (.putfield 27, 3) := by decide +kernel
theorem dX4_arrive_20 : decode cX4_arrive 20 = .ok (.aload_n 0, 1) := by decide +kernel
theorem dX4_arrive_21 : decode cX4_arrive 21 = .ok (.iconst 0, 1) := by decide +kernel
theorem dX4_arrive_22 : decode cX4_arrive 22 = .ok (.putfield 30, 3) := by decide +kernel
theorem dX4_arrive_25 : decode cX4_arrive 25 = .ok (.aload_n 0, 1) := by decide +kernel
theorem dX4_arrive_26 : decode cX4_arrive 26 = .ok (.iconst 0, 1) := by decide +kernel
theorem dX4_arrive_27 : decode cX4_arrive 27 = .ok (.putfield 33, 3) := by decide +kernel
theorem dX4_arrive_30 : decode cX4_arrive 30 = .ok (.aload_n 0, 1) := by decide +kernel
theorem dX4_arrive_31 : decode cX4_arrive 31 = .ok (.iconst 0, 1) := by decide +kernel
theorem dX4_arrive_32 : decode cX4_arrive 32 = .ok (.putfield 36, 3) := by decide +kernel
theorem dX4_arrive_35 : decode cX4_arrive 35 = .ok (.aload_n 0, 1) := by decide +kernel
theorem dX4_arrive_36 : decode cX4_arrive 36 = .ok (.bipush (-4), 2) := by decide +kernel
theorem dX4_arrive_38 : decode cX4_arrive 38 = .ok (.putfield 39, 3) := by decide +kernel
theorem dX4_arrive_41 : decode cX4_arrive 41 = .ok (.return_, 1) := by decide +kernel
theorem dX4_copyFrom_0 : decode cX4_copyFrom 0 = .ok (.aload_n 0, 1) := by decide +kernel
theorem dX4_copyFrom_1 : decode cX4_copyFrom 1 = .ok (.aload_n 1, 1) := by decide +kernel
theorem dX4_copyFrom_2 : decode cX4_copyFrom 2 = .ok (.getfield 15, 3) := by decide +kernel
theorem dX4_copyFrom_5 : decode cX4_copyFrom 5 = .ok (.putfield 15, 3) := by decide +kernel
theorem dX4_copyFrom_8 : decode cX4_copyFrom 8 = .ok (.aload_n 0, 1) := by decide +kernel
theorem dX4_copyFrom_9 : decode cX4_copyFrom 9 = .ok (.aload_n 1, 1) := by decide +kernel
theorem dX4_copyFrom_10 : decode cX4_copyFrom 10 = .ok (.getfield 20, 3) := by decide +kernel
theorem dX4_copyFrom_13 : decode cX4_copyFrom 13 = .ok (.putfield 20, 3) := by decide +kernel
theorem dX4_copyFrom_16 : decode cX4_copyFrom 16 = .ok (.aload_n 0, 1) := by decide +kernel
theorem dX4_copyFrom_17 : decode cX4_copyFrom 17 = .ok (.aload_n 1, 1) := by decide +kernel
theorem dX4_copyFrom_18 : decode cX4_copyFrom 18 = .ok (.getfield 24, 3) := by decide +kernel
theorem dX4_copyFrom_21 : decode cX4_copyFrom 21 = .ok (.putfield 24, 3) := by decide +kernel
theorem dX4_copyFrom_24 : decode cX4_copyFrom 24 = .ok (.aload_n 0, 1) := by decide +kernel
theorem dX4_copyFrom_25 : decode cX4_copyFrom 25 = .ok (.aload_n 1, 1) := by decide +kernel
theorem dX4_copyFrom_26 : decode cX4_copyFrom 26 = .ok (.getfield 27, 3) := by decide +kernel
theorem dX4_copyFrom_29 : decode cX4_copyFrom 29 = .ok (.putfield 27, 3) := by decide +kernel
theorem dX4_copyFrom_32 : decode cX4_copyFrom 32 = .ok (.aload_n 0, 1) := by decide +kernel
theorem dX4_copyFrom_33 : decode cX4_copyFrom 33 = .ok (.aload_n 1, 1) := by decide +kernel
theorem dX4_copyFrom_34 : decode cX4_copyFrom 34 = .ok (.getfield 30, 3) := by decide +kernel
theorem dX4_copyFrom_37 : decode cX4_copyFrom 37 = .ok (.putfield 30, 3) := by decide +kernel
theorem dX4_copyFrom_40 : decode cX4_copyFrom 40 = .ok (.aload_n 0, 1) := by decide +kernel
theorem dX4_copyFrom_41 : decode cX4_copyFrom 41 = .ok (.aload_n 1, 1) := by decide +kernel
theorem dX4_copyFrom_42 : decode cX4_copyFrom 42 = .ok (.getfield 33, 3) := by decide +kernel
theorem dX4_copyFrom_45 : decode cX4_copyFrom 45 = .ok (.putfield 33, 3) := by decide +kernel
theorem dX4_copyFrom_48 : decode cX4_copyFrom 48 = .ok (.aload_n 0, 1) := by decide +kernel
theorem dX4_copyFrom_49 : decode cX4_copyFrom 49 = .ok (.aload_n 1, 1) := by decide +kernel
theorem dX4_copyFrom_50 : decode cX4_copyFrom 50 = .ok (.getfield 36, 3) := by decide +kernel
theorem dX4_copyFrom_53 : decode cX4_copyFrom 53 = .ok (.putfield 36, 3) := by decide +kernel
theorem dX4_copyFrom_56 : decode cX4_copyFrom 56 = .ok (.aload_n 0, 1) := by decide +kernel
theorem dX4_copyFrom_57 : decode cX4_copyFrom 57 = .ok (.aload_n 1, 1) := by decide +kernel
theorem dX4_copyFrom_58 : decode cX4_copyFrom 58 = .ok (.getfield 39, 3) := by decide +kernel
theorem dX4_copyFrom_61 : decode cX4_copyFrom 61 = .ok (.putfield 39, 3) := by decide +kernel
theorem dX4_copyFrom_64 : decode cX4_copyFrom 64 = .ok (.return_, 1) := by decide +kernel
theorem dX4_isSold_0 : decode cX4_isSold 0 = .ok (.aload_n 0, 1) := by decide +kernel
theorem dX4_isSold_1 : decode cX4_isSold 1 = .ok (.getfield 39, 3) := by decide +kernel
theorem dX4_isSold_4 : decode cX4_isSold 4 = .ok (.bipush (-4), 2) := by decide +kernel
theorem dX4_isSold_6 : decode cX4_isSold 6 = .ok (.if_icmp .eq 7, 3) := by decide +kernel
theorem dX4_isSold_9 : decode cX4_isSold 9 = .ok (.iconst 1, 1) := by decide +kernel
theorem dX4_isSold_10 : decode cX4_isSold 10 = .ok (.goto 4, 3) := by decide +kernel
theorem dX4_isSold_13 : decode cX4_isSold 13 = .ok (.iconst 0, 1) := by decide +kernel
theorem dX4_isSold_14 : decode cX4_isSold 14 = .ok (.ireturn, 1) := by decide +kernel
theorem dX4_isNew_0 : decode cX4_isNew 0 = .ok (.aload_n 0, 1) := by decide +kernel
theorem dX4_isNew_1 : decode cX4_isNew 1 = .ok (.getfield 36, 3) := by decide +kernel
theorem dX4_isNew_4 : decode cX4_isNew 4 = .ok (.ifCond .ne 7, 3) := by decide +kernel
theorem dX4_isNew_7 : decode cX4_isNew 7 = .ok (.iconst 1, 1) := by decide +kernel
theorem dX4_isNew_8 : decode cX4_isNew 8 = .ok (.goto 4, 3) := by decide +kernel
theorem dX4_isNew_11 : decode cX4_isNew 11 = .ok (.iconst 0, 1) := by decide +kernel
theorem dX4_isNew_12 : decode cX4_isNew 12 = .ok (.ireturn, 1) := by decide +kernel
theorem dX4_crackingBlows_0 : decode cX4_crackingBlows 0 = .ok (.aload_n 0, 1) := by decide +kernel
theorem dX4_crackingBlows_1 : decode cX4_crackingBlows 1 = .ok (.getfield 15, 3) := by decide +kernel
theorem dX4_crackingBlows_4 : decode cX4_crackingBlows 4 = .ok (.getfield 45, 3) := by decide +kernel
theorem dX4_crackingBlows_7 : decode cX4_crackingBlows 7 = .ok (.bipush 6, 2) := by decide +kernel
theorem dX4_crackingBlows_9 : decode cX4_crackingBlows 9 = .ok (.aload_n 0, 1) := by decide +kernel
theorem dX4_crackingBlows_10 : decode cX4_crackingBlows 10 = .ok (.getfield 24, 3) := by decide +kernel
theorem dX4_crackingBlows_13 : decode cX4_crackingBlows 13 = .ok (.imul, 1) := by decide +kernel
theorem dX4_crackingBlows_14 : decode cX4_crackingBlows 14 = .ok (.iadd, 1) := by decide +kernel
theorem dX4_crackingBlows_15 : decode cX4_crackingBlows 15 = .ok (.ireturn, 1) := by decide +kernel
theorem dX4_blowsMissing_0 : decode cX4_blowsMissing 0 = .ok (.iload_n 1, 1) := by decide +kernel
theorem dX4_blowsMissing_1 : decode cX4_blowsMissing 1 = .ok (.aload_n 0, 1) := by decide +kernel
theorem dX4_blowsMissing_2 : decode cX4_blowsMissing 2 = .ok (.getfield 27, 3) := by decide +kernel
theorem dX4_blowsMissing_5 : decode cX4_blowsMissing 5 = .ok (.isub, 1) := by decide +kernel
theorem dX4_blowsMissing_6 : decode cX4_blowsMissing 6 = .ok (.iconst 0, 1) := by decide +kernel
theorem dX4_blowsMissing_7 : decode cX4_blowsMissing 7 = .ok (.invokestatic 48, 3) := by decide +kernel
theorem dX4_blowsMissing_10 : decode cX4_blowsMissing 10 = .ok (.ireturn, 1) := by decide +kernel
theorem dX4_isSmooth_0 : decode cX4_isSmooth 0 = .ok (.aload_n 0, 1) := by decide +kernel
theorem dX4_isSmooth_1 : decode cX4_isSmooth 1 = .ok (.getfield 27, 3) := by decide +kernel
theorem dX4_isSmooth_4 : decode cX4_isSmooth 4 = .ok (.aload_n 0, 1) := by decide +kernel
theorem dX4_isSmooth_5 : decode cX4_isSmooth 5 = .ok (.getfield 15, 3) := by decide +kernel
theorem dX4_isSmooth_8 : decode cX4_isSmooth 8 = .ok (.getfield 45, 3) := by decide +kernel
theorem dX4_isSmooth_11 : decode cX4_isSmooth 11 = .ok (.if_icmp .lt 7, 3) := by decide +kernel
theorem dX4_isSmooth_14 : decode cX4_isSmooth 14 = .ok (.iconst 1, 1) := by decide +kernel
theorem dX4_isSmooth_15 : decode cX4_isSmooth 15 = .ok (.goto 4, 3) := by decide +kernel
theorem dX4_isSmooth_18 : decode cX4_isSmooth 18 = .ok (.iconst 0, 1) := by decide +kernel
theorem dX4_isSmooth_19 : decode cX4_isSmooth 19 = .ok (.ireturn, 1) := by decide +kernel
theorem dX4_isCracked_0 : decode cX4_isCracked 0 = .ok (.aload_n 0, 1) := by decide +kernel
theorem dX4_isCracked_1 : decode cX4_isCracked 1 = .ok (.getfield 27, 3) := by decide +kernel
theorem dX4_isCracked_4 : decode cX4_isCracked 4 = .ok (.aload_n 0, 1) := by decide +kernel
theorem dX4_isCracked_5 : decode cX4_isCracked 5 = .ok (.invokevirtual 54, 3) := by decide +kernel
theorem dX4_isCracked_8 : decode cX4_isCracked 8 = .ok (.if_icmp .lt 7, 3) := by decide +kernel
theorem dX4_isCracked_11 : decode cX4_isCracked 11 = .ok (.iconst 1, 1) := by decide +kernel
theorem dX4_isCracked_12 : decode cX4_isCracked 12 = .ok (.goto 4, 3) := by decide +kernel
theorem dX4_isCracked_15 : decode cX4_isCracked 15 = .ok (.iconst 0, 1) := by decide +kernel
theorem dX4_isCracked_16 : decode cX4_isCracked 16 = .ok (.ireturn, 1) := by decide +kernel
theorem dX4_thickness_0 : decode cX4_thickness 0 = .ok (.aload_n 0, 1) := by decide +kernel
theorem dX4_thickness_1 : decode cX4_thickness 1 = .ok (.aload_n 0, 1) := by decide +kernel
theorem dX4_thickness_2 : decode cX4_thickness 2 = .ok (.getfield 27, 3) := by decide +kernel
theorem dX4_thickness_5 : decode cX4_thickness 5 = .ok (.invokevirtual 58, 3) := by decide +kernel
theorem dX4_thickness_8 : decode cX4_thickness 8 = .ok (.ireturn, 1) := by decide +kernel
theorem dX4_thicknessWith_0 : decode cX4_thicknessWith 0 = .ok (.iload_n 1, 1) := by decide +kernel
theorem dX4_thicknessWith_1 : decode cX4_thicknessWith 1 = .ok (.aload_n 0, 1) := by decide +kernel
theorem dX4_thicknessWith_2 : decode cX4_thicknessWith 2 = .ok (.getfield 15, 3) := by decide +kernel
theorem dX4_thicknessWith_5 : decode cX4_thicknessWith 5 = .ok (.getfield 45, 3) := by decide +kernel
theorem dX4_thicknessWith_8 : decode cX4_thicknessWith 8 = .ok (.isub, 1) := by decide +kernel
theorem dX4_thicknessWith_9 : decode cX4_thicknessWith 9 = .ok (.iconst 0, 1) := by decide +kernel
theorem dX4_thicknessWith_10 : decode cX4_thicknessWith 10 = .ok (.invokestatic 48, 3) := by decide +kernel
theorem dX4_thicknessWith_13 : decode cX4_thicknessWith 13 = .ok (.istore_n 2, 1) := by decide +kernel
theorem dX4_thicknessWith_14 : decode cX4_thicknessWith 14 = .ok (.aload_n 0, 1) := by decide +kernel
theorem dX4_thicknessWith_15 : decode cX4_thicknessWith 15 = .ok (.getfield 24, 3) := by decide +kernel
theorem dX4_thicknessWith_18 : decode cX4_thicknessWith 18 = .ok (.iload_n 2, 1) := by decide +kernel
theorem dX4_thicknessWith_19 : decode cX4_thicknessWith 19 = .ok (.bipush 6, 2) := by decide +kernel
theorem dX4_thicknessWith_21 : decode cX4_thicknessWith 21 = .ok (.idiv, 1) := by decide +kernel
theorem dX4_thicknessWith_22 : decode cX4_thicknessWith 22 = .ok (.isub, 1) := by decide +kernel
theorem dX4_thicknessWith_23 : decode cX4_thicknessWith 23 = .ok (.iconst 0, 1) := by decide +kernel
theorem dX4_thicknessWith_24 : decode cX4_thicknessWith 24 = .ok (.invokestatic 48, 3) := by decide +kernel
theorem dX4_thicknessWith_27 : decode cX4_thicknessWith 27 = .ok (.ireturn, 1) := by decide +kernel
theorem dX4_ring_0 : decode cX4_ring 0 = .ok (.aload_n 0, 1) := by decide +kernel
theorem dX4_ring_1 : decode cX4_ring 1 = .ok (.aload_n 0, 1) := by decide +kernel
theorem dX4_ring_2 : decode cX4_ring 2 = .ok (.getfield 27, 3) := by decide +kernel
theorem dX4_ring_5 : decode cX4_ring 5 = .ok (.aload_n 0, 1) := by decide +kernel
theorem dX4_ring_6 : decode cX4_ring 6 = .ok (.getfield 30, 3) := by decide +kernel
theorem dX4_ring_9 : decode cX4_ring 9 = .ok (.invokevirtual 62, 3) := by decide +kernel
theorem dX4_ring_12 : decode cX4_ring 12 = .ok (.ireturn, 1) := by decide +kernel
theorem dX4_ringWith_0 : decode cX4_ringWith 0 = .ok (.aload_n 0, 1) := by decide +kernel
theorem dX4_ringWith_1 : decode cX4_ringWith 1 = .ok (.iload_n 1, 1) := by decide +kernel
theorem dX4_ringWith_2 : decode cX4_ringWith 2 = .ok (.invokevirtual 58, 3) := by decide +kernel
theorem dX4_ringWith_5 : decode cX4_ringWith 5 = .ok (.istore_n 3, 1) := by decide +kernel
theorem dX4_ringWith_6 : decode cX4_ringWith 6 = .ok (.iload_n 3, 1) := by decide +kernel
theorem dX4_ringWith_7 : decode cX4_ringWith 7 = .ok (.ifCond .ne 5, 3) := by decide +kernel
theorem dX4_ringWith_10 : decode cX4_ringWith 10 = .ok (.iconst 0, 1) := by decide +kernel
theorem dX4_ringWith_11 : decode cX4_ringWith 11 = .ok (.ireturn, 1) := by decide +kernel
theorem dX4_ringWith_12 : decode cX4_ringWith 12 = .ok (.aload_n 0, 1) := by decide +kernel
theorem dX4_ringWith_13 : decode cX4_ringWith 13 = .ok (.getfield 15, 3) := by decide +kernel
theorem dX4_ringWith_16 : decode cX4_ringWith 16 = .ok (.getfield 65, 3) := by decide +kernel
theorem dX4_ringWith_19 : decode cX4_ringWith 19 = .ok (.aload_n 0, 1) := by decide +kernel
theorem dX4_ringWith_20 : decode cX4_ringWith 20 = .ok (.getfield 15, 3) := by decide +kernel
theorem dX4_ringWith_23 : decode cX4_ringWith 23 = .ok (.getfield 68, 3) := by decide +kernel
theorem dX4_ringWith_26 : decode cX4_ringWith 26 = .ok (.iload_n 3, 1) := by decide +kernel
theorem dX4_ringWith_27 : decode cX4_ringWith 27 = .ok (.imul, 1) := by decide +kernel
theorem dX4_ringWith_28 : decode cX4_ringWith 28 = .ok (.iadd, 1) := by decide +kernel
theorem dX4_ringWith_29 : decode cX4_ringWith 29 = .ok (.aload_n 0, 1) := by decide +kernel
theorem dX4_ringWith_30 : decode cX4_ringWith 30 = .ok (.getfield 15, 3) := by decide +kernel
theorem dX4_ringWith_33 : decode cX4_ringWith 33 = .ok (.getfield 71, 3) := by decide +kernel
theorem dX4_ringWith_36 : decode cX4_ringWith 36 = .ok (.iload_n 2, 1) := by decide +kernel
theorem dX4_ringWith_37 : decode cX4_ringWith 37 = .ok (.imul, 1) := by decide +kernel
theorem dX4_ringWith_38 : decode cX4_ringWith 38 = .ok (.iconst 2, 1) := by decide +kernel
theorem dX4_ringWith_39 : decode cX4_ringWith 39 = .ok (.idiv, 1) := by decide +kernel
theorem dX4_ringWith_40 : decode cX4_ringWith 40 = .ok (.isub, 1) := by decide +kernel
theorem dX4_ringWith_41 : decode cX4_ringWith 41 = .ok (.istore 4, 2) := by decide +kernel
theorem dX4_ringWith_43 : decode cX4_ringWith 43 = .ok (.iload_n 1, 1) := by decide +kernel
theorem dX4_ringWith_44 : decode cX4_ringWith 44 = .ok (.aload_n 0, 1) := by decide +kernel
theorem dX4_ringWith_45 : decode cX4_ringWith 45 = .ok (.getfield 15, 3) := by decide +kernel
theorem dX4_ringWith_48 : decode cX4_ringWith 48 = .ok (.getfield 45, 3) := by decide +kernel
theorem dX4_ringWith_51 : decode cX4_ringWith 51 = .ok (.if_icmp .lt 10, 3) := by decide +kernel
theorem dX4_ringWith_54 : decode cX4_ringWith 54 = .ok (.iload 4, 2) := by decide +kernel
theorem dX4_ringWith_56 : decode cX4_ringWith 56 = .ok (.iconst 2, 1) := by decide +kernel
theorem dX4_ringWith_57 : decode cX4_ringWith 57 = .ok (.iadd, 1) := by decide +kernel
theorem dX4_ringWith_58 : decode cX4_ringWith 58 = .ok (.goto 5, 3) := by decide +kernel
theorem dX4_ringWith_61 : decode cX4_ringWith 61 = .ok (.iload 4, 2) := by decide +kernel
theorem dX4_ringWith_63 : decode cX4_ringWith 63 = .ok (.ireturn, 1) := by decide +kernel
theorem dX4_ringByStep_0 : decode cX4_ringByStep 0 = .ok (.aload_n 0, 1) := by decide +kernel
theorem dX4_ringByStep_1 : decode cX4_ringByStep 1 = .ok (.invokevirtual 74, 3) := by decide +kernel
theorem dX4_ringByStep_4 : decode cX4_ringByStep 4 = .ok (.istore_n 1, 1) := by decide +kernel
theorem dX4_ringByStep_5 : decode cX4_ringByStep 5 = .ok (.iload_n 1, 1) := by decide +kernel
theorem dX4_ringByStep_6 : decode cX4_ringByStep 6 = .ok (.ifCond .ne 5, 3) := by decide +kernel
theorem dX4_ringByStep_9 : decode cX4_ringByStep 9 = .ok (.iconst 0, 1) := by decide +kernel
theorem dX4_ringByStep_10 : decode cX4_ringByStep 10 = .ok (.ireturn, 1) := by decide +kernel
theorem dX4_ringByStep_11 : decode cX4_ringByStep 11 = .ok (.aload_n 0, 1) := by decide +kernel
theorem dX4_ringByStep_12 : decode cX4_ringByStep 12 = .ok (.invokevirtual 77, 3) := by decide +kernel
theorem dX4_ringByStep_15 : decode cX4_ringByStep 15 = .ok (.ifCond .eq 15, 3) := by decide +kernel
theorem dX4_ringByStep_18 : decode cX4_ringByStep 18 = .ok (.aload_n 0, 1) := by decide +kernel
theorem dX4_ringByStep_19 : decode cX4_ringByStep 19 = .ok (.getfield 15, 3) := by decide +kernel
theorem dX4_ringByStep_22 : decode cX4_ringByStep 22 = .ok (.getfield 65, 3) := by decide +kernel
theorem dX4_ringByStep_25 : decode cX4_ringByStep 25 = .ok (.iconst 2, 1) := by decide +kernel
theorem dX4_ringByStep_26 : decode cX4_ringByStep 26 = .ok (.iadd, 1) := by decide +kernel
theorem dX4_ringByStep_27 : decode cX4_ringByStep 27 = .ok (.goto 10, 3) := by decide +kernel
theorem dX4_ringByStep_30 : decode cX4_ringByStep 30 = .ok (.aload_n 0, 1) := by decide +kernel
theorem dX4_ringByStep_31 : decode cX4_ringByStep 31 = .ok (.getfield 15, 3) := by decide +kernel
theorem dX4_ringByStep_34 : decode cX4_ringByStep 34 = .ok (.getfield 65, 3) := by decide +kernel
theorem dX4_ringByStep_37 : decode cX4_ringByStep 37 = .ok (.istore_n 2, 1) := by decide +kernel
theorem dX4_ringByStep_38 : decode cX4_ringByStep 38 = .ok (.iconst 0, 1) := by decide +kernel
theorem dX4_ringByStep_39 : decode cX4_ringByStep 39 = .ok (.istore_n 3, 1) := by decide +kernel
theorem dX4_ringByStep_40 : decode cX4_ringByStep 40 = .ok (.iload_n 3, 1) := by decide +kernel
theorem dX4_ringByStep_41 : decode cX4_ringByStep 41 = .ok (.iload_n 1, 1) := by decide +kernel
theorem dX4_ringByStep_42 : decode cX4_ringByStep 42 = .ok (.if_icmp .ge 19, 3) := by decide +kernel
theorem dX4_ringByStep_45 : decode cX4_ringByStep 45 = .ok (.iload_n 2, 1) := by decide +kernel
theorem dX4_ringByStep_46 : decode cX4_ringByStep 46 = .ok (.aload_n 0, 1) := by decide +kernel
theorem dX4_ringByStep_47 : decode cX4_ringByStep 47 = .ok (.getfield 15, 3) := by decide +kernel
theorem dX4_ringByStep_50 : decode cX4_ringByStep 50 = .ok (.getfield 68, 3) := by decide +kernel
theorem dX4_ringByStep_53 : decode cX4_ringByStep 53 = .ok (.iadd, 1) := by decide +kernel
theorem dX4_ringByStep_54 : decode cX4_ringByStep 54 = .ok (.istore_n 2, 1) := by decide +kernel
theorem dX4_ringByStep_55 : decode cX4_ringByStep 55 = .ok (.iinc 3 1, 3) := by decide +kernel
theorem dX4_ringByStep_58 : decode cX4_ringByStep 58 = .ok (.goto (-18), 3) := by decide +kernel
theorem dX4_ringByStep_61 : decode cX4_ringByStep 61 = .ok (.iconst 0, 1) := by decide +kernel
theorem dX4_ringByStep_62 : decode cX4_ringByStep 62 = .ok (.istore_n 3, 1) := by decide +kernel
theorem dX4_ringByStep_63 : decode cX4_ringByStep 63 = .ok (.iconst 0, 1) := by decide +kernel
theorem dX4_ringByStep_64 : decode cX4_ringByStep 64 = .ok (.istore 4, 2) := by decide +kernel
theorem dX4_ringByStep_66 : decode cX4_ringByStep 66 = .ok (.iload 4, 2) := by decide +kernel
theorem dX4_ringByStep_68 : decode cX4_ringByStep 68 = .ok (.aload_n 0, 1) := by decide +kernel
theorem dX4_ringByStep_69 : decode cX4_ringByStep 69 = .ok (.getfield 30, 3) := by decide +kernel
theorem dX4_ringByStep_72 : decode cX4_ringByStep 72 = .ok (.if_icmp .ge 33, 3) := by decide +kernel
theorem dX4_ringByStep_75 : decode cX4_ringByStep 75 = .ok (.iload_n 3, 1) := by decide +kernel
theorem dX4_ringByStep_76 : decode cX4_ringByStep 76 = .ok (.aload_n 0, 1) := by decide +kernel
theorem dX4_ringByStep_77 : decode cX4_ringByStep 77 = .ok (.getfield 15, 3) := by decide +kernel
theorem dX4_ringByStep_80 : decode cX4_ringByStep 80 = .ok (.getfield 71, 3) := by decide +kernel
theorem dX4_ringByStep_83 : decode cX4_ringByStep 83 = .ok (.iadd, 1) := by decide +kernel
theorem dX4_ringByStep_84 : decode cX4_ringByStep 84 = .ok (.istore_n 3, 1) := by decide +kernel
theorem dX4_ringByStep_85 : decode cX4_ringByStep 85 = .ok (.iload_n 3, 1) := by decide +kernel
theorem dX4_ringByStep_86 : decode cX4_ringByStep 86 = .ok (.iconst 2, 1) := by decide +kernel
theorem dX4_ringByStep_87 : decode cX4_ringByStep 87 = .ok (.if_icmp .lt 12, 3) := by decide +kernel
theorem dX4_ringByStep_90 : decode cX4_ringByStep 90 = .ok (.iinc 2 (-1), 3) := by decide +kernel
theorem dX4_ringByStep_93 : decode cX4_ringByStep 93 = .ok (.iinc 3 (-2), 3) := by decide +kernel
theorem dX4_ringByStep_96 : decode cX4_ringByStep 96 = .ok (.goto (-11), 3) := by decide +kernel
theorem dX4_ringByStep_99 : decode cX4_ringByStep 99 = .ok (.iinc 4 1, 3) := by decide +kernel
theorem dX4_ringByStep_102 : decode cX4_ringByStep 102 = .ok (.goto (-36), 3) := by decide +kernel
theorem dX4_ringByStep_105 : decode cX4_ringByStep 105 = .ok (.iload_n 2, 1) := by decide +kernel
theorem dX4_ringByStep_106 : decode cX4_ringByStep 106 = .ok (.ireturn, 1) := by decide +kernel
theorem dX4_wear_0 : decode cX4_wear 0 = .ok (.aload_n 0, 1) := by decide +kernel
theorem dX4_wear_1 : decode cX4_wear 1 = .ok (.dup, 1) := by decide +kernel
theorem dX4_wear_2 : decode cX4_wear 2 = .ok (.getfield 36, 3) := by decide +kernel
theorem dX4_wear_5 : decode cX4_wear 5 = .ok (.iload_n 1, 1) := by decide +kernel
theorem dX4_wear_6 : decode cX4_wear 6 = .ok (.iadd, 1) := by decide +kernel
theorem dX4_wear_7 : decode cX4_wear 7 = .ok (.putfield 36, 3) := by decide +kernel
theorem dX4_wear_10 : decode cX4_wear 10 = .ok (.aload_n 0, 1) := by decide +kernel
theorem dX4_wear_11 : decode cX4_wear 11 = .ok (.dup, 1) := by decide +kernel
theorem dX4_wear_12 : decode cX4_wear 12 = .ok (.getfield 33, 3) := by decide +kernel
theorem dX4_wear_15 : decode cX4_wear 15 = .ok (.iload_n 1, 1) := by decide +kernel
theorem dX4_wear_16 : decode cX4_wear 16 = .ok (.iadd, 1) := by decide +kernel
theorem dX4_wear_17 : decode cX4_wear 17 = .ok (.putfield 33, 3) := by decide +kernel
theorem dX4_wear_20 : decode cX4_wear 20 = .ok (.aload_n 0, 1) := by decide +kernel
theorem dX4_wear_21 : decode cX4_wear 21 = .ok (.getfield 30, 3) := by decide +kernel
theorem dX4_wear_24 : decode cX4_wear 24 = .ok (.ifCond .le 46, 3) := by decide +kernel
theorem dX4_wear_27 : decode cX4_wear 27 = .ok (.aload_n 0, 1) := by decide +kernel
theorem dX4_wear_28 : decode cX4_wear 28 = .ok (.getfield 33, 3) := by decide +kernel
theorem dX4_wear_31 : decode cX4_wear 31 = .ok (.aload_n 0, 1) := by decide +kernel
theorem dX4_wear_32 : decode cX4_wear 32 = .ok (.getfield 15, 3) := by decide +kernel
theorem dX4_wear_35 : decode cX4_wear 35 = .ok (.getfield 81, 3) := by decide +kernel
theorem dX4_wear_38 : decode cX4_wear 38 = .ok (.if_icmp .lt 32, 3) := by decide +kernel
theorem dX4_wear_41 : decode cX4_wear 41 = .ok (.aload_n 0, 1) := by decide +kernel
theorem dX4_wear_42 : decode cX4_wear 42 = .ok (.dup, 1) := by decide +kernel
theorem dX4_wear_43 : decode cX4_wear 43 = .ok (.getfield 33, 3) := by decide +kernel
theorem dX4_wear_46 : decode cX4_wear 46 = .ok (.aload_n 0, 1) := by decide +kernel
theorem dX4_wear_47 : decode cX4_wear 47 = .ok (.getfield 15, 3) := by decide +kernel
theorem dX4_wear_50 : decode cX4_wear 50 = .ok (.getfield 81, 3) := by decide +kernel
theorem dX4_wear_53 : decode cX4_wear 53 = .ok (.isub, 1) := by decide +kernel
theorem dX4_wear_54 : decode cX4_wear 54 = .ok (.putfield 33, 3) := by decide +kernel
theorem dX4_wear_57 : decode cX4_wear 57 = .ok (.aload_n 0, 1) := by decide +kernel
theorem dX4_wear_58 : decode cX4_wear 58 = .ok (.dup, 1) := by decide +kernel
theorem dX4_wear_59 : decode cX4_wear 59 = .ok (.getfield 30, 3) := by decide +kernel
theorem dX4_wear_62 : decode cX4_wear 62 = .ok (.iconst 1, 1) := by decide +kernel
theorem dX4_wear_63 : decode cX4_wear 63 = .ok (.isub, 1) := by decide +kernel
theorem dX4_wear_64 : decode cX4_wear 64 = .ok (.putfield 30, 3) := by decide +kernel
theorem dX4_wear_67 : decode cX4_wear 67 = .ok (.goto (-47), 3) := by decide +kernel
theorem dX4_wear_70 : decode cX4_wear 70 = .ok (.aload_n 0, 1) := by decide +kernel
theorem dX4_wear_71 : decode cX4_wear 71 = .ok (.getfield 30, 3) := by decide +kernel
theorem dX4_wear_74 : decode cX4_wear 74 = .ok (.ifCond .ne 8, 3) := by decide +kernel
theorem dX4_wear_77 : decode cX4_wear 77 = .ok (.aload_n 0, 1) := by decide +kernel
theorem dX4_wear_78 : decode cX4_wear 78 = .ok (.iconst 0, 1) := by decide +kernel
theorem dX4_wear_79 : decode cX4_wear 79 = .ok (.putfield 33, 3) := by decide +kernel
theorem dX4_wear_82 : decode cX4_wear 82 = .ok (.return_, 1) := by decide +kernel
theorem dX4_lackFor_0 : decode cX4_lackFor 0 = .ok (.aload_n 0, 1) := by decide +kernel
theorem dX4_lackFor_1 : decode cX4_lackFor 1 = .ok (.getfield 15, 3) := by decide +kernel
theorem dX4_lackFor_4 : decode cX4_lackFor 4 = .ok (.aload_n 1, 1) := by decide +kernel
theorem dX4_lackFor_5 : decode cX4_lackFor 5 = .ok (.getfield 84, 3) := by decide +kernel
theorem dX4_lackFor_8 : decode cX4_lackFor 8 = .ok (.if_acmp .eq 6, 3) := by decide +kernel
theorem dX4_lackFor_11 : decode cX4_lackFor 11 = .ok (.bipush 12, 2) := by decide +kernel
theorem dX4_lackFor_13 : decode cX4_lackFor 13 = .ok (.ireturn, 1) := by decide +kernel
theorem dX4_lackFor_14 : decode cX4_lackFor 14 = .ok (.aload_n 0, 1) := by decide +kernel
theorem dX4_lackFor_15 : decode cX4_lackFor 15 = .ok (.invokevirtual 87, 3) := by decide +kernel
theorem dX4_lackFor_18 : decode cX4_lackFor 18 = .ok (.ifCond .eq 5, 3) := by decide +kernel
theorem dX4_lackFor_21 : decode cX4_lackFor 21 = .ok (.iconst 5, 1) := by decide +kernel
theorem dX4_lackFor_22 : decode cX4_lackFor 22 = .ok (.ireturn, 1) := by decide +kernel
theorem dX4_lackFor_23 : decode cX4_lackFor 23 = .ok (.aload_n 0, 1) := by decide +kernel
theorem dX4_lackFor_24 : decode cX4_lackFor 24 = .ok (.invokevirtual 77, 3) := by decide +kernel
theorem dX4_lackFor_27 : decode cX4_lackFor 27 = .ok (.ifCond .ne 6, 3) := by decide +kernel
theorem dX4_lackFor_30 : decode cX4_lackFor 30 = .ok (.bipush 6, 2) := by decide +kernel
theorem dX4_lackFor_32 : decode cX4_lackFor 32 = .ok (.ireturn, 1) := by decide +kernel
theorem dX4_lackFor_33 : decode cX4_lackFor 33 = .ok (.aload_n 0, 1) := by decide +kernel
theorem dX4_lackFor_34 : decode cX4_lackFor 34 = .ok (.getfield 30, 3) := by decide +kernel
theorem dX4_lackFor_37 : decode cX4_lackFor 37 = .ok (.aload_n 1, 1) := by decide +kernel
theorem dX4_lackFor_38 : decode cX4_lackFor 38 = .ok (.aload_n 0, 1) := by decide +kernel
theorem dX4_lackFor_39 : decode cX4_lackFor 39 = .ok (.invokevirtual 90, 3) := by decide +kernel
theorem dX4_lackFor_42 : decode cX4_lackFor 42 = .ok (.if_icmp .ge 8, 3) := by decide +kernel
theorem dX4_lackFor_45 : decode cX4_lackFor 45 = .ok (.bipush 13, 2) := by decide +kernel
theorem dX4_lackFor_47 : decode cX4_lackFor 47 = .ok (.goto 4, 3) := by decide +kernel
theorem dX4_lackFor_50 : decode cX4_lackFor 50 = .ok (.iconst 0, 1) := by decide +kernel
theorem dX4_lackFor_51 : decode cX4_lackFor 51 = .ok (.ireturn, 1) := by decide +kernel
theorem dX4_detailOf_0 : decode cX4_detailOf 0 = .ok (.iload_n 1, 1) := by decide +kernel
theorem dX4_detailOf_1 : decode cX4_detailOf 1 = .ok (.lookupswitch 66 #[(6, 43), (12, 35), (13, 55)], 35) := by decide +kernel
theorem dX4_detailOf_36 : decode cX4_detailOf 36 = .ok (.aload_n 0, 1) := by decide +kernel
theorem dX4_detailOf_37 : decode cX4_detailOf 37 = .ok (.getfield 15, 3) := by decide +kernel
theorem dX4_detailOf_40 : decode cX4_detailOf 40 = .ok (.getfield 94, 3) := by decide +kernel
theorem dX4_detailOf_43 : decode cX4_detailOf 43 = .ok (.ireturn, 1) := by decide +kernel
theorem dX4_detailOf_44 : decode cX4_detailOf 44 = .ok (.aload_n 0, 1) := by decide +kernel
theorem dX4_detailOf_45 : decode cX4_detailOf 45 = .ok (.aload_n 0, 1) := by decide +kernel
theorem dX4_detailOf_46 : decode cX4_detailOf 46 = .ok (.getfield 15, 3) := by decide +kernel
theorem dX4_detailOf_49 : decode cX4_detailOf 49 = .ok (.getfield 45, 3) := by decide +kernel
theorem dX4_detailOf_52 : decode cX4_detailOf 52 = .ok (.invokevirtual 95, 3) := by decide +kernel
theorem dX4_detailOf_55 : decode cX4_detailOf 55 = .ok (.ireturn, 1) := by decide +kernel
theorem dX4_detailOf_56 : decode cX4_detailOf 56 = .ok (.aload_n 2, 1) := by decide +kernel
theorem dX4_detailOf_57 : decode cX4_detailOf 57 = .ok (.aload_n 0, 1) := by decide +kernel
theorem dX4_detailOf_58 : decode cX4_detailOf 58 = .ok (.invokevirtual 90, 3) := by decide +kernel
theorem dX4_detailOf_61 : decode cX4_detailOf 61 = .ok (.aload_n 0, 1) := by decide +kernel
theorem dX4_detailOf_62 : decode cX4_detailOf 62 = .ok (.getfield 30, 3) := by decide +kernel
theorem dX4_detailOf_65 : decode cX4_detailOf 65 = .ok (.isub, 1) := by decide +kernel
theorem dX4_detailOf_66 : decode cX4_detailOf 66 = .ok (.ireturn, 1) := by decide +kernel
theorem dX4_detailOf_67 : decode cX4_detailOf 67 = .ok (.aload_n 0, 1) := by decide +kernel
theorem dX4_detailOf_68 : decode cX4_detailOf 68 = .ok (.getfield 42, 3) := by decide +kernel
theorem dX4_detailOf_71 : decode cX4_detailOf 71 = .ok (.ireturn, 1) := by decide +kernel
theorem dX4_tell_0 : decode cX4_tell 0 = .ok (.iload_n 1, 1) := by decide +kernel
theorem dX4_tell_1 : decode cX4_tell 1 = .ok (.tableswitch 124 0 9 #[55, 63, 68, 73, 78, 83, 88, 101, 114, 119], 55) := by decide +kernel
theorem dX4_tell_56 : decode cX4_tell 56 = .ok (.aload_n 0, 1) := by decide +kernel
theorem dX4_tell_57 : decode cX4_tell 57 = .ok (.getfield 15, 3) := by decide +kernel
theorem dX4_tell_60 : decode cX4_tell 60 = .ok (.getfield 94, 3) := by decide +kernel
theorem dX4_tell_63 : decode cX4_tell 63 = .ok (.ireturn, 1) := by decide +kernel
theorem dX4_tell_64 : decode cX4_tell 64 = .ok (.aload_n 0, 1) := by decide +kernel
theorem dX4_tell_65 : decode cX4_tell 65 = .ok (.getfield 24, 3) := by decide +kernel
theorem dX4_tell_68 : decode cX4_tell 68 = .ok (.ireturn, 1) := by decide +kernel
theorem dX4_tell_69 : decode cX4_tell 69 = .ok (.aload_n 0, 1) := by decide +kernel
theorem dX4_tell_70 : decode cX4_tell 70 = .ok (.invokevirtual 74, 3) := by decide +kernel
theorem dX4_tell_73 : decode cX4_tell 73 = .ok (.ireturn, 1) := by decide +kernel
theorem dX4_tell_74 : decode cX4_tell 74 = .ok (.aload_n 0, 1) := by decide +kernel
theorem dX4_tell_75 : decode cX4_tell 75 = .ok (.getfield 27, 3) := by decide +kernel
theorem dX4_tell_78 : decode cX4_tell 78 = .ok (.ireturn, 1) := by decide +kernel
theorem dX4_tell_79 : decode cX4_tell 79 = .ok (.aload_n 0, 1) := by decide +kernel
theorem dX4_tell_80 : decode cX4_tell 80 = .ok (.getfield 30, 3) := by decide +kernel
theorem dX4_tell_83 : decode cX4_tell 83 = .ok (.ireturn, 1) := by decide +kernel
theorem dX4_tell_84 : decode cX4_tell 84 = .ok (.aload_n 0, 1) := by decide +kernel
theorem dX4_tell_85 : decode cX4_tell 85 = .ok (.getfield 36, 3) := by decide +kernel
theorem dX4_tell_88 : decode cX4_tell 88 = .ok (.ireturn, 1) := by decide +kernel
theorem dX4_tell_89 : decode cX4_tell 89 = .ok (.aload_n 0, 1) := by decide +kernel
theorem dX4_tell_90 : decode cX4_tell 90 = .ok (.invokevirtual 77, 3) := by decide +kernel
theorem dX4_tell_93 : decode cX4_tell 93 = .ok (.ifCond .eq 7, 3) := by decide +kernel
theorem dX4_tell_96 : decode cX4_tell 96 = .ok (.iconst 1, 1) := by decide +kernel
theorem dX4_tell_97 : decode cX4_tell 97 = .ok (.goto 4, 3) := by decide +kernel
theorem dX4_tell_100 : decode cX4_tell 100 = .ok (.iconst 0, 1) := by decide +kernel
theorem dX4_tell_101 : decode cX4_tell 101 = .ok (.ireturn, 1) := by decide +kernel
theorem dX4_tell_102 : decode cX4_tell 102 = .ok (.aload_n 0, 1) := by decide +kernel
theorem dX4_tell_103 : decode cX4_tell 103 = .ok (.invokevirtual 87, 3) := by decide +kernel
theorem dX4_tell_106 : decode cX4_tell 106 = .ok (.ifCond .eq 7, 3) := by decide +kernel
theorem dX4_tell_109 : decode cX4_tell 109 = .ok (.iconst 1, 1) := by decide +kernel
theorem dX4_tell_110 : decode cX4_tell 110 = .ok (.goto 4, 3) := by decide +kernel
theorem dX4_tell_113 : decode cX4_tell 113 = .ok (.iconst 0, 1) := by decide +kernel
theorem dX4_tell_114 : decode cX4_tell 114 = .ok (.ireturn, 1) := by decide +kernel
theorem dX4_tell_115 : decode cX4_tell 115 = .ok (.aload_n 0, 1) := by decide +kernel
theorem dX4_tell_116 : decode cX4_tell 116 = .ok (.getfield 39, 3) := by decide +kernel
theorem dX4_tell_119 : decode cX4_tell 119 = .ok (.ireturn, 1) := by decide +kernel
theorem dX4_tell_120 : decode cX4_tell 120 = .ok (.aload_n 0, 1) := by decide +kernel
theorem dX4_tell_121 : decode cX4_tell 121 = .ok (.getfield 20, 3) := by decide +kernel
theorem dX4_tell_124 : decode cX4_tell 124 = .ok (.ireturn, 1) := by decide +kernel
theorem dX4_tell_125 : decode cX4_tell 125 = .ok (.bipush (-2), 2) := by decide +kernel
theorem dX4_tell_127 : decode cX4_tell 127 = .ok (.ireturn, 1) := by decide +kernel
theorem dX5_init_0 : decode cX5_init 0 = .ok (.aload_n 0, 1) := by decide +kernel
theorem dX5_init_1 : decode cX5_init 1 = .ok (.invokespecial 3, 3) := by decide +kernel
theorem dX5_init_4 : decode cX5_init 4 = .ok (.aload_n 0, 1) := by decide +kernel
theorem dX5_init_5 : decode cX5_init 5 = .ok (.iconst 3, 1) := by decide +kernel
theorem dX5_init_6 : decode cX5_init 6 = .ok (.newarray .int, 2) := by decide +kernel
theorem dX5_init_8 : decode cX5_init 8 = .ok (.putfield 9, 3) := by decide +kernel
theorem dX5_init_11 : decode cX5_init 11 = .ok (.aload_n 0, 1) := by decide +kernel
theorem dX5_init_12 : decode cX5_init 12 = .ok (.iconst 3, 1) := by decide +kernel
theorem dX5_init_13 : decode cX5_init 13 = .ok (.newarray .int, 2) := by decide +kernel
theorem dX5_init_15 : decode cX5_init 15 = .ok (.putfield 15, 3) := by decide +kernel
theorem dX5_init_18 : decode cX5_init 18 = .ok (.aload_n 0, 1) := by decide +kernel
theorem dX5_init_19 : decode cX5_init 19 = .ok (.iconst 0, 1) := by decide +kernel
theorem dX5_init_20 : decode cX5_init 20 = .ok (.putfield 18, 3) := by decide +kernel
theorem dX5_init_23 : decode cX5_init 23 = .ok (.return_, 1) := by decide +kernel
theorem dX5_refuse_0 : decode cX5_refuse 0 = .ok (.aload_n 0, 1) := by decide +kernel
theorem dX5_refuse_1 : decode cX5_refuse 1 = .ok (.iconst 0, 1) := by decide +kernel
theorem dX5_refuse_2 : decode cX5_refuse 2 = .ok (.putfield 18, 3) := by decide +kernel
theorem dX5_refuse_5 : decode cX5_refuse 5 = .ok (.aload_n 0, 1) := by decide +kernel
theorem dX5_refuse_6 : decode cX5_refuse 6 = .ok (.iload_n 1, 1) := by decide +kernel
theorem dX5_refuse_7 : decode cX5_refuse 7 = .ok (.iload_n 2, 1) := by decide +kernel
theorem dX5_refuse_8 : decode cX5_refuse 8 = .ok (.invokevirtual 22, 3) := by decide +kernel
theorem dX5_refuse_11 : decode cX5_refuse 11 = .ok (.ireturn, 1) := by decide +kernel
theorem dX5_wrap_0 : decode cX5_wrap 0 = .ok (.aload_n 0, 1) := by decide +kernel
theorem dX5_wrap_1 : decode cX5_wrap 1 = .ok (.getfield 18, 3) := by decide +kernel
theorem dX5_wrap_4 : decode cX5_wrap 4 = .ok (.iconst 2, 1) := by decide +kernel
theorem dX5_wrap_5 : decode cX5_wrap 5 = .ok (.invokestatic 26, 3) := by decide +kernel
theorem dX5_wrap_8 : decode cX5_wrap 8 = .ok (.istore_n 3, 1) := by decide +kernel
theorem dX5_wrap_9 : decode cX5_wrap 9 = .ok (.iload_n 3, 1) := by decide +kernel
theorem dX5_wrap_10 : decode cX5_wrap 10 = .ok (.ifCond .le 37, 3) := by decide +kernel
theorem dX5_wrap_13 : decode cX5_wrap 13 = .ok (.aload_n 0, 1) := by decide +kernel
theorem dX5_wrap_14 : decode cX5_wrap 14 = .ok (.getfield 9, 3) := by decide +kernel
theorem dX5_wrap_17 : decode cX5_wrap 17 = .ok (.iload_n 3, 1) := by decide +kernel
theorem dX5_wrap_18 : decode cX5_wrap 18 = .ok (.aload_n 0, 1) := by decide +kernel
theorem dX5_wrap_19 : decode cX5_wrap 19 = .ok (.getfield 9, 3) := by decide +kernel
theorem dX5_wrap_22 : decode cX5_wrap 22 = .ok (.iload_n 3, 1) := by decide +kernel
theorem dX5_wrap_23 : decode cX5_wrap 23 = .ok (.iconst 1, 1) := by decide +kernel
theorem dX5_wrap_24 : decode cX5_wrap 24 = .ok (.isub, 1) := by decide +kernel
theorem dX5_wrap_25 : decode cX5_wrap 25 = .ok (.iaload, 1) := by decide +kernel
theorem dX5_wrap_26 : decode cX5_wrap 26 = .ok (.iastore, 1) := by decide +kernel
theorem dX5_wrap_27 : decode cX5_wrap 27 = .ok (.aload_n 0, 1) := by decide +kernel
theorem dX5_wrap_28 : decode cX5_wrap 28 = .ok (.getfield 15, 3) := by decide +kernel
theorem dX5_wrap_31 : decode cX5_wrap 31 = .ok (.iload_n 3, 1) := by decide +kernel
theorem dX5_wrap_32 : decode cX5_wrap 32 = .ok (.aload_n 0, 1) := by decide +kernel
theorem dX5_wrap_33 : decode cX5_wrap 33 = .ok (.getfield 15, 3) := by decide +kernel
theorem dX5_wrap_36 : decode cX5_wrap 36 = .ok (.iload_n 3, 1) := by decide +kernel
theorem dX5_wrap_37 : decode cX5_wrap 37 = .ok (.iconst 1, 1) := by decide +kernel
theorem dX5_wrap_38 : decode cX5_wrap 38 = .ok (.isub, 1) := by decide +kernel
theorem dX5_wrap_39 : decode cX5_wrap 39 = .ok (.iaload, 1) := by decide +kernel
theorem dX5_wrap_40 : decode cX5_wrap 40 = .ok (.iastore, 1) := by decide +kernel
theorem dX5_wrap_41 : decode cX5_wrap 41 = .ok (.iinc 3 (-1), 3) := by decide +kernel
theorem dX5_wrap_44 : decode cX5_wrap 44 = .ok (.goto (-35), 3) := by decide +kernel
theorem dX5_wrap_47 : decode cX5_wrap 47 = .ok (.aload_n 0, 1) := by decide +kernel
theorem dX5_wrap_48 : decode cX5_wrap 48 = .ok (.getfield 9, 3) := by decide +kernel
theorem dX5_wrap_51 : decode cX5_wrap 51 = .ok (.iconst 0, 1) := by decide +kernel
theorem dX5_wrap_52 : decode cX5_wrap 52 = .ok (.iload_n 1, 1) := by decide +kernel
theorem dX5_wrap_53 : decode cX5_wrap 53 = .ok (.iastore, 1) := by decide +kernel
theorem dX5_wrap_54 : decode cX5_wrap 54 = .ok (.aload_n 0, 1) := by decide +kernel
theorem dX5_wrap_55 : decode cX5_wrap 55 = .ok (.getfield 15, 3) := by decide +kernel
theorem dX5_wrap_58 : decode cX5_wrap 58 = .ok (.iconst 0, 1) := by decide +kernel
theorem dX5_wrap_59 : decode cX5_wrap 59 = .ok (.iload_n 2, 1) := by decide +kernel
theorem dX5_wrap_60 : decode cX5_wrap 60 = .ok (.iastore, 1) := by decide +kernel
theorem dX5_wrap_61 : decode cX5_wrap 61 = .ok (.aload_n 0, 1) := by decide +kernel
theorem dX5_wrap_62 : decode cX5_wrap 62 = .ok (.aload_n 0, 1) := by decide +kernel
theorem dX5_wrap_63 : decode cX5_wrap 63 = .ok (.getfield 18, 3) := by decide +kernel
theorem dX5_wrap_66 : decode cX5_wrap 66 = .ok (.iconst 1, 1) := by decide +kernel
theorem dX5_wrap_67 : decode cX5_wrap 67 = .ok (.iadd, 1) := by decide +kernel
theorem dX5_wrap_68 : decode cX5_wrap 68 = .ok (.iconst 3, 1) := by decide +kernel
theorem dX5_wrap_69 : decode cX5_wrap 69 = .ok (.invokestatic 26, 3) := by decide +kernel
theorem dX5_wrap_72 : decode cX5_wrap 72 = .ok (.putfield 18, 3) := by decide +kernel
theorem dX5_wrap_75 : decode cX5_wrap 75 = .ok (.bipush (-3), 2) := by decide +kernel
theorem dX5_wrap_77 : decode cX5_wrap 77 = .ok (.ireturn, 1) := by decide +kernel
theorem dX6_init_0 : decode cX6_init 0 = .ok (.aload_n 0, 1) := by decide +kernel
theorem dX6_init_1 : decode cX6_init 1 = .ok (.invokespecial 3, 3) := by decide +kernel
theorem dX6_init_4 : decode cX6_init 4 = .ok (.aload_n 0, 1) := by decide +kernel
theorem dX6_init_5 : decode cX6_init 5 = .ok (.new 9, 3) := by decide +kernel
theorem dX6_init_8 : decode cX6_init 8 = .ok (.dup, 1) := by decide +kernel
theorem dX6_init_9 : decode cX6_init 9 = .ok (.invokespecial 11, 3) := by decide +kernel
theorem dX6_init_12 : decode cX6_init 12 = .ok (.putfield 12, 3) := by decide +kernel
theorem dX6_init_15 : decode cX6_init 15 = .ok (.aload_n 0, 1) := by decide +kernel
theorem dX6_init_16 : decode cX6_init 16 = .ok (.bipush 10, 2) := by decide +kernel
theorem dX6_init_18 : decode cX6_init 18 = .ok (.anewarray 18, 3) := by decide +kernel
theorem dX6_init_21 : decode cX6_init 21 = .ok (.putfield 20, 3) := by decide +kernel
theorem dX6_init_24 : decode cX6_init 24 = .ok (.aload_n 0, 1) := by decide +kernel
theorem dX6_init_25 : decode cX6_init 25 = .ok (.bipush 10, 2) := by decide +kernel
theorem dX6_init_27 : decode cX6_init 27 = .ok (.newarray .int, 2) := by decide +kernel
theorem dX6_init_29 : decode cX6_init 29 = .ok (.putfield 24, 3) := by decide +kernel
theorem dX6_init_32 : decode cX6_init 32 = .ok (.aload_n 0, 1) := by decide +kernel
theorem dX6_init_33 : decode cX6_init 33 = .ok (.bipush 10, 2) := by decide +kernel
theorem dX6_init_35 : decode cX6_init 35 = .ok (.newarray .int, 2) := by decide +kernel
theorem dX6_init_37 : decode cX6_init 37 = .ok (.putfield 28, 3) := by decide +kernel
theorem dX6_init_40 : decode cX6_init 40 = .ok (.aload_n 0, 1) := by decide +kernel
theorem dX6_init_41 : decode cX6_init 41 = .ok (.iconst 0, 1) := by decide +kernel
theorem dX6_init_42 : decode cX6_init 42 = .ok (.putfield 31, 3) := by decide +kernel
theorem dX6_init_45 : decode cX6_init 45 = .ok (.aload_n 0, 1) := by decide +kernel
theorem dX6_init_46 : decode cX6_init 46 = .ok (.iconst 0, 1) := by decide +kernel
theorem dX6_init_47 : decode cX6_init 47 = .ok (.putfield 35, 3) := by decide +kernel
theorem dX6_init_50 : decode cX6_init 50 = .ok (.return_, 1) := by decide +kernel
theorem dX6_length_0 : decode cX6_length 0 = .ok (.aload_n 0, 1) := by decide +kernel
theorem dX6_length_1 : decode cX6_length 1 = .ok (.getfield 12, 3) := by decide +kernel
theorem dX6_length_4 : decode cX6_length 4 = .ok (.invokevirtual 38, 3) := by decide +kernel
theorem dX6_length_7 : decode cX6_length 7 = .ok (.ireturn, 1) := by decide +kernel
theorem dX7_init_0 : decode cX7_init 0 = .ok (.aload_n 0, 1) := by decide +kernel
theorem dX7_init_1 : decode cX7_init 1 = .ok (.invokespecial 3, 3) := by decide +kernel
theorem dX7_init_4 : decode cX7_init 4 = .ok (.aload_n 0, 1) := by decide +kernel
theorem dX7_init_5 : decode cX7_init 5 = .ok (.iconst 0, 1) := by decide +kernel
theorem dX7_init_6 : decode cX7_init 6 = .ok (.putfield 9, 3) := by decide +kernel
theorem dX7_init_9 : decode cX7_init 9 = .ok (.aload_n 0, 1) := by decide +kernel
theorem dX7_init_10 : decode cX7_init 10 = .ok (.iconst 0, 1) := by decide +kernel
theorem dX7_init_11 : decode cX7_init 11 = .ok (.putfield 15, 3) := by decide +kernel
theorem dX7_init_14 : decode cX7_init 14 = .ok (.aload_n 0, 1) := by decide +kernel
theorem dX7_init_15 : decode cX7_init 15 = .ok (.iconst 0, 1) := by decide +kernel
theorem dX7_init_16 : decode cX7_init 16 = .ok (.putfield 18, 3) := by decide +kernel
theorem dX7_init_19 : decode cX7_init 19 = .ok (.aload_n 0, 1) := by decide +kernel
theorem dX7_init_20 : decode cX7_init 20 = .ok (.iconst 0, 1) := by decide +kernel
theorem dX7_init_21 : decode cX7_init 21 = .ok (.putfield 21, 3) := by decide +kernel
theorem dX7_init_24 : decode cX7_init 24 = .ok (.return_, 1) := by decide +kernel
theorem dX7_arrive_0 : decode cX7_arrive 0 = .ok (.aload_n 0, 1) := by decide +kernel
theorem dX7_arrive_1 : decode cX7_arrive 1 = .ok (.iload_n 1, 1) := by decide +kernel
theorem dX7_arrive_2 : decode cX7_arrive 2 = .ok (.putfield 9, 3) := by decide +kernel
theorem dX7_arrive_5 : decode cX7_arrive 5 = .ok (.aload_n 0, 1) := by decide +kernel
theorem dX7_arrive_6 : decode cX7_arrive 6 = .ok (.iload_n 2, 1) := by decide +kernel
theorem dX7_arrive_7 : decode cX7_arrive 7 = .ok (.putfield 15, 3) := by decide +kernel
theorem dX7_arrive_10 : decode cX7_arrive 10 = .ok (.aload_n 0, 1) := by decide +kernel
theorem dX7_arrive_11 : decode cX7_arrive 11 = .ok (.iload_n 2, 1) := by decide +kernel
theorem dX7_arrive_12 : decode cX7_arrive 12 = .ok (.putfield 18, 3) := by decide +kernel
theorem dX7_arrive_15 : decode cX7_arrive 15 = .ok (.aload_n 0, 1) := by decide +kernel
theorem dX7_arrive_16 : decode cX7_arrive 16 = .ok (.iconst 0, 1) := by decide +kernel
theorem dX7_arrive_17 : decode cX7_arrive 17 = .ok (.putfield 21, 3) := by decide +kernel
theorem dX7_arrive_20 : decode cX7_arrive 20 = .ok (.return_, 1) := by decide +kernel
theorem dX7_copyFrom_0 : decode cX7_copyFrom 0 = .ok (.aload_n 0, 1) := by decide +kernel
theorem dX7_copyFrom_1 : decode cX7_copyFrom 1 = .ok (.aload_n 1, 1) := by decide +kernel
theorem dX7_copyFrom_2 : decode cX7_copyFrom 2 = .ok (.getfield 9, 3) := by decide +kernel
theorem dX7_copyFrom_5 : decode cX7_copyFrom 5 = .ok (.putfield 9, 3) := by decide +kernel
theorem dX7_copyFrom_8 : decode cX7_copyFrom 8 = .ok (.aload_n 0, 1) := by decide +kernel
theorem dX7_copyFrom_9 : decode cX7_copyFrom 9 = .ok (.aload_n 1, 1) := by decide +kernel
theorem dX7_copyFrom_10 : decode cX7_copyFrom 10 = .ok (.getfield 15, 3) := by decide +kernel
theorem dX7_copyFrom_13 : decode cX7_copyFrom 13 = .ok (.putfield 15, 3) := by decide +kernel
theorem dX7_copyFrom_16 : decode cX7_copyFrom 16 = .ok (.aload_n 0, 1) := by decide +kernel
theorem dX7_copyFrom_17 : decode cX7_copyFrom 17 = .ok (.aload_n 1, 1) := by decide +kernel
theorem dX7_copyFrom_18 : decode cX7_copyFrom 18 = .ok (.getfield 18, 3) := by decide +kernel
theorem dX7_copyFrom_21 : decode cX7_copyFrom 21 = .ok (.putfield 18, 3) := by decide +kernel
theorem dX7_copyFrom_24 : decode cX7_copyFrom 24 = .ok (.aload_n 0, 1) := by decide +kernel
theorem dX7_copyFrom_25 : decode cX7_copyFrom 25 = .ok (.aload_n 1, 1) := by decide +kernel
theorem dX7_copyFrom_26 : decode cX7_copyFrom 26 = .ok (.getfield 21, 3) := by decide +kernel
theorem dX7_copyFrom_29 : decode cX7_copyFrom 29 = .ok (.putfield 21, 3) := by decide +kernel
theorem dX7_copyFrom_32 : decode cX7_copyFrom 32 = .ok (.return_, 1) := by decide +kernel
theorem dX7_tell_0 : decode cX7_tell 0 = .ok (.iload_n 1, 1) := by decide +kernel
theorem dX7_tell_1 : decode cX7_tell 1 = .ok (.tableswitch 51 0 3 #[31, 36, 41, 46], 31) := by decide +kernel
theorem dX7_tell_32 : decode cX7_tell 32 = .ok (.aload_n 0, 1) := by decide +kernel
theorem dX7_tell_33 : decode cX7_tell 33 = .ok (.getfield 9, 3) := by decide +kernel
theorem dX7_tell_36 : decode cX7_tell 36 = .ok (.ireturn, 1) := by decide +kernel
theorem dX7_tell_37 : decode cX7_tell 37 = .ok (.aload_n 0, 1) := by decide +kernel
theorem dX7_tell_38 : decode cX7_tell 38 = .ok (.getfield 18, 3) := by decide +kernel
theorem dX7_tell_41 : decode cX7_tell 41 = .ok (.ireturn, 1) := by decide +kernel
theorem dX7_tell_42 : decode cX7_tell 42 = .ok (.aload_n 0, 1) := by decide +kernel
theorem dX7_tell_43 : decode cX7_tell 43 = .ok (.getfield 21, 3) := by decide +kernel
theorem dX7_tell_46 : decode cX7_tell 46 = .ok (.ireturn, 1) := by decide +kernel
theorem dX7_tell_47 : decode cX7_tell 47 = .ok (.aload_n 0, 1) := by decide +kernel
theorem dX7_tell_48 : decode cX7_tell 48 = .ok (.getfield 15, 3) := by decide +kernel
theorem dX7_tell_51 : decode cX7_tell 51 = .ok (.ireturn, 1) := by decide +kernel
theorem dX7_tell_52 : decode cX7_tell 52 = .ok (.bipush (-2), 2) := by decide +kernel
theorem dX7_tell_54 : decode cX7_tell 54 = .ok (.ireturn, 1) := by decide +kernel
theorem dX8_init_0 : decode cX8_init 0 = .ok (.aload_n 0, 1) := by decide +kernel
theorem dX8_init_1 : decode cX8_init 1 = .ok (.invokespecial 3, 3) := by decide +kernel
theorem dX8_init_4 : decode cX8_init 4 = .ok (.aload_n 0, 1) := by decide +kernel
theorem dX8_init_5 : decode cX8_init 5 = .ok (.bipush 12, 2) := by decide +kernel
theorem dX8_init_7 : decode cX8_init 7 = .ok (.anewarray 9, 3) := by decide +kernel
theorem dX8_init_10 : decode cX8_init 10 = .ok (.putfield 11, 3) := by decide +kernel
theorem dX8_init_13 : decode cX8_init 13 = .ok (.aload_n 0, 1) := by decide +kernel
theorem dX8_init_14 : decode cX8_init 14 = .ok (.bipush 16, 2) := by decide +kernel
theorem dX8_init_16 : decode cX8_init 16 = .ok (.anewarray 17, 3) := by decide +kernel
theorem dX8_init_19 : decode cX8_init 19 = .ok (.putfield 19, 3) := by decide +kernel
theorem dX8_init_22 : decode cX8_init 22 = .ok (.aload_n 0, 1) := by decide +kernel
theorem dX8_init_23 : decode cX8_init 23 = .ok (.bipush 8, 2) := by decide +kernel
theorem dX8_init_25 : decode cX8_init 25 = .ok (.anewarray 23, 3) := by decide +kernel
theorem dX8_init_28 : decode cX8_init 28 = .ok (.putfield 25, 3) := by decide +kernel
theorem dX8_init_31 : decode cX8_init 31 = .ok (.aload_n 0, 1) := by decide +kernel
theorem dX8_init_32 : decode cX8_init 32 = .ok (.bipush 8, 2) := by decide +kernel
theorem dX8_init_34 : decode cX8_init 34 = .ok (.newarray .int, 2) := by decide +kernel
theorem dX8_init_36 : decode cX8_init 36 = .ok (.putfield 29, 3) := by decide +kernel
theorem dX8_init_39 : decode cX8_init 39 = .ok (.aload_n 0, 1) := by decide +kernel
theorem dX8_init_40 : decode cX8_init 40 = .ok (.iconst 0, 1) := by decide +kernel
theorem dX8_init_41 : decode cX8_init 41 = .ok (.putfield 33, 3) := by decide +kernel
theorem dX8_init_44 : decode cX8_init 44 = .ok (.aload_n 0, 1) := by decide +kernel
theorem dX8_init_45 : decode cX8_init 45 = .ok (.iconst 0, 1) := by decide +kernel
theorem dX8_init_46 : decode cX8_init 46 = .ok (.putfield 37, 3) := by decide +kernel
theorem dX8_init_49 : decode cX8_init 49 = .ok (.aload_n 0, 1) := by decide +kernel
theorem dX8_init_50 : decode cX8_init 50 = .ok (.iconst 0, 1) := by decide +kernel
theorem dX8_init_51 : decode cX8_init 51 = .ok (.putfield 40, 3) := by decide +kernel
theorem dX8_init_54 : decode cX8_init 54 = .ok (.aload_n 0, 1) := by decide +kernel
theorem dX8_init_55 : decode cX8_init 55 = .ok (.bipush 30, 2) := by decide +kernel
theorem dX8_init_57 : decode cX8_init 57 = .ok (.putfield 43, 3) := by decide +kernel
theorem dX8_init_60 : decode cX8_init 60 = .ok (.aload_n 0, 1) := by decide +kernel
theorem dX8_init_61 : decode cX8_init 61 = .ok (.bipush 20, 2) := by decide +kernel
theorem dX8_init_63 : decode cX8_init 63 = .ok (.putfield 46, 3) := by decide +kernel
theorem dX8_init_66 : decode cX8_init 66 = .ok (.aload_n 0, 1) := by decide +kernel
theorem dX8_init_67 : decode cX8_init 67 = .ok (.iconst 0, 1) := by decide +kernel
theorem dX8_init_68 : decode cX8_init 68 = .ok (.putfield 49, 3) := by decide +kernel
theorem dX8_init_71 : decode cX8_init 71 = .ok (.aload_n 0, 1) := by decide +kernel
theorem dX8_init_72 : decode cX8_init 72 = .ok (.iconst 0, 1) := by decide +kernel
theorem dX8_init_73 : decode cX8_init 73 = .ok (.putfield 52, 3) := by decide +kernel
theorem dX8_init_76 : decode cX8_init 76 = .ok (.aload_n 0, 1) := by decide +kernel
theorem dX8_init_77 : decode cX8_init 77 = .ok (.iconst 0, 1) := by decide +kernel
theorem dX8_init_78 : decode cX8_init 78 = .ok (.putfield 55, 3) := by decide +kernel
theorem dX8_init_81 : decode cX8_init 81 = .ok (.iconst 0, 1) := by decide +kernel
theorem dX8_init_82 : decode cX8_init 82 = .ok (.istore_n 1, 1) := by decide +kernel
theorem dX8_init_83 : decode cX8_init 83 = .ok (.iload_n 1, 1) := by decide +kernel
theorem dX8_init_84 : decode cX8_init 84 = .ok (.aload_n 0, 1) := by decide +kernel
theorem dX8_init_85 : decode cX8_init 85 = .ok (.getfield 11, 3) := by decide +kernel
theorem dX8_init_88 : decode cX8_init 88 = .ok (.arraylength, 1) := by decide +kernel
theorem dX8_init_89 : decode cX8_init 89 = .ok (.if_icmp .ge 22, 3) := by decide +kernel
theorem dX8_init_92 : decode cX8_init 92 = .ok (.aload_n 0, 1) := by decide +kernel
theorem dX8_init_93 : decode cX8_init 93 = .ok (.getfield 11, 3) := by decide +kernel
theorem dX8_init_96 : decode cX8_init 96 = .ok (.iload_n 1, 1) := by decide +kernel
theorem dX8_init_97 : decode cX8_init 97 = .ok (.new 9, 3) := by decide +kernel
theorem dX8_init_100 : decode cX8_init 100 = .ok (.dup, 1) := by decide +kernel
theorem dX8_init_101 : decode cX8_init 101 = .ok (.invokespecial 58, 3) := by decide +kernel
theorem dX8_init_104 : decode cX8_init 104 = .ok (.aastore, 1) := by decide +kernel
theorem dX8_init_105 : decode cX8_init 105 = .ok (.iinc 1 1, 3) := by decide +kernel
theorem dX8_init_108 : decode cX8_init 108 = .ok (.goto (-25), 3) := by decide +kernel
theorem dX8_init_111 : decode cX8_init 111 = .ok (.iconst 0, 1) := by decide +kernel
theorem dX8_init_112 : decode cX8_init 112 = .ok (.istore_n 1, 1) := by decide +kernel
theorem dX8_init_113 : decode cX8_init 113 = .ok (.iload_n 1, 1) := by decide +kernel
theorem dX8_init_114 : decode cX8_init 114 = .ok (.aload_n 0, 1) := by decide +kernel
theorem dX8_init_115 : decode cX8_init 115 = .ok (.getfield 19, 3) := by decide +kernel
theorem dX8_init_118 : decode cX8_init 118 = .ok (.arraylength, 1) := by decide +kernel
theorem dX8_init_119 : decode cX8_init 119 = .ok (.if_icmp .ge 23, 3) := by decide +kernel
theorem dX8_init_122 : decode cX8_init 122 = .ok (.aload_n 0, 1) := by decide +kernel
theorem dX8_init_123 : decode cX8_init 123 = .ok (.getfield 19, 3) := by decide +kernel
theorem dX8_init_126 : decode cX8_init 126 = .ok (.iload_n 1, 1) := by decide +kernel
theorem dX8_init_127 : decode cX8_init 127 = .ok (.new 17, 3) := by decide +kernel
theorem dX8_init_130 : decode cX8_init 130 = .ok (.dup, 1) := by decide +kernel
theorem dX8_init_131 : decode cX8_init 131 = .ok (.iload_n 1, 1) := by decide +kernel
theorem dX8_init_132 : decode cX8_init 132 = .ok (.invokespecial 59, 3) := by decide +kernel
theorem dX8_init_135 : decode cX8_init 135 = .ok (.aastore, 1) := by decide +kernel
theorem dX8_init_136 : decode cX8_init 136 = .ok (.iinc 1 1, 3) := by decide +kernel
theorem dX8_init_139 : decode cX8_init 139 = .ok (.goto (-26), 3) := by decide +kernel
theorem dX8_init_142 : decode cX8_init 142 = .ok (.iconst 0, 1) := by decide +kernel
theorem dX8_init_143 : decode cX8_init 143 = .ok (.istore_n 1, 1) := by decide +kernel
theorem dX8_init_144 : decode cX8_init 144 = .ok (.iload_n 1, 1) := by decide +kernel
theorem dX8_init_145 : decode cX8_init 145 = .ok (.aload_n 0, 1) := by decide +kernel
theorem dX8_init_146 : decode cX8_init 146 = .ok (.getfield 25, 3) := by decide +kernel
theorem dX8_init_149 : decode cX8_init 149 = .ok (.arraylength, 1) := by decide +kernel
theorem dX8_init_150 : decode cX8_init 150 = .ok (.if_icmp .ge 22, 3) := by decide +kernel
theorem dX8_init_153 : decode cX8_init 153 = .ok (.aload_n 0, 1) := by decide +kernel
theorem dX8_init_154 : decode cX8_init 154 = .ok (.getfield 25, 3) := by decide +kernel
theorem dX8_init_157 : decode cX8_init 157 = .ok (.iload_n 1, 1) := by decide +kernel
theorem dX8_init_158 : decode cX8_init 158 = .ok (.new 23, 3) := by decide +kernel
theorem dX8_init_161 : decode cX8_init 161 = .ok (.dup, 1) := by decide +kernel
theorem dX8_init_162 : decode cX8_init 162 = .ok (.invokespecial 62, 3) := by decide +kernel
theorem dX8_init_165 : decode cX8_init 165 = .ok (.aastore, 1) := by decide +kernel
theorem dX8_init_166 : decode cX8_init 166 = .ok (.iinc 1 1, 3) := by decide +kernel
theorem dX8_init_169 : decode cX8_init 169 = .ok (.goto (-25), 3) := by decide +kernel
theorem dX8_init_172 : decode cX8_init 172 = .ok (.return_, 1) := by decide +kernel
theorem dX8_copyFrom_0 : decode cX8_copyFrom 0 = .ok (.aload_n 0, 1) := by decide +kernel
theorem dX8_copyFrom_1 : decode cX8_copyFrom 1 = .ok (.aload_n 1, 1) := by decide +kernel
theorem dX8_copyFrom_2 : decode cX8_copyFrom 2 = .ok (.getfield 33, 3) := by decide +kernel
theorem dX8_copyFrom_5 : decode cX8_copyFrom 5 = .ok (.putfield 33, 3) := by decide +kernel
theorem dX8_copyFrom_8 : decode cX8_copyFrom 8 = .ok (.aload_n 0, 1) := by decide +kernel
theorem dX8_copyFrom_9 : decode cX8_copyFrom 9 = .ok (.aload_n 1, 1) := by decide +kernel
theorem dX8_copyFrom_10 : decode cX8_copyFrom 10 = .ok (.getfield 37, 3) := by decide +kernel
theorem dX8_copyFrom_13 : decode cX8_copyFrom 13 = .ok (.putfield 37, 3) := by decide +kernel
theorem dX8_copyFrom_16 : decode cX8_copyFrom 16 = .ok (.aload_n 0, 1) := by decide +kernel
theorem dX8_copyFrom_17 : decode cX8_copyFrom 17 = .ok (.aload_n 1, 1) := by decide +kernel
theorem dX8_copyFrom_18 : decode cX8_copyFrom 18 = .ok (.getfield 40, 3) := by decide +kernel
theorem dX8_copyFrom_21 : decode cX8_copyFrom 21 = .ok (.putfield 40, 3) := by decide +kernel
theorem dX8_copyFrom_24 : decode cX8_copyFrom 24 = .ok (.aload_n 0, 1) := by decide +kernel
theorem dX8_copyFrom_25 : decode cX8_copyFrom 25 = .ok (.aload_n 1, 1) := by decide +kernel
theorem dX8_copyFrom_26 : decode cX8_copyFrom 26 = .ok (.getfield 43, 3) := by decide +kernel
theorem dX8_copyFrom_29 : decode cX8_copyFrom 29 = .ok (.putfield 43, 3) := by decide +kernel
theorem dX8_copyFrom_32 : decode cX8_copyFrom 32 = .ok (.aload_n 0, 1) := by decide +kernel
theorem dX8_copyFrom_33 : decode cX8_copyFrom 33 = .ok (.aload_n 1, 1) := by decide +kernel
theorem dX8_copyFrom_34 : decode cX8_copyFrom 34 = .ok (.getfield 46, 3) := by decide +kernel
theorem dX8_copyFrom_37 : decode cX8_copyFrom 37 = .ok (.putfield 46, 3) := by decide +kernel
theorem dX8_copyFrom_40 : decode cX8_copyFrom 40 = .ok (.aload_n 0, 1) := by decide +kernel
theorem dX8_copyFrom_41 : decode cX8_copyFrom 41 = .ok (.aload_n 1, 1) := by decide +kernel
theorem dX8_copyFrom_42 : decode cX8_copyFrom 42 = .ok (.getfield 49, 3) := by decide +kernel
theorem dX8_copyFrom_45 : decode cX8_copyFrom 45 = .ok (.putfield 49, 3) := by decide +kernel
theorem dX8_copyFrom_48 : decode cX8_copyFrom 48 = .ok (.aload_n 0, 1) := by decide +kernel
theorem dX8_copyFrom_49 : decode cX8_copyFrom 49 = .ok (.aload_n 1, 1) := by decide +kernel
theorem dX8_copyFrom_50 : decode cX8_copyFrom 50 = .ok (.getfield 52, 3) := by decide +kernel
theorem dX8_copyFrom_53 : decode cX8_copyFrom 53 = .ok (.putfield 52, 3) := by decide +kernel
theorem dX8_copyFrom_56 : decode cX8_copyFrom 56 = .ok (.aload_n 0, 1) := by decide +kernel
theorem dX8_copyFrom_57 : decode cX8_copyFrom 57 = .ok (.aload_n 1, 1) := by decide +kernel
theorem dX8_copyFrom_58 : decode cX8_copyFrom 58 = .ok (.getfield 55, 3) := by decide +kernel
theorem dX8_copyFrom_61 : decode cX8_copyFrom 61 = .ok (.putfield 55, 3) := by decide +kernel
theorem dX8_copyFrom_64 : decode cX8_copyFrom 64 = .ok (.iconst 0, 1) := by decide +kernel
theorem dX8_copyFrom_65 : decode cX8_copyFrom 65 = .ok (.istore_n 2, 1) := by decide +kernel
theorem dX8_copyFrom_66 : decode cX8_copyFrom 66 = .ok (.iload_n 2, 1) := by decide +kernel
theorem dX8_copyFrom_67 : decode cX8_copyFrom 67 = .ok (.aload_n 0, 1) := by decide +kernel
theorem dX8_copyFrom_68 : decode cX8_copyFrom 68 = .ok (.getfield 33, 3) := by decide +kernel
theorem dX8_copyFrom_71 : decode cX8_copyFrom 71 = .ok (.if_icmp .ge 24, 3) := by decide +kernel
theorem dX8_copyFrom_74 : decode cX8_copyFrom 74 = .ok (.aload_n 0, 1) := by decide +kernel
theorem dX8_copyFrom_75 : decode cX8_copyFrom 75 = .ok (.getfield 11, 3) := by decide +kernel
theorem dX8_copyFrom_78 : decode cX8_copyFrom 78 = .ok (.iload_n 2, 1) := by decide +kernel
theorem dX8_copyFrom_79 : decode cX8_copyFrom 79 = .ok (.aaload, 1) := by decide +kernel
theorem dX8_copyFrom_80 : decode cX8_copyFrom 80 = .ok (.aload_n 1, 1) := by decide +kernel
theorem dX8_copyFrom_81 : decode cX8_copyFrom 81 = .ok (.getfield 11, 3) := by decide +kernel
theorem dX8_copyFrom_84 : decode cX8_copyFrom 84 = .ok (.iload_n 2, 1) := by decide +kernel
theorem dX8_copyFrom_85 : decode cX8_copyFrom 85 = .ok (.aaload, 1) := by decide +kernel
theorem dX8_copyFrom_86 : decode cX8_copyFrom 86 = .ok (.invokevirtual 63, 3) := by decide +kernel
theorem dX8_copyFrom_89 : decode cX8_copyFrom 89 = .ok (.iinc 2 1, 3) := by decide +kernel
theorem dX8_copyFrom_92 : decode cX8_copyFrom 92 = .ok (.goto (-26), 3) := by decide +kernel
theorem dX8_copyFrom_95 : decode cX8_copyFrom 95 = .ok (.iconst 0, 1) := by decide +kernel
theorem dX8_copyFrom_96 : decode cX8_copyFrom 96 = .ok (.istore_n 2, 1) := by decide +kernel
theorem dX8_copyFrom_97 : decode cX8_copyFrom 97 = .ok (.iload_n 2, 1) := by decide +kernel
theorem dX8_copyFrom_98 : decode cX8_copyFrom 98 = .ok (.aload_n 0, 1) := by decide +kernel
theorem dX8_copyFrom_99 : decode cX8_copyFrom 99 = .ok (.getfield 37, 3) := by decide +kernel
theorem dX8_copyFrom_102 : decode cX8_copyFrom 102 = .ok (.if_icmp .ge 24, 3) := by decide +kernel
theorem dX8_copyFrom_105 : decode cX8_copyFrom 105 = .ok (.aload_n 0, 1) := by decide +kernel
theorem dX8_copyFrom_106 : decode cX8_copyFrom 106 = .ok (.getfield 19, 3) := by decide +kernel
theorem dX8_copyFrom_109 : decode cX8_copyFrom 109 = .ok (.iload_n 2, 1) := by decide +kernel
theorem dX8_copyFrom_110 : decode cX8_copyFrom 110 = .ok (.aaload, 1) := by decide +kernel
theorem dX8_copyFrom_111 : decode cX8_copyFrom 111 = .ok (.aload_n 1, 1) := by decide +kernel
theorem dX8_copyFrom_112 : decode cX8_copyFrom 112 = .ok (.getfield 19, 3) := by decide +kernel
theorem dX8_copyFrom_115 : decode cX8_copyFrom 115 = .ok (.iload_n 2, 1) := by decide +kernel
theorem dX8_copyFrom_116 : decode cX8_copyFrom 116 = .ok (.aaload, 1) := by decide +kernel
theorem dX8_copyFrom_117 : decode cX8_copyFrom 117 = .ok (.invokevirtual 67, 3) := by decide +kernel
theorem dX8_copyFrom_120 : decode cX8_copyFrom 120 = .ok (.iinc 2 1, 3) := by decide +kernel
theorem dX8_copyFrom_123 : decode cX8_copyFrom 123 = .ok (.goto (-26), 3) := by decide +kernel
theorem dX8_copyFrom_126 : decode cX8_copyFrom 126 = .ok (.iconst 0, 1) := by decide +kernel
theorem dX8_copyFrom_127 : decode cX8_copyFrom 127 = .ok (.istore_n 2, 1) := by decide +kernel
theorem dX8_copyFrom_128 : decode cX8_copyFrom 128 = .ok (.iload_n 2, 1) := by decide +kernel
theorem dX8_copyFrom_129 : decode cX8_copyFrom 129 = .ok (.aload_n 0, 1) := by decide +kernel
theorem dX8_copyFrom_130 : decode cX8_copyFrom 130 = .ok (.getfield 40, 3) := by decide +kernel
theorem dX8_copyFrom_133 : decode cX8_copyFrom 133 = .ok (.if_icmp .ge 24, 3) := by decide +kernel
theorem dX8_copyFrom_136 : decode cX8_copyFrom 136 = .ok (.aload_n 0, 1) := by decide +kernel
theorem dX8_copyFrom_137 : decode cX8_copyFrom 137 = .ok (.getfield 25, 3) := by decide +kernel
theorem dX8_copyFrom_140 : decode cX8_copyFrom 140 = .ok (.iload_n 2, 1) := by decide +kernel
theorem dX8_copyFrom_141 : decode cX8_copyFrom 141 = .ok (.aaload, 1) := by decide +kernel
theorem dX8_copyFrom_142 : decode cX8_copyFrom 142 = .ok (.aload_n 1, 1) := by decide +kernel
theorem dX8_copyFrom_143 : decode cX8_copyFrom 143 = .ok (.getfield 25, 3) := by decide +kernel
theorem dX8_copyFrom_146 : decode cX8_copyFrom 146 = .ok (.iload_n 2, 1) := by decide +kernel
theorem dX8_copyFrom_147 : decode cX8_copyFrom 147 = .ok (.aaload, 1) := by decide +kernel
theorem dX8_copyFrom_148 : decode cX8_copyFrom 148 = .ok (.invokevirtual 70, 3) := by decide +kernel
theorem dX8_copyFrom_151 : decode cX8_copyFrom 151 = .ok (.iinc 2 1, 3) := by decide +kernel
theorem dX8_copyFrom_154 : decode cX8_copyFrom 154 = .ok (.goto (-26), 3) := by decide +kernel
theorem dX8_copyFrom_157 : decode cX8_copyFrom 157 = .ok (.return_, 1) := by decide +kernel
theorem dX8_sheetAt_0 : decode cX8_sheetAt 0 = .ok (.iload_n 1, 1) := by decide +kernel
theorem dX8_sheetAt_1 : decode cX8_sheetAt 1 = .ok (.ifCond .lt 20, 3) := by decide +kernel
theorem dX8_sheetAt_4 : decode cX8_sheetAt 4 = .ok (.iload_n 1, 1) := by decide +kernel
theorem dX8_sheetAt_5 : decode cX8_sheetAt 5 = .ok (.aload_n 0, 1) := by decide +kernel
theorem dX8_sheetAt_6 : decode cX8_sheetAt 6 = .ok (.getfield 33, 3) := by decide +kernel
theorem dX8_sheetAt_9 : decode cX8_sheetAt 9 = .ok (.if_icmp .ge 12, 3) := by decide +kernel
theorem dX8_sheetAt_12 : decode cX8_sheetAt 12 = .ok (.aload_n 0, 1) := by decide +kernel
theorem dX8_sheetAt_13 : decode cX8_sheetAt 13 = .ok (.getfield 11, 3) := by decide +kernel
theorem dX8_sheetAt_16 : decode cX8_sheetAt 16 = .ok (.iload_n 1, 1) := by decide +kernel
theorem dX8_sheetAt_17 : decode cX8_sheetAt 17 = .ok (.aaload, 1) := by decide +kernel
theorem dX8_sheetAt_18 : decode cX8_sheetAt 18 = .ok (.goto 4, 3) := by decide +kernel
theorem dX8_sheetAt_21 : decode cX8_sheetAt 21 = .ok (.aconst_null, 1) := by decide +kernel
theorem dX8_sheetAt_22 : decode cX8_sheetAt 22 = .ok (.areturn, 1) := by decide +kernel
theorem dX8_potAt_0 : decode cX8_potAt 0 = .ok (.iload_n 1, 1) := by decide +kernel
theorem dX8_potAt_1 : decode cX8_potAt 1 = .ok (.ifCond .lt 20, 3) := by decide +kernel
theorem dX8_potAt_4 : decode cX8_potAt 4 = .ok (.iload_n 1, 1) := by decide +kernel
theorem dX8_potAt_5 : decode cX8_potAt 5 = .ok (.aload_n 0, 1) := by decide +kernel
theorem dX8_potAt_6 : decode cX8_potAt 6 = .ok (.getfield 37, 3) := by decide +kernel
theorem dX8_potAt_9 : decode cX8_potAt 9 = .ok (.if_icmp .ge 12, 3) := by decide +kernel
theorem dX8_potAt_12 : decode cX8_potAt 12 = .ok (.aload_n 0, 1) := by decide +kernel
theorem dX8_potAt_13 : decode cX8_potAt 13 = .ok (.getfield 19, 3) := by decide +kernel
theorem dX8_potAt_16 : decode cX8_potAt 16 = .ok (.iload_n 1, 1) := by decide +kernel
theorem dX8_potAt_17 : decode cX8_potAt 17 = .ok (.aaload, 1) := by decide +kernel
theorem dX8_potAt_18 : decode cX8_potAt 18 = .ok (.goto 4, 3) := by decide +kernel
theorem dX8_potAt_21 : decode cX8_potAt 21 = .ok (.aconst_null, 1) := by decide +kernel
theorem dX8_potAt_22 : decode cX8_potAt 22 = .ok (.areturn, 1) := by decide +kernel
theorem dX8_orderAt_0 : decode cX8_orderAt 0 = .ok (.iload_n 1, 1) := by decide +kernel
theorem dX8_orderAt_1 : decode cX8_orderAt 1 = .ok (.ifCond .lt 20, 3) := by decide +kernel
theorem dX8_orderAt_4 : decode cX8_orderAt 4 = .ok (.iload_n 1, 1) := by decide +kernel
theorem dX8_orderAt_5 : decode cX8_orderAt 5 = .ok (.aload_n 0, 1) := by decide +kernel
theorem dX8_orderAt_6 : decode cX8_orderAt 6 = .ok (.getfield 40, 3) := by decide +kernel
theorem dX8_orderAt_9 : decode cX8_orderAt 9 = .ok (.if_icmp .ge 12, 3) := by decide +kernel
theorem dX8_orderAt_12 : decode cX8_orderAt 12 = .ok (.aload_n 0, 1) := by decide +kernel
theorem dX8_orderAt_13 : decode cX8_orderAt 13 = .ok (.getfield 25, 3) := by decide +kernel
theorem dX8_orderAt_16 : decode cX8_orderAt 16 = .ok (.iload_n 1, 1) := by decide +kernel
theorem dX8_orderAt_17 : decode cX8_orderAt 17 = .ok (.aaload, 1) := by decide +kernel
theorem dX8_orderAt_18 : decode cX8_orderAt 18 = .ok (.goto 4, 3) := by decide +kernel
theorem dX8_orderAt_21 : decode cX8_orderAt 21 = .ok (.aconst_null, 1) := by decide +kernel
theorem dX8_orderAt_22 : decode cX8_orderAt 22 = .ok (.areturn, 1) := by decide +kernel
theorem dX8_soldPots_0 : decode cX8_soldPots 0 = .ok (.iconst 0, 1) := by decide +kernel
theorem dX8_soldPots_1 : decode cX8_soldPots 1 = .ok (.istore_n 1, 1) := by decide +kernel
theorem dX8_soldPots_2 : decode cX8_soldPots 2 = .ok (.iconst 0, 1) := by decide +kernel
theorem dX8_soldPots_3 : decode cX8_soldPots 3 = .ok (.istore_n 2, 1) := by decide +kernel
theorem dX8_soldPots_4 : decode cX8_soldPots 4 = .ok (.iload_n 2, 1) := by decide +kernel
theorem dX8_soldPots_5 : decode cX8_soldPots 5 = .ok (.aload_n 0, 1) := by decide +kernel
theorem dX8_soldPots_6 : decode cX8_soldPots 6 = .ok (.getfield 40, 3) := by decide +kernel
theorem dX8_soldPots_9 : decode cX8_soldPots 9 = .ok (.if_icmp .ge 29, 3) := by decide +kernel
theorem dX8_soldPots_12 : decode cX8_soldPots 12 = .ok (.iload_n 1, 1) := by decide +kernel
theorem dX8_soldPots_13 : decode cX8_soldPots 13 = .ok (.aload_n 0, 1) := by decide +kernel
theorem dX8_soldPots_14 : decode cX8_soldPots 14 = .ok (.getfield 25, 3) := by decide +kernel
theorem dX8_soldPots_17 : decode cX8_soldPots 17 = .ok (.iload_n 2, 1) := by decide +kernel
theorem dX8_soldPots_18 : decode cX8_soldPots 18 = .ok (.aaload, 1) := by decide +kernel
theorem dX8_soldPots_19 : decode cX8_soldPots 19 = .ok (.invokevirtual 73, 3) := by decide +kernel
theorem dX8_soldPots_22 : decode cX8_soldPots 22 = .ok (.ifCond .eq 7, 3) := by decide +kernel
theorem dX8_soldPots_25 : decode cX8_soldPots 25 = .ok (.iconst 1, 1) := by decide +kernel
theorem dX8_soldPots_26 : decode cX8_soldPots 26 = .ok (.goto 4, 3) := by decide +kernel
theorem dX8_soldPots_29 : decode cX8_soldPots 29 = .ok (.iconst 0, 1) := by decide +kernel
theorem dX8_soldPots_30 : decode cX8_soldPots 30 = .ok (.iadd, 1) := by decide +kernel
theorem dX8_soldPots_31 : decode cX8_soldPots 31 = .ok (.istore_n 1, 1) := by decide +kernel
theorem dX8_soldPots_32 : decode cX8_soldPots 32 = .ok (.iinc 2 1, 3) := by decide +kernel
theorem dX8_soldPots_35 : decode cX8_soldPots 35 = .ok (.goto (-31), 3) := by decide +kernel
theorem dX8_soldPots_38 : decode cX8_soldPots 38 = .ok (.iload_n 1, 1) := by decide +kernel
theorem dX8_soldPots_39 : decode cX8_soldPots 39 = .ok (.ireturn, 1) := by decide +kernel
theorem dX8_paidSoFar_0 : decode cX8_paidSoFar 0 = .ok (.iconst 0, 1) := by decide +kernel
theorem dX8_paidSoFar_1 : decode cX8_paidSoFar 1 = .ok (.istore_n 1, 1) := by decide +kernel
theorem dX8_paidSoFar_2 : decode cX8_paidSoFar 2 = .ok (.iconst 0, 1) := by decide +kernel
theorem dX8_paidSoFar_3 : decode cX8_paidSoFar 3 = .ok (.istore_n 2, 1) := by decide +kernel
theorem dX8_paidSoFar_4 : decode cX8_paidSoFar 4 = .ok (.iload_n 2, 1) := by decide +kernel
theorem dX8_paidSoFar_5 : decode cX8_paidSoFar 5 = .ok (.aload_n 0, 1) := by decide +kernel
theorem dX8_paidSoFar_6 : decode cX8_paidSoFar 6 = .ok (.getfield 40, 3) := by decide +kernel
theorem dX8_paidSoFar_9 : decode cX8_paidSoFar 9 = .ok (.if_icmp .ge 21, 3) := by decide +kernel
theorem dX8_paidSoFar_12 : decode cX8_paidSoFar 12 = .ok (.iload_n 1, 1) := by decide +kernel
theorem dX8_paidSoFar_13 : decode cX8_paidSoFar 13 = .ok (.aload_n 0, 1) := by decide +kernel
theorem dX8_paidSoFar_14 : decode cX8_paidSoFar 14 = .ok (.getfield 25, 3) := by decide +kernel
theorem dX8_paidSoFar_17 : decode cX8_paidSoFar 17 = .ok (.iload_n 2, 1) := by decide +kernel
theorem dX8_paidSoFar_18 : decode cX8_paidSoFar 18 = .ok (.aaload, 1) := by decide +kernel
theorem dX8_paidSoFar_19 : decode cX8_paidSoFar 19 = .ok (.getfield 77, 3) := by decide +kernel
theorem dX8_paidSoFar_22 : decode cX8_paidSoFar 22 = .ok (.iadd, 1) := by decide +kernel
theorem dX8_paidSoFar_23 : decode cX8_paidSoFar 23 = .ok (.istore_n 1, 1) := by decide +kernel
theorem dX8_paidSoFar_24 : decode cX8_paidSoFar 24 = .ok (.iinc 2 1, 3) := by decide +kernel
theorem dX8_paidSoFar_27 : decode cX8_paidSoFar 27 = .ok (.goto (-23), 3) := by decide +kernel
theorem dX8_paidSoFar_30 : decode cX8_paidSoFar 30 = .ok (.iload_n 1, 1) := by decide +kernel
theorem dX8_paidSoFar_31 : decode cX8_paidSoFar 31 = .ok (.ireturn, 1) := by decide +kernel
theorem dX8_sheetsCost_0 : decode cX8_sheetsCost 0 = .ok (.iconst 0, 1) := by decide +kernel
theorem dX8_sheetsCost_1 : decode cX8_sheetsCost 1 = .ok (.istore_n 1, 1) := by decide +kernel
theorem dX8_sheetsCost_2 : decode cX8_sheetsCost 2 = .ok (.iconst 0, 1) := by decide +kernel
theorem dX8_sheetsCost_3 : decode cX8_sheetsCost 3 = .ok (.istore_n 2, 1) := by decide +kernel
theorem dX8_sheetsCost_4 : decode cX8_sheetsCost 4 = .ok (.iload_n 2, 1) := by decide +kernel
theorem dX8_sheetsCost_5 : decode cX8_sheetsCost 5 = .ok (.aload_n 0, 1) := by decide +kernel
theorem dX8_sheetsCost_6 : decode cX8_sheetsCost 6 = .ok (.getfield 33, 3) := by decide +kernel
theorem dX8_sheetsCost_9 : decode cX8_sheetsCost 9 = .ok (.if_icmp .ge 21, 3) := by decide +kernel
theorem dX8_sheetsCost_12 : decode cX8_sheetsCost 12 = .ok (.iload_n 1, 1) := by decide +kernel
theorem dX8_sheetsCost_13 : decode cX8_sheetsCost 13 = .ok (.aload_n 0, 1) := by decide +kernel
theorem dX8_sheetsCost_14 : decode cX8_sheetsCost 14 = .ok (.getfield 11, 3) := by decide +kernel
theorem dX8_sheetsCost_17 : decode cX8_sheetsCost 17 = .ok (.iload_n 2, 1) := by decide +kernel
theorem dX8_sheetsCost_18 : decode cX8_sheetsCost 18 = .ok (.aaload, 1) := by decide +kernel
theorem dX8_sheetsCost_19 : decode cX8_sheetsCost 19 = .ok (.getfield 80, 3) := by decide +kernel
theorem dX8_sheetsCost_22 : decode cX8_sheetsCost 22 = .ok (.iadd, 1) := by decide +kernel
theorem dX8_sheetsCost_23 : decode cX8_sheetsCost 23 = .ok (.istore_n 1, 1) := by decide +kernel
theorem dX8_sheetsCost_24 : decode cX8_sheetsCost 24 = .ok (.iinc 2 1, 3) := by decide +kernel
theorem dX8_sheetsCost_27 : decode cX8_sheetsCost 27 = .ok (.goto (-23), 3) := by decide +kernel
theorem dX8_sheetsCost_30 : decode cX8_sheetsCost 30 = .ok (.iload_n 1, 1) := by decide +kernel
theorem dX8_sheetsCost_31 : decode cX8_sheetsCost 31 = .ok (.ireturn, 1) := by decide +kernel
theorem dX8_sumOfPots_0 : decode cX8_sumOfPots 0 = .ok (.iconst 0, 1) := by decide +kernel
theorem dX8_sumOfPots_1 : decode cX8_sumOfPots 1 = .ok (.istore_n 2, 1) := by decide +kernel
theorem dX8_sumOfPots_2 : decode cX8_sumOfPots 2 = .ok (.iconst 0, 1) := by decide +kernel
theorem dX8_sumOfPots_3 : decode cX8_sumOfPots 3 = .ok (.istore_n 3, 1) := by decide +kernel
theorem dX8_sumOfPots_4 : decode cX8_sumOfPots 4 = .ok (.iload_n 3, 1) := by decide +kernel
theorem dX8_sumOfPots_5 : decode cX8_sumOfPots 5 = .ok (.aload_n 0, 1) := by decide +kernel
theorem dX8_sumOfPots_6 : decode cX8_sumOfPots 6 = .ok (.getfield 37, 3) := by decide +kernel
theorem dX8_sumOfPots_9 : decode cX8_sumOfPots 9 = .ok (.if_icmp .ge 22, 3) := by decide +kernel
theorem dX8_sumOfPots_12 : decode cX8_sumOfPots 12 = .ok (.iload_n 2, 1) := by decide +kernel
theorem dX8_sumOfPots_13 : decode cX8_sumOfPots 13 = .ok (.aload_n 0, 1) := by decide +kernel
theorem dX8_sumOfPots_14 : decode cX8_sumOfPots 14 = .ok (.getfield 19, 3) := by decide +kernel
theorem dX8_sumOfPots_17 : decode cX8_sumOfPots 17 = .ok (.iload_n 3, 1) := by decide +kernel
theorem dX8_sumOfPots_18 : decode cX8_sumOfPots 18 = .ok (.aaload, 1) := by decide +kernel
theorem dX8_sumOfPots_19 : decode cX8_sumOfPots 19 = .ok (.iload_n 1, 1) := by decide +kernel
theorem dX8_sumOfPots_20 : decode cX8_sumOfPots 20 = .ok (.invokevirtual 83, 3) := by decide +kernel
theorem dX8_sumOfPots_23 : decode cX8_sumOfPots 23 = .ok (.iadd, 1) := by decide +kernel
theorem dX8_sumOfPots_24 : decode cX8_sumOfPots 24 = .ok (.istore_n 2, 1) := by decide +kernel
theorem dX8_sumOfPots_25 : decode cX8_sumOfPots 25 = .ok (.iinc 3 1, 3) := by decide +kernel
theorem dX8_sumOfPots_28 : decode cX8_sumOfPots 28 = .ok (.goto (-24), 3) := by decide +kernel
theorem dX8_sumOfPots_31 : decode cX8_sumOfPots 31 = .ok (.iload_n 2, 1) := by decide +kernel
theorem dX8_sumOfPots_32 : decode cX8_sumOfPots 32 = .ok (.ireturn, 1) := by decide +kernel
theorem dX8_copperByPart_0 : decode cX8_copperByPart 0 = .ok (.iconst 0, 1) := by decide +kernel
theorem dX8_copperByPart_1 : decode cX8_copperByPart 1 = .ok (.istore_n 1, 1) := by decide +kernel
theorem dX8_copperByPart_2 : decode cX8_copperByPart 2 = .ok (.iconst 0, 1) := by decide +kernel
theorem dX8_copperByPart_3 : decode cX8_copperByPart 3 = .ok (.istore_n 2, 1) := by decide +kernel
theorem dX8_copperByPart_4 : decode cX8_copperByPart 4 = .ok (.iload_n 2, 1) := by decide +kernel
theorem dX8_copperByPart_5 : decode cX8_copperByPart 5 = .ok (.aload_n 0, 1) := by decide +kernel
theorem dX8_copperByPart_6 : decode cX8_copperByPart 6 = .ok (.getfield 33, 3) := by decide +kernel
theorem dX8_copperByPart_9 : decode cX8_copperByPart 9 = .ok (.if_icmp .ge 31, 3) := by decide +kernel
theorem dX8_copperByPart_12 : decode cX8_copperByPart 12 = .ok (.iload_n 1, 1) := by decide +kernel
theorem dX8_copperByPart_13 : decode cX8_copperByPart 13 = .ok (.aload_n 0, 1) := by decide +kernel
theorem dX8_copperByPart_14 : decode cX8_copperByPart 14 = .ok (.getfield 11, 3) := by decide +kernel
theorem dX8_copperByPart_17 : decode cX8_copperByPart 17 = .ok (.iload_n 2, 1) := by decide +kernel
theorem dX8_copperByPart_18 : decode cX8_copperByPart 18 = .ok (.aaload, 1) := by decide +kernel
theorem dX8_copperByPart_19 : decode cX8_copperByPart 19 = .ok (.getfield 87, 3) := by decide +kernel
theorem dX8_copperByPart_22 : decode cX8_copperByPart 22 = .ok (.aload_n 0, 1) := by decide +kernel
theorem dX8_copperByPart_23 : decode cX8_copperByPart 23 = .ok (.getfield 11, 3) := by decide +kernel
theorem dX8_copperByPart_26 : decode cX8_copperByPart 26 = .ok (.iload_n 2, 1) := by decide +kernel
theorem dX8_copperByPart_27 : decode cX8_copperByPart 27 = .ok (.aaload, 1) := by decide +kernel
theorem dX8_copperByPart_28 : decode cX8_copperByPart 28 = .ok (.getfield 80, 3) := by decide +kernel
theorem dX8_copperByPart_31 : decode cX8_copperByPart 31 = .ok (.imul, 1) := by decide +kernel
theorem dX8_copperByPart_32 : decode cX8_copperByPart 32 = .ok (.iadd, 1) := by decide +kernel
theorem dX8_copperByPart_33 : decode cX8_copperByPart 33 = .ok (.istore_n 1, 1) := by decide +kernel
theorem dX8_copperByPart_34 : decode cX8_copperByPart 34 = .ok (.iinc 2 1, 3) := by decide +kernel
theorem dX8_copperByPart_37 : decode cX8_copperByPart 37 = .ok (.goto (-33), 3) := by decide +kernel
theorem dX8_copperByPart_40 : decode cX8_copperByPart 40 = .ok (.iconst 0, 1) := by decide +kernel
theorem dX8_copperByPart_41 : decode cX8_copperByPart 41 = .ok (.istore_n 2, 1) := by decide +kernel
theorem dX8_copperByPart_42 : decode cX8_copperByPart 42 = .ok (.iload_n 2, 1) := by decide +kernel
theorem dX8_copperByPart_43 : decode cX8_copperByPart 43 = .ok (.aload_n 0, 1) := by decide +kernel
theorem dX8_copperByPart_44 : decode cX8_copperByPart 44 = .ok (.getfield 37, 3) := by decide +kernel
theorem dX8_copperByPart_47 : decode cX8_copperByPart 47 = .ok (.if_icmp .ge 34, 3) := by decide +kernel
theorem dX8_copperByPart_50 : decode cX8_copperByPart 50 = .ok (.iload_n 1, 1) := by decide +kernel
theorem dX8_copperByPart_51 : decode cX8_copperByPart 51 = .ok (.aload_n 0, 1) := by decide +kernel
theorem dX8_copperByPart_52 : decode cX8_copperByPart 52 = .ok (.getfield 19, 3) := by decide +kernel
theorem dX8_copperByPart_55 : decode cX8_copperByPart 55 = .ok (.iload_n 2, 1) := by decide +kernel
theorem dX8_copperByPart_56 : decode cX8_copperByPart 56 = .ok (.aaload, 1) := by decide +kernel
theorem dX8_copperByPart_57 : decode cX8_copperByPart 57 = .ok (.getfield 90, 3) := by decide +kernel
theorem dX8_copperByPart_60 : decode cX8_copperByPart 60 = .ok (.getfield 94, 3) := by decide +kernel
theorem dX8_copperByPart_63 : decode cX8_copperByPart 63 = .ok (.aload_n 0, 1) := by decide +kernel
theorem dX8_copperByPart_64 : decode cX8_copperByPart 64 = .ok (.getfield 19, 3) := by decide +kernel
theorem dX8_copperByPart_67 : decode cX8_copperByPart 67 = .ok (.iload_n 2, 1) := by decide +kernel
theorem dX8_copperByPart_68 : decode cX8_copperByPart 68 = .ok (.aaload, 1) := by decide +kernel
theorem dX8_copperByPart_69 : decode cX8_copperByPart 69 = .ok (.getfield 97, 3) := by decide +kernel
theorem dX8_copperByPart_72 : decode cX8_copperByPart 72 = .ok (.imul, 1) := by decide +kernel
theorem dX8_copperByPart_73 : decode cX8_copperByPart 73 = .ok (.iadd, 1) := by decide +kernel
theorem dX8_copperByPart_74 : decode cX8_copperByPart 74 = .ok (.istore_n 1, 1) := by decide +kernel
theorem dX8_copperByPart_75 : decode cX8_copperByPart 75 = .ok (.iinc 2 1, 3) := by decide +kernel
theorem dX8_copperByPart_78 : decode cX8_copperByPart 78 = .ok (.goto (-36), 3) := by decide +kernel
theorem dX8_copperByPart_81 : decode cX8_copperByPart 81 = .ok (.iload_n 1, 1) := by decide +kernel
theorem dX8_copperByPart_82 : decode cX8_copperByPart 82 = .ok (.ireturn, 1) := by decide +kernel
theorem dX8_copperBySheet_0 : decode cX8_copperBySheet 0 = .ok (.iconst 0, 1) := by decide +kernel
theorem dX8_copperBySheet_1 : decode cX8_copperBySheet 1 = .ok (.istore_n 1, 1) := by decide +kernel
theorem dX8_copperBySheet_2 : decode cX8_copperBySheet 2 = .ok (.iconst 0, 1) := by decide +kernel
theorem dX8_copperBySheet_3 : decode cX8_copperBySheet 3 = .ok (.istore_n 2, 1) := by decide +kernel
theorem dX8_copperBySheet_4 : decode cX8_copperBySheet 4 = .ok (.iload_n 2, 1) := by decide +kernel
theorem dX8_copperBySheet_5 : decode cX8_copperBySheet 5 = .ok (.aload_n 0, 1) := by decide +kernel
theorem dX8_copperBySheet_6 : decode cX8_copperBySheet 6 = .ok (.getfield 33, 3) := by decide +kernel
theorem dX8_copperBySheet_9 : decode cX8_copperBySheet 9 = .ok (.if_icmp .ge 31, 3) := by decide +kernel
theorem dX8_copperBySheet_12 : decode cX8_copperBySheet 12 = .ok (.iload_n 1, 1) := by decide +kernel
theorem dX8_copperBySheet_13 : decode cX8_copperBySheet 13 = .ok (.aload_n 0, 1) := by decide +kernel
theorem dX8_copperBySheet_14 : decode cX8_copperBySheet 14 = .ok (.getfield 11, 3) := by decide +kernel
theorem dX8_copperBySheet_17 : decode cX8_copperBySheet 17 = .ok (.iload_n 2, 1) := by decide +kernel
theorem dX8_copperBySheet_18 : decode cX8_copperBySheet 18 = .ok (.aaload, 1) := by decide +kernel
theorem dX8_copperBySheet_19 : decode cX8_copperBySheet 19 = .ok (.getfield 98, 3) := by decide +kernel
theorem dX8_copperBySheet_22 : decode cX8_copperBySheet 22 = .ok (.aload_n 0, 1) := by decide +kernel
theorem dX8_copperBySheet_23 : decode cX8_copperBySheet 23 = .ok (.getfield 11, 3) := by decide +kernel
theorem dX8_copperBySheet_26 : decode cX8_copperBySheet 26 = .ok (.iload_n 2, 1) := by decide +kernel
theorem dX8_copperBySheet_27 : decode cX8_copperBySheet 27 = .ok (.aaload, 1) := by decide +kernel
theorem dX8_copperBySheet_28 : decode cX8_copperBySheet 28 = .ok (.getfield 80, 3) := by decide +kernel
theorem dX8_copperBySheet_31 : decode cX8_copperBySheet 31 = .ok (.imul, 1) := by decide +kernel
theorem dX8_copperBySheet_32 : decode cX8_copperBySheet 32 = .ok (.iadd, 1) := by decide +kernel
theorem dX8_copperBySheet_33 : decode cX8_copperBySheet 33 = .ok (.istore_n 1, 1) := by decide +kernel
theorem dX8_copperBySheet_34 : decode cX8_copperBySheet 34 = .ok (.iinc 2 1, 3) := by decide +kernel
theorem dX8_copperBySheet_37 : decode cX8_copperBySheet 37 = .ok (.goto (-33), 3) := by decide +kernel
theorem dX8_copperBySheet_40 : decode cX8_copperBySheet 40 = .ok (.iload_n 1, 1) := by decide +kernel
theorem dX8_copperBySheet_41 : decode cX8_copperBySheet 41 = .ok (.ireturn, 1) := by decide +kernel
theorem dX8_isGood_0 : decode cX8_isGood 0 = .ok (.aload_n 1, 1) := by decide +kernel
theorem dX8_isGood_1 : decode cX8_isGood 1 = .ok (.invokevirtual 101, 3) := by decide +kernel
theorem dX8_isGood_4 : decode cX8_isGood 4 = .ok (.ifCond .ne 15, 3) := by decide +kernel
theorem dX8_isGood_7 : decode cX8_isGood 7 = .ok (.aload_n 1, 1) := by decide +kernel
theorem dX8_isGood_8 : decode cX8_isGood 8 = .ok (.aload_n 2, 1) := by decide +kernel
theorem dX8_isGood_9 : decode cX8_isGood 9 = .ok (.invokevirtual 104, 3) := by decide +kernel
theorem dX8_isGood_12 : decode cX8_isGood 12 = .ok (.ifCond .ne 7, 3) := by decide +kernel
theorem dX8_isGood_15 : decode cX8_isGood 15 = .ok (.iconst 1, 1) := by decide +kernel
theorem dX8_isGood_16 : decode cX8_isGood 16 = .ok (.goto 4, 3) := by decide +kernel
theorem dX8_isGood_19 : decode cX8_isGood 19 = .ok (.iconst 0, 1) := by decide +kernel
theorem dX8_isGood_20 : decode cX8_isGood 20 = .ok (.ireturn, 1) := by decide +kernel
theorem dX8_lowestGood_0 : decode cX8_lowestGood 0 = .ok (.iconst 0, 1) := by decide +kernel
theorem dX8_lowestGood_1 : decode cX8_lowestGood 1 = .ok (.istore_n 3, 1) := by decide +kernel
theorem dX8_lowestGood_2 : decode cX8_lowestGood 2 = .ok (.iload_n 3, 1) := by decide +kernel
theorem dX8_lowestGood_3 : decode cX8_lowestGood 3 = .ok (.aload_n 0, 1) := by decide +kernel
theorem dX8_lowestGood_4 : decode cX8_lowestGood 4 = .ok (.getfield 37, 3) := by decide +kernel
theorem dX8_lowestGood_7 : decode cX8_lowestGood 7 = .ok (.if_icmp .ge 33, 3) := by decide +kernel
theorem dX8_lowestGood_10 : decode cX8_lowestGood 10 = .ok (.iload_n 2, 1) := by decide +kernel
theorem dX8_lowestGood_11 : decode cX8_lowestGood 11 = .ok (.iload_n 3, 1) := by decide +kernel
theorem dX8_lowestGood_12 : decode cX8_lowestGood 12 = .ok (.ishr, 1) := by decide +kernel
theorem dX8_lowestGood_13 : decode cX8_lowestGood 13 = .ok (.iconst 1, 1) := by decide +kernel
theorem dX8_lowestGood_14 : decode cX8_lowestGood 14 = .ok (.iand, 1) := by decide +kernel
theorem dX8_lowestGood_15 : decode cX8_lowestGood 15 = .ok (.ifCond .ne 19, 3) := by decide +kernel
theorem dX8_lowestGood_18 : decode cX8_lowestGood 18 = .ok (.aload_n 0, 1) := by decide +kernel
theorem dX8_lowestGood_19 : decode cX8_lowestGood 19 = .ok (.aload_n 0, 1) := by decide +kernel
theorem dX8_lowestGood_20 : decode cX8_lowestGood 20 = .ok (.getfield 19, 3) := by decide +kernel
theorem dX8_lowestGood_23 : decode cX8_lowestGood 23 = .ok (.iload_n 3, 1) := by decide +kernel
theorem dX8_lowestGood_24 : decode cX8_lowestGood 24 = .ok (.aaload, 1) := by decide +kernel
theorem dX8_lowestGood_25 : decode cX8_lowestGood 25 = .ok (.aload_n 1, 1) := by decide +kernel
theorem dX8_lowestGood_26 : decode cX8_lowestGood 26 = .ok (.invokevirtual 108, 3) := by decide +kernel
theorem dX8_lowestGood_29 : decode cX8_lowestGood 29 = .ok (.ifCond .eq 5, 3) := by decide +kernel
theorem dX8_lowestGood_32 : decode cX8_lowestGood 32 = .ok (.iload_n 3, 1) := by decide +kernel
theorem dX8_lowestGood_33 : decode cX8_lowestGood 33 = .ok (.ireturn, 1) := by decide +kernel
theorem dX8_lowestGood_34 : decode cX8_lowestGood 34 = .ok (.iinc 3 1, 3) := by decide +kernel
theorem dX8_lowestGood_37 : decode cX8_lowestGood 37 = .ok (.goto (-35), 3) := by decide +kernel
theorem dX8_lowestGood_40 : decode cX8_lowestGood 40 = .ok (.bipush (-4), 2) := by decide +kernel
theorem dX8_lowestGood_42 : decode cX8_lowestGood 42 = .ok (.ireturn, 1) := by decide +kernel
theorem dX9_init_0 : decode cX9_init 0 = .ok (.aload_n 0, 1) := by decide +kernel
theorem dX9_init_1 : decode cX9_init 1 = .ok (.invokespecial 3, 3) := by decide +kernel
theorem dX9_init_4 : decode cX9_init 4 = .ok (.aload_n 0, 1) := by decide +kernel
theorem dX9_init_5 : decode cX9_init 5 = .ok (.new 9, 3) := by decide +kernel
theorem dX9_init_8 : decode cX9_init 8 = .ok (.dup, 1) := by decide +kernel
theorem dX9_init_9 : decode cX9_init 9 = .ok (.invokespecial 11, 3) := by decide +kernel
theorem dX9_init_12 : decode cX9_init 12 = .ok (.putfield 12, 3) := by decide +kernel
theorem dX9_init_15 : decode cX9_init 15 = .ok (.aload_n 0, 1) := by decide +kernel
theorem dX9_init_16 : decode cX9_init 16 = .ok (.new 18, 3) := by decide +kernel
theorem dX9_init_19 : decode cX9_init 19 = .ok (.dup, 1) := by decide +kernel
theorem dX9_init_20 : decode cX9_init 20 = .ok (.invokespecial 20, 3) := by decide +kernel
theorem dX9_init_23 : decode cX9_init 23 = .ok (.putfield 21, 3) := by decide +kernel
theorem dX9_init_26 : decode cX9_init 26 = .ok (.return_, 1) := by decide +kernel
theorem dX9_buySheet_0 : decode cX9_buySheet 0 = .ok (.iload_n 1, 1) := by decide +kernel
theorem dX9_buySheet_1 : decode cX9_buySheet 1 = .ok (.iconst 1, 1) := by decide +kernel
theorem dX9_buySheet_2 : decode cX9_buySheet 2 = .ok (.if_icmp .lt 21, 3) := by decide +kernel
theorem dX9_buySheet_5 : decode cX9_buySheet 5 = .ok (.iload_n 1, 1) := by decide +kernel
theorem dX9_buySheet_6 : decode cX9_buySheet 6 = .ok (.bipush 9, 2) := by decide +kernel
theorem dX9_buySheet_8 : decode cX9_buySheet 8 = .ok (.if_icmp .gt 15, 3) := by decide +kernel
theorem dX9_buySheet_11 : decode cX9_buySheet 11 = .ok (.iload_n 2, 1) := by decide +kernel
theorem dX9_buySheet_12 : decode cX9_buySheet 12 = .ok (.bipush 10, 2) := by decide +kernel
theorem dX9_buySheet_14 : decode cX9_buySheet 14 = .ok (.if_icmp .lt 9, 3) := by decide +kernel
theorem dX9_buySheet_17 : decode cX9_buySheet 17 = .ok (.iload_n 2, 1) := by decide +kernel
theorem dX9_buySheet_18 : decode cX9_buySheet 18 = .ok (.bipush 60, 2) := by decide +kernel
theorem dX9_buySheet_20 : decode cX9_buySheet 20 = .ok (.if_icmp .le 6, 3) := by decide +kernel
theorem dX9_buySheet_23 : decode cX9_buySheet 23 = .ok (.bipush (-2), 2) := by decide +kernel
theorem dX9_buySheet_25 : decode cX9_buySheet 25 = .ok (.ireturn, 1) := by decide +kernel
theorem dX9_buySheet_26 : decode cX9_buySheet 26 = .ok (.aload_n 0, 1) := by decide +kernel
theorem dX9_buySheet_27 : decode cX9_buySheet 27 = .ok (.getfield 12, 3) := by decide +kernel
theorem dX9_buySheet_30 : decode cX9_buySheet 30 = .ok (.getfield 25, 3) := by decide +kernel
theorem dX9_buySheet_33 : decode cX9_buySheet 33 = .ok (.istore_n 3, 1) := by decide +kernel
theorem dX9_buySheet_34 : decode cX9_buySheet 34 = .ok (.iload_n 3, 1) := by decide +kernel
theorem dX9_buySheet_35 : decode cX9_buySheet 35 = .ok (.bipush 12, 2) := by decide +kernel
theorem dX9_buySheet_37 : decode cX9_buySheet 37 = .ok (.if_icmp .lt 14, 3) := by decide +kernel
theorem dX9_buySheet_40 : decode cX9_buySheet 40 = .ok (.aload_n 0, 1) := by decide +kernel
theorem dX9_buySheet_41 : decode cX9_buySheet 41 = .ok (.getfield 21, 3) := by decide +kernel
theorem dX9_buySheet_44 : decode cX9_buySheet 44 = .ok (.iconst 1, 1) := by decide +kernel
theorem dX9_buySheet_45 : decode cX9_buySheet 45 = .ok (.bipush 12, 2) := by decide +kernel
theorem dX9_buySheet_47 : decode cX9_buySheet 47 = .ok (.invokevirtual 29, 3) := by decide +kernel
theorem dX9_buySheet_50 : decode cX9_buySheet 50 = .ok (.ireturn, 1) := by decide +kernel
theorem dX9_buySheet_51 : decode cX9_buySheet 51 = .ok (.aload_n 0, 1) := by decide +kernel
theorem dX9_buySheet_52 : decode cX9_buySheet 52 = .ok (.getfield 12, 3) := by decide +kernel
theorem dX9_buySheet_55 : decode cX9_buySheet 55 = .ok (.getfield 33, 3) := by decide +kernel
theorem dX9_buySheet_58 : decode cX9_buySheet 58 = .ok (.iload_n 1, 1) := by decide +kernel
theorem dX9_buySheet_59 : decode cX9_buySheet 59 = .ok (.if_icmp .ge 21, 3) := by decide +kernel
theorem dX9_buySheet_62 : decode cX9_buySheet 62 = .ok (.aload_n 0, 1) := by decide +kernel
theorem dX9_buySheet_63 : decode cX9_buySheet 63 = .ok (.getfield 21, 3) := by decide +kernel
theorem dX9_buySheet_66 : decode cX9_buySheet 66 = .ok (.iconst 2, 1) := by decide +kernel
theorem dX9_buySheet_67 : decode cX9_buySheet 67 = .ok (.iload_n 1, 1) := by decide +kernel
theorem dX9_buySheet_68 : decode cX9_buySheet 68 = .ok (.aload_n 0, 1) := by decide +kernel
theorem dX9_buySheet_69 : decode cX9_buySheet 69 = .ok (.getfield 12, 3) := by decide +kernel
theorem dX9_buySheet_72 : decode cX9_buySheet 72 = .ok (.getfield 33, 3) := by decide +kernel
theorem dX9_buySheet_75 : decode cX9_buySheet 75 = .ok (.isub, 1) := by decide +kernel
theorem dX9_buySheet_76 : decode cX9_buySheet 76 = .ok (.invokevirtual 29, 3) := by decide +kernel
theorem dX9_buySheet_79 : decode cX9_buySheet 79 = .ok (.ireturn, 1) := by decide +kernel
theorem dX9_buySheet_80 : decode cX9_buySheet 80 = .ok (.aload_n 0, 1) := by decide +kernel
theorem dX9_buySheet_81 : decode cX9_buySheet 81 = .ok (.getfield 12, 3) := by decide +kernel
theorem dX9_buySheet_84 : decode cX9_buySheet 84 = .ok (.dup, 1) := by decide +kernel
theorem dX9_buySheet_85 : decode cX9_buySheet 85 = .ok (.getfield 33, 3) := by decide +kernel
theorem dX9_buySheet_88 : decode cX9_buySheet 88 = .ok (.iload_n 1, 1) := by decide +kernel
theorem dX9_buySheet_89 : decode cX9_buySheet 89 = .ok (.isub, 1) := by decide +kernel
theorem dX9_buySheet_90 : decode cX9_buySheet 90 = .ok (.putfield 33, 3) := by decide +kernel
theorem dX9_buySheet_93 : decode cX9_buySheet 93 = .ok (.aload_n 0, 1) := by decide +kernel
theorem dX9_buySheet_94 : decode cX9_buySheet 94 = .ok (.getfield 12, 3) := by decide +kernel
theorem dX9_buySheet_97 : decode cX9_buySheet 97 = .ok (.getfield 36, 3) := by decide +kernel
theorem dX9_buySheet_100 : decode cX9_buySheet 100 = .ok (.iload_n 3, 1) := by decide +kernel
theorem dX9_buySheet_101 : decode cX9_buySheet 101 = .ok (.aaload, 1) := by decide +kernel
theorem dX9_buySheet_102 : decode cX9_buySheet 102 = .ok (.iload_n 1, 1) := by decide +kernel
theorem dX9_buySheet_103 : decode cX9_buySheet 103 = .ok (.iload_n 2, 1) := by decide +kernel
theorem dX9_buySheet_104 : decode cX9_buySheet 104 = .ok (.invokevirtual 40, 3) := by decide +kernel
theorem dX9_buySheet_107 : decode cX9_buySheet 107 = .ok (.aload_n 0, 1) := by decide +kernel
theorem dX9_buySheet_108 : decode cX9_buySheet 108 = .ok (.getfield 12, 3) := by decide +kernel
theorem dX9_buySheet_111 : decode cX9_buySheet 111 = .ok (.dup, 1) := by decide +kernel
theorem dX9_buySheet_112 : decode cX9_buySheet 112 = .ok (.getfield 25, 3) := by decide +kernel
theorem dX9_buySheet_115 : decode cX9_buySheet 115 = .ok (.iconst 1, 1) := by decide +kernel
theorem dX9_buySheet_116 : decode cX9_buySheet 116 = .ok (.iadd, 1) := by decide +kernel
theorem dX9_buySheet_117 : decode cX9_buySheet 117 = .ok (.putfield 25, 3) := by decide +kernel
theorem dX9_buySheet_120 : decode cX9_buySheet 120 = .ok (.iload_n 3, 1) := by decide +kernel
theorem dX9_buySheet_121 : decode cX9_buySheet 121 = .ok (.ireturn, 1) := by decide +kernel
theorem dX9_raisePot_0 : decode cX9_raisePot 0 = .ok (.aload_n 0, 1) := by decide +kernel
theorem dX9_raisePot_1 : decode cX9_raisePot 1 = .ok (.getfield 12, 3) := by decide +kernel
theorem dX9_raisePot_4 : decode cX9_raisePot 4 = .ok (.iload_n 1, 1) := by decide +kernel
theorem dX9_raisePot_5 : decode cX9_raisePot 5 = .ok (.invokevirtual 46, 3) := by decide +kernel
theorem dX9_raisePot_8 : decode cX9_raisePot 8 = .ok (.astore_n 3, 1) := by decide +kernel
theorem dX9_raisePot_9 : decode cX9_raisePot 9 = .ok (.aload_n 3, 1) := by decide +kernel
theorem dX9_raisePot_10 : decode cX9_raisePot 10 = .ok (.ifnonnull 5, 3) := by decide +kernel
theorem dX9_raisePot_13 : decode cX9_raisePot 13 = .ok (.iconst (-1), 1) := by decide +kernel
theorem dX9_raisePot_14 : decode cX9_raisePot 14 = .ok (.ireturn, 1) := by decide +kernel
theorem dX9_raisePot_15 : decode cX9_raisePot 15 = .ok (.iload_n 2, 1) := by decide +kernel
theorem dX9_raisePot_16 : decode cX9_raisePot 16 = .ok (.invokestatic 50, 3) := by decide +kernel
theorem dX9_raisePot_19 : decode cX9_raisePot 19 = .ok (.astore 4, 2) := by decide +kernel
theorem dX9_raisePot_21 : decode cX9_raisePot 21 = .ok (.aload 4, 2) := by decide +kernel
theorem dX9_raisePot_23 : decode cX9_raisePot 23 = .ok (.ifnonnull 6, 3) := by decide +kernel
theorem dX9_raisePot_26 : decode cX9_raisePot 26 = .ok (.bipush (-2), 2) := by decide +kernel
theorem dX9_raisePot_28 : decode cX9_raisePot 28 = .ok (.ireturn, 1) := by decide +kernel
theorem dX9_raisePot_29 : decode cX9_raisePot 29 = .ok (.aload_n 0, 1) := by decide +kernel
theorem dX9_raisePot_30 : decode cX9_raisePot 30 = .ok (.getfield 12, 3) := by decide +kernel
theorem dX9_raisePot_33 : decode cX9_raisePot 33 = .ok (.getfield 56, 3) := by decide +kernel
theorem dX9_raisePot_36 : decode cX9_raisePot 36 = .ok (.istore 5, 2) := by decide +kernel
theorem dX9_raisePot_38 : decode cX9_raisePot 38 = .ok (.iload 5, 2) := by decide +kernel
theorem dX9_raisePot_40 : decode cX9_raisePot 40 = .ok (.bipush 16, 2) := by decide +kernel
theorem dX9_raisePot_42 : decode cX9_raisePot 42 = .ok (.if_icmp .lt 14, 3) := by decide +kernel
theorem dX9_raisePot_45 : decode cX9_raisePot 45 = .ok (.aload_n 0, 1) := by decide +kernel
theorem dX9_raisePot_46 : decode cX9_raisePot 46 = .ok (.getfield 21, 3) := by decide +kernel
theorem dX9_raisePot_49 : decode cX9_raisePot 49 = .ok (.iconst 1, 1) := by decide +kernel
theorem dX9_raisePot_50 : decode cX9_raisePot 50 = .ok (.bipush 16, 2) := by decide +kernel
theorem dX9_raisePot_52 : decode cX9_raisePot 52 = .ok (.invokevirtual 29, 3) := by decide +kernel
theorem dX9_raisePot_55 : decode cX9_raisePot 55 = .ok (.ireturn, 1) := by decide +kernel
theorem dX9_raisePot_56 : decode cX9_raisePot 56 = .ok (.aload_n 3, 1) := by decide +kernel
theorem dX9_raisePot_57 : decode cX9_raisePot 57 = .ok (.getfield 59, 3) := by decide +kernel
theorem dX9_raisePot_60 : decode cX9_raisePot 60 = .ok (.aload 4, 2) := by decide +kernel
theorem dX9_raisePot_62 : decode cX9_raisePot 62 = .ok (.getfield 62, 3) := by decide +kernel
theorem dX9_raisePot_65 : decode cX9_raisePot 65 = .ok (.if_icmp .ge 22, 3) := by decide +kernel
theorem dX9_raisePot_68 : decode cX9_raisePot 68 = .ok (.aload_n 0, 1) := by decide +kernel
theorem dX9_raisePot_69 : decode cX9_raisePot 69 = .ok (.getfield 21, 3) := by decide +kernel
theorem dX9_raisePot_72 : decode cX9_raisePot 72 = .ok (.iconst 3, 1) := by decide +kernel
theorem dX9_raisePot_73 : decode cX9_raisePot 73 = .ok (.aload 4, 2) := by decide +kernel
theorem dX9_raisePot_75 : decode cX9_raisePot 75 = .ok (.getfield 62, 3) := by decide +kernel
theorem dX9_raisePot_78 : decode cX9_raisePot 78 = .ok (.aload_n 3, 1) := by decide +kernel
theorem dX9_raisePot_79 : decode cX9_raisePot 79 = .ok (.getfield 59, 3) := by decide +kernel
theorem dX9_raisePot_82 : decode cX9_raisePot 82 = .ok (.isub, 1) := by decide +kernel
theorem dX9_raisePot_83 : decode cX9_raisePot 83 = .ok (.invokevirtual 29, 3) := by decide +kernel
theorem dX9_raisePot_86 : decode cX9_raisePot 86 = .ok (.ireturn, 1) := by decide +kernel
theorem dX9_raisePot_87 : decode cX9_raisePot 87 = .ok (.aload_n 3, 1) := by decide +kernel
theorem dX9_raisePot_88 : decode cX9_raisePot 88 = .ok (.dup, 1) := by decide +kernel
theorem dX9_raisePot_89 : decode cX9_raisePot 89 = .ok (.getfield 59, 3) := by decide +kernel
theorem dX9_raisePot_92 : decode cX9_raisePot 92 = .ok (.aload 4, 2) := by decide +kernel
theorem dX9_raisePot_94 : decode cX9_raisePot 94 = .ok (.getfield 62, 3) := by decide +kernel
theorem dX9_raisePot_97 : decode cX9_raisePot 97 = .ok (.isub, 1) := by decide +kernel
theorem dX9_raisePot_98 : decode cX9_raisePot 98 = .ok (.putfield 59, 3) := by decide +kernel
theorem dX9_raisePot_101 : decode cX9_raisePot 101 = .ok (.aload_n 3, 1) := by decide +kernel
theorem dX9_raisePot_102 : decode cX9_raisePot 102 = .ok (.dup, 1) := by decide +kernel
theorem dX9_raisePot_103 : decode cX9_raisePot 103 = .ok (.getfield 63, 3) := by decide +kernel
theorem dX9_raisePot_106 : decode cX9_raisePot 106 = .ok (.iconst 1, 1) := by decide +kernel
theorem dX9_raisePot_107 : decode cX9_raisePot 107 = .ok (.iadd, 1) := by decide +kernel
theorem dX9_raisePot_108 : decode cX9_raisePot 108 = .ok (.putfield 63, 3) := by decide +kernel
theorem dX9_raisePot_111 : decode cX9_raisePot 111 = .ok (.aload_n 0, 1) := by decide +kernel
theorem dX9_raisePot_112 : decode cX9_raisePot 112 = .ok (.getfield 12, 3) := by decide +kernel
theorem dX9_raisePot_115 : decode cX9_raisePot 115 = .ok (.getfield 66, 3) := by decide +kernel
theorem dX9_raisePot_118 : decode cX9_raisePot 118 = .ok (.iload 5, 2) := by decide +kernel
theorem dX9_raisePot_120 : decode cX9_raisePot 120 = .ok (.aaload, 1) := by decide +kernel
theorem dX9_raisePot_121 : decode cX9_raisePot 121 = .ok (.aload 4, 2) := by decide +kernel
theorem dX9_raisePot_123 : decode cX9_raisePot 123 = .ok (.iload_n 1, 1) := by decide +kernel
theorem dX9_raisePot_124 : decode cX9_raisePot 124 = .ok (.aload_n 3, 1) := by decide +kernel
theorem dX9_raisePot_125 : decode cX9_raisePot 125 = .ok (.getfield 69, 3) := by decide +kernel
theorem dX9_raisePot_128 : decode cX9_raisePot 128 = .ok (.invokevirtual 72, 3) := by decide +kernel
theorem dX9_raisePot_131 : decode cX9_raisePot 131 = .ok (.aload_n 0, 1) := by decide +kernel
theorem dX9_raisePot_132 : decode cX9_raisePot 132 = .ok (.getfield 12, 3) := by decide +kernel
theorem dX9_raisePot_135 : decode cX9_raisePot 135 = .ok (.dup, 1) := by decide +kernel
theorem dX9_raisePot_136 : decode cX9_raisePot 136 = .ok (.getfield 56, 3) := by decide +kernel
theorem dX9_raisePot_139 : decode cX9_raisePot 139 = .ok (.iconst 1, 1) := by decide +kernel
theorem dX9_raisePot_140 : decode cX9_raisePot 140 = .ok (.iadd, 1) := by decide +kernel
theorem dX9_raisePot_141 : decode cX9_raisePot 141 = .ok (.putfield 56, 3) := by decide +kernel
theorem dX9_raisePot_144 : decode cX9_raisePot 144 = .ok (.iload 5, 2) := by decide +kernel
theorem dX9_raisePot_146 : decode cX9_raisePot 146 = .ok (.ireturn, 1) := by decide +kernel
theorem dX9_hit_0 : decode cX9_hit 0 = .ok (.aload_n 0, 1) := by decide +kernel
theorem dX9_hit_1 : decode cX9_hit 1 = .ok (.getfield 12, 3) := by decide +kernel
theorem dX9_hit_4 : decode cX9_hit 4 = .ok (.iload_n 1, 1) := by decide +kernel
theorem dX9_hit_5 : decode cX9_hit 5 = .ok (.invokevirtual 77, 3) := by decide +kernel
theorem dX9_hit_8 : decode cX9_hit 8 = .ok (.astore_n 3, 1) := by decide +kernel
theorem dX9_hit_9 : decode cX9_hit 9 = .ok (.aload_n 3, 1) := by decide +kernel
theorem dX9_hit_10 : decode cX9_hit 10 = .ok (.ifnonnull 5, 3) := by decide +kernel
theorem dX9_hit_13 : decode cX9_hit 13 = .ok (.iconst (-1), 1) := by decide +kernel
theorem dX9_hit_14 : decode cX9_hit 14 = .ok (.ireturn, 1) := by decide +kernel
theorem dX9_hit_15 : decode cX9_hit 15 = .ok (.iload_n 2, 1) := by decide +kernel
theorem dX9_hit_16 : decode cX9_hit 16 = .ok (.iconst 1, 1) := by decide +kernel
theorem dX9_hit_17 : decode cX9_hit 17 = .ok (.if_icmp .lt 9, 3) := by decide +kernel
theorem dX9_hit_20 : decode cX9_hit 20 = .ok (.iload_n 2, 1) := by decide +kernel
theorem dX9_hit_21 : decode cX9_hit 21 = .ok (.bipush 99, 2) := by decide +kernel
theorem dX9_hit_23 : decode cX9_hit 23 = .ok (.if_icmp .le 6, 3) := by decide +kernel
theorem dX9_hit_26 : decode cX9_hit 26 = .ok (.bipush (-2), 2) := by decide +kernel
theorem dX9_hit_28 : decode cX9_hit 28 = .ok (.ireturn, 1) := by decide +kernel
theorem dX9_hit_29 : decode cX9_hit 29 = .ok (.aload_n 0, 1) := by decide +kernel
theorem dX9_hit_30 : decode cX9_hit 30 = .ok (.aload_n 3, 1) := by decide +kernel
theorem dX9_hit_31 : decode cX9_hit 31 = .ok (.invokevirtual 81, 3) := by decide +kernel
theorem dX9_hit_34 : decode cX9_hit 34 = .ok (.ifCond .ne 6, 3) := by decide +kernel
theorem dX9_hit_37 : decode cX9_hit 37 = .ok (.bipush (-3), 2) := by decide +kernel
theorem dX9_hit_39 : decode cX9_hit 39 = .ok (.ireturn, 1) := by decide +kernel
theorem dX9_hit_40 : decode cX9_hit 40 = .ok (.aload_n 3, 1) := by decide +kernel
theorem dX9_hit_41 : decode cX9_hit 41 = .ok (.dup, 1) := by decide +kernel
theorem dX9_hit_42 : decode cX9_hit 42 = .ok (.getfield 85, 3) := by decide +kernel
theorem dX9_hit_45 : decode cX9_hit 45 = .ok (.iload_n 2, 1) := by decide +kernel
theorem dX9_hit_46 : decode cX9_hit 46 = .ok (.iadd, 1) := by decide +kernel
theorem dX9_hit_47 : decode cX9_hit 47 = .ok (.putfield 85, 3) := by decide +kernel
theorem dX9_hit_50 : decode cX9_hit 50 = .ok (.aload_n 3, 1) := by decide +kernel
theorem dX9_hit_51 : decode cX9_hit 51 = .ok (.invokevirtual 88, 3) := by decide +kernel
theorem dX9_hit_54 : decode cX9_hit 54 = .ok (.ireturn, 1) := by decide +kernel
theorem dX9_buyBars_0 : decode cX9_buyBars 0 = .ok (.iload_n 1, 1) := by decide +kernel
theorem dX9_buyBars_1 : decode cX9_buyBars 1 = .ok (.iconst 1, 1) := by decide +kernel
theorem dX9_buyBars_2 : decode cX9_buyBars 2 = .ok (.if_icmp .lt 9, 3) := by decide +kernel
theorem dX9_buyBars_5 : decode cX9_buyBars 5 = .ok (.iload_n 1, 1) := by decide +kernel
theorem dX9_buyBars_6 : decode cX9_buyBars 6 = .ok (.bipush 50, 2) := by decide +kernel
theorem dX9_buyBars_8 : decode cX9_buyBars 8 = .ok (.if_icmp .le 6, 3) := by decide +kernel
theorem dX9_buyBars_11 : decode cX9_buyBars 11 = .ok (.bipush (-2), 2) := by decide +kernel
theorem dX9_buyBars_13 : decode cX9_buyBars 13 = .ok (.ireturn, 1) := by decide +kernel
theorem dX9_buyBars_14 : decode cX9_buyBars 14 = .ok (.aload_n 0, 1) := by decide +kernel
theorem dX9_buyBars_15 : decode cX9_buyBars 15 = .ok (.getfield 12, 3) := by decide +kernel
theorem dX9_buyBars_18 : decode cX9_buyBars 18 = .ok (.getfield 33, 3) := by decide +kernel
theorem dX9_buyBars_21 : decode cX9_buyBars 21 = .ok (.iload_n 1, 1) := by decide +kernel
theorem dX9_buyBars_22 : decode cX9_buyBars 22 = .ok (.if_icmp .ge 21, 3) := by decide +kernel
theorem dX9_buyBars_25 : decode cX9_buyBars 25 = .ok (.aload_n 0, 1) := by decide +kernel
theorem dX9_buyBars_26 : decode cX9_buyBars 26 = .ok (.getfield 21, 3) := by decide +kernel
theorem dX9_buyBars_29 : decode cX9_buyBars 29 = .ok (.iconst 2, 1) := by decide +kernel
theorem dX9_buyBars_30 : decode cX9_buyBars 30 = .ok (.iload_n 1, 1) := by decide +kernel
theorem dX9_buyBars_31 : decode cX9_buyBars 31 = .ok (.aload_n 0, 1) := by decide +kernel
theorem dX9_buyBars_32 : decode cX9_buyBars 32 = .ok (.getfield 12, 3) := by decide +kernel
theorem dX9_buyBars_35 : decode cX9_buyBars 35 = .ok (.getfield 33, 3) := by decide +kernel
theorem dX9_buyBars_38 : decode cX9_buyBars 38 = .ok (.isub, 1) := by decide +kernel
theorem dX9_buyBars_39 : decode cX9_buyBars 39 = .ok (.invokevirtual 29, 3) := by decide +kernel
theorem dX9_buyBars_42 : decode cX9_buyBars 42 = .ok (.ireturn, 1) := by decide +kernel
theorem dX9_buyBars_43 : decode cX9_buyBars 43 = .ok (.aload_n 0, 1) := by decide +kernel
theorem dX9_buyBars_44 : decode cX9_buyBars 44 = .ok (.getfield 12, 3) := by decide +kernel
theorem dX9_buyBars_47 : decode cX9_buyBars 47 = .ok (.dup, 1) := by decide +kernel
theorem dX9_buyBars_48 : decode cX9_buyBars 48 = .ok (.getfield 33, 3) := by decide +kernel
theorem dX9_buyBars_51 : decode cX9_buyBars 51 = .ok (.iload_n 1, 1) := by decide +kernel
theorem dX9_buyBars_52 : decode cX9_buyBars 52 = .ok (.isub, 1) := by decide +kernel
theorem dX9_buyBars_53 : decode cX9_buyBars 53 = .ok (.putfield 33, 3) := by decide +kernel
theorem dX9_buyBars_56 : decode cX9_buyBars 56 = .ok (.aload_n 0, 1) := by decide +kernel
theorem dX9_buyBars_57 : decode cX9_buyBars 57 = .ok (.getfield 12, 3) := by decide +kernel
theorem dX9_buyBars_60 : decode cX9_buyBars 60 = .ok (.dup, 1) := by decide +kernel
theorem dX9_buyBars_61 : decode cX9_buyBars 61 = .ok (.getfield 92, 3) := by decide +kernel
theorem dX9_buyBars_64 : decode cX9_buyBars 64 = .ok (.iload_n 1, 1) := by decide +kernel
theorem dX9_buyBars_65 : decode cX9_buyBars 65 = .ok (.iadd, 1) := by decide +kernel
theorem dX9_buyBars_66 : decode cX9_buyBars 66 = .ok (.putfield 92, 3) := by decide +kernel
theorem dX9_buyBars_69 : decode cX9_buyBars 69 = .ok (.aload_n 0, 1) := by decide +kernel
theorem dX9_buyBars_70 : decode cX9_buyBars 70 = .ok (.getfield 12, 3) := by decide +kernel
theorem dX9_buyBars_73 : decode cX9_buyBars 73 = .ok (.dup, 1) := by decide +kernel
theorem dX9_buyBars_74 : decode cX9_buyBars 74 = .ok (.getfield 95, 3) := by decide +kernel
theorem dX9_buyBars_77 : decode cX9_buyBars 77 = .ok (.iload_n 1, 1) := by decide +kernel
theorem dX9_buyBars_78 : decode cX9_buyBars 78 = .ok (.iadd, 1) := by decide +kernel
theorem dX9_buyBars_79 : decode cX9_buyBars 79 = .ok (.putfield 95, 3) := by decide +kernel
theorem dX9_buyBars_82 : decode cX9_buyBars 82 = .ok (.aload_n 0, 1) := by decide +kernel
theorem dX9_buyBars_83 : decode cX9_buyBars 83 = .ok (.getfield 12, 3) := by decide +kernel
theorem dX9_buyBars_86 : decode cX9_buyBars 86 = .ok (.getfield 92, 3) := by decide +kernel
theorem dX9_buyBars_89 : decode cX9_buyBars 89 = .ok (.ireturn, 1) := by decide +kernel
theorem dX9_coat_0 : decode cX9_coat 0 = .ok (.aload_n 0, 1) := by decide +kernel
theorem dX9_coat_1 : decode cX9_coat 1 = .ok (.getfield 12, 3) := by decide +kernel
theorem dX9_coat_4 : decode cX9_coat 4 = .ok (.iload_n 1, 1) := by decide +kernel
theorem dX9_coat_5 : decode cX9_coat 5 = .ok (.invokevirtual 77, 3) := by decide +kernel
theorem dX9_coat_8 : decode cX9_coat 8 = .ok (.astore_n 3, 1) := by decide +kernel
theorem dX9_coat_9 : decode cX9_coat 9 = .ok (.aload_n 3, 1) := by decide +kernel
theorem dX9_coat_10 : decode cX9_coat 10 = .ok (.ifnonnull 5, 3) := by decide +kernel
theorem dX9_coat_13 : decode cX9_coat 13 = .ok (.iconst (-1), 1) := by decide +kernel
theorem dX9_coat_14 : decode cX9_coat 14 = .ok (.ireturn, 1) := by decide +kernel
theorem dX9_coat_15 : decode cX9_coat 15 = .ok (.iload_n 2, 1) := by decide +kernel
theorem dX9_coat_16 : decode cX9_coat 16 = .ok (.iconst 1, 1) := by decide +kernel
theorem dX9_coat_17 : decode cX9_coat 17 = .ok (.if_icmp .lt 9, 3) := by decide +kernel
theorem dX9_coat_20 : decode cX9_coat 20 = .ok (.iload_n 2, 1) := by decide +kernel
theorem dX9_coat_21 : decode cX9_coat 21 = .ok (.bipush 9, 2) := by decide +kernel
theorem dX9_coat_23 : decode cX9_coat 23 = .ok (.if_icmp .le 6, 3) := by decide +kernel
theorem dX9_coat_26 : decode cX9_coat 26 = .ok (.bipush (-2), 2) := by decide +kernel
theorem dX9_coat_28 : decode cX9_coat 28 = .ok (.ireturn, 1) := by decide +kernel
theorem dX9_coat_29 : decode cX9_coat 29 = .ok (.aload_n 0, 1) := by decide +kernel
theorem dX9_coat_30 : decode cX9_coat 30 = .ok (.aload_n 3, 1) := by decide +kernel
theorem dX9_coat_31 : decode cX9_coat 31 = .ok (.invokevirtual 81, 3) := by decide +kernel
theorem dX9_coat_34 : decode cX9_coat 34 = .ok (.ifCond .ne 6, 3) := by decide +kernel
theorem dX9_coat_37 : decode cX9_coat 37 = .ok (.bipush (-3), 2) := by decide +kernel
theorem dX9_coat_39 : decode cX9_coat 39 = .ok (.ireturn, 1) := by decide +kernel
theorem dX9_coat_40 : decode cX9_coat 40 = .ok (.aload_n 3, 1) := by decide +kernel
theorem dX9_coat_41 : decode cX9_coat 41 = .ok (.invokevirtual 98, 3) := by decide +kernel
theorem dX9_coat_44 : decode cX9_coat 44 = .ok (.ifCond .ne 24, 3) := by decide +kernel
theorem dX9_coat_47 : decode cX9_coat 47 = .ok (.aload_n 0, 1) := by decide +kernel
theorem dX9_coat_48 : decode cX9_coat 48 = .ok (.getfield 21, 3) := by decide +kernel
theorem dX9_coat_51 : decode cX9_coat 51 = .ok (.bipush 6, 2) := by decide +kernel
theorem dX9_coat_53 : decode cX9_coat 53 = .ok (.aload_n 3, 1) := by decide +kernel
theorem dX9_coat_54 : decode cX9_coat 54 = .ok (.aload_n 3, 1) := by decide +kernel
theorem dX9_coat_55 : decode cX9_coat 55 = .ok (.getfield 102, 3) := by decide +kernel
theorem dX9_coat_58 : decode cX9_coat 58 = .ok (.getfield 106, 3) := by decide +kernel
theorem dX9_coat_61 : decode cX9_coat 61 = .ok (.invokevirtual 109, 3) := by decide +kernel
theorem dX9_coat_64 : decode cX9_coat 64 = .ok (.invokevirtual 29, 3) := by decide +kernel
theorem dX9_coat_67 : decode cX9_coat 67 = .ok (.ireturn, 1) := by decide +kernel
theorem dX9_coat_68 : decode cX9_coat 68 = .ok (.aload_n 3, 1) := by decide +kernel
theorem dX9_coat_69 : decode cX9_coat 69 = .ok (.getfield 113, 3) := by decide +kernel
theorem dX9_coat_72 : decode cX9_coat 72 = .ok (.iload_n 2, 1) := by decide +kernel
theorem dX9_coat_73 : decode cX9_coat 73 = .ok (.iadd, 1) := by decide +kernel
theorem dX9_coat_74 : decode cX9_coat 74 = .ok (.bipush 9, 2) := by decide +kernel
theorem dX9_coat_76 : decode cX9_coat 76 = .ok (.if_icmp .le 19, 3) := by decide +kernel
theorem dX9_coat_79 : decode cX9_coat 79 = .ok (.aload_n 0, 1) := by decide +kernel
theorem dX9_coat_80 : decode cX9_coat 80 = .ok (.getfield 21, 3) := by decide +kernel
theorem dX9_coat_83 : decode cX9_coat 83 = .ok (.bipush 7, 2) := by decide +kernel
theorem dX9_coat_85 : decode cX9_coat 85 = .ok (.aload_n 3, 1) := by decide +kernel
theorem dX9_coat_86 : decode cX9_coat 86 = .ok (.getfield 113, 3) := by decide +kernel
theorem dX9_coat_89 : decode cX9_coat 89 = .ok (.iload_n 2, 1) := by decide +kernel
theorem dX9_coat_90 : decode cX9_coat 90 = .ok (.iadd, 1) := by decide +kernel
theorem dX9_coat_91 : decode cX9_coat 91 = .ok (.invokevirtual 29, 3) := by decide +kernel
theorem dX9_coat_94 : decode cX9_coat 94 = .ok (.ireturn, 1) := by decide +kernel
theorem dX9_coat_95 : decode cX9_coat 95 = .ok (.aload_n 3, 1) := by decide +kernel
theorem dX9_coat_96 : decode cX9_coat 96 = .ok (.getfield 102, 3) := by decide +kernel
theorem dX9_coat_99 : decode cX9_coat 99 = .ok (.iload_n 2, 1) := by decide +kernel
theorem dX9_coat_100 : decode cX9_coat 100 = .ok (.invokevirtual 116, 3) := by decide +kernel
theorem dX9_coat_103 : decode cX9_coat 103 = .ok (.istore 4, 2) := by decide +kernel
theorem dX9_coat_105 : decode cX9_coat 105 = .ok (.aload_n 0, 1) := by decide +kernel
theorem dX9_coat_106 : decode cX9_coat 106 = .ok (.getfield 12, 3) := by decide +kernel
theorem dX9_coat_109 : decode cX9_coat 109 = .ok (.getfield 92, 3) := by decide +kernel
theorem dX9_coat_112 : decode cX9_coat 112 = .ok (.iload 4, 2) := by decide +kernel
theorem dX9_coat_114 : decode cX9_coat 114 = .ok (.if_icmp .ge 23, 3) := by decide +kernel
theorem dX9_coat_117 : decode cX9_coat 117 = .ok (.aload_n 0, 1) := by decide +kernel
theorem dX9_coat_118 : decode cX9_coat 118 = .ok (.getfield 21, 3) := by decide +kernel
theorem dX9_coat_121 : decode cX9_coat 121 = .ok (.bipush 8, 2) := by decide +kernel
theorem dX9_coat_123 : decode cX9_coat 123 = .ok (.iload 4, 2) := by decide +kernel
theorem dX9_coat_125 : decode cX9_coat 125 = .ok (.aload_n 0, 1) := by decide +kernel
theorem dX9_coat_126 : decode cX9_coat 126 = .ok (.getfield 12, 3) := by decide +kernel
theorem dX9_coat_129 : decode cX9_coat 129 = .ok (.getfield 92, 3) := by decide +kernel
theorem dX9_coat_132 : decode cX9_coat 132 = .ok (.isub, 1) := by decide +kernel
theorem dX9_coat_133 : decode cX9_coat 133 = .ok (.invokevirtual 29, 3) := by decide +kernel
theorem dX9_coat_136 : decode cX9_coat 136 = .ok (.ireturn, 1) := by decide +kernel
theorem dX9_coat_137 : decode cX9_coat 137 = .ok (.aload_n 0, 1) := by decide +kernel
theorem dX9_coat_138 : decode cX9_coat 138 = .ok (.getfield 12, 3) := by decide +kernel
theorem dX9_coat_141 : decode cX9_coat 141 = .ok (.dup, 1) := by decide +kernel
theorem dX9_coat_142 : decode cX9_coat 142 = .ok (.getfield 92, 3) := by decide +kernel
theorem dX9_coat_145 : decode cX9_coat 145 = .ok (.iload 4, 2) := by decide +kernel
theorem dX9_coat_147 : decode cX9_coat 147 = .ok (.isub, 1) := by decide +kernel
theorem dX9_coat_148 : decode cX9_coat 148 = .ok (.putfield 92, 3) := by decide +kernel
theorem dX9_coat_151 : decode cX9_coat 151 = .ok (.aload_n 0, 1) := by decide +kernel
theorem dX9_coat_152 : decode cX9_coat 152 = .ok (.getfield 12, 3) := by decide +kernel
theorem dX9_coat_155 : decode cX9_coat 155 = .ok (.dup, 1) := by decide +kernel
theorem dX9_coat_156 : decode cX9_coat 156 = .ok (.getfield 119, 3) := by decide +kernel
theorem dX9_coat_159 : decode cX9_coat 159 = .ok (.iload 4, 2) := by decide +kernel
theorem dX9_coat_161 : decode cX9_coat 161 = .ok (.iadd, 1) := by decide +kernel
theorem dX9_coat_162 : decode cX9_coat 162 = .ok (.putfield 119, 3) := by decide +kernel
theorem dX9_coat_165 : decode cX9_coat 165 = .ok (.aload_n 0, 1) := by decide +kernel
theorem dX9_coat_166 : decode cX9_coat 166 = .ok (.getfield 12, 3) := by decide +kernel
theorem dX9_coat_169 : decode cX9_coat 169 = .ok (.dup, 1) := by decide +kernel
theorem dX9_coat_170 : decode cX9_coat 170 = .ok (.getfield 122, 3) := by decide +kernel
theorem dX9_coat_173 : decode cX9_coat 173 = .ok (.iload_n 2, 1) := by decide +kernel
theorem dX9_coat_174 : decode cX9_coat 174 = .ok (.iadd, 1) := by decide +kernel
theorem dX9_coat_175 : decode cX9_coat 175 = .ok (.putfield 122, 3) := by decide +kernel
theorem dX9_coat_178 : decode cX9_coat 178 = .ok (.aload_n 3, 1) := by decide +kernel
theorem dX9_coat_179 : decode cX9_coat 179 = .ok (.dup, 1) := by decide +kernel
theorem dX9_coat_180 : decode cX9_coat 180 = .ok (.getfield 113, 3) := by decide +kernel
theorem dX9_coat_183 : decode cX9_coat 183 = .ok (.iload_n 2, 1) := by decide +kernel
theorem dX9_coat_184 : decode cX9_coat 184 = .ok (.iadd, 1) := by decide +kernel
theorem dX9_coat_185 : decode cX9_coat 185 = .ok (.putfield 113, 3) := by decide +kernel
theorem dX9_coat_188 : decode cX9_coat 188 = .ok (.aload_n 3, 1) := by decide +kernel
theorem dX9_coat_189 : decode cX9_coat 189 = .ok (.getfield 113, 3) := by decide +kernel
theorem dX9_coat_192 : decode cX9_coat 192 = .ok (.ireturn, 1) := by decide +kernel
theorem dX9_use_0 : decode cX9_use 0 = .ok (.aload_n 0, 1) := by decide +kernel
theorem dX9_use_1 : decode cX9_use 1 = .ok (.getfield 12, 3) := by decide +kernel
theorem dX9_use_4 : decode cX9_use 4 = .ok (.iload_n 1, 1) := by decide +kernel
theorem dX9_use_5 : decode cX9_use 5 = .ok (.invokevirtual 77, 3) := by decide +kernel
theorem dX9_use_8 : decode cX9_use 8 = .ok (.astore_n 3, 1) := by decide +kernel
theorem dX9_use_9 : decode cX9_use 9 = .ok (.aload_n 3, 1) := by decide +kernel
theorem dX9_use_10 : decode cX9_use 10 = .ok (.ifnonnull 5, 3) := by decide +kernel
theorem dX9_use_13 : decode cX9_use 13 = .ok (.iconst (-1), 1) := by decide +kernel
theorem dX9_use_14 : decode cX9_use 14 = .ok (.ireturn, 1) := by decide +kernel
theorem dX9_use_15 : decode cX9_use 15 = .ok (.iload_n 2, 1) := by decide +kernel
theorem dX9_use_16 : decode cX9_use 16 = .ok (.iconst 1, 1) := by decide +kernel
theorem dX9_use_17 : decode cX9_use 17 = .ok (.if_icmp .lt 9, 3) := by decide +kernel
theorem dX9_use_20 : decode cX9_use 20 = .ok (.iload_n 2, 1) := by decide +kernel
theorem dX9_use_21 : decode cX9_use 21 = .ok (.bipush 99, 2) := by decide +kernel
theorem dX9_use_23 : decode cX9_use 23 = .ok (.if_icmp .le 6, 3) := by decide +kernel
theorem dX9_use_26 : decode cX9_use 26 = .ok (.bipush (-2), 2) := by decide +kernel
theorem dX9_use_28 : decode cX9_use 28 = .ok (.ireturn, 1) := by decide +kernel
theorem dX9_use_29 : decode cX9_use 29 = .ok (.aload_n 0, 1) := by decide +kernel
theorem dX9_use_30 : decode cX9_use 30 = .ok (.aload_n 3, 1) := by decide +kernel
theorem dX9_use_31 : decode cX9_use 31 = .ok (.invokevirtual 81, 3) := by decide +kernel
theorem dX9_use_34 : decode cX9_use 34 = .ok (.ifCond .ne 6, 3) := by decide +kernel
theorem dX9_use_37 : decode cX9_use 37 = .ok (.bipush (-3), 2) := by decide +kernel
theorem dX9_use_39 : decode cX9_use 39 = .ok (.ireturn, 1) := by decide +kernel
theorem dX9_use_40 : decode cX9_use 40 = .ok (.aload_n 3, 1) := by decide +kernel
theorem dX9_use_41 : decode cX9_use 41 = .ok (.getfield 113, 3) := by decide +kernel
theorem dX9_use_44 : decode cX9_use 44 = .ok (.ifCond .ne 14, 3) := by decide +kernel
theorem dX9_use_47 : decode cX9_use 47 = .ok (.aload_n 0, 1) := by decide +kernel
theorem dX9_use_48 : decode cX9_use 48 = .ok (.getfield 21, 3) := by decide +kernel
theorem dX9_use_51 : decode cX9_use 51 = .ok (.bipush 9, 2) := by decide +kernel
theorem dX9_use_53 : decode cX9_use 53 = .ok (.iload_n 1, 1) := by decide +kernel
theorem dX9_use_54 : decode cX9_use 54 = .ok (.invokevirtual 29, 3) := by decide +kernel
theorem dX9_use_57 : decode cX9_use 57 = .ok (.ireturn, 1) := by decide +kernel
theorem dX9_use_58 : decode cX9_use 58 = .ok (.aload_n 3, 1) := by decide +kernel
theorem dX9_use_59 : decode cX9_use 59 = .ok (.iload_n 2, 1) := by decide +kernel
theorem dX9_use_60 : decode cX9_use 60 = .ok (.invokevirtual 125, 3) := by decide +kernel
theorem dX9_use_63 : decode cX9_use 63 = .ok (.aload_n 3, 1) := by decide +kernel
theorem dX9_use_64 : decode cX9_use 64 = .ok (.getfield 113, 3) := by decide +kernel
theorem dX9_use_67 : decode cX9_use 67 = .ok (.ireturn, 1) := by decide +kernel
theorem dX9_takeOrder_0 : decode cX9_takeOrder 0 = .ok (.iload_n 1, 1) := by decide +kernel
theorem dX9_takeOrder_1 : decode cX9_takeOrder 1 = .ok (.invokestatic 50, 3) := by decide +kernel
theorem dX9_takeOrder_4 : decode cX9_takeOrder 4 = .ok (.astore 4, 2) := by decide +kernel
theorem dX9_takeOrder_6 : decode cX9_takeOrder 6 = .ok (.aload 4, 2) := by decide +kernel
theorem dX9_takeOrder_8 : decode cX9_takeOrder 8 = .ok (.ifnull 25, 3) := by decide +kernel
theorem dX9_takeOrder_11 : decode cX9_takeOrder 11 = .ok (.iload_n 2, 1) := by decide +kernel
theorem dX9_takeOrder_12 : decode cX9_takeOrder 12 = .ok (.iconst 1, 1) := by decide +kernel
theorem dX9_takeOrder_13 : decode cX9_takeOrder 13 = .ok (.if_icmp .lt 20, 3) := by decide +kernel
theorem dX9_takeOrder_16 : decode cX9_takeOrder 16 = .ok (.iload_n 2, 1) := by decide +kernel
theorem dX9_takeOrder_17 : decode cX9_takeOrder 17 = .ok (.bipush 9, 2) := by decide +kernel
theorem dX9_takeOrder_19 : decode cX9_takeOrder 19 = .ok (.if_icmp .gt 14, 3) := by decide +kernel
theorem dX9_takeOrder_22 : decode cX9_takeOrder 22 = .ok (.iload_n 3, 1) := by decide +kernel
theorem dX9_takeOrder_23 : decode cX9_takeOrder 23 = .ok (.iconst 1, 1) := by decide +kernel
theorem dX9_takeOrder_24 : decode cX9_takeOrder 24 = .ok (.if_icmp .lt 9, 3) := by decide +kernel
theorem dX9_takeOrder_27 : decode cX9_takeOrder 27 = .ok (.iload_n 3, 1) := by decide +kernel
theorem dX9_takeOrder_28 : decode cX9_takeOrder 28 = .ok (.bipush 99, 2) := by decide +kernel
theorem dX9_takeOrder_30 : decode cX9_takeOrder 30 = .ok (.if_icmp .le 6, 3) := by decide +kernel
theorem dX9_takeOrder_33 : decode cX9_takeOrder 33 = .ok (.bipush (-2), 2) := by decide +kernel
theorem dX9_takeOrder_35 : decode cX9_takeOrder 35 = .ok (.ireturn, 1) := by decide +kernel
theorem dX9_takeOrder_36 : decode cX9_takeOrder 36 = .ok (.aload_n 0, 1) := by decide +kernel
theorem dX9_takeOrder_37 : decode cX9_takeOrder 37 = .ok (.getfield 12, 3) := by decide +kernel
theorem dX9_takeOrder_40 : decode cX9_takeOrder 40 = .ok (.getfield 129, 3) := by decide +kernel
theorem dX9_takeOrder_43 : decode cX9_takeOrder 43 = .ok (.istore 5, 2) := by decide +kernel
theorem dX9_takeOrder_45 : decode cX9_takeOrder 45 = .ok (.iload 5, 2) := by decide +kernel
theorem dX9_takeOrder_47 : decode cX9_takeOrder 47 = .ok (.bipush 8, 2) := by decide +kernel
theorem dX9_takeOrder_49 : decode cX9_takeOrder 49 = .ok (.if_icmp .lt 14, 3) := by decide +kernel
theorem dX9_takeOrder_52 : decode cX9_takeOrder 52 = .ok (.aload_n 0, 1) := by decide +kernel
theorem dX9_takeOrder_53 : decode cX9_takeOrder 53 = .ok (.getfield 21, 3) := by decide +kernel
theorem dX9_takeOrder_56 : decode cX9_takeOrder 56 = .ok (.iconst 1, 1) := by decide +kernel
theorem dX9_takeOrder_57 : decode cX9_takeOrder 57 = .ok (.bipush 8, 2) := by decide +kernel
theorem dX9_takeOrder_59 : decode cX9_takeOrder 59 = .ok (.invokevirtual 29, 3) := by decide +kernel
theorem dX9_takeOrder_62 : decode cX9_takeOrder 62 = .ok (.ireturn, 1) := by decide +kernel
theorem dX9_takeOrder_63 : decode cX9_takeOrder 63 = .ok (.aload_n 0, 1) := by decide +kernel
theorem dX9_takeOrder_64 : decode cX9_takeOrder 64 = .ok (.getfield 12, 3) := by decide +kernel
theorem dX9_takeOrder_67 : decode cX9_takeOrder 67 = .ok (.getfield 132, 3) := by decide +kernel
theorem dX9_takeOrder_70 : decode cX9_takeOrder 70 = .ok (.iload 5, 2) := by decide +kernel
theorem dX9_takeOrder_72 : decode cX9_takeOrder 72 = .ok (.aaload, 1) := by decide +kernel
theorem dX9_takeOrder_73 : decode cX9_takeOrder 73 = .ok (.aload 4, 2) := by decide +kernel
theorem dX9_takeOrder_75 : decode cX9_takeOrder 75 = .ok (.iload_n 2, 1) := by decide +kernel
theorem dX9_takeOrder_76 : decode cX9_takeOrder 76 = .ok (.iload_n 3, 1) := by decide +kernel
theorem dX9_takeOrder_77 : decode cX9_takeOrder 77 = .ok (.invokevirtual 136, 3) := by decide +kernel
theorem dX9_takeOrder_80 : decode cX9_takeOrder 80 = .ok (.aload_n 0, 1) := by decide +kernel
theorem dX9_takeOrder_81 : decode cX9_takeOrder 81 = .ok (.getfield 12, 3) := by decide +kernel
theorem dX9_takeOrder_84 : decode cX9_takeOrder 84 = .ok (.dup, 1) := by decide +kernel
theorem dX9_takeOrder_85 : decode cX9_takeOrder 85 = .ok (.getfield 129, 3) := by decide +kernel
theorem dX9_takeOrder_88 : decode cX9_takeOrder 88 = .ok (.iconst 1, 1) := by decide +kernel
theorem dX9_takeOrder_89 : decode cX9_takeOrder 89 = .ok (.iadd, 1) := by decide +kernel
theorem dX9_takeOrder_90 : decode cX9_takeOrder 90 = .ok (.putfield 129, 3) := by decide +kernel
theorem dX9_takeOrder_93 : decode cX9_takeOrder 93 = .ok (.iload 5, 2) := by decide +kernel
theorem dX9_takeOrder_95 : decode cX9_takeOrder 95 = .ok (.ireturn, 1) := by decide +kernel
theorem dX9_handOver_0 : decode cX9_handOver 0 = .ok (.aload_n 0, 1) := by decide +kernel
theorem dX9_handOver_1 : decode cX9_handOver 1 = .ok (.getfield 12, 3) := by decide +kernel
theorem dX9_handOver_4 : decode cX9_handOver 4 = .ok (.iload_n 1, 1) := by decide +kernel
theorem dX9_handOver_5 : decode cX9_handOver 5 = .ok (.invokevirtual 77, 3) := by decide +kernel
theorem dX9_handOver_8 : decode cX9_handOver 8 = .ok (.astore_n 3, 1) := by decide +kernel
theorem dX9_handOver_9 : decode cX9_handOver 9 = .ok (.aload_n 0, 1) := by decide +kernel
theorem dX9_handOver_10 : decode cX9_handOver 10 = .ok (.getfield 12, 3) := by decide +kernel
theorem dX9_handOver_13 : decode cX9_handOver 13 = .ok (.iload_n 2, 1) := by decide +kernel
theorem dX9_handOver_14 : decode cX9_handOver 14 = .ok (.invokevirtual 139, 3) := by decide +kernel
theorem dX9_handOver_17 : decode cX9_handOver 17 = .ok (.astore 4, 2) := by decide +kernel
theorem dX9_handOver_19 : decode cX9_handOver 19 = .ok (.aload_n 3, 1) := by decide +kernel
theorem dX9_handOver_20 : decode cX9_handOver 20 = .ok (.ifnull 8, 3) := by decide +kernel
theorem dX9_handOver_23 : decode cX9_handOver 23 = .ok (.aload 4, 2) := by decide +kernel
theorem dX9_handOver_25 : decode cX9_handOver 25 = .ok (.ifnonnull 5, 3) := by decide +kernel
theorem dX9_handOver_28 : decode cX9_handOver 28 = .ok (.iconst (-1), 1) := by decide +kernel
theorem dX9_handOver_29 : decode cX9_handOver 29 = .ok (.ireturn, 1) := by decide +kernel
theorem dX9_handOver_30 : decode cX9_handOver 30 = .ok (.aload 4, 2) := by decide +kernel
theorem dX9_handOver_32 : decode cX9_handOver 32 = .ok (.invokevirtual 143, 3) := by decide +kernel
theorem dX9_handOver_35 : decode cX9_handOver 35 = .ok (.ifCond .eq 18, 3) := by decide +kernel
theorem dX9_handOver_38 : decode cX9_handOver 38 = .ok (.aload_n 0, 1) := by decide +kernel
theorem dX9_handOver_39 : decode cX9_handOver 39 = .ok (.getfield 21, 3) := by decide +kernel
theorem dX9_handOver_42 : decode cX9_handOver 42 = .ok (.bipush 10, 2) := by decide +kernel
theorem dX9_handOver_44 : decode cX9_handOver 44 = .ok (.aload 4, 2) := by decide +kernel
theorem dX9_handOver_46 : decode cX9_handOver 46 = .ok (.getfield 146, 3) := by decide +kernel
theorem dX9_handOver_49 : decode cX9_handOver 49 = .ok (.invokevirtual 29, 3) := by decide +kernel
theorem dX9_handOver_52 : decode cX9_handOver 52 = .ok (.ireturn, 1) := by decide +kernel
theorem dX9_handOver_53 : decode cX9_handOver 53 = .ok (.aload_n 3, 1) := by decide +kernel
theorem dX9_handOver_54 : decode cX9_handOver 54 = .ok (.invokevirtual 149, 3) := by decide +kernel
theorem dX9_handOver_57 : decode cX9_handOver 57 = .ok (.ifCond .eq 16, 3) := by decide +kernel
theorem dX9_handOver_60 : decode cX9_handOver 60 = .ok (.aload_n 0, 1) := by decide +kernel
theorem dX9_handOver_61 : decode cX9_handOver 61 = .ok (.getfield 21, 3) := by decide +kernel
theorem dX9_handOver_64 : decode cX9_handOver 64 = .ok (.iconst 4, 1) := by decide +kernel
theorem dX9_handOver_65 : decode cX9_handOver 65 = .ok (.aload_n 3, 1) := by decide +kernel
theorem dX9_handOver_66 : decode cX9_handOver 66 = .ok (.getfield 152, 3) := by decide +kernel
theorem dX9_handOver_69 : decode cX9_handOver 69 = .ok (.invokevirtual 29, 3) := by decide +kernel
theorem dX9_handOver_72 : decode cX9_handOver 72 = .ok (.ireturn, 1) := by decide +kernel
theorem dX9_handOver_73 : decode cX9_handOver 73 = .ok (.aload_n 3, 1) := by decide +kernel
theorem dX9_handOver_74 : decode cX9_handOver 74 = .ok (.aload 4, 2) := by decide +kernel
theorem dX9_handOver_76 : decode cX9_handOver 76 = .ok (.invokevirtual 155, 3) := by decide +kernel
theorem dX9_handOver_79 : decode cX9_handOver 79 = .ok (.istore 5, 2) := by decide +kernel
theorem dX9_handOver_81 : decode cX9_handOver 81 = .ok (.iload 5, 2) := by decide +kernel
theorem dX9_handOver_83 : decode cX9_handOver 83 = .ok (.ifCond .eq 32, 3) := by decide +kernel
theorem dX9_handOver_86 : decode cX9_handOver 86 = .ok (.aload_n 0, 1) := by decide +kernel
theorem dX9_handOver_87 : decode cX9_handOver 87 = .ok (.getfield 21, 3) := by decide +kernel
theorem dX9_handOver_90 : decode cX9_handOver 90 = .ok (.iload 5, 2) := by decide +kernel
theorem dX9_handOver_92 : decode cX9_handOver 92 = .ok (.aload_n 3, 1) := by decide +kernel
theorem dX9_handOver_93 : decode cX9_handOver 93 = .ok (.iload 5, 2) := by decide +kernel
theorem dX9_handOver_95 : decode cX9_handOver 95 = .ok (.aload 4, 2) := by decide +kernel
theorem dX9_handOver_97 : decode cX9_handOver 97 = .ok (.invokevirtual 159, 3) := by decide +kernel
theorem dX9_handOver_100 : decode cX9_handOver 100 = .ok (.invokevirtual 29, 3) := by decide +kernel
theorem dX9_handOver_103 : decode cX9_handOver 103 = .ok (.pop, 1) := by decide +kernel
theorem dX9_handOver_104 : decode cX9_handOver 104 = .ok (.aload_n 0, 1) := by decide +kernel
theorem dX9_handOver_105 : decode cX9_handOver 105 = .ok (.getfield 21, 3) := by decide +kernel
theorem dX9_handOver_108 : decode cX9_handOver 108 = .ok (.bipush 11, 2) := by decide +kernel
theorem dX9_handOver_110 : decode cX9_handOver 110 = .ok (.iload_n 1, 1) := by decide +kernel
theorem dX9_handOver_111 : decode cX9_handOver 111 = .ok (.invokevirtual 163, 3) := by decide +kernel
theorem dX9_handOver_114 : decode cX9_handOver 114 = .ok (.ireturn, 1) := by decide +kernel
theorem dX9_handOver_115 : decode cX9_handOver 115 = .ok (.aload 4, 2) := by decide +kernel
theorem dX9_handOver_117 : decode cX9_handOver 117 = .ok (.iload_n 1, 1) := by decide +kernel
theorem dX9_handOver_118 : decode cX9_handOver 118 = .ok (.putfield 146, 3) := by decide +kernel
theorem dX9_handOver_121 : decode cX9_handOver 121 = .ok (.aload 4, 2) := by decide +kernel
theorem dX9_handOver_123 : decode cX9_handOver 123 = .ok (.aload 4, 2) := by decide +kernel
theorem dX9_handOver_125 : decode cX9_handOver 125 = .ok (.aload_n 3, 1) := by decide +kernel
theorem dX9_handOver_126 : decode cX9_handOver 126 = .ok (.invokevirtual 166, 3) := by decide +kernel
theorem dX9_handOver_129 : decode cX9_handOver 129 = .ok (.putfield 170, 3) := by decide +kernel
theorem dX9_handOver_132 : decode cX9_handOver 132 = .ok (.aload_n 3, 1) := by decide +kernel
theorem dX9_handOver_133 : decode cX9_handOver 133 = .ok (.iload_n 2, 1) := by decide +kernel
theorem dX9_handOver_134 : decode cX9_handOver 134 = .ok (.putfield 152, 3) := by decide +kernel
theorem dX9_handOver_137 : decode cX9_handOver 137 = .ok (.aload_n 0, 1) := by decide +kernel
theorem dX9_handOver_138 : decode cX9_handOver 138 = .ok (.getfield 12, 3) := by decide +kernel
theorem dX9_handOver_141 : decode cX9_handOver 141 = .ok (.dup, 1) := by decide +kernel
theorem dX9_handOver_142 : decode cX9_handOver 142 = .ok (.getfield 33, 3) := by decide +kernel
theorem dX9_handOver_145 : decode cX9_handOver 145 = .ok (.aload 4, 2) := by decide +kernel
theorem dX9_handOver_147 : decode cX9_handOver 147 = .ok (.getfield 170, 3) := by decide +kernel
theorem dX9_handOver_150 : decode cX9_handOver 150 = .ok (.iadd, 1) := by decide +kernel
theorem dX9_handOver_151 : decode cX9_handOver 151 = .ok (.putfield 33, 3) := by decide +kernel
theorem dX9_handOver_154 : decode cX9_handOver 154 = .ok (.aload_n 0, 1) := by decide +kernel
theorem dX9_handOver_155 : decode cX9_handOver 155 = .ok (.getfield 12, 3) := by decide +kernel
theorem dX9_handOver_158 : decode cX9_handOver 158 = .ok (.getfield 33, 3) := by decide +kernel
theorem dX9_handOver_161 : decode cX9_handOver 161 = .ok (.ireturn, 1) := by decide +kernel
theorem dX9_isWorkable_0 : decode cX9_isWorkable 0 = .ok (.aload_n 1, 1) := by decide +kernel
theorem dX9_isWorkable_1 : decode cX9_isWorkable 1 = .ok (.invokevirtual 149, 3) := by decide +kernel
theorem dX9_isWorkable_4 : decode cX9_isWorkable 4 = .ok (.ifCond .eq 18, 3) := by decide +kernel
theorem dX9_isWorkable_7 : decode cX9_isWorkable 7 = .ok (.aload_n 0, 1) := by decide +kernel
theorem dX9_isWorkable_8 : decode cX9_isWorkable 8 = .ok (.getfield 21, 3) := by decide +kernel
theorem dX9_isWorkable_11 : decode cX9_isWorkable 11 = .ok (.iconst 4, 1) := by decide +kernel
theorem dX9_isWorkable_12 : decode cX9_isWorkable 12 = .ok (.aload_n 1, 1) := by decide +kernel
theorem dX9_isWorkable_13 : decode cX9_isWorkable 13 = .ok (.getfield 152, 3) := by decide +kernel
theorem dX9_isWorkable_16 : decode cX9_isWorkable 16 = .ok (.invokevirtual 29, 3) := by decide +kernel
theorem dX9_isWorkable_19 : decode cX9_isWorkable 19 = .ok (.pop, 1) := by decide +kernel
theorem dX9_isWorkable_20 : decode cX9_isWorkable 20 = .ok (.iconst 0, 1) := by decide +kernel
theorem dX9_isWorkable_21 : decode cX9_isWorkable 21 = .ok (.ireturn, 1) := by decide +kernel
theorem dX9_isWorkable_22 : decode cX9_isWorkable 22 = .ok (.aload_n 1, 1) := by decide +kernel
theorem dX9_isWorkable_23 : decode cX9_isWorkable 23 = .ok (.invokevirtual 221, 3) := by decide +kernel
theorem dX9_isWorkable_26 : decode cX9_isWorkable 26 = .ok (.ifCond .eq 18, 3) := by decide +kernel
theorem dX9_isWorkable_29 : decode cX9_isWorkable 29 = .ok (.aload_n 0, 1) := by decide +kernel
theorem dX9_isWorkable_30 : decode cX9_isWorkable 30 = .ok (.getfield 21, 3) := by decide +kernel
theorem dX9_isWorkable_33 : decode cX9_isWorkable 33 = .ok (.iconst 5, 1) := by decide +kernel
theorem dX9_isWorkable_34 : decode cX9_isWorkable 34 = .ok (.aload_n 1, 1) := by decide +kernel
theorem dX9_isWorkable_35 : decode cX9_isWorkable 35 = .ok (.getfield 224, 3) := by decide +kernel
theorem dX9_isWorkable_38 : decode cX9_isWorkable 38 = .ok (.invokevirtual 29, 3) := by decide +kernel
theorem dX9_isWorkable_41 : decode cX9_isWorkable 41 = .ok (.pop, 1) := by decide +kernel
theorem dX9_isWorkable_42 : decode cX9_isWorkable 42 = .ok (.iconst 0, 1) := by decide +kernel
theorem dX9_isWorkable_43 : decode cX9_isWorkable 43 = .ok (.ireturn, 1) := by decide +kernel
theorem dX9_isWorkable_44 : decode cX9_isWorkable 44 = .ok (.iconst 1, 1) := by decide +kernel
theorem dX9_isWorkable_45 : decode cX9_isWorkable 45 = .ok (.ireturn, 1) := by decide +kernel
theorem dX11_init_0 : decode cX11_init 0 = .ok (.aload_n 0, 1) := by decide +kernel
theorem dX11_init_1 : decode cX11_init 1 = .ok (.invokespecial 1, 3) := by decide +kernel
theorem dX11_init_4 : decode cX11_init 4 = .ok (.aload_n 0, 1) := by decide +kernel
theorem dX11_init_5 : decode cX11_init 5 = .ok (.new 7, 3) := by decide +kernel
theorem dX11_init_8 : decode cX11_init 8 = .ok (.dup, 1) := by decide +kernel
theorem dX11_init_9 : decode cX11_init 9 = .ok (.invokespecial 9, 3) := by decide +kernel
theorem dX11_init_12 : decode cX11_init 12 = .ok (.putfield 10, 3) := by decide +kernel
theorem dX11_init_15 : decode cX11_init 15 = .ok (.aload_n 0, 1) := by decide +kernel
theorem dX11_init_16 : decode cX11_init 16 = .ok (.aload_n 0, 1) := by decide +kernel
theorem dX11_init_17 : decode cX11_init 17 = .ok (.getfield 10, 3) := by decide +kernel
theorem dX11_init_20 : decode cX11_init 20 = .ok (.getfield 16, 3) := by decide +kernel
theorem dX11_init_23 : decode cX11_init 23 = .ok (.putfield 20, 3) := by decide +kernel
theorem dX11_init_26 : decode cX11_init 26 = .ok (.aload_n 0, 1) := by decide +kernel
theorem dX11_init_27 : decode cX11_init 27 = .ok (.aload_n 0, 1) := by decide +kernel
theorem dX11_init_28 : decode cX11_init 28 = .ok (.getfield 10, 3) := by decide +kernel
theorem dX11_init_31 : decode cX11_init 31 = .ok (.getfield 21, 3) := by decide +kernel
theorem dX11_init_34 : decode cX11_init 34 = .ok (.putfield 25, 3) := by decide +kernel
theorem dX11_init_37 : decode cX11_init 37 = .ok (.aload_n 0, 1) := by decide +kernel
theorem dX11_init_38 : decode cX11_init 38 = .ok (.new 26, 3) := by decide +kernel
theorem dX11_init_41 : decode cX11_init 41 = .ok (.dup, 1) := by decide +kernel
theorem dX11_init_42 : decode cX11_init 42 = .ok (.invokespecial 28, 3) := by decide +kernel
theorem dX11_init_45 : decode cX11_init 45 = .ok (.putfield 29, 3) := by decide +kernel
theorem dX11_init_48 : decode cX11_init 48 = .ok (.aload_n 0, 1) := by decide +kernel
theorem dX11_init_49 : decode cX11_init 49 = .ok (.new 32, 3) := by decide +kernel
theorem dX11_init_52 : decode cX11_init 52 = .ok (.dup, 1) := by decide +kernel
theorem dX11_init_53 : decode cX11_init 53 = .ok (.invokespecial 34, 3) := by decide +kernel
theorem dX11_init_56 : decode cX11_init 56 = .ok (.putfield 35, 3) := by decide +kernel
theorem dX11_init_59 : decode cX11_init 59 = .ok (.aload_n 0, 1) := by decide +kernel
theorem dX11_init_60 : decode cX11_init 60 = .ok (.new 39, 3) := by decide +kernel
theorem dX11_init_63 : decode cX11_init 63 = .ok (.dup, 1) := by decide +kernel
theorem dX11_init_64 : decode cX11_init 64 = .ok (.invokespecial 41, 3) := by decide +kernel
theorem dX11_init_67 : decode cX11_init 67 = .ok (.putfield 42, 3) := by decide +kernel
theorem dX11_init_70 : decode cX11_init 70 = .ok (.aload_n 0, 1) := by decide +kernel
theorem dX11_init_71 : decode cX11_init 71 = .ok (.new 46, 3) := by decide +kernel
theorem dX11_init_74 : decode cX11_init 74 = .ok (.dup, 1) := by decide +kernel
theorem dX11_init_75 : decode cX11_init 75 = .ok (.invokespecial 48, 3) := by decide +kernel
theorem dX11_init_78 : decode cX11_init 78 = .ok (.putfield 49, 3) := by decide +kernel
theorem dX11_init_81 : decode cX11_init 81 = .ok (.aload_n 0, 1) := by decide +kernel
theorem dX11_init_82 : decode cX11_init 82 = .ok (.new 53, 3) := by decide +kernel
theorem dX11_init_85 : decode cX11_init 85 = .ok (.dup, 1) := by decide +kernel
theorem dX11_init_86 : decode cX11_init 86 = .ok (.invokespecial 55, 3) := by decide +kernel
theorem dX11_init_89 : decode cX11_init 89 = .ok (.putfield 56, 3) := by decide +kernel
theorem dX11_init_92 : decode cX11_init 92 = .ok (.aload_n 0, 1) := by decide +kernel
theorem dX11_init_93 : decode cX11_init 93 = .ok (.iconst 0, 1) := by decide +kernel
theorem dX11_init_94 : decode cX11_init 94 = .ok (.putfield 60, 3) := by decide +kernel
theorem dX11_init_97 : decode cX11_init 97 = .ok (.aload_n 0, 1) := by decide +kernel
theorem dX11_init_98 : decode cX11_init 98 = .ok (.bipush (-4), 2) := by decide +kernel
theorem dX11_init_100 : decode cX11_init 100 = .ok (.putfield 64, 3) := by decide +kernel
theorem dX11_init_103 : decode cX11_init 103 = .ok (.return_, 1) := by decide +kernel
theorem dX11_sheet_0 : decode cX11_sheet 0 = .ok (.aload_n 0, 1) := by decide +kernel
theorem dX11_sheet_1 : decode cX11_sheet 1 = .ok (.getfield 35, 3) := by decide +kernel
theorem dX11_sheet_4 : decode cX11_sheet 4 = .ok (.aload_n 0, 1) := by decide +kernel
theorem dX11_sheet_5 : decode cX11_sheet 5 = .ok (.getfield 20, 3) := by decide +kernel
theorem dX11_sheet_8 : decode cX11_sheet 8 = .ok (.invokevirtual 81, 3) := by decide +kernel
theorem dX11_sheet_11 : decode cX11_sheet 11 = .ok (.aload_n 0, 1) := by decide +kernel
theorem dX11_sheet_12 : decode cX11_sheet 12 = .ok (.aload_n 0, 1) := by decide +kernel
theorem dX11_sheet_13 : decode cX11_sheet 13 = .ok (.getfield 10, 3) := by decide +kernel
theorem dX11_sheet_16 : decode cX11_sheet 16 = .ok (.iload_n 1, 1) := by decide +kernel
theorem dX11_sheet_17 : decode cX11_sheet 17 = .ok (.iload_n 2, 1) := by decide +kernel
theorem dX11_sheet_18 : decode cX11_sheet 18 = .ok (.invokevirtual 85, 3) := by decide +kernel
theorem dX11_sheet_21 : decode cX11_sheet 21 = .ok (.invokevirtual 89, 3) := by decide +kernel
theorem dX11_sheet_24 : decode cX11_sheet 24 = .ok (.ireturn, 1) := by decide +kernel
theorem dX11_raise_0 : decode cX11_raise 0 = .ok (.aload_n 0, 1) := by decide +kernel
theorem dX11_raise_1 : decode cX11_raise 1 = .ok (.getfield 35, 3) := by decide +kernel
theorem dX11_raise_4 : decode cX11_raise 4 = .ok (.aload_n 0, 1) := by decide +kernel
theorem dX11_raise_5 : decode cX11_raise 5 = .ok (.getfield 20, 3) := by decide +kernel
theorem dX11_raise_8 : decode cX11_raise 8 = .ok (.invokevirtual 81, 3) := by decide +kernel
theorem dX11_raise_11 : decode cX11_raise 11 = .ok (.aload_n 0, 1) := by decide +kernel
theorem dX11_raise_12 : decode cX11_raise 12 = .ok (.aload_n 0, 1) := by decide +kernel
theorem dX11_raise_13 : decode cX11_raise 13 = .ok (.getfield 10, 3) := by decide +kernel
theorem dX11_raise_16 : decode cX11_raise 16 = .ok (.iload_n 1, 1) := by decide +kernel
theorem dX11_raise_17 : decode cX11_raise 17 = .ok (.iload_n 2, 1) := by decide +kernel
theorem dX11_raise_18 : decode cX11_raise 18 = .ok (.invokevirtual 93, 3) := by decide +kernel
theorem dX11_raise_21 : decode cX11_raise 21 = .ok (.invokevirtual 89, 3) := by decide +kernel
theorem dX11_raise_24 : decode cX11_raise 24 = .ok (.ireturn, 1) := by decide +kernel
theorem dX11_planish_0 : decode cX11_planish 0 = .ok (.aload_n 0, 1) := by decide +kernel
theorem dX11_planish_1 : decode cX11_planish 1 = .ok (.getfield 35, 3) := by decide +kernel
theorem dX11_planish_4 : decode cX11_planish 4 = .ok (.aload_n 0, 1) := by decide +kernel
theorem dX11_planish_5 : decode cX11_planish 5 = .ok (.getfield 20, 3) := by decide +kernel
theorem dX11_planish_8 : decode cX11_planish 8 = .ok (.invokevirtual 81, 3) := by decide +kernel
theorem dX11_planish_11 : decode cX11_planish 11 = .ok (.aload_n 0, 1) := by decide +kernel
theorem dX11_planish_12 : decode cX11_planish 12 = .ok (.aload_n 0, 1) := by decide +kernel
theorem dX11_planish_13 : decode cX11_planish 13 = .ok (.getfield 10, 3) := by decide +kernel
theorem dX11_planish_16 : decode cX11_planish 16 = .ok (.iload_n 1, 1) := by decide +kernel
theorem dX11_planish_17 : decode cX11_planish 17 = .ok (.iload_n 2, 1) := by decide +kernel
theorem dX11_planish_18 : decode cX11_planish 18 = .ok (.invokevirtual 96, 3) := by decide +kernel
theorem dX11_planish_21 : decode cX11_planish 21 = .ok (.invokevirtual 89, 3) := by decide +kernel
theorem dX11_planish_24 : decode cX11_planish 24 = .ok (.ireturn, 1) := by decide +kernel
theorem dX11_bars_0 : decode cX11_bars 0 = .ok (.aload_n 0, 1) := by decide +kernel
theorem dX11_bars_1 : decode cX11_bars 1 = .ok (.getfield 35, 3) := by decide +kernel
theorem dX11_bars_4 : decode cX11_bars 4 = .ok (.aload_n 0, 1) := by decide +kernel
theorem dX11_bars_5 : decode cX11_bars 5 = .ok (.getfield 20, 3) := by decide +kernel
theorem dX11_bars_8 : decode cX11_bars 8 = .ok (.invokevirtual 81, 3) := by decide +kernel
theorem dX11_bars_11 : decode cX11_bars 11 = .ok (.aload_n 0, 1) := by decide +kernel
theorem dX11_bars_12 : decode cX11_bars 12 = .ok (.aload_n 0, 1) := by decide +kernel
theorem dX11_bars_13 : decode cX11_bars 13 = .ok (.getfield 10, 3) := by decide +kernel
theorem dX11_bars_16 : decode cX11_bars 16 = .ok (.iload_n 1, 1) := by decide +kernel
theorem dX11_bars_17 : decode cX11_bars 17 = .ok (.invokevirtual 99, 3) := by decide +kernel
theorem dX11_bars_20 : decode cX11_bars 20 = .ok (.invokevirtual 89, 3) := by decide +kernel
theorem dX11_bars_23 : decode cX11_bars 23 = .ok (.ireturn, 1) := by decide +kernel
theorem dX11_tin_0 : decode cX11_tin 0 = .ok (.aload_n 0, 1) := by decide +kernel
theorem dX11_tin_1 : decode cX11_tin 1 = .ok (.getfield 35, 3) := by decide +kernel
theorem dX11_tin_4 : decode cX11_tin 4 = .ok (.aload_n 0, 1) := by decide +kernel
theorem dX11_tin_5 : decode cX11_tin 5 = .ok (.getfield 20, 3) := by decide +kernel
theorem dX11_tin_8 : decode cX11_tin 8 = .ok (.invokevirtual 81, 3) := by decide +kernel
theorem dX11_tin_11 : decode cX11_tin 11 = .ok (.aload_n 0, 1) := by decide +kernel
theorem dX11_tin_12 : decode cX11_tin 12 = .ok (.aload_n 0, 1) := by decide +kernel
theorem dX11_tin_13 : decode cX11_tin 13 = .ok (.getfield 10, 3) := by decide +kernel
theorem dX11_tin_16 : decode cX11_tin 16 = .ok (.iload_n 1, 1) := by decide +kernel
theorem dX11_tin_17 : decode cX11_tin 17 = .ok (.iload_n 2, 1) := by decide +kernel
theorem dX11_tin_18 : decode cX11_tin 18 = .ok (.invokevirtual 102, 3) := by decide +kernel
theorem dX11_tin_21 : decode cX11_tin 21 = .ok (.invokevirtual 89, 3) := by decide +kernel
theorem dX11_tin_24 : decode cX11_tin 24 = .ok (.ireturn, 1) := by decide +kernel
theorem dX11_cook_0 : decode cX11_cook 0 = .ok (.aload_n 0, 1) := by decide +kernel
theorem dX11_cook_1 : decode cX11_cook 1 = .ok (.getfield 35, 3) := by decide +kernel
theorem dX11_cook_4 : decode cX11_cook 4 = .ok (.aload_n 0, 1) := by decide +kernel
theorem dX11_cook_5 : decode cX11_cook 5 = .ok (.getfield 20, 3) := by decide +kernel
theorem dX11_cook_8 : decode cX11_cook 8 = .ok (.invokevirtual 81, 3) := by decide +kernel
theorem dX11_cook_11 : decode cX11_cook 11 = .ok (.aload_n 0, 1) := by decide +kernel
theorem dX11_cook_12 : decode cX11_cook 12 = .ok (.aload_n 0, 1) := by decide +kernel
theorem dX11_cook_13 : decode cX11_cook 13 = .ok (.getfield 10, 3) := by decide +kernel
theorem dX11_cook_16 : decode cX11_cook 16 = .ok (.iload_n 1, 1) := by decide +kernel
theorem dX11_cook_17 : decode cX11_cook 17 = .ok (.iload_n 2, 1) := by decide +kernel
theorem dX11_cook_18 : decode cX11_cook 18 = .ok (.invokevirtual 105, 3) := by decide +kernel
theorem dX11_cook_21 : decode cX11_cook 21 = .ok (.invokevirtual 89, 3) := by decide +kernel
theorem dX11_cook_24 : decode cX11_cook 24 = .ok (.ireturn, 1) := by decide +kernel
theorem dX11_baker_0 : decode cX11_baker 0 = .ok (.aload_n 0, 1) := by decide +kernel
theorem dX11_baker_1 : decode cX11_baker 1 = .ok (.getfield 35, 3) := by decide +kernel
theorem dX11_baker_4 : decode cX11_baker 4 = .ok (.aload_n 0, 1) := by decide +kernel
theorem dX11_baker_5 : decode cX11_baker 5 = .ok (.getfield 20, 3) := by decide +kernel
theorem dX11_baker_8 : decode cX11_baker 8 = .ok (.invokevirtual 81, 3) := by decide +kernel
theorem dX11_baker_11 : decode cX11_baker 11 = .ok (.aload_n 0, 1) := by decide +kernel
theorem dX11_baker_12 : decode cX11_baker 12 = .ok (.aload_n 0, 1) := by decide +kernel
theorem dX11_baker_13 : decode cX11_baker 13 = .ok (.getfield 10, 3) := by decide +kernel
theorem dX11_baker_16 : decode cX11_baker 16 = .ok (.iload_n 1, 1) := by decide +kernel
theorem dX11_baker_17 : decode cX11_baker 17 = .ok (.iload_n 2, 1) := by decide +kernel
theorem dX11_baker_18 : decode cX11_baker 18 = .ok (.iload_n 3, 1) := by decide +kernel
theorem dX11_baker_19 : decode cX11_baker 19 = .ok (.invokevirtual 108, 3) := by decide +kernel
theorem dX11_baker_22 : decode cX11_baker 22 = .ok (.invokevirtual 89, 3) := by decide +kernel
theorem dX11_baker_25 : decode cX11_baker 25 = .ok (.ireturn, 1) := by decide +kernel
theorem dX11_sell_0 : decode cX11_sell 0 = .ok (.aload_n 0, 1) := by decide +kernel
theorem dX11_sell_1 : decode cX11_sell 1 = .ok (.getfield 35, 3) := by decide +kernel
theorem dX11_sell_4 : decode cX11_sell 4 = .ok (.aload_n 0, 1) := by decide +kernel
theorem dX11_sell_5 : decode cX11_sell 5 = .ok (.getfield 20, 3) := by decide +kernel
theorem dX11_sell_8 : decode cX11_sell 8 = .ok (.invokevirtual 81, 3) := by decide +kernel
theorem dX11_sell_11 : decode cX11_sell 11 = .ok (.aload_n 0, 1) := by decide +kernel
theorem dX11_sell_12 : decode cX11_sell 12 = .ok (.aload_n 0, 1) := by decide +kernel
theorem dX11_sell_13 : decode cX11_sell 13 = .ok (.getfield 10, 3) := by decide +kernel
theorem dX11_sell_16 : decode cX11_sell 16 = .ok (.iload_n 1, 1) := by decide +kernel
theorem dX11_sell_17 : decode cX11_sell 17 = .ok (.iload_n 2, 1) := by decide +kernel
theorem dX11_sell_18 : decode cX11_sell 18 = .ok (.invokevirtual 112, 3) := by decide +kernel
theorem dX11_sell_21 : decode cX11_sell 21 = .ok (.invokevirtual 89, 3) := by decide +kernel
theorem dX11_sell_24 : decode cX11_sell 24 = .ok (.ireturn, 1) := by decide +kernel
theorem dX11_sheetOf_0 : decode cX11_sheetOf 0 = .ok (.aload_n 0, 1) := by decide +kernel
theorem dX11_sheetOf_1 : decode cX11_sheetOf 1 = .ok (.getfield 20, 3) := by decide +kernel
theorem dX11_sheetOf_4 : decode cX11_sheetOf 4 = .ok (.iload_n 1, 1) := by decide +kernel
theorem dX11_sheetOf_5 : decode cX11_sheetOf 5 = .ok (.invokevirtual 135, 3) := by decide +kernel
theorem dX11_sheetOf_8 : decode cX11_sheetOf 8 = .ok (.astore_n 3, 1) := by decide +kernel
theorem dX11_sheetOf_9 : decode cX11_sheetOf 9 = .ok (.aload_n 3, 1) := by decide +kernel
theorem dX11_sheetOf_10 : decode cX11_sheetOf 10 = .ok (.ifnonnull 7, 3) := by decide +kernel
theorem dX11_sheetOf_13 : decode cX11_sheetOf 13 = .ok (.iconst (-1), 1) := by decide +kernel
theorem dX11_sheetOf_14 : decode cX11_sheetOf 14 = .ok (.goto 8, 3) := by decide +kernel
theorem dX11_sheetOf_17 : decode cX11_sheetOf 17 = .ok (.aload_n 3, 1) := by decide +kernel
theorem dX11_sheetOf_18 : decode cX11_sheetOf 18 = .ok (.iload_n 2, 1) := by decide +kernel
theorem dX11_sheetOf_19 : decode cX11_sheetOf 19 = .ok (.invokevirtual 139, 3) := by decide +kernel
theorem dX11_sheetOf_22 : decode cX11_sheetOf 22 = .ok (.ireturn, 1) := by decide +kernel
theorem dX11_potOf_0 : decode cX11_potOf 0 = .ok (.aload_n 0, 1) := by decide +kernel
theorem dX11_potOf_1 : decode cX11_potOf 1 = .ok (.getfield 20, 3) := by decide +kernel
theorem dX11_potOf_4 : decode cX11_potOf 4 = .ok (.iload_n 1, 1) := by decide +kernel
theorem dX11_potOf_5 : decode cX11_potOf 5 = .ok (.invokevirtual 143, 3) := by decide +kernel
theorem dX11_potOf_8 : decode cX11_potOf 8 = .ok (.astore_n 3, 1) := by decide +kernel
theorem dX11_potOf_9 : decode cX11_potOf 9 = .ok (.aload_n 3, 1) := by decide +kernel
theorem dX11_potOf_10 : decode cX11_potOf 10 = .ok (.ifnonnull 7, 3) := by decide +kernel
theorem dX11_potOf_13 : decode cX11_potOf 13 = .ok (.iconst (-1), 1) := by decide +kernel
theorem dX11_potOf_14 : decode cX11_potOf 14 = .ok (.goto 8, 3) := by decide +kernel
theorem dX11_potOf_17 : decode cX11_potOf 17 = .ok (.aload_n 3, 1) := by decide +kernel
theorem dX11_potOf_18 : decode cX11_potOf 18 = .ok (.iload_n 2, 1) := by decide +kernel
theorem dX11_potOf_19 : decode cX11_potOf 19 = .ok (.invokevirtual 147, 3) := by decide +kernel
theorem dX11_potOf_22 : decode cX11_potOf 22 = .ok (.ireturn, 1) := by decide +kernel
theorem dX11_orderOf_0 : decode cX11_orderOf 0 = .ok (.aload_n 0, 1) := by decide +kernel
theorem dX11_orderOf_1 : decode cX11_orderOf 1 = .ok (.getfield 20, 3) := by decide +kernel
theorem dX11_orderOf_4 : decode cX11_orderOf 4 = .ok (.iload_n 1, 1) := by decide +kernel
theorem dX11_orderOf_5 : decode cX11_orderOf 5 = .ok (.invokevirtual 150, 3) := by decide +kernel
theorem dX11_orderOf_8 : decode cX11_orderOf 8 = .ok (.astore_n 3, 1) := by decide +kernel
theorem dX11_orderOf_9 : decode cX11_orderOf 9 = .ok (.aload_n 3, 1) := by decide +kernel
theorem dX11_orderOf_10 : decode cX11_orderOf 10 = .ok (.ifnonnull 7, 3) := by decide +kernel
theorem dX11_orderOf_13 : decode cX11_orderOf 13 = .ok (.iconst (-1), 1) := by decide +kernel
theorem dX11_orderOf_14 : decode cX11_orderOf 14 = .ok (.goto 8, 3) := by decide +kernel
theorem dX11_orderOf_17 : decode cX11_orderOf 17 = .ok (.aload_n 3, 1) := by decide +kernel
theorem dX11_orderOf_18 : decode cX11_orderOf 18 = .ok (.iload_n 2, 1) := by decide +kernel
theorem dX11_orderOf_19 : decode cX11_orderOf 19 = .ok (.invokevirtual 154, 3) := by decide +kernel
theorem dX11_orderOf_22 : decode cX11_orderOf 22 = .ok (.ireturn, 1) := by decide +kernel
theorem dX11_sound_0 : decode cX11_sound 0 = .ok (.aload_n 0, 1) := by decide +kernel
theorem dX11_sound_1 : decode cX11_sound 1 = .ok (.getfield 20, 3) := by decide +kernel
theorem dX11_sound_4 : decode cX11_sound 4 = .ok (.iload_n 1, 1) := by decide +kernel
theorem dX11_sound_5 : decode cX11_sound 5 = .ok (.invokevirtual 143, 3) := by decide +kernel
theorem dX11_sound_8 : decode cX11_sound 8 = .ok (.astore_n 2, 1) := by decide +kernel
theorem dX11_sound_9 : decode cX11_sound 9 = .ok (.aload_n 2, 1) := by decide +kernel
theorem dX11_sound_10 : decode cX11_sound 10 = .ok (.ifnonnull 7, 3) := by decide +kernel
theorem dX11_sound_13 : decode cX11_sound 13 = .ok (.iconst (-1), 1) := by decide +kernel
theorem dX11_sound_14 : decode cX11_sound 14 = .ok (.goto 7, 3) := by decide +kernel
theorem dX11_sound_17 : decode cX11_sound 17 = .ok (.aload_n 2, 1) := by decide +kernel
theorem dX11_sound_18 : decode cX11_sound 18 = .ok (.invokevirtual 157, 3) := by decide +kernel
theorem dX11_sound_21 : decode cX11_sound 21 = .ok (.ireturn, 1) := by decide +kernel
theorem dX11_soundAgain_0 : decode cX11_soundAgain 0 = .ok (.aload_n 0, 1) := by decide +kernel
theorem dX11_soundAgain_1 : decode cX11_soundAgain 1 = .ok (.getfield 20, 3) := by decide +kernel
theorem dX11_soundAgain_4 : decode cX11_soundAgain 4 = .ok (.iload_n 1, 1) := by decide +kernel
theorem dX11_soundAgain_5 : decode cX11_soundAgain 5 = .ok (.invokevirtual 143, 3) := by decide +kernel
theorem dX11_soundAgain_8 : decode cX11_soundAgain 8 = .ok (.astore_n 2, 1) := by decide +kernel
theorem dX11_soundAgain_9 : decode cX11_soundAgain 9 = .ok (.aload_n 2, 1) := by decide +kernel
theorem dX11_soundAgain_10 : decode cX11_soundAgain 10 = .ok (.ifnonnull 7, 3) := by decide +kernel
theorem dX11_soundAgain_13 : decode cX11_soundAgain 13 = .ok (.iconst (-1), 1) := by decide +kernel
theorem dX11_soundAgain_14 : decode cX11_soundAgain 14 = .ok (.goto 7, 3) := by decide +kernel
theorem dX11_soundAgain_17 : decode cX11_soundAgain 17 = .ok (.aload_n 2, 1) := by decide +kernel
theorem dX11_soundAgain_18 : decode cX11_soundAgain 18 = .ok (.invokevirtual 160, 3) := by decide +kernel
theorem dX11_soundAgain_21 : decode cX11_soundAgain 21 = .ok (.ireturn, 1) := by decide +kernel
theorem dX11_isAlike_0 : decode cX11_isAlike 0 = .ok (.aload_n 0, 1) := by decide +kernel
theorem dX11_isAlike_1 : decode cX11_isAlike 1 = .ok (.getfield 20, 3) := by decide +kernel
theorem dX11_isAlike_4 : decode cX11_isAlike 4 = .ok (.iload_n 1, 1) := by decide +kernel
theorem dX11_isAlike_5 : decode cX11_isAlike 5 = .ok (.invokevirtual 143, 3) := by decide +kernel
theorem dX11_isAlike_8 : decode cX11_isAlike 8 = .ok (.astore_n 3, 1) := by decide +kernel
theorem dX11_isAlike_9 : decode cX11_isAlike 9 = .ok (.aload_n 0, 1) := by decide +kernel
theorem dX11_isAlike_10 : decode cX11_isAlike 10 = .ok (.getfield 20, 3) := by decide +kernel
theorem dX11_isAlike_13 : decode cX11_isAlike 13 = .ok (.iload_n 2, 1) := by decide +kernel
theorem dX11_isAlike_14 : decode cX11_isAlike 14 = .ok (.invokevirtual 143, 3) := by decide +kernel
theorem dX11_isAlike_17 : decode cX11_isAlike 17 = .ok (.astore 4, 2) := by decide +kernel
theorem dX11_isAlike_19 : decode cX11_isAlike 19 = .ok (.aload_n 3, 1) := by decide +kernel
theorem dX11_isAlike_20 : decode cX11_isAlike 20 = .ok (.ifnull 27, 3) := by decide +kernel
theorem dX11_isAlike_23 : decode cX11_isAlike 23 = .ok (.aload 4, 2) := by decide +kernel
theorem dX11_isAlike_25 : decode cX11_isAlike 25 = .ok (.ifnull 22, 3) := by decide +kernel
theorem dX11_isAlike_28 : decode cX11_isAlike 28 = .ok (.aload_n 3, 1) := by decide +kernel
theorem dX11_isAlike_29 : decode cX11_isAlike 29 = .ok (.invokevirtual 157, 3) := by decide +kernel
theorem dX11_isAlike_32 : decode cX11_isAlike 32 = .ok (.aload 4, 2) := by decide +kernel
theorem dX11_isAlike_34 : decode cX11_isAlike 34 = .ok (.invokevirtual 157, 3) := by decide +kernel
theorem dX11_isAlike_37 : decode cX11_isAlike 37 = .ok (.invokestatic 163, 3) := by decide +kernel
theorem dX11_isAlike_40 : decode cX11_isAlike 40 = .ok (.ifCond .eq 7, 3) := by decide +kernel
theorem dX11_isAlike_43 : decode cX11_isAlike 43 = .ok (.iconst 1, 1) := by decide +kernel
theorem dX11_isAlike_44 : decode cX11_isAlike 44 = .ok (.goto 4, 3) := by decide +kernel
theorem dX11_isAlike_47 : decode cX11_isAlike 47 = .ok (.iconst 0, 1) := by decide +kernel
theorem dX11_isAlike_48 : decode cX11_isAlike 48 = .ok (.ireturn, 1) := by decide +kernel
theorem dX11_alike_0 : decode cX11_alike 0 = .ok (.aload_n 0, 1) := by decide +kernel
theorem dX11_alike_1 : decode cX11_alike 1 = .ok (.getfield 42, 3) := by decide +kernel
theorem dX11_alike_4 : decode cX11_alike 4 = .ok (.aload_n 0, 1) := by decide +kernel
theorem dX11_alike_5 : decode cX11_alike 5 = .ok (.getfield 20, 3) := by decide +kernel
theorem dX11_alike_8 : decode cX11_alike 8 = .ok (.invokevirtual 167, 3) := by decide +kernel
theorem dX11_alike_11 : decode cX11_alike 11 = .ok (.aload_n 0, 1) := by decide +kernel
theorem dX11_alike_12 : decode cX11_alike 12 = .ok (.getfield 42, 3) := by decide +kernel
theorem dX11_alike_15 : decode cX11_alike 15 = .ok (.invokevirtual 170, 3) := by decide +kernel
theorem dX11_alike_18 : decode cX11_alike 18 = .ok (.ireturn, 1) := by decide +kernel
theorem dX11_ranked_0 : decode cX11_ranked 0 = .ok (.aload_n 0, 1) := by decide +kernel
theorem dX11_ranked_1 : decode cX11_ranked 1 = .ok (.getfield 42, 3) := by decide +kernel
theorem dX11_ranked_4 : decode cX11_ranked 4 = .ok (.aload_n 0, 1) := by decide +kernel
theorem dX11_ranked_5 : decode cX11_ranked 5 = .ok (.getfield 20, 3) := by decide +kernel
theorem dX11_ranked_8 : decode cX11_ranked 8 = .ok (.invokevirtual 167, 3) := by decide +kernel
theorem dX11_ranked_11 : decode cX11_ranked 11 = .ok (.aload_n 0, 1) := by decide +kernel
theorem dX11_ranked_12 : decode cX11_ranked 12 = .ok (.getfield 42, 3) := by decide +kernel
theorem dX11_ranked_15 : decode cX11_ranked 15 = .ok (.iload_n 1, 1) := by decide +kernel
theorem dX11_ranked_16 : decode cX11_ranked 16 = .ok (.invokevirtual 173, 3) := by decide +kernel
theorem dX11_ranked_19 : decode cX11_ranked 19 = .ok (.ireturn, 1) := by decide +kernel
theorem dX11_peal_0 : decode cX11_peal 0 = .ok (.iload_n 1, 1) := by decide +kernel
theorem dX11_peal_1 : decode cX11_peal 1 = .ok (.iconst 1, 1) := by decide +kernel
theorem dX11_peal_2 : decode cX11_peal 2 = .ok (.if_icmp .lt 9, 3) := by decide +kernel
theorem dX11_peal_5 : decode cX11_peal 5 = .ok (.iload_n 1, 1) := by decide +kernel
theorem dX11_peal_6 : decode cX11_peal 6 = .ok (.bipush 20, 2) := by decide +kernel
theorem dX11_peal_8 : decode cX11_peal 8 = .ok (.if_icmp .le 6, 3) := by decide +kernel
theorem dX11_peal_11 : decode cX11_peal 11 = .ok (.bipush (-2), 2) := by decide +kernel
theorem dX11_peal_13 : decode cX11_peal 13 = .ok (.ireturn, 1) := by decide +kernel
theorem dX11_peal_14 : decode cX11_peal 14 = .ok (.aload_n 0, 1) := by decide +kernel
theorem dX11_peal_15 : decode cX11_peal 15 = .ok (.getfield 42, 3) := by decide +kernel
theorem dX11_peal_18 : decode cX11_peal 18 = .ok (.aload_n 0, 1) := by decide +kernel
theorem dX11_peal_19 : decode cX11_peal 19 = .ok (.getfield 20, 3) := by decide +kernel
theorem dX11_peal_22 : decode cX11_peal 22 = .ok (.invokevirtual 167, 3) := by decide +kernel
theorem dX11_peal_25 : decode cX11_peal 25 = .ok (.aload_n 0, 1) := by decide +kernel
theorem dX11_peal_26 : decode cX11_peal 26 = .ok (.getfield 42, 3) := by decide +kernel
theorem dX11_peal_29 : decode cX11_peal 29 = .ok (.iload_n 1, 1) := by decide +kernel
theorem dX11_peal_30 : decode cX11_peal 30 = .ok (.invokevirtual 176, 3) := by decide +kernel
theorem dX11_peal_33 : decode cX11_peal 33 = .ok (.ireturn, 1) := by decide +kernel
theorem dX11_nearest_0 : decode cX11_nearest 0 = .ok (.iload_n 1, 1) := by decide +kernel
theorem dX11_nearest_1 : decode cX11_nearest 1 = .ok (.ifCond .lt 9, 3) := by decide +kernel
theorem dX11_nearest_4 : decode cX11_nearest 4 = .ok (.iload_n 1, 1) := by decide +kernel
theorem dX11_nearest_5 : decode cX11_nearest 5 = .ok (.bipush 120, 2) := by decide +kernel
theorem dX11_nearest_7 : decode cX11_nearest 7 = .ok (.if_icmp .le 6, 3) := by decide +kernel
theorem dX11_nearest_10 : decode cX11_nearest 10 = .ok (.bipush (-2), 2) := by decide +kernel
theorem dX11_nearest_12 : decode cX11_nearest 12 = .ok (.ireturn, 1) := by decide +kernel
theorem dX11_nearest_13 : decode cX11_nearest 13 = .ok (.aload_n 0, 1) := by decide +kernel
theorem dX11_nearest_14 : decode cX11_nearest 14 = .ok (.getfield 42, 3) := by decide +kernel
theorem dX11_nearest_17 : decode cX11_nearest 17 = .ok (.aload_n 0, 1) := by decide +kernel
theorem dX11_nearest_18 : decode cX11_nearest 18 = .ok (.getfield 20, 3) := by decide +kernel
theorem dX11_nearest_21 : decode cX11_nearest 21 = .ok (.invokevirtual 167, 3) := by decide +kernel
theorem dX11_nearest_24 : decode cX11_nearest 24 = .ok (.aload_n 0, 1) := by decide +kernel
theorem dX11_nearest_25 : decode cX11_nearest 25 = .ok (.getfield 42, 3) := by decide +kernel
theorem dX11_nearest_28 : decode cX11_nearest 28 = .ok (.iload_n 1, 1) := by decide +kernel
theorem dX11_nearest_29 : decode cX11_nearest 29 = .ok (.invokevirtual 179, 3) := by decide +kernel
theorem dX11_nearest_32 : decode cX11_nearest 32 = .ok (.ireturn, 1) := by decide +kernel
theorem dX11_wouldSound_0 : decode cX11_wouldSound 0 = .ok (.aload_n 0, 1) := by decide +kernel
theorem dX11_wouldSound_1 : decode cX11_wouldSound 1 = .ok (.getfield 20, 3) := by decide +kernel
theorem dX11_wouldSound_4 : decode cX11_wouldSound 4 = .ok (.iload_n 1, 1) := by decide +kernel
theorem dX11_wouldSound_5 : decode cX11_wouldSound 5 = .ok (.invokevirtual 143, 3) := by decide +kernel
theorem dX11_wouldSound_8 : decode cX11_wouldSound 8 = .ok (.astore 4, 2) := by decide +kernel
theorem dX11_wouldSound_10 : decode cX11_wouldSound 10 = .ok (.aload 4, 2) := by decide +kernel
theorem dX11_wouldSound_12 : decode cX11_wouldSound 12 = .ok (.ifnonnull 5, 3) := by decide +kernel
theorem dX11_wouldSound_15 : decode cX11_wouldSound 15 = .ok (.iconst (-1), 1) := by decide +kernel
theorem dX11_wouldSound_16 : decode cX11_wouldSound 16 = .ok (.ireturn, 1) := by decide +kernel
theorem dX11_wouldSound_17 : decode cX11_wouldSound 17 = .ok (.iload_n 2, 1) := by decide +kernel
theorem dX11_wouldSound_18 : decode cX11_wouldSound 18 = .ok (.ifCond .lt 19, 3) := by decide +kernel
theorem dX11_wouldSound_21 : decode cX11_wouldSound 21 = .ok (.iload_n 2, 1) := by decide +kernel
theorem dX11_wouldSound_22 : decode cX11_wouldSound 22 = .ok (.bipush 99, 2) := by decide +kernel
theorem dX11_wouldSound_24 : decode cX11_wouldSound 24 = .ok (.if_icmp .gt 13, 3) := by decide +kernel
theorem dX11_wouldSound_27 : decode cX11_wouldSound 27 = .ok (.iload_n 3, 1) := by decide +kernel
theorem dX11_wouldSound_28 : decode cX11_wouldSound 28 = .ok (.ifCond .lt 9, 3) := by decide +kernel
theorem dX11_wouldSound_31 : decode cX11_wouldSound 31 = .ok (.iload_n 3, 1) := by decide +kernel
theorem dX11_wouldSound_32 : decode cX11_wouldSound 32 = .ok (.bipush 9, 2) := by decide +kernel
theorem dX11_wouldSound_34 : decode cX11_wouldSound 34 = .ok (.if_icmp .le 6, 3) := by decide +kernel
theorem dX11_wouldSound_37 : decode cX11_wouldSound 37 = .ok (.bipush (-2), 2) := by decide +kernel
theorem dX11_wouldSound_39 : decode cX11_wouldSound 39 = .ok (.ireturn, 1) := by decide +kernel
theorem dX11_wouldSound_40 : decode cX11_wouldSound 40 = .ok (.aload 4, 2) := by decide +kernel
theorem dX11_wouldSound_42 : decode cX11_wouldSound 42 = .ok (.aload 4, 2) := by decide +kernel
theorem dX11_wouldSound_44 : decode cX11_wouldSound 44 = .ok (.getfield 182, 3) := by decide +kernel
theorem dX11_wouldSound_47 : decode cX11_wouldSound 47 = .ok (.iload_n 2, 1) := by decide +kernel
theorem dX11_wouldSound_48 : decode cX11_wouldSound 48 = .ok (.iadd, 1) := by decide +kernel
theorem dX11_wouldSound_49 : decode cX11_wouldSound 49 = .ok (.aload 4, 2) := by decide +kernel
theorem dX11_wouldSound_51 : decode cX11_wouldSound 51 = .ok (.getfield 185, 3) := by decide +kernel
theorem dX11_wouldSound_54 : decode cX11_wouldSound 54 = .ok (.iload_n 3, 1) := by decide +kernel
theorem dX11_wouldSound_55 : decode cX11_wouldSound 55 = .ok (.iadd, 1) := by decide +kernel
theorem dX11_wouldSound_56 : decode cX11_wouldSound 56 = .ok (.bipush 9, 2) := by decide +kernel
theorem dX11_wouldSound_58 : decode cX11_wouldSound 58 = .ok (.invokestatic 188, 3) := by decide +kernel
theorem dX11_wouldSound_61 : decode cX11_wouldSound 61 = .ok (.invokevirtual 193, 3) := by decide +kernel
theorem dX11_wouldSound_64 : decode cX11_wouldSound 64 = .ok (.ireturn, 1) := by decide +kernel
theorem dX11_blowsTo_0 : decode cX11_blowsTo 0 = .ok (.aload_n 0, 1) := by decide +kernel
theorem dX11_blowsTo_1 : decode cX11_blowsTo 1 = .ok (.getfield 20, 3) := by decide +kernel
theorem dX11_blowsTo_4 : decode cX11_blowsTo 4 = .ok (.iload_n 1, 1) := by decide +kernel
theorem dX11_blowsTo_5 : decode cX11_blowsTo 5 = .ok (.invokevirtual 143, 3) := by decide +kernel
theorem dX11_blowsTo_8 : decode cX11_blowsTo 8 = .ok (.astore_n 3, 1) := by decide +kernel
theorem dX11_blowsTo_9 : decode cX11_blowsTo 9 = .ok (.aload_n 3, 1) := by decide +kernel
theorem dX11_blowsTo_10 : decode cX11_blowsTo 10 = .ok (.ifnonnull 5, 3) := by decide +kernel
theorem dX11_blowsTo_13 : decode cX11_blowsTo 13 = .ok (.iconst (-1), 1) := by decide +kernel
theorem dX11_blowsTo_14 : decode cX11_blowsTo 14 = .ok (.ireturn, 1) := by decide +kernel
theorem dX11_blowsTo_15 : decode cX11_blowsTo 15 = .ok (.iload_n 2, 1) := by decide +kernel
theorem dX11_blowsTo_16 : decode cX11_blowsTo 16 = .ok (.ifCond .ne 15, 3) := by decide +kernel
theorem dX11_blowsTo_19 : decode cX11_blowsTo 19 = .ok (.aload_n 3, 1) := by decide +kernel
theorem dX11_blowsTo_20 : decode cX11_blowsTo 20 = .ok (.aload_n 3, 1) := by decide +kernel
theorem dX11_blowsTo_21 : decode cX11_blowsTo 21 = .ok (.getfield 196, 3) := by decide +kernel
theorem dX11_blowsTo_24 : decode cX11_blowsTo 24 = .ok (.getfield 200, 3) := by decide +kernel
theorem dX11_blowsTo_27 : decode cX11_blowsTo 27 = .ok (.invokevirtual 205, 3) := by decide +kernel
theorem dX11_blowsTo_30 : decode cX11_blowsTo 30 = .ok (.ireturn, 1) := by decide +kernel
theorem dX11_blowsTo_31 : decode cX11_blowsTo 31 = .ok (.iload_n 2, 1) := by decide +kernel
theorem dX11_blowsTo_32 : decode cX11_blowsTo 32 = .ok (.iconst 1, 1) := by decide +kernel
theorem dX11_blowsTo_33 : decode cX11_blowsTo 33 = .ok (.if_icmp .ne 14, 3) := by decide +kernel
theorem dX11_blowsTo_36 : decode cX11_blowsTo 36 = .ok (.aload_n 3, 1) := by decide +kernel
theorem dX11_blowsTo_37 : decode cX11_blowsTo 37 = .ok (.aload_n 3, 1) := by decide +kernel
theorem dX11_blowsTo_38 : decode cX11_blowsTo 38 = .ok (.invokevirtual 208, 3) := by decide +kernel
theorem dX11_blowsTo_41 : decode cX11_blowsTo 41 = .ok (.invokevirtual 205, 3) := by decide +kernel
theorem dX11_blowsTo_44 : decode cX11_blowsTo 44 = .ok (.goto 5, 3) := by decide +kernel
theorem dX11_blowsTo_47 : decode cX11_blowsTo 47 = .ok (.bipush (-2), 2) := by decide +kernel
theorem dX11_blowsTo_49 : decode cX11_blowsTo 49 = .ok (.ireturn, 1) := by decide +kernel
theorem dX11_goodFor_0 : decode cX11_goodFor 0 = .ok (.aload_n 0, 1) := by decide +kernel
theorem dX11_goodFor_1 : decode cX11_goodFor 1 = .ok (.getfield 20, 3) := by decide +kernel
theorem dX11_goodFor_4 : decode cX11_goodFor 4 = .ok (.iload_n 1, 1) := by decide +kernel
theorem dX11_goodFor_5 : decode cX11_goodFor 5 = .ok (.invokevirtual 150, 3) := by decide +kernel
theorem dX11_goodFor_8 : decode cX11_goodFor 8 = .ok (.astore_n 2, 1) := by decide +kernel
theorem dX11_goodFor_9 : decode cX11_goodFor 9 = .ok (.aload_n 2, 1) := by decide +kernel
theorem dX11_goodFor_10 : decode cX11_goodFor 10 = .ok (.ifnonnull 7, 3) := by decide +kernel
theorem dX11_goodFor_13 : decode cX11_goodFor 13 = .ok (.iconst (-1), 1) := by decide +kernel
theorem dX11_goodFor_14 : decode cX11_goodFor 14 = .ok (.goto 12, 3) := by decide +kernel
theorem dX11_goodFor_17 : decode cX11_goodFor 17 = .ok (.aload_n 0, 1) := by decide +kernel
theorem dX11_goodFor_18 : decode cX11_goodFor 18 = .ok (.getfield 20, 3) := by decide +kernel
theorem dX11_goodFor_21 : decode cX11_goodFor 21 = .ok (.aload_n 2, 1) := by decide +kernel
theorem dX11_goodFor_22 : decode cX11_goodFor 22 = .ok (.iconst 0, 1) := by decide +kernel
theorem dX11_goodFor_23 : decode cX11_goodFor 23 = .ok (.invokevirtual 221, 3) := by decide +kernel
theorem dX11_goodFor_26 : decode cX11_goodFor 26 = .ok (.ireturn, 1) := by decide +kernel
theorem dX11_copper_0 : decode cX11_copper 0 = .ok (.aload_n 0, 1) := by decide +kernel
theorem dX11_copper_1 : decode cX11_copper 1 = .ok (.getfield 20, 3) := by decide +kernel
theorem dX11_copper_4 : decode cX11_copper 4 = .ok (.invokevirtual 231, 3) := by decide +kernel
theorem dX11_copper_7 : decode cX11_copper 7 = .ok (.ireturn, 1) := by decide +kernel
theorem dX11_copperAgain_0 : decode cX11_copperAgain 0 = .ok (.aload_n 0, 1) := by decide +kernel
theorem dX11_copperAgain_1 : decode cX11_copperAgain 1 = .ok (.getfield 20, 3) := by decide +kernel
theorem dX11_copperAgain_4 : decode cX11_copperAgain 4 = .ok (.invokevirtual 234, 3) := by decide +kernel
theorem dX11_copperAgain_7 : decode cX11_copperAgain 7 = .ok (.ireturn, 1) := by decide +kernel
theorem dX11_coinsAgain_0 : decode cX11_coinsAgain 0 = .ok (.bipush 30, 2) := by decide +kernel
theorem dX11_coinsAgain_2 : decode cX11_coinsAgain 2 = .ok (.aload_n 0, 1) := by decide +kernel
theorem dX11_coinsAgain_3 : decode cX11_coinsAgain 3 = .ok (.getfield 20, 3) := by decide +kernel
theorem dX11_coinsAgain_6 : decode cX11_coinsAgain 6 = .ok (.invokevirtual 237, 3) := by decide +kernel
theorem dX11_coinsAgain_9 : decode cX11_coinsAgain 9 = .ok (.iadd, 1) := by decide +kernel
theorem dX11_coinsAgain_10 : decode cX11_coinsAgain 10 = .ok (.aload_n 0, 1) := by decide +kernel
theorem dX11_coinsAgain_11 : decode cX11_coinsAgain 11 = .ok (.getfield 20, 3) := by decide +kernel
theorem dX11_coinsAgain_14 : decode cX11_coinsAgain 14 = .ok (.invokevirtual 240, 3) := by decide +kernel
theorem dX11_coinsAgain_17 : decode cX11_coinsAgain 17 = .ok (.isub, 1) := by decide +kernel
theorem dX11_coinsAgain_18 : decode cX11_coinsAgain 18 = .ok (.aload_n 0, 1) := by decide +kernel
theorem dX11_coinsAgain_19 : decode cX11_coinsAgain 19 = .ok (.getfield 20, 3) := by decide +kernel
theorem dX11_coinsAgain_22 : decode cX11_coinsAgain 22 = .ok (.getfield 243, 3) := by decide +kernel
theorem dX11_coinsAgain_25 : decode cX11_coinsAgain 25 = .ok (.isub, 1) := by decide +kernel
theorem dX11_coinsAgain_26 : decode cX11_coinsAgain 26 = .ok (.ireturn, 1) := by decide +kernel
theorem dX11_barsAgain_0 : decode cX11_barsAgain 0 = .ok (.bipush 20, 2) := by decide +kernel
theorem dX11_barsAgain_2 : decode cX11_barsAgain 2 = .ok (.aload_n 0, 1) := by decide +kernel
theorem dX11_barsAgain_3 : decode cX11_barsAgain 3 = .ok (.getfield 20, 3) := by decide +kernel
theorem dX11_barsAgain_6 : decode cX11_barsAgain 6 = .ok (.getfield 243, 3) := by decide +kernel
theorem dX11_barsAgain_9 : decode cX11_barsAgain 9 = .ok (.iadd, 1) := by decide +kernel
theorem dX11_barsAgain_10 : decode cX11_barsAgain 10 = .ok (.aload_n 0, 1) := by decide +kernel
theorem dX11_barsAgain_11 : decode cX11_barsAgain 11 = .ok (.getfield 20, 3) := by decide +kernel
theorem dX11_barsAgain_14 : decode cX11_barsAgain 14 = .ok (.getfield 246, 3) := by decide +kernel
theorem dX11_barsAgain_17 : decode cX11_barsAgain 17 = .ok (.isub, 1) := by decide +kernel
theorem dX11_barsAgain_18 : decode cX11_barsAgain 18 = .ok (.ireturn, 1) := by decide +kernel
theorem dX11_meanSound_0 : decode cX11_meanSound 0 = .ok (.aload_n 0, 1) := by decide +kernel
theorem dX11_meanSound_1 : decode cX11_meanSound 1 = .ok (.getfield 42, 3) := by decide +kernel
theorem dX11_meanSound_4 : decode cX11_meanSound 4 = .ok (.aload_n 0, 1) := by decide +kernel
theorem dX11_meanSound_5 : decode cX11_meanSound 5 = .ok (.getfield 20, 3) := by decide +kernel
theorem dX11_meanSound_8 : decode cX11_meanSound 8 = .ok (.invokevirtual 167, 3) := by decide +kernel
theorem dX11_meanSound_11 : decode cX11_meanSound 11 = .ok (.aload_n 0, 1) := by decide +kernel
theorem dX11_meanSound_12 : decode cX11_meanSound 12 = .ok (.getfield 42, 3) := by decide +kernel
theorem dX11_meanSound_15 : decode cX11_meanSound 15 = .ok (.invokevirtual 264, 3) := by decide +kernel
theorem dX11_meanSound_18 : decode cX11_meanSound 18 = .ok (.freturn, 1) := by decide +kernel
theorem dX11_soldShare_0 : decode cX11_soldShare 0 = .ok (.aload_n 0, 1) := by decide +kernel
theorem dX11_soldShare_1 : decode cX11_soldShare 1 = .ok (.getfield 20, 3) := by decide +kernel
theorem dX11_soldShare_4 : decode cX11_soldShare 4 = .ok (.getfield 68, 3) := by decide +kernel
theorem dX11_soldShare_7 : decode cX11_soldShare 7 = .ok (.ifCond .ne 7, 3) := by decide +kernel
theorem dX11_soldShare_10 : decode cX11_soldShare 10 = .ok (.dconst 0, 1) := by decide +kernel
theorem dX11_soldShare_11 : decode cX11_soldShare 11 = .ok (.goto 20, 3) := by decide +kernel
theorem dX11_soldShare_14 : decode cX11_soldShare 14 = .ok (.aload_n 0, 1) := by decide +kernel
theorem dX11_soldShare_15 : decode cX11_soldShare 15 = .ok (.getfield 20, 3) := by decide +kernel
theorem dX11_soldShare_18 : decode cX11_soldShare 18 = .ok (.invokevirtual 268, 3) := by decide +kernel
theorem dX11_soldShare_21 : decode cX11_soldShare 21 = .ok (.i2d, 1) := by decide +kernel
theorem dX11_soldShare_22 : decode cX11_soldShare 22 = .ok (.aload_n 0, 1) := by decide +kernel
theorem dX11_soldShare_23 : decode cX11_soldShare 23 = .ok (.getfield 20, 3) := by decide +kernel
theorem dX11_soldShare_26 : decode cX11_soldShare 26 = .ok (.getfield 68, 3) := by decide +kernel
theorem dX11_soldShare_29 : decode cX11_soldShare 29 = .ok (.i2d, 1) := by decide +kernel
theorem dX11_soldShare_30 : decode cX11_soldShare 30 = .ok (.ddiv, 1) := by decide +kernel
theorem dX11_soldShare_31 : decode cX11_soldShare 31 = .ok (.dreturn, 1) := by decide +kernel
theorem dX11_account_0 : decode cX11_account 0 = .ok (.iload_n 1, 1) := by decide +kernel
theorem dX11_account_1 : decode cX11_account 1 = .ok (.tableswitch 221 0 15 #[79, 87, 95, 103, 111, 127, 137, 147, 155, 163, 172, 181, 189, 197, 205, 213], 79) := by decide +kernel
theorem dX11_account_80 : decode cX11_account 80 = .ok (.aload_n 0, 1) := by decide +kernel
theorem dX11_account_81 : decode cX11_account 81 = .ok (.getfield 20, 3) := by decide +kernel
theorem dX11_account_84 : decode cX11_account 84 = .ok (.getfield 271, 3) := by decide +kernel
theorem dX11_account_87 : decode cX11_account 87 = .ok (.ireturn, 1) := by decide +kernel
theorem dX11_account_88 : decode cX11_account 88 = .ok (.aload_n 0, 1) := by decide +kernel
theorem dX11_account_89 : decode cX11_account 89 = .ok (.getfield 20, 3) := by decide +kernel
theorem dX11_account_92 : decode cX11_account 92 = .ok (.getfield 274, 3) := by decide +kernel
theorem dX11_account_95 : decode cX11_account 95 = .ok (.ireturn, 1) := by decide +kernel
theorem dX11_account_96 : decode cX11_account 96 = .ok (.aload_n 0, 1) := by decide +kernel
theorem dX11_account_97 : decode cX11_account 97 = .ok (.getfield 20, 3) := by decide +kernel
theorem dX11_account_100 : decode cX11_account 100 = .ok (.getfield 277, 3) := by decide +kernel
theorem dX11_account_103 : decode cX11_account 103 = .ok (.ireturn, 1) := by decide +kernel
theorem dX11_account_104 : decode cX11_account 104 = .ok (.aload_n 0, 1) := by decide +kernel
theorem dX11_account_105 : decode cX11_account 105 = .ok (.getfield 20, 3) := by decide +kernel
theorem dX11_account_108 : decode cX11_account 108 = .ok (.getfield 68, 3) := by decide +kernel
theorem dX11_account_111 : decode cX11_account 111 = .ok (.ireturn, 1) := by decide +kernel
theorem dX11_account_112 : decode cX11_account 112 = .ok (.aload_n 0, 1) := by decide +kernel
theorem dX11_account_113 : decode cX11_account 113 = .ok (.getfield 20, 3) := by decide +kernel
theorem dX11_account_116 : decode cX11_account 116 = .ok (.getfield 68, 3) := by decide +kernel
theorem dX11_account_119 : decode cX11_account 119 = .ok (.aload_n 0, 1) := by decide +kernel
theorem dX11_account_120 : decode cX11_account 120 = .ok (.getfield 20, 3) := by decide +kernel
theorem dX11_account_123 : decode cX11_account 123 = .ok (.invokevirtual 268, 3) := by decide +kernel
theorem dX11_account_126 : decode cX11_account 126 = .ok (.isub, 1) := by decide +kernel
theorem dX11_account_127 : decode cX11_account 127 = .ok (.ireturn, 1) := by decide +kernel
theorem dX11_account_128 : decode cX11_account 128 = .ok (.aload_n 0, 1) := by decide +kernel
theorem dX11_account_129 : decode cX11_account 129 = .ok (.getfield 20, 3) := by decide +kernel
theorem dX11_account_132 : decode cX11_account 132 = .ok (.bipush 6, 2) := by decide +kernel
theorem dX11_account_134 : decode cX11_account 134 = .ok (.invokevirtual 280, 3) := by decide +kernel
theorem dX11_account_137 : decode cX11_account 137 = .ok (.ireturn, 1) := by decide +kernel
theorem dX11_account_138 : decode cX11_account 138 = .ok (.aload_n 0, 1) := by decide +kernel
theorem dX11_account_139 : decode cX11_account 139 = .ok (.getfield 20, 3) := by decide +kernel
theorem dX11_account_142 : decode cX11_account 142 = .ok (.bipush 7, 2) := by decide +kernel
theorem dX11_account_144 : decode cX11_account 144 = .ok (.invokevirtual 280, 3) := by decide +kernel
theorem dX11_account_147 : decode cX11_account 147 = .ok (.ireturn, 1) := by decide +kernel
theorem dX11_account_148 : decode cX11_account 148 = .ok (.aload_n 0, 1) := by decide +kernel
theorem dX11_account_149 : decode cX11_account 149 = .ok (.getfield 20, 3) := by decide +kernel
theorem dX11_account_152 : decode cX11_account 152 = .ok (.getfield 283, 3) := by decide +kernel
theorem dX11_account_155 : decode cX11_account 155 = .ok (.ireturn, 1) := by decide +kernel
theorem dX11_account_156 : decode cX11_account 156 = .ok (.aload_n 0, 1) := by decide +kernel
theorem dX11_account_157 : decode cX11_account 157 = .ok (.getfield 20, 3) := by decide +kernel
theorem dX11_account_160 : decode cX11_account 160 = .ok (.invokevirtual 268, 3) := by decide +kernel
theorem dX11_account_163 : decode cX11_account 163 = .ok (.ireturn, 1) := by decide +kernel
theorem dX11_account_164 : decode cX11_account 164 = .ok (.aload_n 0, 1) := by decide +kernel
theorem dX11_account_165 : decode cX11_account 165 = .ok (.getfield 20, 3) := by decide +kernel
theorem dX11_account_168 : decode cX11_account 168 = .ok (.iconst 3, 1) := by decide +kernel
theorem dX11_account_169 : decode cX11_account 169 = .ok (.invokevirtual 280, 3) := by decide +kernel
theorem dX11_account_172 : decode cX11_account 172 = .ok (.ireturn, 1) := by decide +kernel
theorem dX11_account_173 : decode cX11_account 173 = .ok (.aload_n 0, 1) := by decide +kernel
theorem dX11_account_174 : decode cX11_account 174 = .ok (.getfield 20, 3) := by decide +kernel
theorem dX11_account_177 : decode cX11_account 177 = .ok (.iconst 5, 1) := by decide +kernel
theorem dX11_account_178 : decode cX11_account 178 = .ok (.invokevirtual 280, 3) := by decide +kernel
theorem dX11_account_181 : decode cX11_account 181 = .ok (.ireturn, 1) := by decide +kernel
theorem dX11_account_182 : decode cX11_account 182 = .ok (.aload_n 0, 1) := by decide +kernel
theorem dX11_account_183 : decode cX11_account 183 = .ok (.getfield 20, 3) := by decide +kernel
theorem dX11_account_186 : decode cX11_account 186 = .ok (.getfield 286, 3) := by decide +kernel
theorem dX11_account_189 : decode cX11_account 189 = .ok (.ireturn, 1) := by decide +kernel
theorem dX11_account_190 : decode cX11_account 190 = .ok (.aload_n 0, 1) := by decide +kernel
theorem dX11_account_191 : decode cX11_account 191 = .ok (.getfield 20, 3) := by decide +kernel
theorem dX11_account_194 : decode cX11_account 194 = .ok (.getfield 246, 3) := by decide +kernel
theorem dX11_account_197 : decode cX11_account 197 = .ok (.ireturn, 1) := by decide +kernel
theorem dX11_account_198 : decode cX11_account 198 = .ok (.aload_n 0, 1) := by decide +kernel
theorem dX11_account_199 : decode cX11_account 199 = .ok (.getfield 20, 3) := by decide +kernel
theorem dX11_account_202 : decode cX11_account 202 = .ok (.invokevirtual 237, 3) := by decide +kernel
theorem dX11_account_205 : decode cX11_account 205 = .ok (.ireturn, 1) := by decide +kernel
theorem dX11_account_206 : decode cX11_account 206 = .ok (.aload_n 0, 1) := by decide +kernel
theorem dX11_account_207 : decode cX11_account 207 = .ok (.getfield 49, 3) := by decide +kernel
theorem dX11_account_210 : decode cX11_account 210 = .ok (.invokevirtual 289, 3) := by decide +kernel
theorem dX11_account_213 : decode cX11_account 213 = .ok (.ireturn, 1) := by decide +kernel
theorem dX11_account_214 : decode cX11_account 214 = .ok (.aload_n 0, 1) := by decide +kernel
theorem dX11_account_215 : decode cX11_account 215 = .ok (.getfield 35, 3) := by decide +kernel
theorem dX11_account_218 : decode cX11_account 218 = .ok (.invokevirtual 290, 3) := by decide +kernel
theorem dX11_account_221 : decode cX11_account 221 = .ok (.ireturn, 1) := by decide +kernel
theorem dX11_account_222 : decode cX11_account 222 = .ok (.bipush (-2), 2) := by decide +kernel
theorem dX11_account_224 : decode cX11_account 224 = .ok (.ireturn, 1) := by decide +kernel
theorem dX11_kept_0 : decode cX11_kept 0 = .ok (.iload_n 1, 1) := by decide +kernel
theorem dX11_kept_1 : decode cX11_kept 1 = .ok (.ifCond .lt 10, 3) := by decide +kernel
theorem dX11_kept_4 : decode cX11_kept 4 = .ok (.aload_n 0, 1) := by decide +kernel
theorem dX11_kept_5 : decode cX11_kept 5 = .ok (.getfield 35, 3) := by decide +kernel
theorem dX11_kept_8 : decode cX11_kept 8 = .ok (.invokevirtual 303, 3) := by decide +kernel
theorem dX11_kept_11 : decode cX11_kept 11 = .ok (.iload_n 1, 1) := by decide +kernel
theorem dX11_kept_12 : decode cX11_kept 12 = .ok (.ireturn, 1) := by decide +kernel
theorem dX11_ringAlike_0 : decode cX11_ringAlike 0 = .ok (.iload_n 0, 1) := by decide +kernel
theorem dX11_ringAlike_1 : decode cX11_ringAlike 1 = .ok (.iload_n 1, 1) := by decide +kernel
theorem dX11_ringAlike_2 : decode cX11_ringAlike 2 = .ok (.isub, 1) := by decide +kernel
theorem dX11_ringAlike_3 : decode cX11_ringAlike 3 = .ok (.invokestatic 323, 3) := by decide +kernel
theorem dX11_ringAlike_6 : decode cX11_ringAlike 6 = .ok (.iconst 2, 1) := by decide +kernel
theorem dX11_ringAlike_7 : decode cX11_ringAlike 7 = .ok (.if_icmp .gt 7, 3) := by decide +kernel
theorem dX11_ringAlike_10 : decode cX11_ringAlike 10 = .ok (.iconst 1, 1) := by decide +kernel
theorem dX11_ringAlike_11 : decode cX11_ringAlike 11 = .ok (.goto 4, 3) := by decide +kernel
theorem dX11_ringAlike_14 : decode cX11_ringAlike 14 = .ok (.iconst 0, 1) := by decide +kernel
theorem dX11_ringAlike_15 : decode cX11_ringAlike 15 = .ok (.ireturn, 1) := by decide +kernel
