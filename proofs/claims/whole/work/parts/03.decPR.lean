theorem d_PR_init_0 : decode b_PR_init 0 = .ok (.aload_n 0, 1) := by decide +kernel
theorem d_PR_init_1 : decode b_PR_init 1 = .ok (.invokespecial 1, 3) := by decide +kernel
theorem d_PR_init_4 : decode b_PR_init 4 = .ok (.aload_n 0, 1) := by decide +kernel
theorem d_PR_init_5 : decode b_PR_init 5 = .ok (.new 7, 3) := by decide +kernel
theorem d_PR_init_8 : decode b_PR_init 8 = .ok (.dup, 1) := by decide +kernel
theorem d_PR_init_9 : decode b_PR_init 9 = .ok (.invokespecial 9, 3) := by decide +kernel
theorem d_PR_init_12 : decode b_PR_init 12 = .ok (.putfield 10, 3) := by decide +kernel
theorem d_PR_init_15 : decode b_PR_init 15 = .ok (.aload_n 0, 1) := by decide +kernel
theorem d_PR_init_16 : decode b_PR_init 16 = .ok (.new 7, 3) := by decide +kernel
theorem d_PR_init_19 : decode b_PR_init 19 = .ok (.dup, 1) := by decide +kernel
theorem d_PR_init_20 : decode b_PR_init 20 = .ok (.invokespecial 9, 3) := by decide +kernel
theorem d_PR_init_23 : decode b_PR_init 23 = .ok (.putfield 16, 3) := by decide +kernel
theorem d_PR_init_26 : decode b_PR_init 26 = .ok (.aload_n 0, 1) := by decide +kernel
theorem d_PR_init_27 : decode b_PR_init 27 = .ok (.new 19, 3) := by decide +kernel
theorem d_PR_init_30 : decode b_PR_init 30 = .ok (.dup, 1) := by decide +kernel
theorem d_PR_init_31 : decode b_PR_init 31 = .ok (.invokespecial 21, 3) := by decide +kernel
theorem d_PR_init_34 : decode b_PR_init 34 = .ok (.putfield 22, 3) := by decide +kernel
theorem d_PR_init_37 : decode b_PR_init 37 = .ok (.return_, 1) := by decide +kernel
theorem d_PR_root_0 : decode b_PR_root 0 = .ok (.iload_n 2, 1) := by decide +kernel
theorem d_PR_root_1 : decode b_PR_root 1 = .ok (.ifCond .lt 24, 3) := by decide +kernel
theorem d_PR_root_4 : decode b_PR_root 4 = .ok (.iload_n 2, 1) := by decide +kernel
theorem d_PR_root_5 : decode b_PR_root 5 = .ok (.bipush 32, 2) := by decide +kernel
theorem d_PR_root_7 : decode b_PR_root 7 = .ok (.if_icmp .ge 18, 3) := by decide +kernel
theorem d_PR_root_10 : decode b_PR_root 10 = .ok (.iload_n 1, 1) := by decide +kernel
theorem d_PR_root_11 : decode b_PR_root 11 = .ok (.iload_n 2, 1) := by decide +kernel
theorem d_PR_root_12 : decode b_PR_root 12 = .ok (.invokestatic 26, 3) := by decide +kernel
theorem d_PR_root_15 : decode b_PR_root 15 = .ok (.ifCond .eq 10, 3) := by decide +kernel
theorem d_PR_root_18 : decode b_PR_root 18 = .ok (.iload_n 3, 1) := by decide +kernel
theorem d_PR_root_19 : decode b_PR_root 19 = .ok (.invokestatic 30, 3) := by decide +kernel
theorem d_PR_root_22 : decode b_PR_root 22 = .ok (.ifCond .ne 11, 3) := by decide +kernel
theorem d_PR_root_25 : decode b_PR_root 25 = .ok (.new 34, 3) := by decide +kernel
theorem d_PR_root_28 : decode b_PR_root 28 = .ok (.dup, 1) := by decide +kernel
theorem d_PR_root_29 : decode b_PR_root 29 = .ok (.invokespecial 36, 3) := by decide +kernel
theorem d_PR_root_32 : decode b_PR_root 32 = .ok (.athrow, 1) := by decide +kernel
theorem d_PR_root_33 : decode b_PR_root 33 = .ok (.aload_n 0, 1) := by decide +kernel
theorem d_PR_root_34 : decode b_PR_root 34 = .ok (.getfield 10, 3) := by decide +kernel
theorem d_PR_root_37 : decode b_PR_root 37 = .ok (.iload_n 1, 1) := by decide +kernel
theorem d_PR_root_38 : decode b_PR_root 38 = .ok (.iload_n 2, 1) := by decide +kernel
theorem d_PR_root_39 : decode b_PR_root 39 = .ok (.invokevirtual 37, 3) := by decide +kernel
theorem d_PR_root_42 : decode b_PR_root 42 = .ok (.ifCond .eq 11, 3) := by decide +kernel
theorem d_PR_root_45 : decode b_PR_root 45 = .ok (.new 40, 3) := by decide +kernel
theorem d_PR_root_48 : decode b_PR_root 48 = .ok (.dup, 1) := by decide +kernel
theorem d_PR_root_49 : decode b_PR_root 49 = .ok (.invokespecial 42, 3) := by decide +kernel
theorem d_PR_root_52 : decode b_PR_root 52 = .ok (.athrow, 1) := by decide +kernel
theorem d_PR_root_53 : decode b_PR_root 53 = .ok (.aload_n 0, 1) := by decide +kernel
theorem d_PR_root_54 : decode b_PR_root 54 = .ok (.getfield 10, 3) := by decide +kernel
theorem d_PR_root_57 : decode b_PR_root 57 = .ok (.getfield 43, 3) := by decide +kernel
theorem d_PR_root_60 : decode b_PR_root 60 = .ok (.invokevirtual 47, 3) := by decide +kernel
theorem d_PR_root_63 : decode b_PR_root 63 = .ok (.ifCond .eq 11, 3) := by decide +kernel
theorem d_PR_root_66 : decode b_PR_root 66 = .ok (.new 53, 3) := by decide +kernel
theorem d_PR_root_69 : decode b_PR_root 69 = .ok (.dup, 1) := by decide +kernel
theorem d_PR_root_70 : decode b_PR_root 70 = .ok (.invokespecial 55, 3) := by decide +kernel
theorem d_PR_root_73 : decode b_PR_root 73 = .ok (.athrow, 1) := by decide +kernel
theorem d_PR_root_74 : decode b_PR_root 74 = .ok (.aload_n 0, 1) := by decide +kernel
theorem d_PR_root_75 : decode b_PR_root 75 = .ok (.iconst 1, 1) := by decide +kernel
theorem d_PR_root_76 : decode b_PR_root 76 = .ok (.iload_n 1, 1) := by decide +kernel
theorem d_PR_root_77 : decode b_PR_root 77 = .ok (.iload_n 2, 1) := by decide +kernel
theorem d_PR_root_78 : decode b_PR_root 78 = .ok (.iload_n 3, 1) := by decide +kernel
theorem d_PR_root_79 : decode b_PR_root 79 = .ok (.invokevirtual 56, 3) := by decide +kernel
theorem d_PR_root_82 : decode b_PR_root 82 = .ok (.ireturn, 1) := by decide +kernel
theorem d_PR_ask_0 : decode b_PR_ask 0 = .ok (.aload_n 0, 1) := by decide +kernel
theorem d_PR_ask_1 : decode b_PR_ask 1 = .ok (.getfield 10, 3) := by decide +kernel
theorem d_PR_ask_4 : decode b_PR_ask 4 = .ok (.iload_n 1, 1) := by decide +kernel
theorem d_PR_ask_5 : decode b_PR_ask 5 = .ok (.iload_n 2, 1) := by decide +kernel
theorem d_PR_ask_6 : decode b_PR_ask 6 = .ok (.invokevirtual 60, 3) := by decide +kernel
theorem d_PR_ask_9 : decode b_PR_ask 9 = .ok (.istore 4, 2) := by decide +kernel
theorem d_PR_ask_11 : decode b_PR_ask 11 = .ok (.iload 4, 2) := by decide +kernel
theorem d_PR_ask_13 : decode b_PR_ask 13 = .ok (.ifCond .ne 17, 3) := by decide +kernel
theorem d_PR_ask_16 : decode b_PR_ask 16 = .ok (.aload_n 0, 1) := by decide +kernel
theorem d_PR_ask_17 : decode b_PR_ask 17 = .ok (.iconst 2, 1) := by decide +kernel
theorem d_PR_ask_18 : decode b_PR_ask 18 = .ok (.iload_n 1, 1) := by decide +kernel
theorem d_PR_ask_19 : decode b_PR_ask 19 = .ok (.iload_n 2, 1) := by decide +kernel
theorem d_PR_ask_20 : decode b_PR_ask 20 = .ok (.iload_n 3, 1) := by decide +kernel
theorem d_PR_ask_21 : decode b_PR_ask 21 = .ok (.invokestatic 64, 3) := by decide +kernel
theorem d_PR_ask_24 : decode b_PR_ask 24 = .ok (.invokevirtual 56, 3) := by decide +kernel
theorem d_PR_ask_27 : decode b_PR_ask 27 = .ok (.goto 5, 3) := by decide +kernel
theorem d_PR_ask_30 : decode b_PR_ask 30 = .ok (.iload 4, 2) := by decide +kernel
theorem d_PR_ask_32 : decode b_PR_ask 32 = .ok (.ireturn, 1) := by decide +kernel
theorem d_PR_reserve_0 : decode b_PR_reserve 0 = .ok (.aload_n 0, 1) := by decide +kernel
theorem d_PR_reserve_1 : decode b_PR_reserve 1 = .ok (.getfield 10, 3) := by decide +kernel
theorem d_PR_reserve_4 : decode b_PR_reserve 4 = .ok (.iload_n 1, 1) := by decide +kernel
theorem d_PR_reserve_5 : decode b_PR_reserve 5 = .ok (.iload_n 2, 1) := by decide +kernel
theorem d_PR_reserve_6 : decode b_PR_reserve 6 = .ok (.iload_n 3, 1) := by decide +kernel
theorem d_PR_reserve_7 : decode b_PR_reserve 7 = .ok (.invokevirtual 68, 3) := by decide +kernel
theorem d_PR_reserve_10 : decode b_PR_reserve 10 = .ok (.istore 4, 2) := by decide +kernel
theorem d_PR_reserve_12 : decode b_PR_reserve 12 = .ok (.iload 4, 2) := by decide +kernel
theorem d_PR_reserve_14 : decode b_PR_reserve 14 = .ok (.ifCond .ne 14, 3) := by decide +kernel
theorem d_PR_reserve_17 : decode b_PR_reserve 17 = .ok (.aload_n 0, 1) := by decide +kernel
theorem d_PR_reserve_18 : decode b_PR_reserve 18 = .ok (.iconst 3, 1) := by decide +kernel
theorem d_PR_reserve_19 : decode b_PR_reserve 19 = .ok (.iload_n 1, 1) := by decide +kernel
theorem d_PR_reserve_20 : decode b_PR_reserve 20 = .ok (.iload_n 2, 1) := by decide +kernel
theorem d_PR_reserve_21 : decode b_PR_reserve 21 = .ok (.iload_n 3, 1) := by decide +kernel
theorem d_PR_reserve_22 : decode b_PR_reserve 22 = .ok (.invokevirtual 56, 3) := by decide +kernel
theorem d_PR_reserve_25 : decode b_PR_reserve 25 = .ok (.goto 5, 3) := by decide +kernel
theorem d_PR_reserve_28 : decode b_PR_reserve 28 = .ok (.iload 4, 2) := by decide +kernel
theorem d_PR_reserve_30 : decode b_PR_reserve 30 = .ok (.ireturn, 1) := by decide +kernel
theorem d_PR_give_0 : decode b_PR_give 0 = .ok (.aload_n 0, 1) := by decide +kernel
theorem d_PR_give_1 : decode b_PR_give 1 = .ok (.iload_n 1, 1) := by decide +kernel
theorem d_PR_give_2 : decode b_PR_give 2 = .ok (.invokevirtual 72, 3) := by decide +kernel
theorem d_PR_give_5 : decode b_PR_give 5 = .ok (.aload_n 0, 1) := by decide +kernel
theorem d_PR_give_6 : decode b_PR_give 6 = .ok (.getfield 10, 3) := by decide +kernel
theorem d_PR_give_9 : decode b_PR_give 9 = .ok (.getfield 43, 3) := by decide +kernel
theorem d_PR_give_12 : decode b_PR_give 12 = .ok (.getfield 76, 3) := by decide +kernel
theorem d_PR_give_15 : decode b_PR_give 15 = .ok (.iload_n 1, 1) := by decide +kernel
theorem d_PR_give_16 : decode b_PR_give 16 = .ok (.iaload, 1) := by decide +kernel
theorem d_PR_give_17 : decode b_PR_give 17 = .ok (.iconst 2, 1) := by decide +kernel
theorem d_PR_give_18 : decode b_PR_give 18 = .ok (.if_icmp .eq 11, 3) := by decide +kernel
theorem d_PR_give_21 : decode b_PR_give 21 = .ok (.new 40, 3) := by decide +kernel
theorem d_PR_give_24 : decode b_PR_give 24 = .ok (.dup, 1) := by decide +kernel
theorem d_PR_give_25 : decode b_PR_give 25 = .ok (.invokespecial 42, 3) := by decide +kernel
theorem d_PR_give_28 : decode b_PR_give 28 = .ok (.athrow, 1) := by decide +kernel
theorem d_PR_give_29 : decode b_PR_give 29 = .ok (.aload_n 0, 1) := by decide +kernel
theorem d_PR_give_30 : decode b_PR_give 30 = .ok (.iconst 4, 1) := by decide +kernel
theorem d_PR_give_31 : decode b_PR_give 31 = .ok (.iload_n 1, 1) := by decide +kernel
theorem d_PR_give_32 : decode b_PR_give 32 = .ok (.iconst 0, 1) := by decide +kernel
theorem d_PR_give_33 : decode b_PR_give 33 = .ok (.iconst 0, 1) := by decide +kernel
theorem d_PR_give_34 : decode b_PR_give 34 = .ok (.invokevirtual 56, 3) := by decide +kernel
theorem d_PR_give_37 : decode b_PR_give 37 = .ok (.pop, 1) := by decide +kernel
theorem d_PR_give_38 : decode b_PR_give 38 = .ok (.return_, 1) := by decide +kernel
theorem d_PR_back_0 : decode b_PR_back 0 = .ok (.aload_n 0, 1) := by decide +kernel
theorem d_PR_back_1 : decode b_PR_back 1 = .ok (.iload_n 1, 1) := by decide +kernel
theorem d_PR_back_2 : decode b_PR_back 2 = .ok (.invokevirtual 72, 3) := by decide +kernel
theorem d_PR_back_5 : decode b_PR_back 5 = .ok (.aload_n 0, 1) := by decide +kernel
theorem d_PR_back_6 : decode b_PR_back 6 = .ok (.getfield 10, 3) := by decide +kernel
theorem d_PR_back_9 : decode b_PR_back 9 = .ok (.iload_n 1, 1) := by decide +kernel
theorem d_PR_back_10 : decode b_PR_back 10 = .ok (.invokevirtual 80, 3) := by decide +kernel
theorem d_PR_back_13 : decode b_PR_back 13 = .ok (.ifCond .ne 11, 3) := by decide +kernel
theorem d_PR_back_16 : decode b_PR_back 16 = .ok (.new 40, 3) := by decide +kernel
theorem d_PR_back_19 : decode b_PR_back 19 = .ok (.dup, 1) := by decide +kernel
theorem d_PR_back_20 : decode b_PR_back 20 = .ok (.invokespecial 42, 3) := by decide +kernel
theorem d_PR_back_23 : decode b_PR_back 23 = .ok (.athrow, 1) := by decide +kernel
theorem d_PR_back_24 : decode b_PR_back 24 = .ok (.aload_n 0, 1) := by decide +kernel
theorem d_PR_back_25 : decode b_PR_back 25 = .ok (.iconst 5, 1) := by decide +kernel
theorem d_PR_back_26 : decode b_PR_back 26 = .ok (.iload_n 1, 1) := by decide +kernel
theorem d_PR_back_27 : decode b_PR_back 27 = .ok (.iconst 0, 1) := by decide +kernel
theorem d_PR_back_28 : decode b_PR_back 28 = .ok (.iconst 0, 1) := by decide +kernel
theorem d_PR_back_29 : decode b_PR_back 29 = .ok (.invokevirtual 56, 3) := by decide +kernel
theorem d_PR_back_32 : decode b_PR_back 32 = .ok (.ireturn, 1) := by decide +kernel
theorem d_PR_grow_0 : decode b_PR_grow 0 = .ok (.aload_n 0, 1) := by decide +kernel
theorem d_PR_grow_1 : decode b_PR_grow 1 = .ok (.getfield 10, 3) := by decide +kernel
theorem d_PR_grow_4 : decode b_PR_grow 4 = .ok (.iload_n 1, 1) := by decide +kernel
theorem d_PR_grow_5 : decode b_PR_grow 5 = .ok (.invokevirtual 83, 3) := by decide +kernel
theorem d_PR_grow_8 : decode b_PR_grow 8 = .ok (.istore_n 2, 1) := by decide +kernel
theorem d_PR_grow_9 : decode b_PR_grow 9 = .ok (.iload_n 2, 1) := by decide +kernel
theorem d_PR_grow_10 : decode b_PR_grow 10 = .ok (.ifCond .ne 15, 3) := by decide +kernel
theorem d_PR_grow_13 : decode b_PR_grow 13 = .ok (.aload_n 0, 1) := by decide +kernel
theorem d_PR_grow_14 : decode b_PR_grow 14 = .ok (.bipush 6, 2) := by decide +kernel
theorem d_PR_grow_16 : decode b_PR_grow 16 = .ok (.iload_n 1, 1) := by decide +kernel
theorem d_PR_grow_17 : decode b_PR_grow 17 = .ok (.iconst 0, 1) := by decide +kernel
theorem d_PR_grow_18 : decode b_PR_grow 18 = .ok (.iconst 0, 1) := by decide +kernel
theorem d_PR_grow_19 : decode b_PR_grow 19 = .ok (.invokevirtual 56, 3) := by decide +kernel
theorem d_PR_grow_22 : decode b_PR_grow 22 = .ok (.goto 4, 3) := by decide +kernel
theorem d_PR_grow_25 : decode b_PR_grow 25 = .ok (.iload_n 2, 1) := by decide +kernel
theorem d_PR_grow_26 : decode b_PR_grow 26 = .ok (.ireturn, 1) := by decide +kernel
theorem d_PR_shrink_0 : decode b_PR_shrink 0 = .ok (.aload_n 0, 1) := by decide +kernel
theorem d_PR_shrink_1 : decode b_PR_shrink 1 = .ok (.getfield 10, 3) := by decide +kernel
theorem d_PR_shrink_4 : decode b_PR_shrink 4 = .ok (.iload_n 1, 1) := by decide +kernel
theorem d_PR_shrink_5 : decode b_PR_shrink 5 = .ok (.iload_n 2, 1) := by decide +kernel
theorem d_PR_shrink_6 : decode b_PR_shrink 6 = .ok (.invokevirtual 87, 3) := by decide +kernel
theorem d_PR_shrink_9 : decode b_PR_shrink 9 = .ok (.istore_n 3, 1) := by decide +kernel
theorem d_PR_shrink_10 : decode b_PR_shrink 10 = .ok (.iload_n 3, 1) := by decide +kernel
theorem d_PR_shrink_11 : decode b_PR_shrink 11 = .ok (.ifCond .ne 18, 3) := by decide +kernel
theorem d_PR_shrink_14 : decode b_PR_shrink 14 = .ok (.aload_n 0, 1) := by decide +kernel
theorem d_PR_shrink_15 : decode b_PR_shrink 15 = .ok (.bipush 7, 2) := by decide +kernel
theorem d_PR_shrink_17 : decode b_PR_shrink 17 = .ok (.iload_n 1, 1) := by decide +kernel
theorem d_PR_shrink_18 : decode b_PR_shrink 18 = .ok (.iload_n 2, 1) := by decide +kernel
theorem d_PR_shrink_19 : decode b_PR_shrink 19 = .ok (.invokestatic 64, 3) := by decide +kernel
theorem d_PR_shrink_22 : decode b_PR_shrink 22 = .ok (.iconst 0, 1) := by decide +kernel
theorem d_PR_shrink_23 : decode b_PR_shrink 23 = .ok (.invokevirtual 56, 3) := by decide +kernel
theorem d_PR_shrink_26 : decode b_PR_shrink 26 = .ok (.goto 4, 3) := by decide +kernel
theorem d_PR_shrink_29 : decode b_PR_shrink 29 = .ok (.iload_n 3, 1) := by decide +kernel
theorem d_PR_shrink_30 : decode b_PR_shrink 30 = .ok (.ireturn, 1) := by decide +kernel
theorem d_PR_transfer_0 : decode b_PR_transfer 0 = .ok (.aload_n 0, 1) := by decide +kernel
theorem d_PR_transfer_1 : decode b_PR_transfer 1 = .ok (.iload_n 1, 1) := by decide +kernel
theorem d_PR_transfer_2 : decode b_PR_transfer 2 = .ok (.invokevirtual 72, 3) := by decide +kernel
theorem d_PR_transfer_5 : decode b_PR_transfer 5 = .ok (.iload_n 2, 1) := by decide +kernel
theorem d_PR_transfer_6 : decode b_PR_transfer 6 = .ok (.invokestatic 30, 3) := by decide +kernel
theorem d_PR_transfer_9 : decode b_PR_transfer 9 = .ok (.ifCond .ne 11, 3) := by decide +kernel
theorem d_PR_transfer_12 : decode b_PR_transfer 12 = .ok (.new 34, 3) := by decide +kernel
theorem d_PR_transfer_15 : decode b_PR_transfer 15 = .ok (.dup, 1) := by decide +kernel
theorem d_PR_transfer_16 : decode b_PR_transfer 16 = .ok (.invokespecial 36, 3) := by decide +kernel
theorem d_PR_transfer_19 : decode b_PR_transfer 19 = .ok (.athrow, 1) := by decide +kernel
theorem d_PR_transfer_20 : decode b_PR_transfer 20 = .ok (.aload_n 0, 1) := by decide +kernel
theorem d_PR_transfer_21 : decode b_PR_transfer 21 = .ok (.getfield 10, 3) := by decide +kernel
theorem d_PR_transfer_24 : decode b_PR_transfer 24 = .ok (.getfield 43, 3) := by decide +kernel
theorem d_PR_transfer_27 : decode b_PR_transfer 27 = .ok (.iload_n 1, 1) := by decide +kernel
theorem d_PR_transfer_28 : decode b_PR_transfer 28 = .ok (.invokevirtual 91, 3) := by decide +kernel
theorem d_PR_transfer_31 : decode b_PR_transfer 31 = .ok (.ifCond .ne 11, 3) := by decide +kernel
theorem d_PR_transfer_34 : decode b_PR_transfer 34 = .ok (.new 40, 3) := by decide +kernel
theorem d_PR_transfer_37 : decode b_PR_transfer 37 = .ok (.dup, 1) := by decide +kernel
theorem d_PR_transfer_38 : decode b_PR_transfer 38 = .ok (.invokespecial 42, 3) := by decide +kernel
theorem d_PR_transfer_41 : decode b_PR_transfer 41 = .ok (.athrow, 1) := by decide +kernel
theorem d_PR_transfer_42 : decode b_PR_transfer 42 = .ok (.aload_n 0, 1) := by decide +kernel
theorem d_PR_transfer_43 : decode b_PR_transfer 43 = .ok (.bipush 8, 2) := by decide +kernel
theorem d_PR_transfer_45 : decode b_PR_transfer 45 = .ok (.iload_n 1, 1) := by decide +kernel
theorem d_PR_transfer_46 : decode b_PR_transfer 46 = .ok (.iload_n 2, 1) := by decide +kernel
theorem d_PR_transfer_47 : decode b_PR_transfer 47 = .ok (.iconst 0, 1) := by decide +kernel
theorem d_PR_transfer_48 : decode b_PR_transfer 48 = .ok (.invokevirtual 56, 3) := by decide +kernel
theorem d_PR_transfer_51 : decode b_PR_transfer 51 = .ok (.ireturn, 1) := by decide +kernel
theorem d_PR_policy_0 : decode b_PR_policy 0 = .ok (.iload_n 1, 1) := by decide +kernel
theorem d_PR_policy_1 : decode b_PR_policy 1 = .ok (.ifCond .lt 19, 3) := by decide +kernel
theorem d_PR_policy_4 : decode b_PR_policy 4 = .ok (.iload_n 1, 1) := by decide +kernel
theorem d_PR_policy_5 : decode b_PR_policy 5 = .ok (.iconst 4, 1) := by decide +kernel
theorem d_PR_policy_6 : decode b_PR_policy 6 = .ok (.if_icmp .ge 14, 3) := by decide +kernel
theorem d_PR_policy_9 : decode b_PR_policy 9 = .ok (.iload_n 2, 1) := by decide +kernel
theorem d_PR_policy_10 : decode b_PR_policy 10 = .ok (.ifCond .lt 10, 3) := by decide +kernel
theorem d_PR_policy_13 : decode b_PR_policy 13 = .ok (.iload_n 2, 1) := by decide +kernel
theorem d_PR_policy_14 : decode b_PR_policy 14 = .ok (.sipush 1000, 3) := by decide +kernel
theorem d_PR_policy_17 : decode b_PR_policy 17 = .ok (.if_icmp .le 11, 3) := by decide +kernel
theorem d_PR_policy_20 : decode b_PR_policy 20 = .ok (.new 34, 3) := by decide +kernel
theorem d_PR_policy_23 : decode b_PR_policy 23 = .ok (.dup, 1) := by decide +kernel
theorem d_PR_policy_24 : decode b_PR_policy 24 = .ok (.invokespecial 36, 3) := by decide +kernel
theorem d_PR_policy_27 : decode b_PR_policy 27 = .ok (.athrow, 1) := by decide +kernel
theorem d_PR_policy_28 : decode b_PR_policy 28 = .ok (.aload_n 0, 1) := by decide +kernel
theorem d_PR_policy_29 : decode b_PR_policy 29 = .ok (.bipush 9, 2) := by decide +kernel
theorem d_PR_policy_31 : decode b_PR_policy 31 = .ok (.iload_n 1, 1) := by decide +kernel
theorem d_PR_policy_32 : decode b_PR_policy 32 = .ok (.iload_n 2, 1) := by decide +kernel
theorem d_PR_policy_33 : decode b_PR_policy 33 = .ok (.iconst 0, 1) := by decide +kernel
theorem d_PR_policy_34 : decode b_PR_policy 34 = .ok (.invokevirtual 56, 3) := by decide +kernel
theorem d_PR_policy_37 : decode b_PR_policy 37 = .ok (.pop, 1) := by decide +kernel
theorem d_PR_policy_38 : decode b_PR_policy 38 = .ok (.return_, 1) := by decide +kernel
theorem d_PR_day_0 : decode b_PR_day 0 = .ok (.iload_n 1, 1) := by decide +kernel
theorem d_PR_day_1 : decode b_PR_day 1 = .ok (.aload_n 0, 1) := by decide +kernel
theorem d_PR_day_2 : decode b_PR_day 2 = .ok (.getfield 10, 3) := by decide +kernel
theorem d_PR_day_5 : decode b_PR_day 5 = .ok (.getfield 94, 3) := by decide +kernel
theorem d_PR_day_8 : decode b_PR_day 8 = .ok (.if_icmp .lt 9, 3) := by decide +kernel
theorem d_PR_day_11 : decode b_PR_day 11 = .ok (.iload_n 1, 1) := by decide +kernel
theorem d_PR_day_12 : decode b_PR_day 12 = .ok (.ldc 98, 2) := by decide +kernel
theorem d_PR_day_14 : decode b_PR_day 14 = .ok (.if_icmp .le 11, 3) := by decide +kernel
theorem d_PR_day_17 : decode b_PR_day 17 = .ok (.new 34, 3) := by decide +kernel
theorem d_PR_day_20 : decode b_PR_day 20 = .ok (.dup, 1) := by decide +kernel
theorem d_PR_day_21 : decode b_PR_day 21 = .ok (.invokespecial 36, 3) := by decide +kernel
theorem d_PR_day_24 : decode b_PR_day 24 = .ok (.athrow, 1) := by decide +kernel
theorem d_PR_day_25 : decode b_PR_day 25 = .ok (.aload_n 0, 1) := by decide +kernel
theorem d_PR_day_26 : decode b_PR_day 26 = .ok (.bipush 10, 2) := by decide +kernel
theorem d_PR_day_28 : decode b_PR_day 28 = .ok (.iload_n 1, 1) := by decide +kernel
theorem d_PR_day_29 : decode b_PR_day 29 = .ok (.iconst 0, 1) := by decide +kernel
theorem d_PR_day_30 : decode b_PR_day 30 = .ok (.iconst 0, 1) := by decide +kernel
theorem d_PR_day_31 : decode b_PR_day 31 = .ok (.invokevirtual 56, 3) := by decide +kernel
theorem d_PR_day_34 : decode b_PR_day 34 = .ok (.ireturn, 1) := by decide +kernel
theorem d_PR_quarantine_0 : decode b_PR_quarantine 0 = .ok (.iload_n 1, 1) := by decide +kernel
theorem d_PR_quarantine_1 : decode b_PR_quarantine 1 = .ok (.ifCond .lt 10, 3) := by decide +kernel
theorem d_PR_quarantine_4 : decode b_PR_quarantine 4 = .ok (.iload_n 1, 1) := by decide +kernel
theorem d_PR_quarantine_5 : decode b_PR_quarantine 5 = .ok (.sipush 1000, 3) := by decide +kernel
theorem d_PR_quarantine_8 : decode b_PR_quarantine 8 = .ok (.if_icmp .le 11, 3) := by decide +kernel
theorem d_PR_quarantine_11 : decode b_PR_quarantine 11 = .ok (.new 34, 3) := by decide +kernel
theorem d_PR_quarantine_14 : decode b_PR_quarantine 14 = .ok (.dup, 1) := by decide +kernel
theorem d_PR_quarantine_15 : decode b_PR_quarantine 15 = .ok (.invokespecial 36, 3) := by decide +kernel
theorem d_PR_quarantine_18 : decode b_PR_quarantine 18 = .ok (.athrow, 1) := by decide +kernel
theorem d_PR_quarantine_19 : decode b_PR_quarantine 19 = .ok (.aload_n 0, 1) := by decide +kernel
theorem d_PR_quarantine_20 : decode b_PR_quarantine 20 = .ok (.bipush 11, 2) := by decide +kernel
theorem d_PR_quarantine_22 : decode b_PR_quarantine 22 = .ok (.iload_n 1, 1) := by decide +kernel
theorem d_PR_quarantine_23 : decode b_PR_quarantine 23 = .ok (.iconst 0, 1) := by decide +kernel
theorem d_PR_quarantine_24 : decode b_PR_quarantine 24 = .ok (.iconst 0, 1) := by decide +kernel
theorem d_PR_quarantine_25 : decode b_PR_quarantine 25 = .ok (.invokevirtual 56, 3) := by decide +kernel
theorem d_PR_quarantine_28 : decode b_PR_quarantine 28 = .ok (.pop, 1) := by decide +kernel
theorem d_PR_quarantine_29 : decode b_PR_quarantine 29 = .ok (.return_, 1) := by decide +kernel
theorem d_PR_holderOf_0 : decode b_PR_holderOf 0 = .ok (.aload_n 0, 1) := by decide +kernel
theorem d_PR_holderOf_1 : decode b_PR_holderOf 1 = .ok (.getfield 10, 3) := by decide +kernel
theorem d_PR_holderOf_4 : decode b_PR_holderOf 4 = .ok (.getfield 43, 3) := by decide +kernel
theorem d_PR_holderOf_7 : decode b_PR_holderOf 7 = .ok (.iload_n 1, 1) := by decide +kernel
theorem d_PR_holderOf_8 : decode b_PR_holderOf 8 = .ok (.iload_n 2, 1) := by decide +kernel
theorem d_PR_holderOf_9 : decode b_PR_holderOf 9 = .ok (.invokevirtual 99, 3) := by decide +kernel
theorem d_PR_holderOf_12 : decode b_PR_holderOf 12 = .ok (.ireturn, 1) := by decide +kernel
theorem d_PR_field_0 : decode b_PR_field 0 = .ok (.aload_n 0, 1) := by decide +kernel
theorem d_PR_field_1 : decode b_PR_field 1 = .ok (.iload_n 1, 1) := by decide +kernel
theorem d_PR_field_2 : decode b_PR_field 2 = .ok (.invokevirtual 72, 3) := by decide +kernel
theorem d_PR_field_5 : decode b_PR_field 5 = .ok (.iload_n 2, 1) := by decide +kernel
theorem d_PR_field_6 : decode b_PR_field 6 = .ok (.ifCond .lt 9, 3) := by decide +kernel
theorem d_PR_field_9 : decode b_PR_field 9 = .ok (.iload_n 2, 1) := by decide +kernel
theorem d_PR_field_10 : decode b_PR_field 10 = .ok (.bipush 7, 2) := by decide +kernel
theorem d_PR_field_12 : decode b_PR_field 12 = .ok (.if_icmp .lt 11, 3) := by decide +kernel
theorem d_PR_field_15 : decode b_PR_field 15 = .ok (.new 34, 3) := by decide +kernel
theorem d_PR_field_18 : decode b_PR_field 18 = .ok (.dup, 1) := by decide +kernel
theorem d_PR_field_19 : decode b_PR_field 19 = .ok (.invokespecial 36, 3) := by decide +kernel
theorem d_PR_field_22 : decode b_PR_field 22 = .ok (.athrow, 1) := by decide +kernel
theorem d_PR_field_23 : decode b_PR_field 23 = .ok (.aload_n 0, 1) := by decide +kernel
theorem d_PR_field_24 : decode b_PR_field 24 = .ok (.getfield 10, 3) := by decide +kernel
theorem d_PR_field_27 : decode b_PR_field 27 = .ok (.getfield 43, 3) := by decide +kernel
theorem d_PR_field_30 : decode b_PR_field 30 = .ok (.iload_n 1, 1) := by decide +kernel
theorem d_PR_field_31 : decode b_PR_field 31 = .ok (.iload_n 2, 1) := by decide +kernel
theorem d_PR_field_32 : decode b_PR_field 32 = .ok (.invokevirtual 102, 3) := by decide +kernel
theorem d_PR_field_35 : decode b_PR_field 35 = .ok (.ireturn, 1) := by decide +kernel
theorem d_PR_told_0 : decode b_PR_told 0 = .ok (.iload_n 1, 1) := by decide +kernel
theorem d_PR_told_1 : decode b_PR_told 1 = .ok (.tableswitch 66 0 3 #[31, 42, 50, 58], 31) := by decide +kernel
theorem d_PR_told_32 : decode b_PR_told 32 = .ok (.aload_n 0, 1) := by decide +kernel
theorem d_PR_told_33 : decode b_PR_told 33 = .ok (.getfield 10, 3) := by decide +kernel
theorem d_PR_told_36 : decode b_PR_told 36 = .ok (.getfield 43, 3) := by decide +kernel
theorem d_PR_told_39 : decode b_PR_told 39 = .ok (.getfield 105, 3) := by decide +kernel
theorem d_PR_told_42 : decode b_PR_told 42 = .ok (.ireturn, 1) := by decide +kernel
theorem d_PR_told_43 : decode b_PR_told 43 = .ok (.aload_n 0, 1) := by decide +kernel
theorem d_PR_told_44 : decode b_PR_told 44 = .ok (.getfield 10, 3) := by decide +kernel
theorem d_PR_told_47 : decode b_PR_told 47 = .ok (.getfield 94, 3) := by decide +kernel
theorem d_PR_told_50 : decode b_PR_told 50 = .ok (.ireturn, 1) := by decide +kernel
theorem d_PR_told_51 : decode b_PR_told 51 = .ok (.aload_n 0, 1) := by decide +kernel
theorem d_PR_told_52 : decode b_PR_told 52 = .ok (.getfield 10, 3) := by decide +kernel
theorem d_PR_told_55 : decode b_PR_told 55 = .ok (.getfield 108, 3) := by decide +kernel
theorem d_PR_told_58 : decode b_PR_told 58 = .ok (.ireturn, 1) := by decide +kernel
theorem d_PR_told_59 : decode b_PR_told 59 = .ok (.aload_n 0, 1) := by decide +kernel
theorem d_PR_told_60 : decode b_PR_told 60 = .ok (.getfield 22, 3) := by decide +kernel
theorem d_PR_told_63 : decode b_PR_told 63 = .ok (.getfield 111, 3) := by decide +kernel
theorem d_PR_told_66 : decode b_PR_told 66 = .ok (.ireturn, 1) := by decide +kernel
theorem d_PR_told_67 : decode b_PR_told 67 = .ok (.iconst (-1), 1) := by decide +kernel
theorem d_PR_told_68 : decode b_PR_told 68 = .ok (.ireturn, 1) := by decide +kernel
theorem d_PR_freeAt_0 : decode b_PR_freeAt 0 = .ok (.aload_n 0, 1) := by decide +kernel
theorem d_PR_freeAt_1 : decode b_PR_freeAt 1 = .ok (.iload_n 1, 1) := by decide +kernel
theorem d_PR_freeAt_2 : decode b_PR_freeAt 2 = .ok (.invokevirtual 72, 3) := by decide +kernel
theorem d_PR_freeAt_5 : decode b_PR_freeAt 5 = .ok (.iload_n 2, 1) := by decide +kernel
theorem d_PR_freeAt_6 : decode b_PR_freeAt 6 = .ok (.ifCond .lt 9, 3) := by decide +kernel
theorem d_PR_freeAt_9 : decode b_PR_freeAt 9 = .ok (.iload_n 2, 1) := by decide +kernel
theorem d_PR_freeAt_10 : decode b_PR_freeAt 10 = .ok (.bipush 32, 2) := by decide +kernel
theorem d_PR_freeAt_12 : decode b_PR_freeAt 12 = .ok (.if_icmp .le 11, 3) := by decide +kernel
theorem d_PR_freeAt_15 : decode b_PR_freeAt 15 = .ok (.new 34, 3) := by decide +kernel
theorem d_PR_freeAt_18 : decode b_PR_freeAt 18 = .ok (.dup, 1) := by decide +kernel
theorem d_PR_freeAt_19 : decode b_PR_freeAt 19 = .ok (.invokespecial 36, 3) := by decide +kernel
theorem d_PR_freeAt_22 : decode b_PR_freeAt 22 = .ok (.athrow, 1) := by decide +kernel
theorem d_PR_freeAt_23 : decode b_PR_freeAt 23 = .ok (.aload_n 0, 1) := by decide +kernel
theorem d_PR_freeAt_24 : decode b_PR_freeAt 24 = .ok (.getfield 10, 3) := by decide +kernel
theorem d_PR_freeAt_27 : decode b_PR_freeAt 27 = .ok (.iload_n 1, 1) := by decide +kernel
theorem d_PR_freeAt_28 : decode b_PR_freeAt 28 = .ok (.iload_n 2, 1) := by decide +kernel
theorem d_PR_freeAt_29 : decode b_PR_freeAt 29 = .ok (.invokevirtual 112, 3) := by decide +kernel
theorem d_PR_freeAt_32 : decode b_PR_freeAt 32 = .ok (.lreturn, 1) := by decide +kernel
theorem d_PR_blocks_0 : decode b_PR_blocks 0 = .ok (.aload_n 0, 1) := by decide +kernel
theorem d_PR_blocks_1 : decode b_PR_blocks 1 = .ok (.iload_n 1, 1) := by decide +kernel
theorem d_PR_blocks_2 : decode b_PR_blocks 2 = .ok (.invokevirtual 72, 3) := by decide +kernel
theorem d_PR_blocks_5 : decode b_PR_blocks 5 = .ok (.aload_n 0, 1) := by decide +kernel
theorem d_PR_blocks_6 : decode b_PR_blocks 6 = .ok (.getfield 10, 3) := by decide +kernel
theorem d_PR_blocks_9 : decode b_PR_blocks 9 = .ok (.iload_n 1, 1) := by decide +kernel
theorem d_PR_blocks_10 : decode b_PR_blocks 10 = .ok (.invokevirtual 116, 3) := by decide +kernel
theorem d_PR_blocks_13 : decode b_PR_blocks 13 = .ok (.ireturn, 1) := by decide +kernel
theorem d_PR_block_0 : decode b_PR_block 0 = .ok (.aload_n 0, 1) := by decide +kernel
theorem d_PR_block_1 : decode b_PR_block 1 = .ok (.iload_n 1, 1) := by decide +kernel
theorem d_PR_block_2 : decode b_PR_block 2 = .ok (.invokevirtual 72, 3) := by decide +kernel
theorem d_PR_block_5 : decode b_PR_block 5 = .ok (.iload_n 2, 1) := by decide +kernel
theorem d_PR_block_6 : decode b_PR_block 6 = .ok (.ifCond .lt 18, 3) := by decide +kernel
theorem d_PR_block_9 : decode b_PR_block 9 = .ok (.aload_n 0, 1) := by decide +kernel
theorem d_PR_block_10 : decode b_PR_block 10 = .ok (.getfield 10, 3) := by decide +kernel
theorem d_PR_block_13 : decode b_PR_block 13 = .ok (.getfield 119, 3) := by decide +kernel
theorem d_PR_block_16 : decode b_PR_block 16 = .ok (.iload_n 1, 1) := by decide +kernel
theorem d_PR_block_17 : decode b_PR_block 17 = .ok (.iload_n 2, 1) := by decide +kernel
theorem d_PR_block_18 : decode b_PR_block 18 = .ok (.invokevirtual 123, 3) := by decide +kernel
theorem d_PR_block_21 : decode b_PR_block 21 = .ok (.ifCond .ne 11, 3) := by decide +kernel
theorem d_PR_block_24 : decode b_PR_block 24 = .ok (.new 128, 3) := by decide +kernel
theorem d_PR_block_27 : decode b_PR_block 27 = .ok (.dup, 1) := by decide +kernel
theorem d_PR_block_28 : decode b_PR_block 28 = .ok (.invokespecial 130, 3) := by decide +kernel
theorem d_PR_block_31 : decode b_PR_block 31 = .ok (.athrow, 1) := by decide +kernel
theorem d_PR_block_32 : decode b_PR_block 32 = .ok (.iload_n 3, 1) := by decide +kernel
theorem d_PR_block_33 : decode b_PR_block 33 = .ok (.ifCond .eq 16, 3) := by decide +kernel
theorem d_PR_block_36 : decode b_PR_block 36 = .ok (.aload_n 0, 1) := by decide +kernel
theorem d_PR_block_37 : decode b_PR_block 37 = .ok (.getfield 10, 3) := by decide +kernel
theorem d_PR_block_40 : decode b_PR_block 40 = .ok (.getfield 119, 3) := by decide +kernel
theorem d_PR_block_43 : decode b_PR_block 43 = .ok (.getfield 131, 3) := by decide +kernel
theorem d_PR_block_46 : decode b_PR_block 46 = .ok (.goto 14, 3) := by decide +kernel
theorem d_PR_block_49 : decode b_PR_block 49 = .ok (.aload_n 0, 1) := by decide +kernel
theorem d_PR_block_50 : decode b_PR_block 50 = .ok (.getfield 10, 3) := by decide +kernel
theorem d_PR_block_53 : decode b_PR_block 53 = .ok (.getfield 119, 3) := by decide +kernel
theorem d_PR_block_56 : decode b_PR_block 56 = .ok (.getfield 134, 3) := by decide +kernel
theorem d_PR_block_59 : decode b_PR_block 59 = .ok (.l2i, 1) := by decide +kernel
theorem d_PR_block_60 : decode b_PR_block 60 = .ok (.ireturn, 1) := by decide +kernel
theorem d_PR_used_0 : decode b_PR_used 0 = .ok (.aload_n 0, 1) := by decide +kernel
theorem d_PR_used_1 : decode b_PR_used 1 = .ok (.iload_n 1, 1) := by decide +kernel
theorem d_PR_used_2 : decode b_PR_used 2 = .ok (.invokevirtual 72, 3) := by decide +kernel
theorem d_PR_used_5 : decode b_PR_used 5 = .ok (.aload_n 0, 1) := by decide +kernel
theorem d_PR_used_6 : decode b_PR_used 6 = .ok (.getfield 10, 3) := by decide +kernel
theorem d_PR_used_9 : decode b_PR_used 9 = .ok (.getfield 43, 3) := by decide +kernel
theorem d_PR_used_12 : decode b_PR_used 12 = .ok (.iload_n 1, 1) := by decide +kernel
theorem d_PR_used_13 : decode b_PR_used 13 = .ok (.invokevirtual 138, 3) := by decide +kernel
theorem d_PR_used_16 : decode b_PR_used 16 = .ok (.lreturn, 1) := by decide +kernel
theorem d_PR_cuts_0 : decode b_PR_cuts 0 = .ok (.aload_n 0, 1) := by decide +kernel
theorem d_PR_cuts_1 : decode b_PR_cuts 1 = .ok (.iload_n 1, 1) := by decide +kernel
theorem d_PR_cuts_2 : decode b_PR_cuts 2 = .ok (.invokevirtual 72, 3) := by decide +kernel
theorem d_PR_cuts_5 : decode b_PR_cuts 5 = .ok (.aload_n 0, 1) := by decide +kernel
theorem d_PR_cuts_6 : decode b_PR_cuts 6 = .ok (.getfield 10, 3) := by decide +kernel
theorem d_PR_cuts_9 : decode b_PR_cuts 9 = .ok (.getfield 43, 3) := by decide +kernel
theorem d_PR_cuts_12 : decode b_PR_cuts 12 = .ok (.iload_n 1, 1) := by decide +kernel
theorem d_PR_cuts_13 : decode b_PR_cuts 13 = .ok (.invokevirtual 142, 3) := by decide +kernel
theorem d_PR_cuts_16 : decode b_PR_cuts 16 = .ok (.ireturn, 1) := by decide +kernel
theorem d_PR_cut_0 : decode b_PR_cut 0 = .ok (.aload_n 0, 1) := by decide +kernel
theorem d_PR_cut_1 : decode b_PR_cut 1 = .ok (.iload_n 1, 1) := by decide +kernel
theorem d_PR_cut_2 : decode b_PR_cut 2 = .ok (.invokevirtual 72, 3) := by decide +kernel
theorem d_PR_cut_5 : decode b_PR_cut 5 = .ok (.iload_n 2, 1) := by decide +kernel
theorem d_PR_cut_6 : decode b_PR_cut 6 = .ok (.ifCond .lt 18, 3) := by decide +kernel
theorem d_PR_cut_9 : decode b_PR_cut 9 = .ok (.iload_n 2, 1) := by decide +kernel
theorem d_PR_cut_10 : decode b_PR_cut 10 = .ok (.aload_n 0, 1) := by decide +kernel
theorem d_PR_cut_11 : decode b_PR_cut 11 = .ok (.getfield 10, 3) := by decide +kernel
theorem d_PR_cut_14 : decode b_PR_cut 14 = .ok (.getfield 43, 3) := by decide +kernel
theorem d_PR_cut_17 : decode b_PR_cut 17 = .ok (.iload_n 1, 1) := by decide +kernel
theorem d_PR_cut_18 : decode b_PR_cut 18 = .ok (.invokevirtual 142, 3) := by decide +kernel
theorem d_PR_cut_21 : decode b_PR_cut 21 = .ok (.if_icmp .lt 11, 3) := by decide +kernel
theorem d_PR_cut_24 : decode b_PR_cut 24 = .ok (.new 128, 3) := by decide +kernel
theorem d_PR_cut_27 : decode b_PR_cut 27 = .ok (.dup, 1) := by decide +kernel
theorem d_PR_cut_28 : decode b_PR_cut 28 = .ok (.invokespecial 130, 3) := by decide +kernel
theorem d_PR_cut_31 : decode b_PR_cut 31 = .ok (.athrow, 1) := by decide +kernel
theorem d_PR_cut_32 : decode b_PR_cut 32 = .ok (.aload_n 0, 1) := by decide +kernel
theorem d_PR_cut_33 : decode b_PR_cut 33 = .ok (.getfield 10, 3) := by decide +kernel
theorem d_PR_cut_36 : decode b_PR_cut 36 = .ok (.getfield 43, 3) := by decide +kernel
theorem d_PR_cut_39 : decode b_PR_cut 39 = .ok (.iload_n 1, 1) := by decide +kernel
theorem d_PR_cut_40 : decode b_PR_cut 40 = .ok (.iload_n 2, 1) := by decide +kernel
theorem d_PR_cut_41 : decode b_PR_cut 41 = .ok (.iload_n 3, 1) := by decide +kernel
theorem d_PR_cut_42 : decode b_PR_cut 42 = .ok (.invokevirtual 145, 3) := by decide +kernel
theorem d_PR_cut_45 : decode b_PR_cut 45 = .ok (.ireturn, 1) := by decide +kernel
theorem d_PR_log_0 : decode b_PR_log 0 = .ok (.iload_n 1, 1) := by decide +kernel
theorem d_PR_log_1 : decode b_PR_log 1 = .ok (.ifCond .lt 14, 3) := by decide +kernel
theorem d_PR_log_4 : decode b_PR_log 4 = .ok (.iload_n 1, 1) := by decide +kernel
theorem d_PR_log_5 : decode b_PR_log 5 = .ok (.aload_n 0, 1) := by decide +kernel
theorem d_PR_log_6 : decode b_PR_log 6 = .ok (.getfield 22, 3) := by decide +kernel
theorem d_PR_log_9 : decode b_PR_log 9 = .ok (.getfield 111, 3) := by decide +kernel
theorem d_PR_log_12 : decode b_PR_log 12 = .ok (.if_icmp .lt 11, 3) := by decide +kernel
theorem d_PR_log_15 : decode b_PR_log 15 = .ok (.new 128, 3) := by decide +kernel
theorem d_PR_log_18 : decode b_PR_log 18 = .ok (.dup, 1) := by decide +kernel
theorem d_PR_log_19 : decode b_PR_log 19 = .ok (.invokespecial 130, 3) := by decide +kernel
theorem d_PR_log_22 : decode b_PR_log 22 = .ok (.athrow, 1) := by decide +kernel
theorem d_PR_log_23 : decode b_PR_log 23 = .ok (.iload_n 2, 1) := by decide +kernel
theorem d_PR_log_24 : decode b_PR_log 24 = .ok (.ifCond .lt 8, 3) := by decide +kernel
theorem d_PR_log_27 : decode b_PR_log 27 = .ok (.iload_n 2, 1) := by decide +kernel
theorem d_PR_log_28 : decode b_PR_log 28 = .ok (.iconst 4, 1) := by decide +kernel
theorem d_PR_log_29 : decode b_PR_log 29 = .ok (.if_icmp .lt 11, 3) := by decide +kernel
theorem d_PR_log_32 : decode b_PR_log 32 = .ok (.new 34, 3) := by decide +kernel
theorem d_PR_log_35 : decode b_PR_log 35 = .ok (.dup, 1) := by decide +kernel
theorem d_PR_log_36 : decode b_PR_log 36 = .ok (.invokespecial 36, 3) := by decide +kernel
theorem d_PR_log_39 : decode b_PR_log 39 = .ok (.athrow, 1) := by decide +kernel
theorem d_PR_log_40 : decode b_PR_log 40 = .ok (.aload_n 0, 1) := by decide +kernel
theorem d_PR_log_41 : decode b_PR_log 41 = .ok (.getfield 22, 3) := by decide +kernel
theorem d_PR_log_44 : decode b_PR_log 44 = .ok (.iload_n 1, 1) := by decide +kernel
theorem d_PR_log_45 : decode b_PR_log 45 = .ok (.iload_n 2, 1) := by decide +kernel
theorem d_PR_log_46 : decode b_PR_log 46 = .ok (.invokevirtual 149, 3) := by decide +kernel
theorem d_PR_log_49 : decode b_PR_log 49 = .ok (.ireturn, 1) := by decide +kernel
theorem d_PR_replay_0 : decode b_PR_replay 0 = .ok (.iload_n 1, 1) := by decide +kernel
theorem d_PR_replay_1 : decode b_PR_replay 1 = .ok (.ifCond .lt 14, 3) := by decide +kernel
theorem d_PR_replay_4 : decode b_PR_replay 4 = .ok (.iload_n 1, 1) := by decide +kernel
theorem d_PR_replay_5 : decode b_PR_replay 5 = .ok (.aload_n 0, 1) := by decide +kernel
theorem d_PR_replay_6 : decode b_PR_replay 6 = .ok (.getfield 22, 3) := by decide +kernel
theorem d_PR_replay_9 : decode b_PR_replay 9 = .ok (.getfield 111, 3) := by decide +kernel
theorem d_PR_replay_12 : decode b_PR_replay 12 = .ok (.if_icmp .le 11, 3) := by decide +kernel
theorem d_PR_replay_15 : decode b_PR_replay 15 = .ok (.new 34, 3) := by decide +kernel
theorem d_PR_replay_18 : decode b_PR_replay 18 = .ok (.dup, 1) := by decide +kernel
theorem d_PR_replay_19 : decode b_PR_replay 19 = .ok (.invokespecial 36, 3) := by decide +kernel
theorem d_PR_replay_22 : decode b_PR_replay 22 = .ok (.athrow, 1) := by decide +kernel
theorem d_PR_replay_23 : decode b_PR_replay 23 = .ok (.aload_n 0, 1) := by decide +kernel
theorem d_PR_replay_24 : decode b_PR_replay 24 = .ok (.getfield 16, 3) := by decide +kernel
theorem d_PR_replay_27 : decode b_PR_replay 27 = .ok (.invokevirtual 152, 3) := by decide +kernel
theorem d_PR_replay_30 : decode b_PR_replay 30 = .ok (.iconst 0, 1) := by decide +kernel
theorem d_PR_replay_31 : decode b_PR_replay 31 = .ok (.istore_n 2, 1) := by decide +kernel
theorem d_PR_replay_32 : decode b_PR_replay 32 = .ok (.iload_n 2, 1) := by decide +kernel
theorem d_PR_replay_33 : decode b_PR_replay 33 = .ok (.iload_n 1, 1) := by decide +kernel
theorem d_PR_replay_34 : decode b_PR_replay 34 = .ok (.if_icmp .ge 53, 3) := by decide +kernel
theorem d_PR_replay_37 : decode b_PR_replay 37 = .ok (.aload_n 0, 1) := by decide +kernel
theorem d_PR_replay_38 : decode b_PR_replay 38 = .ok (.getfield 16, 3) := by decide +kernel
theorem d_PR_replay_41 : decode b_PR_replay 41 = .ok (.aload_n 0, 1) := by decide +kernel
theorem d_PR_replay_42 : decode b_PR_replay 42 = .ok (.getfield 22, 3) := by decide +kernel
theorem d_PR_replay_45 : decode b_PR_replay 45 = .ok (.iload_n 2, 1) := by decide +kernel
theorem d_PR_replay_46 : decode b_PR_replay 46 = .ok (.iconst 0, 1) := by decide +kernel
theorem d_PR_replay_47 : decode b_PR_replay 47 = .ok (.invokevirtual 149, 3) := by decide +kernel
theorem d_PR_replay_50 : decode b_PR_replay 50 = .ok (.aload_n 0, 1) := by decide +kernel
theorem d_PR_replay_51 : decode b_PR_replay 51 = .ok (.getfield 22, 3) := by decide +kernel
theorem d_PR_replay_54 : decode b_PR_replay 54 = .ok (.iload_n 2, 1) := by decide +kernel
theorem d_PR_replay_55 : decode b_PR_replay 55 = .ok (.iconst 1, 1) := by decide +kernel
theorem d_PR_replay_56 : decode b_PR_replay 56 = .ok (.invokevirtual 149, 3) := by decide +kernel
theorem d_PR_replay_59 : decode b_PR_replay 59 = .ok (.aload_n 0, 1) := by decide +kernel
theorem d_PR_replay_60 : decode b_PR_replay 60 = .ok (.getfield 22, 3) := by decide +kernel
theorem d_PR_replay_63 : decode b_PR_replay 63 = .ok (.iload_n 2, 1) := by decide +kernel
theorem d_PR_replay_64 : decode b_PR_replay 64 = .ok (.iconst 2, 1) := by decide +kernel
theorem d_PR_replay_65 : decode b_PR_replay 65 = .ok (.invokevirtual 149, 3) := by decide +kernel
theorem d_PR_replay_68 : decode b_PR_replay 68 = .ok (.aload_n 0, 1) := by decide +kernel
theorem d_PR_replay_69 : decode b_PR_replay 69 = .ok (.getfield 22, 3) := by decide +kernel
theorem d_PR_replay_72 : decode b_PR_replay 72 = .ok (.iload_n 2, 1) := by decide +kernel
theorem d_PR_replay_73 : decode b_PR_replay 73 = .ok (.iconst 3, 1) := by decide +kernel
theorem d_PR_replay_74 : decode b_PR_replay 74 = .ok (.invokevirtual 149, 3) := by decide +kernel
theorem d_PR_replay_77 : decode b_PR_replay 77 = .ok (.invokevirtual 155, 3) := by decide +kernel
theorem d_PR_replay_80 : decode b_PR_replay 80 = .ok (.pop, 1) := by decide +kernel
theorem d_PR_replay_81 : decode b_PR_replay 81 = .ok (.iinc 2 1, 3) := by decide +kernel
theorem d_PR_replay_84 : decode b_PR_replay 84 = .ok (.goto (-52), 3) := by decide +kernel
theorem d_PR_replay_87 : decode b_PR_replay 87 = .ok (.aload_n 0, 1) := by decide +kernel
theorem d_PR_replay_88 : decode b_PR_replay 88 = .ok (.getfield 16, 3) := by decide +kernel
theorem d_PR_replay_91 : decode b_PR_replay 91 = .ok (.getfield 43, 3) := by decide +kernel
theorem d_PR_replay_94 : decode b_PR_replay 94 = .ok (.getfield 105, 3) := by decide +kernel
theorem d_PR_replay_97 : decode b_PR_replay 97 = .ok (.ireturn, 1) := by decide +kernel
theorem d_PR_same_0 : decode b_PR_same 0 = .ok (.aload_n 0, 1) := by decide +kernel
theorem d_PR_same_1 : decode b_PR_same 1 = .ok (.getfield 10, 3) := by decide +kernel
theorem d_PR_same_4 : decode b_PR_same 4 = .ok (.aload_n 0, 1) := by decide +kernel
theorem d_PR_same_5 : decode b_PR_same 5 = .ok (.getfield 16, 3) := by decide +kernel
theorem d_PR_same_8 : decode b_PR_same 8 = .ok (.invokevirtual 158, 3) := by decide +kernel
theorem d_PR_same_11 : decode b_PR_same 11 = .ok (.ireturn, 1) := by decide +kernel
theorem d_PR_refuseUnknown_0 : decode b_PR_refuseUnknown 0 = .ok (.aload_n 0, 1) := by decide +kernel
theorem d_PR_refuseUnknown_1 : decode b_PR_refuseUnknown 1 = .ok (.getfield 10, 3) := by decide +kernel
theorem d_PR_refuseUnknown_4 : decode b_PR_refuseUnknown 4 = .ok (.getfield 43, 3) := by decide +kernel
theorem d_PR_refuseUnknown_7 : decode b_PR_refuseUnknown 7 = .ok (.iload_n 1, 1) := by decide +kernel
theorem d_PR_refuseUnknown_8 : decode b_PR_refuseUnknown 8 = .ok (.invokevirtual 162, 3) := by decide +kernel
theorem d_PR_refuseUnknown_11 : decode b_PR_refuseUnknown 11 = .ok (.ifCond .ne 11, 3) := by decide +kernel
theorem d_PR_refuseUnknown_14 : decode b_PR_refuseUnknown 14 = .ok (.new 128, 3) := by decide +kernel
theorem d_PR_refuseUnknown_17 : decode b_PR_refuseUnknown 17 = .ok (.dup, 1) := by decide +kernel
theorem d_PR_refuseUnknown_18 : decode b_PR_refuseUnknown 18 = .ok (.invokespecial 130, 3) := by decide +kernel
theorem d_PR_refuseUnknown_21 : decode b_PR_refuseUnknown 21 = .ok (.athrow, 1) := by decide +kernel
theorem d_PR_refuseUnknown_22 : decode b_PR_refuseUnknown 22 = .ok (.return_, 1) := by decide +kernel
theorem d_PR_accept_0 : decode b_PR_accept 0 = .ok (.aload_n 0, 1) := by decide +kernel
theorem d_PR_accept_1 : decode b_PR_accept 1 = .ok (.getfield 22, 3) := by decide +kernel
theorem d_PR_accept_4 : decode b_PR_accept 4 = .ok (.invokevirtual 165, 3) := by decide +kernel
theorem d_PR_accept_7 : decode b_PR_accept 7 = .ok (.ifCond .eq 11, 3) := by decide +kernel
theorem d_PR_accept_10 : decode b_PR_accept 10 = .ok (.new 53, 3) := by decide +kernel
theorem d_PR_accept_13 : decode b_PR_accept 13 = .ok (.dup, 1) := by decide +kernel
theorem d_PR_accept_14 : decode b_PR_accept 14 = .ok (.invokespecial 55, 3) := by decide +kernel
theorem d_PR_accept_17 : decode b_PR_accept 17 = .ok (.athrow, 1) := by decide +kernel
theorem d_PR_accept_18 : decode b_PR_accept 18 = .ok (.aload_n 0, 1) := by decide +kernel
theorem d_PR_accept_19 : decode b_PR_accept 19 = .ok (.getfield 22, 3) := by decide +kernel
theorem d_PR_accept_22 : decode b_PR_accept 22 = .ok (.iload_n 1, 1) := by decide +kernel
theorem d_PR_accept_23 : decode b_PR_accept 23 = .ok (.iload_n 2, 1) := by decide +kernel
theorem d_PR_accept_24 : decode b_PR_accept 24 = .ok (.iload_n 3, 1) := by decide +kernel
theorem d_PR_accept_25 : decode b_PR_accept 25 = .ok (.iload 4, 2) := by decide +kernel
theorem d_PR_accept_27 : decode b_PR_accept 27 = .ok (.invokevirtual 168, 3) := by decide +kernel
theorem d_PR_accept_30 : decode b_PR_accept 30 = .ok (.aload_n 0, 1) := by decide +kernel
theorem d_PR_accept_31 : decode b_PR_accept 31 = .ok (.getfield 10, 3) := by decide +kernel
theorem d_PR_accept_34 : decode b_PR_accept 34 = .ok (.iload_n 1, 1) := by decide +kernel
theorem d_PR_accept_35 : decode b_PR_accept 35 = .ok (.iload_n 2, 1) := by decide +kernel
theorem d_PR_accept_36 : decode b_PR_accept 36 = .ok (.iload_n 3, 1) := by decide +kernel
theorem d_PR_accept_37 : decode b_PR_accept 37 = .ok (.iload 4, 2) := by decide +kernel
theorem d_PR_accept_39 : decode b_PR_accept 39 = .ok (.invokevirtual 155, 3) := by decide +kernel
theorem d_PR_accept_42 : decode b_PR_accept 42 = .ok (.ireturn, 1) := by decide +kernel
theorem d_PR_asNumber_0 : decode b_PR_asNumber 0 = .ok (.iload_n 0, 1) := by decide +kernel
theorem d_PR_asNumber_1 : decode b_PR_asNumber 1 = .ok (.ifCond .eq 7, 3) := by decide +kernel
theorem d_PR_asNumber_4 : decode b_PR_asNumber 4 = .ok (.iconst 1, 1) := by decide +kernel
theorem d_PR_asNumber_5 : decode b_PR_asNumber 5 = .ok (.goto 4, 3) := by decide +kernel
theorem d_PR_asNumber_8 : decode b_PR_asNumber 8 = .ok (.iconst 0, 1) := by decide +kernel
theorem d_PR_asNumber_9 : decode b_PR_asNumber 9 = .ok (.ireturn, 1) := by decide +kernel
theorem d_PR_isHolder_0 : decode b_PR_isHolder 0 = .ok (.iload_n 0, 1) := by decide +kernel
theorem d_PR_isHolder_1 : decode b_PR_isHolder 1 = .ok (.ifCond .lt 14, 3) := by decide +kernel
theorem d_PR_isHolder_4 : decode b_PR_isHolder 4 = .ok (.iload_n 0, 1) := by decide +kernel
theorem d_PR_isHolder_5 : decode b_PR_isHolder 5 = .ok (.sipush 9999, 3) := by decide +kernel
theorem d_PR_isHolder_8 : decode b_PR_isHolder 8 = .ok (.if_icmp .gt 7, 3) := by decide +kernel
theorem d_PR_isHolder_11 : decode b_PR_isHolder 11 = .ok (.iconst 1, 1) := by decide +kernel
theorem d_PR_isHolder_12 : decode b_PR_isHolder 12 = .ok (.goto 4, 3) := by decide +kernel
theorem d_PR_isHolder_15 : decode b_PR_isHolder 15 = .ok (.iconst 0, 1) := by decide +kernel
theorem d_PR_isHolder_16 : decode b_PR_isHolder 16 = .ok (.ireturn, 1) := by decide +kernel
theorem d_PR_startOf_0 : decode b_PR_startOf 0 = .ok (.iload_n 0, 1) := by decide +kernel
theorem d_PR_startOf_1 : decode b_PR_startOf 1 = .ok (.i2l, 1) := by decide +kernel
theorem d_PR_startOf_2 : decode b_PR_startOf 2 = .ok (.ldc2_w 172, 3) := by decide +kernel
theorem d_PR_startOf_5 : decode b_PR_startOf 5 = .ok (.land, 1) := by decide +kernel
theorem d_PR_startOf_6 : decode b_PR_startOf 6 = .ok (.lreturn, 1) := by decide +kernel
theorem d_PR_sizeOf_0 : decode b_PR_sizeOf 0 = .ok (.lconst 1, 1) := by decide +kernel
theorem d_PR_sizeOf_1 : decode b_PR_sizeOf 1 = .ok (.bipush 32, 2) := by decide +kernel
theorem d_PR_sizeOf_3 : decode b_PR_sizeOf 3 = .ok (.iload_n 0, 1) := by decide +kernel
theorem d_PR_sizeOf_4 : decode b_PR_sizeOf 4 = .ok (.isub, 1) := by decide +kernel
theorem d_PR_sizeOf_5 : decode b_PR_sizeOf 5 = .ok (.lshl, 1) := by decide +kernel
theorem d_PR_sizeOf_6 : decode b_PR_sizeOf 6 = .ok (.lreturn, 1) := by decide +kernel
theorem d_PR_isAligned_0 : decode b_PR_isAligned 0 = .ok (.iload_n 0, 1) := by decide +kernel
theorem d_PR_isAligned_1 : decode b_PR_isAligned 1 = .ok (.invokestatic 174, 3) := by decide +kernel
theorem d_PR_isAligned_4 : decode b_PR_isAligned 4 = .ok (.iload_n 1, 1) := by decide +kernel
theorem d_PR_isAligned_5 : decode b_PR_isAligned 5 = .ok (.invokestatic 177, 3) := by decide +kernel
theorem d_PR_isAligned_8 : decode b_PR_isAligned 8 = .ok (.lconst 1, 1) := by decide +kernel
theorem d_PR_isAligned_9 : decode b_PR_isAligned 9 = .ok (.lsub, 1) := by decide +kernel
theorem d_PR_isAligned_10 : decode b_PR_isAligned 10 = .ok (.land, 1) := by decide +kernel
theorem d_PR_isAligned_11 : decode b_PR_isAligned 11 = .ok (.lconst 0, 1) := by decide +kernel
theorem d_PR_isAligned_12 : decode b_PR_isAligned 12 = .ok (.lcmp, 1) := by decide +kernel
theorem d_PR_isAligned_13 : decode b_PR_isAligned 13 = .ok (.ifCond .ne 7, 3) := by decide +kernel
theorem d_PR_isAligned_16 : decode b_PR_isAligned 16 = .ok (.iconst 1, 1) := by decide +kernel
theorem d_PR_isAligned_17 : decode b_PR_isAligned 17 = .ok (.goto 4, 3) := by decide +kernel
theorem d_PR_isAligned_20 : decode b_PR_isAligned 20 = .ok (.iconst 0, 1) := by decide +kernel
theorem d_PR_isAligned_21 : decode b_PR_isAligned 21 = .ok (.ireturn, 1) := by decide +kernel
theorem d_PR_siblingOf_0 : decode b_PR_siblingOf 0 = .ok (.iload_n 0, 1) := by decide +kernel
theorem d_PR_siblingOf_1 : decode b_PR_siblingOf 1 = .ok (.iload_n 1, 1) := by decide +kernel
theorem d_PR_siblingOf_2 : decode b_PR_siblingOf 2 = .ok (.invokestatic 177, 3) := by decide +kernel
theorem d_PR_siblingOf_5 : decode b_PR_siblingOf 5 = .ok (.l2i, 1) := by decide +kernel
theorem d_PR_siblingOf_6 : decode b_PR_siblingOf 6 = .ok (.ixor, 1) := by decide +kernel
theorem d_PR_siblingOf_7 : decode b_PR_siblingOf 7 = .ok (.ireturn, 1) := by decide +kernel
theorem d_PR_lengthOfCuts_0 : decode b_PR_lengthOfCuts 0 = .ok (.iload_n 0, 1) := by decide +kernel
theorem d_PR_lengthOfCuts_1 : decode b_PR_lengthOfCuts 1 = .ok (.iconst 4, 1) := by decide +kernel
theorem d_PR_lengthOfCuts_2 : decode b_PR_lengthOfCuts 2 = .ok (.iadd, 1) := by decide +kernel
theorem d_PR_lengthOfCuts_3 : decode b_PR_lengthOfCuts 3 = .ok (.iconst 1, 1) := by decide +kernel
theorem d_PR_lengthOfCuts_4 : decode b_PR_lengthOfCuts 4 = .ok (.isub, 1) := by decide +kernel
theorem d_PR_lengthOfCuts_5 : decode b_PR_lengthOfCuts 5 = .ok (.iconst 4, 1) := by decide +kernel
theorem d_PR_lengthOfCuts_6 : decode b_PR_lengthOfCuts 6 = .ok (.idiv, 1) := by decide +kernel
theorem d_PR_lengthOfCuts_7 : decode b_PR_lengthOfCuts 7 = .ok (.iconst 4, 1) := by decide +kernel
theorem d_PR_lengthOfCuts_8 : decode b_PR_lengthOfCuts 8 = .ok (.imul, 1) := by decide +kernel
theorem d_PR_lengthOfCuts_9 : decode b_PR_lengthOfCuts 9 = .ok (.ireturn, 1) := by decide +kernel
