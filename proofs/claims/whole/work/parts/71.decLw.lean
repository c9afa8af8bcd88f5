theorem d_Lw_root_0 : decode b_Lw_root 0 = .ok (.aload 4, 2) := by decide +kernel
theorem d_Lw_root_2 : decode b_Lw_root 2 = .ok (.iconst 0, 1) := by decide +kernel
theorem d_Lw_root_3 : decode b_Lw_root 3 = .ok (.aload_n 0, 1) := by decide +kernel
theorem d_Lw_root_4 : decode b_Lw_root 4 = .ok (.iload_n 1, 1) := by decide +kernel
theorem d_Lw_root_5 : decode b_Lw_root 5 = .ok (.iload_n 2, 1) := by decide +kernel
theorem d_Lw_root_6 : decode b_Lw_root 6 = .ok (.iload_n 3, 1) := by decide +kernel
theorem d_Lw_root_7 : decode b_Lw_root 7 = .ok (.invokevirtual 7, 3) := by decide +kernel
theorem d_Lw_root_10 : decode b_Lw_root 10 = .ok (.i2l, 1) := by decide +kernel
theorem d_Lw_root_11 : decode b_Lw_root 11 = .ok (.lastore, 1) := by decide +kernel
theorem d_Lw_root_12 : decode b_Lw_root 12 = .ok (.goto 15, 3) := by decide +kernel
theorem d_Lw_root_15 : decode b_Lw_root 15 = .ok (.astore 5, 2) := by decide +kernel
theorem d_Lw_root_17 : decode b_Lw_root 17 = .ok (.iconst 1, 1) := by decide +kernel
theorem d_Lw_root_18 : decode b_Lw_root 18 = .ok (.ireturn, 1) := by decide +kernel
theorem d_Lw_root_19 : decode b_Lw_root 19 = .ok (.astore 5, 2) := by decide +kernel
theorem d_Lw_root_21 : decode b_Lw_root 21 = .ok (.iconst 2, 1) := by decide +kernel
theorem d_Lw_root_22 : decode b_Lw_root 22 = .ok (.ireturn, 1) := by decide +kernel
theorem d_Lw_root_23 : decode b_Lw_root 23 = .ok (.astore 5, 2) := by decide +kernel
theorem d_Lw_root_25 : decode b_Lw_root 25 = .ok (.iconst 3, 1) := by decide +kernel
theorem d_Lw_root_26 : decode b_Lw_root 26 = .ok (.ireturn, 1) := by decide +kernel
theorem d_Lw_root_27 : decode b_Lw_root 27 = .ok (.iconst 0, 1) := by decide +kernel
theorem d_Lw_root_28 : decode b_Lw_root 28 = .ok (.ireturn, 1) := by decide +kernel
theorem d_Lw_ask_0 : decode b_Lw_ask 0 = .ok (.aload 4, 2) := by decide +kernel
theorem d_Lw_ask_2 : decode b_Lw_ask 2 = .ok (.iconst 0, 1) := by decide +kernel
theorem d_Lw_ask_3 : decode b_Lw_ask 3 = .ok (.aload_n 0, 1) := by decide +kernel
theorem d_Lw_ask_4 : decode b_Lw_ask 4 = .ok (.iload_n 1, 1) := by decide +kernel
theorem d_Lw_ask_5 : decode b_Lw_ask 5 = .ok (.iload_n 2, 1) := by decide +kernel
theorem d_Lw_ask_6 : decode b_Lw_ask 6 = .ok (.iload_n 3, 1) := by decide +kernel
theorem d_Lw_ask_7 : decode b_Lw_ask 7 = .ok (.invokevirtual 19, 3) := by decide +kernel
theorem d_Lw_ask_10 : decode b_Lw_ask 10 = .ok (.i2l, 1) := by decide +kernel
theorem d_Lw_ask_11 : decode b_Lw_ask 11 = .ok (.lastore, 1) := by decide +kernel
theorem d_Lw_ask_12 : decode b_Lw_ask 12 = .ok (.goto 7, 3) := by decide +kernel
theorem d_Lw_ask_15 : decode b_Lw_ask 15 = .ok (.astore 5, 2) := by decide +kernel
theorem d_Lw_ask_17 : decode b_Lw_ask 17 = .ok (.iconst 1, 1) := by decide +kernel
theorem d_Lw_ask_18 : decode b_Lw_ask 18 = .ok (.ireturn, 1) := by decide +kernel
theorem d_Lw_ask_19 : decode b_Lw_ask 19 = .ok (.iconst 0, 1) := by decide +kernel
theorem d_Lw_ask_20 : decode b_Lw_ask 20 = .ok (.ireturn, 1) := by decide +kernel
theorem d_Lw_reserve_0 : decode b_Lw_reserve 0 = .ok (.aload 4, 2) := by decide +kernel
theorem d_Lw_reserve_2 : decode b_Lw_reserve 2 = .ok (.iconst 0, 1) := by decide +kernel
theorem d_Lw_reserve_3 : decode b_Lw_reserve 3 = .ok (.aload_n 0, 1) := by decide +kernel
theorem d_Lw_reserve_4 : decode b_Lw_reserve 4 = .ok (.iload_n 1, 1) := by decide +kernel
theorem d_Lw_reserve_5 : decode b_Lw_reserve 5 = .ok (.iload_n 2, 1) := by decide +kernel
theorem d_Lw_reserve_6 : decode b_Lw_reserve 6 = .ok (.iload_n 3, 1) := by decide +kernel
theorem d_Lw_reserve_7 : decode b_Lw_reserve 7 = .ok (.invokevirtual 23, 3) := by decide +kernel
theorem d_Lw_reserve_10 : decode b_Lw_reserve 10 = .ok (.i2l, 1) := by decide +kernel
theorem d_Lw_reserve_11 : decode b_Lw_reserve 11 = .ok (.lastore, 1) := by decide +kernel
theorem d_Lw_reserve_12 : decode b_Lw_reserve 12 = .ok (.goto 7, 3) := by decide +kernel
theorem d_Lw_reserve_15 : decode b_Lw_reserve 15 = .ok (.astore 5, 2) := by decide +kernel
theorem d_Lw_reserve_17 : decode b_Lw_reserve 17 = .ok (.iconst 1, 1) := by decide +kernel
theorem d_Lw_reserve_18 : decode b_Lw_reserve 18 = .ok (.ireturn, 1) := by decide +kernel
theorem d_Lw_reserve_19 : decode b_Lw_reserve 19 = .ok (.iconst 0, 1) := by decide +kernel
theorem d_Lw_reserve_20 : decode b_Lw_reserve 20 = .ok (.ireturn, 1) := by decide +kernel
theorem d_Lw_give_0 : decode b_Lw_give 0 = .ok (.aload_n 0, 1) := by decide +kernel
theorem d_Lw_give_1 : decode b_Lw_give 1 = .ok (.iload_n 1, 1) := by decide +kernel
theorem d_Lw_give_2 : decode b_Lw_give 2 = .ok (.invokevirtual 26, 3) := by decide +kernel
theorem d_Lw_give_5 : decode b_Lw_give 5 = .ok (.goto 12, 3) := by decide +kernel
theorem d_Lw_give_8 : decode b_Lw_give 8 = .ok (.astore_n 2, 1) := by decide +kernel
theorem d_Lw_give_9 : decode b_Lw_give 9 = .ok (.iconst 1, 1) := by decide +kernel
theorem d_Lw_give_10 : decode b_Lw_give 10 = .ok (.ireturn, 1) := by decide +kernel
theorem d_Lw_give_11 : decode b_Lw_give 11 = .ok (.astore_n 2, 1) := by decide +kernel
theorem d_Lw_give_12 : decode b_Lw_give 12 = .ok (.iconst 2, 1) := by decide +kernel
theorem d_Lw_give_13 : decode b_Lw_give 13 = .ok (.ireturn, 1) := by decide +kernel
theorem d_Lw_give_14 : decode b_Lw_give 14 = .ok (.astore_n 2, 1) := by decide +kernel
theorem d_Lw_give_15 : decode b_Lw_give 15 = .ok (.iconst 3, 1) := by decide +kernel
theorem d_Lw_give_16 : decode b_Lw_give 16 = .ok (.ireturn, 1) := by decide +kernel
theorem d_Lw_give_17 : decode b_Lw_give 17 = .ok (.iconst 0, 1) := by decide +kernel
theorem d_Lw_give_18 : decode b_Lw_give 18 = .ok (.ireturn, 1) := by decide +kernel
theorem d_Lw_back_0 : decode b_Lw_back 0 = .ok (.aload_n 2, 1) := by decide +kernel
theorem d_Lw_back_1 : decode b_Lw_back 1 = .ok (.iconst 0, 1) := by decide +kernel
theorem d_Lw_back_2 : decode b_Lw_back 2 = .ok (.aload_n 0, 1) := by decide +kernel
theorem d_Lw_back_3 : decode b_Lw_back 3 = .ok (.iload_n 1, 1) := by decide +kernel
theorem d_Lw_back_4 : decode b_Lw_back 4 = .ok (.invokevirtual 32, 3) := by decide +kernel
theorem d_Lw_back_7 : decode b_Lw_back 7 = .ok (.i2l, 1) := by decide +kernel
theorem d_Lw_back_8 : decode b_Lw_back 8 = .ok (.lastore, 1) := by decide +kernel
theorem d_Lw_back_9 : decode b_Lw_back 9 = .ok (.goto 12, 3) := by decide +kernel
theorem d_Lw_back_12 : decode b_Lw_back 12 = .ok (.astore_n 3, 1) := by decide +kernel
theorem d_Lw_back_13 : decode b_Lw_back 13 = .ok (.iconst 1, 1) := by decide +kernel
theorem d_Lw_back_14 : decode b_Lw_back 14 = .ok (.ireturn, 1) := by decide +kernel
theorem d_Lw_back_15 : decode b_Lw_back 15 = .ok (.astore_n 3, 1) := by decide +kernel
theorem d_Lw_back_16 : decode b_Lw_back 16 = .ok (.iconst 2, 1) := by decide +kernel
theorem d_Lw_back_17 : decode b_Lw_back 17 = .ok (.ireturn, 1) := by decide +kernel
theorem d_Lw_back_18 : decode b_Lw_back 18 = .ok (.astore_n 3, 1) := by decide +kernel
theorem d_Lw_back_19 : decode b_Lw_back 19 = .ok (.iconst 3, 1) := by decide +kernel
theorem d_Lw_back_20 : decode b_Lw_back 20 = .ok (.ireturn, 1) := by decide +kernel
theorem d_Lw_back_21 : decode b_Lw_back 21 = .ok (.iconst 0, 1) := by decide +kernel
theorem d_Lw_back_22 : decode b_Lw_back 22 = .ok (.ireturn, 1) := by decide +kernel
theorem d_Lw_grow_0 : decode b_Lw_grow 0 = .ok (.aload_n 2, 1) := by decide +kernel
theorem d_Lw_grow_1 : decode b_Lw_grow 1 = .ok (.iconst 0, 1) := by decide +kernel
theorem d_Lw_grow_2 : decode b_Lw_grow 2 = .ok (.aload_n 0, 1) := by decide +kernel
theorem d_Lw_grow_3 : decode b_Lw_grow 3 = .ok (.iload_n 1, 1) := by decide +kernel
theorem d_Lw_grow_4 : decode b_Lw_grow 4 = .ok (.invokevirtual 36, 3) := by decide +kernel
theorem d_Lw_grow_7 : decode b_Lw_grow 7 = .ok (.i2l, 1) := by decide +kernel
theorem d_Lw_grow_8 : decode b_Lw_grow 8 = .ok (.lastore, 1) := by decide +kernel
theorem d_Lw_grow_9 : decode b_Lw_grow 9 = .ok (.goto 6, 3) := by decide +kernel
theorem d_Lw_grow_12 : decode b_Lw_grow 12 = .ok (.astore_n 3, 1) := by decide +kernel
theorem d_Lw_grow_13 : decode b_Lw_grow 13 = .ok (.iconst 1, 1) := by decide +kernel
theorem d_Lw_grow_14 : decode b_Lw_grow 14 = .ok (.ireturn, 1) := by decide +kernel
theorem d_Lw_grow_15 : decode b_Lw_grow 15 = .ok (.iconst 0, 1) := by decide +kernel
theorem d_Lw_grow_16 : decode b_Lw_grow 16 = .ok (.ireturn, 1) := by decide +kernel
theorem d_Lw_shrink_0 : decode b_Lw_shrink 0 = .ok (.aload_n 3, 1) := by decide +kernel
theorem d_Lw_shrink_1 : decode b_Lw_shrink 1 = .ok (.iconst 0, 1) := by decide +kernel
theorem d_Lw_shrink_2 : decode b_Lw_shrink 2 = .ok (.aload_n 0, 1) := by decide +kernel
theorem d_Lw_shrink_3 : decode b_Lw_shrink 3 = .ok (.iload_n 1, 1) := by decide +kernel
theorem d_Lw_shrink_4 : decode b_Lw_shrink 4 = .ok (.iload_n 2, 1) := by decide +kernel
theorem d_Lw_shrink_5 : decode b_Lw_shrink 5 = .ok (.invokevirtual 39, 3) := by decide +kernel
theorem d_Lw_shrink_8 : decode b_Lw_shrink 8 = .ok (.i2l, 1) := by decide +kernel
theorem d_Lw_shrink_9 : decode b_Lw_shrink 9 = .ok (.lastore, 1) := by decide +kernel
theorem d_Lw_shrink_10 : decode b_Lw_shrink 10 = .ok (.goto 7, 3) := by decide +kernel
theorem d_Lw_shrink_13 : decode b_Lw_shrink 13 = .ok (.astore 4, 2) := by decide +kernel
theorem d_Lw_shrink_15 : decode b_Lw_shrink 15 = .ok (.iconst 1, 1) := by decide +kernel
theorem d_Lw_shrink_16 : decode b_Lw_shrink 16 = .ok (.ireturn, 1) := by decide +kernel
theorem d_Lw_shrink_17 : decode b_Lw_shrink 17 = .ok (.iconst 0, 1) := by decide +kernel
theorem d_Lw_shrink_18 : decode b_Lw_shrink 18 = .ok (.ireturn, 1) := by decide +kernel
theorem d_Lw_transfer_0 : decode b_Lw_transfer 0 = .ok (.aload_n 3, 1) := by decide +kernel
theorem d_Lw_transfer_1 : decode b_Lw_transfer 1 = .ok (.iconst 0, 1) := by decide +kernel
theorem d_Lw_transfer_2 : decode b_Lw_transfer 2 = .ok (.aload_n 0, 1) := by decide +kernel
theorem d_Lw_transfer_3 : decode b_Lw_transfer 3 = .ok (.iload_n 1, 1) := by decide +kernel
theorem d_Lw_transfer_4 : decode b_Lw_transfer 4 = .ok (.iload_n 2, 1) := by decide +kernel
theorem d_Lw_transfer_5 : decode b_Lw_transfer 5 = .ok (.invokevirtual 43, 3) := by decide +kernel
theorem d_Lw_transfer_8 : decode b_Lw_transfer 8 = .ok (.i2l, 1) := by decide +kernel
theorem d_Lw_transfer_9 : decode b_Lw_transfer 9 = .ok (.lastore, 1) := by decide +kernel
theorem d_Lw_transfer_10 : decode b_Lw_transfer 10 = .ok (.goto 19, 3) := by decide +kernel
theorem d_Lw_transfer_13 : decode b_Lw_transfer 13 = .ok (.astore 4, 2) := by decide +kernel
theorem d_Lw_transfer_15 : decode b_Lw_transfer 15 = .ok (.iconst 1, 1) := by decide +kernel
theorem d_Lw_transfer_16 : decode b_Lw_transfer 16 = .ok (.ireturn, 1) := by decide +kernel
theorem d_Lw_transfer_17 : decode b_Lw_transfer 17 = .ok (.astore 4, 2) := by decide +kernel
theorem d_Lw_transfer_19 : decode b_Lw_transfer 19 = .ok (.iconst 2, 1) := by decide +kernel
theorem d_Lw_transfer_20 : decode b_Lw_transfer 20 = .ok (.ireturn, 1) := by decide +kernel
theorem d_Lw_transfer_21 : decode b_Lw_transfer 21 = .ok (.astore 4, 2) := by decide +kernel
theorem d_Lw_transfer_23 : decode b_Lw_transfer 23 = .ok (.iconst 3, 1) := by decide +kernel
theorem d_Lw_transfer_24 : decode b_Lw_transfer 24 = .ok (.ireturn, 1) := by decide +kernel
theorem d_Lw_transfer_25 : decode b_Lw_transfer 25 = .ok (.astore 4, 2) := by decide +kernel
theorem d_Lw_transfer_27 : decode b_Lw_transfer 27 = .ok (.iconst 4, 1) := by decide +kernel
theorem d_Lw_transfer_28 : decode b_Lw_transfer 28 = .ok (.ireturn, 1) := by decide +kernel
theorem d_Lw_transfer_29 : decode b_Lw_transfer 29 = .ok (.iconst 0, 1) := by decide +kernel
theorem d_Lw_transfer_30 : decode b_Lw_transfer 30 = .ok (.ireturn, 1) := by decide +kernel
theorem d_Lw_policy_0 : decode b_Lw_policy 0 = .ok (.aload_n 0, 1) := by decide +kernel
theorem d_Lw_policy_1 : decode b_Lw_policy 1 = .ok (.iload_n 1, 1) := by decide +kernel
theorem d_Lw_policy_2 : decode b_Lw_policy 2 = .ok (.iload_n 2, 1) := by decide +kernel
theorem d_Lw_policy_3 : decode b_Lw_policy 3 = .ok (.invokevirtual 47, 3) := by decide +kernel
theorem d_Lw_policy_6 : decode b_Lw_policy 6 = .ok (.goto 9, 3) := by decide +kernel
theorem d_Lw_policy_9 : decode b_Lw_policy 9 = .ok (.astore_n 3, 1) := by decide +kernel
theorem d_Lw_policy_10 : decode b_Lw_policy 10 = .ok (.iconst 1, 1) := by decide +kernel
theorem d_Lw_policy_11 : decode b_Lw_policy 11 = .ok (.ireturn, 1) := by decide +kernel
theorem d_Lw_policy_12 : decode b_Lw_policy 12 = .ok (.astore_n 3, 1) := by decide +kernel
theorem d_Lw_policy_13 : decode b_Lw_policy 13 = .ok (.iconst 2, 1) := by decide +kernel
theorem d_Lw_policy_14 : decode b_Lw_policy 14 = .ok (.ireturn, 1) := by decide +kernel
theorem d_Lw_policy_15 : decode b_Lw_policy 15 = .ok (.iconst 0, 1) := by decide +kernel
theorem d_Lw_policy_16 : decode b_Lw_policy 16 = .ok (.ireturn, 1) := by decide +kernel
theorem d_Lw_day_0 : decode b_Lw_day 0 = .ok (.aload_n 2, 1) := by decide +kernel
theorem d_Lw_day_1 : decode b_Lw_day 1 = .ok (.iconst 0, 1) := by decide +kernel
theorem d_Lw_day_2 : decode b_Lw_day 2 = .ok (.aload_n 0, 1) := by decide +kernel
theorem d_Lw_day_3 : decode b_Lw_day 3 = .ok (.iload_n 1, 1) := by decide +kernel
theorem d_Lw_day_4 : decode b_Lw_day 4 = .ok (.invokevirtual 51, 3) := by decide +kernel
theorem d_Lw_day_7 : decode b_Lw_day 7 = .ok (.i2l, 1) := by decide +kernel
theorem d_Lw_day_8 : decode b_Lw_day 8 = .ok (.lastore, 1) := by decide +kernel
theorem d_Lw_day_9 : decode b_Lw_day 9 = .ok (.goto 9, 3) := by decide +kernel
theorem d_Lw_day_12 : decode b_Lw_day 12 = .ok (.astore_n 3, 1) := by decide +kernel
theorem d_Lw_day_13 : decode b_Lw_day 13 = .ok (.iconst 1, 1) := by decide +kernel
theorem d_Lw_day_14 : decode b_Lw_day 14 = .ok (.ireturn, 1) := by decide +kernel
theorem d_Lw_day_15 : decode b_Lw_day 15 = .ok (.astore_n 3, 1) := by decide +kernel
theorem d_Lw_day_16 : decode b_Lw_day 16 = .ok (.iconst 2, 1) := by decide +kernel
theorem d_Lw_day_17 : decode b_Lw_day 17 = .ok (.ireturn, 1) := by decide +kernel
theorem d_Lw_day_18 : decode b_Lw_day 18 = .ok (.iconst 0, 1) := by decide +kernel
theorem d_Lw_day_19 : decode b_Lw_day 19 = .ok (.ireturn, 1) := by decide +kernel
theorem d_Lw_quarantine_0 : decode b_Lw_quarantine 0 = .ok (.aload_n 0, 1) := by decide +kernel
theorem d_Lw_quarantine_1 : decode b_Lw_quarantine 1 = .ok (.iload_n 1, 1) := by decide +kernel
theorem d_Lw_quarantine_2 : decode b_Lw_quarantine 2 = .ok (.invokevirtual 54, 3) := by decide +kernel
theorem d_Lw_quarantine_5 : decode b_Lw_quarantine 5 = .ok (.goto 9, 3) := by decide +kernel
theorem d_Lw_quarantine_8 : decode b_Lw_quarantine 8 = .ok (.astore_n 2, 1) := by decide +kernel
theorem d_Lw_quarantine_9 : decode b_Lw_quarantine 9 = .ok (.iconst 1, 1) := by decide +kernel
theorem d_Lw_quarantine_10 : decode b_Lw_quarantine 10 = .ok (.ireturn, 1) := by decide +kernel
theorem d_Lw_quarantine_11 : decode b_Lw_quarantine 11 = .ok (.astore_n 2, 1) := by decide +kernel
theorem d_Lw_quarantine_12 : decode b_Lw_quarantine 12 = .ok (.iconst 2, 1) := by decide +kernel
theorem d_Lw_quarantine_13 : decode b_Lw_quarantine 13 = .ok (.ireturn, 1) := by decide +kernel
theorem d_Lw_quarantine_14 : decode b_Lw_quarantine 14 = .ok (.iconst 0, 1) := by decide +kernel
theorem d_Lw_quarantine_15 : decode b_Lw_quarantine 15 = .ok (.ireturn, 1) := by decide +kernel
theorem d_Lw_field_0 : decode b_Lw_field 0 = .ok (.aload_n 3, 1) := by decide +kernel
theorem d_Lw_field_1 : decode b_Lw_field 1 = .ok (.iconst 0, 1) := by decide +kernel
theorem d_Lw_field_2 : decode b_Lw_field 2 = .ok (.aload_n 0, 1) := by decide +kernel
theorem d_Lw_field_3 : decode b_Lw_field 3 = .ok (.iload_n 1, 1) := by decide +kernel
theorem d_Lw_field_4 : decode b_Lw_field 4 = .ok (.iload_n 2, 1) := by decide +kernel
theorem d_Lw_field_5 : decode b_Lw_field 5 = .ok (.invokevirtual 57, 3) := by decide +kernel
theorem d_Lw_field_8 : decode b_Lw_field 8 = .ok (.i2l, 1) := by decide +kernel
theorem d_Lw_field_9 : decode b_Lw_field 9 = .ok (.lastore, 1) := by decide +kernel
theorem d_Lw_field_10 : decode b_Lw_field 10 = .ok (.goto 11, 3) := by decide +kernel
theorem d_Lw_field_13 : decode b_Lw_field 13 = .ok (.astore 4, 2) := by decide +kernel
theorem d_Lw_field_15 : decode b_Lw_field 15 = .ok (.iconst 1, 1) := by decide +kernel
theorem d_Lw_field_16 : decode b_Lw_field 16 = .ok (.ireturn, 1) := by decide +kernel
theorem d_Lw_field_17 : decode b_Lw_field 17 = .ok (.astore 4, 2) := by decide +kernel
theorem d_Lw_field_19 : decode b_Lw_field 19 = .ok (.iconst 2, 1) := by decide +kernel
theorem d_Lw_field_20 : decode b_Lw_field 20 = .ok (.ireturn, 1) := by decide +kernel
theorem d_Lw_field_21 : decode b_Lw_field 21 = .ok (.iconst 0, 1) := by decide +kernel
theorem d_Lw_field_22 : decode b_Lw_field 22 = .ok (.ireturn, 1) := by decide +kernel
theorem d_Lw_freeAt_0 : decode b_Lw_freeAt 0 = .ok (.aload_n 3, 1) := by decide +kernel
theorem d_Lw_freeAt_1 : decode b_Lw_freeAt 1 = .ok (.iconst 0, 1) := by decide +kernel
theorem d_Lw_freeAt_2 : decode b_Lw_freeAt 2 = .ok (.aload_n 0, 1) := by decide +kernel
theorem d_Lw_freeAt_3 : decode b_Lw_freeAt 3 = .ok (.iload_n 1, 1) := by decide +kernel
theorem d_Lw_freeAt_4 : decode b_Lw_freeAt 4 = .ok (.iload_n 2, 1) := by decide +kernel
theorem d_Lw_freeAt_5 : decode b_Lw_freeAt 5 = .ok (.invokevirtual 60, 3) := by decide +kernel
theorem d_Lw_freeAt_8 : decode b_Lw_freeAt 8 = .ok (.lastore, 1) := by decide +kernel
theorem d_Lw_freeAt_9 : decode b_Lw_freeAt 9 = .ok (.goto 11, 3) := by decide +kernel
theorem d_Lw_freeAt_12 : decode b_Lw_freeAt 12 = .ok (.astore 4, 2) := by decide +kernel
theorem d_Lw_freeAt_14 : decode b_Lw_freeAt 14 = .ok (.iconst 1, 1) := by decide +kernel
theorem d_Lw_freeAt_15 : decode b_Lw_freeAt 15 = .ok (.ireturn, 1) := by decide +kernel
theorem d_Lw_freeAt_16 : decode b_Lw_freeAt 16 = .ok (.astore 4, 2) := by decide +kernel
theorem d_Lw_freeAt_18 : decode b_Lw_freeAt 18 = .ok (.iconst 2, 1) := by decide +kernel
theorem d_Lw_freeAt_19 : decode b_Lw_freeAt 19 = .ok (.ireturn, 1) := by decide +kernel
theorem d_Lw_freeAt_20 : decode b_Lw_freeAt 20 = .ok (.iconst 0, 1) := by decide +kernel
theorem d_Lw_freeAt_21 : decode b_Lw_freeAt 21 = .ok (.ireturn, 1) := by decide +kernel
theorem d_Lw_blocks_0 : decode b_Lw_blocks 0 = .ok (.aload_n 2, 1) := by decide +kernel
theorem d_Lw_blocks_1 : decode b_Lw_blocks 1 = .ok (.iconst 0, 1) := by decide +kernel
theorem d_Lw_blocks_2 : decode b_Lw_blocks 2 = .ok (.aload_n 0, 1) := by decide +kernel
theorem d_Lw_blocks_3 : decode b_Lw_blocks 3 = .ok (.iload_n 1, 1) := by decide +kernel
theorem d_Lw_blocks_4 : decode b_Lw_blocks 4 = .ok (.invokevirtual 64, 3) := by decide +kernel
theorem d_Lw_blocks_7 : decode b_Lw_blocks 7 = .ok (.i2l, 1) := by decide +kernel
theorem d_Lw_blocks_8 : decode b_Lw_blocks 8 = .ok (.lastore, 1) := by decide +kernel
theorem d_Lw_blocks_9 : decode b_Lw_blocks 9 = .ok (.goto 6, 3) := by decide +kernel
theorem d_Lw_blocks_12 : decode b_Lw_blocks 12 = .ok (.astore_n 3, 1) := by decide +kernel
theorem d_Lw_blocks_13 : decode b_Lw_blocks 13 = .ok (.iconst 1, 1) := by decide +kernel
theorem d_Lw_blocks_14 : decode b_Lw_blocks 14 = .ok (.ireturn, 1) := by decide +kernel
theorem d_Lw_blocks_15 : decode b_Lw_blocks 15 = .ok (.iconst 0, 1) := by decide +kernel
theorem d_Lw_blocks_16 : decode b_Lw_blocks 16 = .ok (.ireturn, 1) := by decide +kernel
theorem d_Lw_block_0 : decode b_Lw_block 0 = .ok (.aload 4, 2) := by decide +kernel
theorem d_Lw_block_2 : decode b_Lw_block 2 = .ok (.iconst 0, 1) := by decide +kernel
theorem d_Lw_block_3 : decode b_Lw_block 3 = .ok (.aload_n 0, 1) := by decide +kernel
theorem d_Lw_block_4 : decode b_Lw_block 4 = .ok (.iload_n 1, 1) := by decide +kernel
theorem d_Lw_block_5 : decode b_Lw_block 5 = .ok (.iload_n 2, 1) := by decide +kernel
theorem d_Lw_block_6 : decode b_Lw_block 6 = .ok (.iload_n 3, 1) := by decide +kernel
theorem d_Lw_block_7 : decode b_Lw_block 7 = .ok (.invokevirtual 67, 3) := by decide +kernel
theorem d_Lw_block_10 : decode b_Lw_block 10 = .ok (.i2l, 1) := by decide +kernel
theorem d_Lw_block_11 : decode b_Lw_block 11 = .ok (.lastore, 1) := by decide +kernel
theorem d_Lw_block_12 : decode b_Lw_block 12 = .ok (.goto 7, 3) := by decide +kernel
theorem d_Lw_block_15 : decode b_Lw_block 15 = .ok (.astore 5, 2) := by decide +kernel
theorem d_Lw_block_17 : decode b_Lw_block 17 = .ok (.iconst 1, 1) := by decide +kernel
theorem d_Lw_block_18 : decode b_Lw_block 18 = .ok (.ireturn, 1) := by decide +kernel
theorem d_Lw_block_19 : decode b_Lw_block 19 = .ok (.iconst 0, 1) := by decide +kernel
theorem d_Lw_block_20 : decode b_Lw_block 20 = .ok (.ireturn, 1) := by decide +kernel
theorem d_Lw_used_0 : decode b_Lw_used 0 = .ok (.aload_n 2, 1) := by decide +kernel
theorem d_Lw_used_1 : decode b_Lw_used 1 = .ok (.iconst 0, 1) := by decide +kernel
theorem d_Lw_used_2 : decode b_Lw_used 2 = .ok (.aload_n 0, 1) := by decide +kernel
theorem d_Lw_used_3 : decode b_Lw_used 3 = .ok (.iload_n 1, 1) := by decide +kernel
theorem d_Lw_used_4 : decode b_Lw_used 4 = .ok (.invokevirtual 70, 3) := by decide +kernel
theorem d_Lw_used_7 : decode b_Lw_used 7 = .ok (.lastore, 1) := by decide +kernel
theorem d_Lw_used_8 : decode b_Lw_used 8 = .ok (.goto 6, 3) := by decide +kernel
theorem d_Lw_used_11 : decode b_Lw_used 11 = .ok (.astore_n 3, 1) := by decide +kernel
theorem d_Lw_used_12 : decode b_Lw_used 12 = .ok (.iconst 1, 1) := by decide +kernel
theorem d_Lw_used_13 : decode b_Lw_used 13 = .ok (.ireturn, 1) := by decide +kernel
theorem d_Lw_used_14 : decode b_Lw_used 14 = .ok (.iconst 0, 1) := by decide +kernel
theorem d_Lw_used_15 : decode b_Lw_used 15 = .ok (.ireturn, 1) := by decide +kernel
theorem d_Lw_cuts_0 : decode b_Lw_cuts 0 = .ok (.aload_n 2, 1) := by decide +kernel
theorem d_Lw_cuts_1 : decode b_Lw_cuts 1 = .ok (.iconst 0, 1) := by decide +kernel
theorem d_Lw_cuts_2 : decode b_Lw_cuts 2 = .ok (.aload_n 0, 1) := by decide +kernel
theorem d_Lw_cuts_3 : decode b_Lw_cuts 3 = .ok (.iload_n 1, 1) := by decide +kernel
theorem d_Lw_cuts_4 : decode b_Lw_cuts 4 = .ok (.invokevirtual 74, 3) := by decide +kernel
theorem d_Lw_cuts_7 : decode b_Lw_cuts 7 = .ok (.i2l, 1) := by decide +kernel
theorem d_Lw_cuts_8 : decode b_Lw_cuts 8 = .ok (.lastore, 1) := by decide +kernel
theorem d_Lw_cuts_9 : decode b_Lw_cuts 9 = .ok (.goto 6, 3) := by decide +kernel
theorem d_Lw_cuts_12 : decode b_Lw_cuts 12 = .ok (.astore_n 3, 1) := by decide +kernel
theorem d_Lw_cuts_13 : decode b_Lw_cuts 13 = .ok (.iconst 1, 1) := by decide +kernel
theorem d_Lw_cuts_14 : decode b_Lw_cuts 14 = .ok (.ireturn, 1) := by decide +kernel
theorem d_Lw_cuts_15 : decode b_Lw_cuts 15 = .ok (.iconst 0, 1) := by decide +kernel
theorem d_Lw_cuts_16 : decode b_Lw_cuts 16 = .ok (.ireturn, 1) := by decide +kernel
theorem d_Lw_cut_0 : decode b_Lw_cut 0 = .ok (.aload 4, 2) := by decide +kernel
theorem d_Lw_cut_2 : decode b_Lw_cut 2 = .ok (.iconst 0, 1) := by decide +kernel
theorem d_Lw_cut_3 : decode b_Lw_cut 3 = .ok (.aload_n 0, 1) := by decide +kernel
theorem d_Lw_cut_4 : decode b_Lw_cut 4 = .ok (.iload_n 1, 1) := by decide +kernel
theorem d_Lw_cut_5 : decode b_Lw_cut 5 = .ok (.iload_n 2, 1) := by decide +kernel
theorem d_Lw_cut_6 : decode b_Lw_cut 6 = .ok (.iload_n 3, 1) := by decide +kernel
theorem d_Lw_cut_7 : decode b_Lw_cut 7 = .ok (.invokevirtual 77, 3) := by decide +kernel
theorem d_Lw_cut_10 : decode b_Lw_cut 10 = .ok (.i2l, 1) := by decide +kernel
theorem d_Lw_cut_11 : decode b_Lw_cut 11 = .ok (.lastore, 1) := by decide +kernel
theorem d_Lw_cut_12 : decode b_Lw_cut 12 = .ok (.goto 7, 3) := by decide +kernel
theorem d_Lw_cut_15 : decode b_Lw_cut 15 = .ok (.astore 5, 2) := by decide +kernel
theorem d_Lw_cut_17 : decode b_Lw_cut 17 = .ok (.iconst 1, 1) := by decide +kernel
theorem d_Lw_cut_18 : decode b_Lw_cut 18 = .ok (.ireturn, 1) := by decide +kernel
theorem d_Lw_cut_19 : decode b_Lw_cut 19 = .ok (.iconst 0, 1) := by decide +kernel
theorem d_Lw_cut_20 : decode b_Lw_cut 20 = .ok (.ireturn, 1) := by decide +kernel
theorem d_Lw_log_0 : decode b_Lw_log 0 = .ok (.aload_n 3, 1) := by decide +kernel
theorem d_Lw_log_1 : decode b_Lw_log 1 = .ok (.iconst 0, 1) := by decide +kernel
theorem d_Lw_log_2 : decode b_Lw_log 2 = .ok (.aload_n 0, 1) := by decide +kernel
theorem d_Lw_log_3 : decode b_Lw_log 3 = .ok (.iload_n 1, 1) := by decide +kernel
theorem d_Lw_log_4 : decode b_Lw_log 4 = .ok (.iload_n 2, 1) := by decide +kernel
theorem d_Lw_log_5 : decode b_Lw_log 5 = .ok (.invokevirtual 80, 3) := by decide +kernel
theorem d_Lw_log_8 : decode b_Lw_log 8 = .ok (.i2l, 1) := by decide +kernel
theorem d_Lw_log_9 : decode b_Lw_log 9 = .ok (.lastore, 1) := by decide +kernel
theorem d_Lw_log_10 : decode b_Lw_log 10 = .ok (.goto 11, 3) := by decide +kernel
theorem d_Lw_log_13 : decode b_Lw_log 13 = .ok (.astore 4, 2) := by decide +kernel
theorem d_Lw_log_15 : decode b_Lw_log 15 = .ok (.iconst 1, 1) := by decide +kernel
theorem d_Lw_log_16 : decode b_Lw_log 16 = .ok (.ireturn, 1) := by decide +kernel
theorem d_Lw_log_17 : decode b_Lw_log 17 = .ok (.astore 4, 2) := by decide +kernel
theorem d_Lw_log_19 : decode b_Lw_log 19 = .ok (.iconst 2, 1) := by decide +kernel
theorem d_Lw_log_20 : decode b_Lw_log 20 = .ok (.ireturn, 1) := by decide +kernel
theorem d_Lw_log_21 : decode b_Lw_log 21 = .ok (.iconst 0, 1) := by decide +kernel
theorem d_Lw_log_22 : decode b_Lw_log 22 = .ok (.ireturn, 1) := by decide +kernel
theorem d_Lw_replay_0 : decode b_Lw_replay 0 = .ok (.aload_n 2, 1) := by decide +kernel
theorem d_Lw_replay_1 : decode b_Lw_replay 1 = .ok (.iconst 0, 1) := by decide +kernel
theorem d_Lw_replay_2 : decode b_Lw_replay 2 = .ok (.aload_n 0, 1) := by decide +kernel
theorem d_Lw_replay_3 : decode b_Lw_replay 3 = .ok (.iload_n 1, 1) := by decide +kernel
theorem d_Lw_replay_4 : decode b_Lw_replay 4 = .ok (.invokevirtual 83, 3) := by decide +kernel
theorem d_Lw_replay_7 : decode b_Lw_replay 7 = .ok (.i2l, 1) := by decide +kernel
theorem d_Lw_replay_8 : decode b_Lw_replay 8 = .ok (.lastore, 1) := by decide +kernel
theorem d_Lw_replay_9 : decode b_Lw_replay 9 = .ok (.goto 6, 3) := by decide +kernel
theorem d_Lw_replay_12 : decode b_Lw_replay 12 = .ok (.astore_n 3, 1) := by decide +kernel
theorem d_Lw_replay_13 : decode b_Lw_replay 13 = .ok (.iconst 1, 1) := by decide +kernel
theorem d_Lw_replay_14 : decode b_Lw_replay 14 = .ok (.ireturn, 1) := by decide +kernel
theorem d_Lw_replay_15 : decode b_Lw_replay 15 = .ok (.iconst 0, 1) := by decide +kernel
theorem d_Lw_replay_16 : decode b_Lw_replay 16 = .ok (.ireturn, 1) := by decide +kernel
