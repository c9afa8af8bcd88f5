theorem d_Le_init_0 : decode b_Le_init 0 = .ok (.aload_n 0, 1) := by decide +kernel
theorem d_Le_init_1 : decode b_Le_init 1 = .ok (.invokespecial 3, 3) := by decide +kernel
theorem d_Le_init_4 : decode b_Le_init 4 = .ok (.new 9, 3) := by decide +kernel
theorem d_Le_init_7 : decode b_Le_init 7 = .ok (.dup, 1) := by decide +kernel
theorem d_Le_init_8 : decode b_Le_init 8 = .ok (.invokespecial 11, 3) := by decide +kernel
theorem d_Le_init_11 : decode b_Le_init 11 = .ok (.astore_n 1, 1) := by decide +kernel
theorem d_Le_init_12 : decode b_Le_init 12 = .ok (.aload_n 0, 1) := by decide +kernel
theorem d_Le_init_13 : decode b_Le_init 13 = .ok (.aload_n 1, 1) := by decide +kernel
theorem d_Le_init_14 : decode b_Le_init 14 = .ok (.putfield 12, 3) := by decide +kernel
theorem d_Le_init_17 : decode b_Le_init 17 = .ok (.aload_n 0, 1) := by decide +kernel
theorem d_Le_init_18 : decode b_Le_init 18 = .ok (.new 18, 3) := by decide +kernel
theorem d_Le_init_21 : decode b_Le_init 21 = .ok (.dup, 1) := by decide +kernel
theorem d_Le_init_22 : decode b_Le_init 22 = .ok (.aload_n 1, 1) := by decide +kernel
theorem d_Le_init_23 : decode b_Le_init 23 = .ok (.invokespecial 20, 3) := by decide +kernel
theorem d_Le_init_26 : decode b_Le_init 26 = .ok (.putfield 23, 3) := by decide +kernel
theorem d_Le_init_29 : decode b_Le_init 29 = .ok (.aload_n 0, 1) := by decide +kernel
theorem d_Le_init_30 : decode b_Le_init 30 = .ok (.iconst 4, 1) := by decide +kernel
theorem d_Le_init_31 : decode b_Le_init 31 = .ok (.newarray .int, 2) := by decide +kernel
theorem d_Le_init_33 : decode b_Le_init 33 = .ok (.putfield 27, 3) := by decide +kernel
theorem d_Le_init_36 : decode b_Le_init 36 = .ok (.aload_n 0, 1) := by decide +kernel
theorem d_Le_init_37 : decode b_Le_init 37 = .ok (.iconst 0, 1) := by decide +kernel
theorem d_Le_init_38 : decode b_Le_init 38 = .ok (.putfield 31, 3) := by decide +kernel
theorem d_Le_init_41 : decode b_Le_init 41 = .ok (.aload_n 0, 1) := by decide +kernel
theorem d_Le_init_42 : decode b_Le_init 42 = .ok (.iconst 0, 1) := by decide +kernel
theorem d_Le_init_43 : decode b_Le_init 43 = .ok (.putfield 35, 3) := by decide +kernel
theorem d_Le_init_46 : decode b_Le_init 46 = .ok (.return_, 1) := by decide +kernel
theorem d_Le_forgetAll_0 : decode b_Le_forgetAll 0 = .ok (.aload_n 0, 1) := by decide +kernel
theorem d_Le_forgetAll_1 : decode b_Le_forgetAll 1 = .ok (.getfield 12, 3) := by decide +kernel
theorem d_Le_forgetAll_4 : decode b_Le_forgetAll 4 = .ok (.iconst 0, 1) := by decide +kernel
theorem d_Le_forgetAll_5 : decode b_Le_forgetAll 5 = .ok (.putfield 38, 3) := by decide +kernel
theorem d_Le_forgetAll_8 : decode b_Le_forgetAll 8 = .ok (.aload_n 0, 1) := by decide +kernel
theorem d_Le_forgetAll_9 : decode b_Le_forgetAll 9 = .ok (.iconst 0, 1) := by decide +kernel
theorem d_Le_forgetAll_10 : decode b_Le_forgetAll 10 = .ok (.putfield 31, 3) := by decide +kernel
theorem d_Le_forgetAll_13 : decode b_Le_forgetAll 13 = .ok (.aload_n 0, 1) := by decide +kernel
theorem d_Le_forgetAll_14 : decode b_Le_forgetAll 14 = .ok (.iconst 0, 1) := by decide +kernel
theorem d_Le_forgetAll_15 : decode b_Le_forgetAll 15 = .ok (.putfield 35, 3) := by decide +kernel
theorem d_Le_forgetAll_18 : decode b_Le_forgetAll 18 = .ok (.iconst 0, 1) := by decide +kernel
theorem d_Le_forgetAll_19 : decode b_Le_forgetAll 19 = .ok (.istore_n 1, 1) := by decide +kernel
theorem d_Le_forgetAll_20 : decode b_Le_forgetAll 20 = .ok (.iload_n 1, 1) := by decide +kernel
theorem d_Le_forgetAll_21 : decode b_Le_forgetAll 21 = .ok (.iconst 4, 1) := by decide +kernel
theorem d_Le_forgetAll_22 : decode b_Le_forgetAll 22 = .ok (.if_icmp .ge 16, 3) := by decide +kernel
theorem d_Le_forgetAll_25 : decode b_Le_forgetAll 25 = .ok (.aload_n 0, 1) := by decide +kernel
theorem d_Le_forgetAll_26 : decode b_Le_forgetAll 26 = .ok (.getfield 27, 3) := by decide +kernel
theorem d_Le_forgetAll_29 : decode b_Le_forgetAll 29 = .ok (.iload_n 1, 1) := by decide +kernel
theorem d_Le_forgetAll_30 : decode b_Le_forgetAll 30 = .ok (.iconst 0, 1) := by decide +kernel
theorem d_Le_forgetAll_31 : decode b_Le_forgetAll 31 = .ok (.iastore, 1) := by decide +kernel
theorem d_Le_forgetAll_32 : decode b_Le_forgetAll 32 = .ok (.iinc 1 1, 3) := by decide +kernel
theorem d_Le_forgetAll_35 : decode b_Le_forgetAll 35 = .ok (.goto (-15), 3) := by decide +kernel
theorem d_Le_forgetAll_38 : decode b_Le_forgetAll 38 = .ok (.return_, 1) := by decide +kernel
theorem d_Le_codeForAsking_0 : decode b_Le_codeForAsking 0 = .ok (.aload_n 0, 1) := by decide +kernel
theorem d_Le_codeForAsking_1 : decode b_Le_codeForAsking 1 = .ok (.getfield 12, 3) := by decide +kernel
theorem d_Le_codeForAsking_4 : decode b_Le_codeForAsking 4 = .ok (.iload_n 1, 1) := by decide +kernel
theorem d_Le_codeForAsking_5 : decode b_Le_codeForAsking 5 = .ok (.invokevirtual 41, 3) := by decide +kernel
theorem d_Le_codeForAsking_8 : decode b_Le_codeForAsking 8 = .ok (.ifCond .ne 6, 3) := by decide +kernel
theorem d_Le_codeForAsking_11 : decode b_Le_codeForAsking 11 = .ok (.bipush (-5), 2) := by decide +kernel
theorem d_Le_codeForAsking_13 : decode b_Le_codeForAsking 13 = .ok (.ireturn, 1) := by decide +kernel
theorem d_Le_codeForAsking_14 : decode b_Le_codeForAsking 14 = .ok (.aload_n 0, 1) := by decide +kernel
theorem d_Le_codeForAsking_15 : decode b_Le_codeForAsking 15 = .ok (.iload_n 1, 1) := by decide +kernel
theorem d_Le_codeForAsking_16 : decode b_Le_codeForAsking 16 = .ok (.iload_n 2, 1) := by decide +kernel
theorem d_Le_codeForAsking_17 : decode b_Le_codeForAsking 17 = .ok (.invokevirtual 45, 3) := by decide +kernel
theorem d_Le_codeForAsking_20 : decode b_Le_codeForAsking 20 = .ok (.ifCond .ne 6, 3) := by decide +kernel
theorem d_Le_codeForAsking_23 : decode b_Le_codeForAsking 23 = .ok (.bipush (-2), 2) := by decide +kernel
theorem d_Le_codeForAsking_25 : decode b_Le_codeForAsking 25 = .ok (.ireturn, 1) := by decide +kernel
theorem d_Le_codeForAsking_26 : decode b_Le_codeForAsking 26 = .ok (.aload_n 0, 1) := by decide +kernel
theorem d_Le_codeForAsking_27 : decode b_Le_codeForAsking 27 = .ok (.iload_n 1, 1) := by decide +kernel
theorem d_Le_codeForAsking_28 : decode b_Le_codeForAsking 28 = .ok (.invokevirtual 49, 3) := by decide +kernel
theorem d_Le_codeForAsking_31 : decode b_Le_codeForAsking 31 = .ok (.istore_n 3, 1) := by decide +kernel
theorem d_Le_codeForAsking_32 : decode b_Le_codeForAsking 32 = .ok (.iload_n 3, 1) := by decide +kernel
theorem d_Le_codeForAsking_33 : decode b_Le_codeForAsking 33 = .ok (.ifCond .eq 5, 3) := by decide +kernel
theorem d_Le_codeForAsking_36 : decode b_Le_codeForAsking 36 = .ok (.iload_n 3, 1) := by decide +kernel
theorem d_Le_codeForAsking_37 : decode b_Le_codeForAsking 37 = .ok (.ireturn, 1) := by decide +kernel
theorem d_Le_codeForAsking_38 : decode b_Le_codeForAsking 38 = .ok (.aload_n 0, 1) := by decide +kernel
theorem d_Le_codeForAsking_39 : decode b_Le_codeForAsking 39 = .ok (.iload_n 1, 1) := by decide +kernel
theorem d_Le_codeForAsking_40 : decode b_Le_codeForAsking 40 = .ok (.invokevirtual 53, 3) := by decide +kernel
theorem d_Le_codeForAsking_43 : decode b_Le_codeForAsking 43 = .ok (.ifCond .ne 6, 3) := by decide +kernel
theorem d_Le_codeForAsking_46 : decode b_Le_codeForAsking 46 = .ok (.bipush (-4), 2) := by decide +kernel
theorem d_Le_codeForAsking_48 : decode b_Le_codeForAsking 48 = .ok (.ireturn, 1) := by decide +kernel
theorem d_Le_codeForAsking_49 : decode b_Le_codeForAsking 49 = .ok (.aload_n 0, 1) := by decide +kernel
theorem d_Le_codeForAsking_50 : decode b_Le_codeForAsking 50 = .ok (.iload_n 1, 1) := by decide +kernel
theorem d_Le_codeForAsking_51 : decode b_Le_codeForAsking 51 = .ok (.iload_n 2, 1) := by decide +kernel
theorem d_Le_codeForAsking_52 : decode b_Le_codeForAsking 52 = .ok (.iconst 0, 1) := by decide +kernel
theorem d_Le_codeForAsking_53 : decode b_Le_codeForAsking 53 = .ok (.invokevirtual 56, 3) := by decide +kernel
theorem d_Le_codeForAsking_56 : decode b_Le_codeForAsking 56 = .ok (.ldc2_w 60, 3) := by decide +kernel
theorem d_Le_codeForAsking_59 : decode b_Le_codeForAsking 59 = .ok (.lcmp, 1) := by decide +kernel
theorem d_Le_codeForAsking_60 : decode b_Le_codeForAsking 60 = .ok (.ifCond .ne 7, 3) := by decide +kernel
theorem d_Le_codeForAsking_63 : decode b_Le_codeForAsking 63 = .ok (.iconst (-1), 1) := by decide +kernel
theorem d_Le_codeForAsking_64 : decode b_Le_codeForAsking 64 = .ok (.goto 4, 3) := by decide +kernel
theorem d_Le_codeForAsking_67 : decode b_Le_codeForAsking 67 = .ok (.iconst 0, 1) := by decide +kernel
theorem d_Le_codeForAsking_68 : decode b_Le_codeForAsking 68 = .ok (.ireturn, 1) := by decide +kernel
theorem d_Le_codeForReserving_0 : decode b_Le_codeForReserving 0 = .ok (.aload_n 0, 1) := by decide +kernel
theorem d_Le_codeForReserving_1 : decode b_Le_codeForReserving 1 = .ok (.getfield 12, 3) := by decide +kernel
theorem d_Le_codeForReserving_4 : decode b_Le_codeForReserving 4 = .ok (.iload_n 1, 1) := by decide +kernel
theorem d_Le_codeForReserving_5 : decode b_Le_codeForReserving 5 = .ok (.invokevirtual 41, 3) := by decide +kernel
theorem d_Le_codeForReserving_8 : decode b_Le_codeForReserving 8 = .ok (.ifCond .ne 6, 3) := by decide +kernel
theorem d_Le_codeForReserving_11 : decode b_Le_codeForReserving 11 = .ok (.bipush (-5), 2) := by decide +kernel
theorem d_Le_codeForReserving_13 : decode b_Le_codeForReserving 13 = .ok (.ireturn, 1) := by decide +kernel
theorem d_Le_codeForReserving_14 : decode b_Le_codeForReserving 14 = .ok (.aload_n 0, 1) := by decide +kernel
theorem d_Le_codeForReserving_15 : decode b_Le_codeForReserving 15 = .ok (.iload_n 1, 1) := by decide +kernel
theorem d_Le_codeForReserving_16 : decode b_Le_codeForReserving 16 = .ok (.iload_n 3, 1) := by decide +kernel
theorem d_Le_codeForReserving_17 : decode b_Le_codeForReserving 17 = .ok (.invokevirtual 45, 3) := by decide +kernel
theorem d_Le_codeForReserving_20 : decode b_Le_codeForReserving 20 = .ok (.ifCond .eq 24, 3) := by decide +kernel
theorem d_Le_codeForReserving_23 : decode b_Le_codeForReserving 23 = .ok (.iload_n 2, 1) := by decide +kernel
theorem d_Le_codeForReserving_24 : decode b_Le_codeForReserving 24 = .ok (.iload_n 3, 1) := by decide +kernel
theorem d_Le_codeForReserving_25 : decode b_Le_codeForReserving 25 = .ok (.invokestatic 62, 3) := by decide +kernel
theorem d_Le_codeForReserving_28 : decode b_Le_codeForReserving 28 = .ok (.ifCond .eq 16, 3) := by decide +kernel
theorem d_Le_codeForReserving_31 : decode b_Le_codeForReserving 31 = .ok (.aload_n 0, 1) := by decide +kernel
theorem d_Le_codeForReserving_32 : decode b_Le_codeForReserving 32 = .ok (.getfield 12, 3) := by decide +kernel
theorem d_Le_codeForReserving_35 : decode b_Le_codeForReserving 35 = .ok (.iload_n 1, 1) := by decide +kernel
theorem d_Le_codeForReserving_36 : decode b_Le_codeForReserving 36 = .ok (.iload_n 2, 1) := by decide +kernel
theorem d_Le_codeForReserving_37 : decode b_Le_codeForReserving 37 = .ok (.iload_n 3, 1) := by decide +kernel
theorem d_Le_codeForReserving_38 : decode b_Le_codeForReserving 38 = .ok (.invokevirtual 65, 3) := by decide +kernel
theorem d_Le_codeForReserving_41 : decode b_Le_codeForReserving 41 = .ok (.ifCond .ne 6, 3) := by decide +kernel
theorem d_Le_codeForReserving_44 : decode b_Le_codeForReserving 44 = .ok (.bipush (-2), 2) := by decide +kernel
theorem d_Le_codeForReserving_46 : decode b_Le_codeForReserving 46 = .ok (.ireturn, 1) := by decide +kernel
theorem d_Le_codeForReserving_47 : decode b_Le_codeForReserving 47 = .ok (.aload_n 0, 1) := by decide +kernel
theorem d_Le_codeForReserving_48 : decode b_Le_codeForReserving 48 = .ok (.iload_n 1, 1) := by decide +kernel
theorem d_Le_codeForReserving_49 : decode b_Le_codeForReserving 49 = .ok (.invokevirtual 49, 3) := by decide +kernel
theorem d_Le_codeForReserving_52 : decode b_Le_codeForReserving 52 = .ok (.istore 4, 2) := by decide +kernel
theorem d_Le_codeForReserving_54 : decode b_Le_codeForReserving 54 = .ok (.iload 4, 2) := by decide +kernel
theorem d_Le_codeForReserving_56 : decode b_Le_codeForReserving 56 = .ok (.ifCond .eq 6, 3) := by decide +kernel
theorem d_Le_codeForReserving_59 : decode b_Le_codeForReserving 59 = .ok (.iload 4, 2) := by decide +kernel
theorem d_Le_codeForReserving_61 : decode b_Le_codeForReserving 61 = .ok (.ireturn, 1) := by decide +kernel
theorem d_Le_codeForReserving_62 : decode b_Le_codeForReserving 62 = .ok (.aload_n 0, 1) := by decide +kernel
theorem d_Le_codeForReserving_63 : decode b_Le_codeForReserving 63 = .ok (.getfield 12, 3) := by decide +kernel
theorem d_Le_codeForReserving_66 : decode b_Le_codeForReserving 66 = .ok (.iload_n 1, 1) := by decide +kernel
theorem d_Le_codeForReserving_67 : decode b_Le_codeForReserving 67 = .ok (.iload_n 2, 1) := by decide +kernel
theorem d_Le_codeForReserving_68 : decode b_Le_codeForReserving 68 = .ok (.iload_n 3, 1) := by decide +kernel
theorem d_Le_codeForReserving_69 : decode b_Le_codeForReserving 69 = .ok (.invokevirtual 69, 3) := by decide +kernel
theorem d_Le_codeForReserving_72 : decode b_Le_codeForReserving 72 = .ok (.ifCond .eq 7, 3) := by decide +kernel
theorem d_Le_codeForReserving_75 : decode b_Le_codeForReserving 75 = .ok (.iconst 0, 1) := by decide +kernel
theorem d_Le_codeForReserving_76 : decode b_Le_codeForReserving 76 = .ok (.goto 4, 3) := by decide +kernel
theorem d_Le_codeForReserving_79 : decode b_Le_codeForReserving 79 = .ok (.iconst (-1), 1) := by decide +kernel
theorem d_Le_codeForReserving_80 : decode b_Le_codeForReserving 80 = .ok (.ireturn, 1) := by decide +kernel
theorem d_Le_isLengthBelow_0 : decode b_Le_isLengthBelow 0 = .ok (.iload_n 2, 1) := by decide +kernel
theorem d_Le_isLengthBelow_1 : decode b_Le_isLengthBelow 1 = .ok (.aload_n 0, 1) := by decide +kernel
theorem d_Le_isLengthBelow_2 : decode b_Le_isLengthBelow 2 = .ok (.getfield 12, 3) := by decide +kernel
theorem d_Le_isLengthBelow_5 : decode b_Le_isLengthBelow 5 = .ok (.getfield 72, 3) := by decide +kernel
theorem d_Le_isLengthBelow_8 : decode b_Le_isLengthBelow 8 = .ok (.iload_n 1, 1) := by decide +kernel
theorem d_Le_isLengthBelow_9 : decode b_Le_isLengthBelow 9 = .ok (.iaload, 1) := by decide +kernel
theorem d_Le_isLengthBelow_10 : decode b_Le_isLengthBelow 10 = .ok (.if_icmp .le 13, 3) := by decide +kernel
theorem d_Le_isLengthBelow_13 : decode b_Le_isLengthBelow 13 = .ok (.iload_n 2, 1) := by decide +kernel
theorem d_Le_isLengthBelow_14 : decode b_Le_isLengthBelow 14 = .ok (.bipush 32, 2) := by decide +kernel
theorem d_Le_isLengthBelow_16 : decode b_Le_isLengthBelow 16 = .ok (.if_icmp .gt 7, 3) := by decide +kernel
theorem d_Le_isLengthBelow_19 : decode b_Le_isLengthBelow 19 = .ok (.iconst 1, 1) := by decide +kernel
theorem d_Le_isLengthBelow_20 : decode b_Le_isLengthBelow 20 = .ok (.goto 4, 3) := by decide +kernel
theorem d_Le_isLengthBelow_23 : decode b_Le_isLengthBelow 23 = .ok (.iconst 0, 1) := by decide +kernel
theorem d_Le_isLengthBelow_24 : decode b_Le_isLengthBelow 24 = .ok (.ireturn, 1) := by decide +kernel
theorem d_Le_codeForOneMore_0 : decode b_Le_codeForOneMore 0 = .ok (.aload_n 0, 1) := by decide +kernel
theorem d_Le_codeForOneMore_1 : decode b_Le_codeForOneMore 1 = .ok (.getfield 12, 3) := by decide +kernel
theorem d_Le_codeForOneMore_4 : decode b_Le_codeForOneMore 4 = .ok (.getfield 75, 3) := by decide +kernel
theorem d_Le_codeForOneMore_7 : decode b_Le_codeForOneMore 7 = .ok (.iload_n 1, 1) := by decide +kernel
theorem d_Le_codeForOneMore_8 : decode b_Le_codeForOneMore 8 = .ok (.iaload, 1) := by decide +kernel
theorem d_Le_codeForOneMore_9 : decode b_Le_codeForOneMore 9 = .ok (.iconst 4, 1) := by decide +kernel
theorem d_Le_codeForOneMore_10 : decode b_Le_codeForOneMore 10 = .ok (.if_icmp .lt 6, 3) := by decide +kernel
theorem d_Le_codeForOneMore_13 : decode b_Le_codeForOneMore 13 = .ok (.bipush (-6), 2) := by decide +kernel
theorem d_Le_codeForOneMore_15 : decode b_Le_codeForOneMore 15 = .ok (.ireturn, 1) := by decide +kernel
theorem d_Le_codeForOneMore_16 : decode b_Le_codeForOneMore 16 = .ok (.aload_n 0, 1) := by decide +kernel
theorem d_Le_codeForOneMore_17 : decode b_Le_codeForOneMore 17 = .ok (.getfield 12, 3) := by decide +kernel
theorem d_Le_codeForOneMore_20 : decode b_Le_codeForOneMore 20 = .ok (.invokevirtual 78, 3) := by decide +kernel
theorem d_Le_codeForOneMore_23 : decode b_Le_codeForOneMore 23 = .ok (.ifCond .eq 8, 3) := by decide +kernel
theorem d_Le_codeForOneMore_26 : decode b_Le_codeForOneMore 26 = .ok (.bipush (-3), 2) := by decide +kernel
theorem d_Le_codeForOneMore_28 : decode b_Le_codeForOneMore 28 = .ok (.goto 4, 3) := by decide +kernel
theorem d_Le_codeForOneMore_31 : decode b_Le_codeForOneMore 31 = .ok (.iconst 0, 1) := by decide +kernel
theorem d_Le_codeForOneMore_32 : decode b_Le_codeForOneMore 32 = .ok (.ireturn, 1) := by decide +kernel
theorem d_Le_codeForGrowing_0 : decode b_Le_codeForGrowing 0 = .ok (.aload_n 0, 1) := by decide +kernel
theorem d_Le_codeForGrowing_1 : decode b_Le_codeForGrowing 1 = .ok (.iload_n 1, 1) := by decide +kernel
theorem d_Le_codeForGrowing_2 : decode b_Le_codeForGrowing 2 = .ok (.invokevirtual 82, 3) := by decide +kernel
theorem d_Le_codeForGrowing_5 : decode b_Le_codeForGrowing 5 = .ok (.ifCond .ne 6, 3) := by decide +kernel
theorem d_Le_codeForGrowing_8 : decode b_Le_codeForGrowing 8 = .ok (.bipush (-5), 2) := by decide +kernel
theorem d_Le_codeForGrowing_10 : decode b_Le_codeForGrowing 10 = .ok (.ireturn, 1) := by decide +kernel
theorem d_Le_codeForGrowing_11 : decode b_Le_codeForGrowing 11 = .ok (.aload_n 0, 1) := by decide +kernel
theorem d_Le_codeForGrowing_12 : decode b_Le_codeForGrowing 12 = .ok (.getfield 12, 3) := by decide +kernel
theorem d_Le_codeForGrowing_15 : decode b_Le_codeForGrowing 15 = .ok (.getfield 85, 3) := by decide +kernel
theorem d_Le_codeForGrowing_18 : decode b_Le_codeForGrowing 18 = .ok (.iload_n 1, 1) := by decide +kernel
theorem d_Le_codeForGrowing_19 : decode b_Le_codeForGrowing 19 = .ok (.iaload, 1) := by decide +kernel
theorem d_Le_codeForGrowing_20 : decode b_Le_codeForGrowing 20 = .ok (.istore_n 2, 1) := by decide +kernel
theorem d_Le_codeForGrowing_21 : decode b_Le_codeForGrowing 21 = .ok (.aload_n 0, 1) := by decide +kernel
theorem d_Le_codeForGrowing_22 : decode b_Le_codeForGrowing 22 = .ok (.getfield 12, 3) := by decide +kernel
theorem d_Le_codeForGrowing_25 : decode b_Le_codeForGrowing 25 = .ok (.getfield 72, 3) := by decide +kernel
theorem d_Le_codeForGrowing_28 : decode b_Le_codeForGrowing 28 = .ok (.iload_n 1, 1) := by decide +kernel
theorem d_Le_codeForGrowing_29 : decode b_Le_codeForGrowing 29 = .ok (.iaload, 1) := by decide +kernel
theorem d_Le_codeForGrowing_30 : decode b_Le_codeForGrowing 30 = .ok (.istore_n 3, 1) := by decide +kernel
theorem d_Le_codeForGrowing_31 : decode b_Le_codeForGrowing 31 = .ok (.iload_n 3, 1) := by decide +kernel
theorem d_Le_codeForGrowing_32 : decode b_Le_codeForGrowing 32 = .ok (.aload_n 0, 1) := by decide +kernel
theorem d_Le_codeForGrowing_33 : decode b_Le_codeForGrowing 33 = .ok (.getfield 12, 3) := by decide +kernel
theorem d_Le_codeForGrowing_36 : decode b_Le_codeForGrowing 36 = .ok (.getfield 72, 3) := by decide +kernel
theorem d_Le_codeForGrowing_39 : decode b_Le_codeForGrowing 39 = .ok (.iload_n 2, 1) := by decide +kernel
theorem d_Le_codeForGrowing_40 : decode b_Le_codeForGrowing 40 = .ok (.iaload, 1) := by decide +kernel
theorem d_Le_codeForGrowing_41 : decode b_Le_codeForGrowing 41 = .ok (.if_icmp .gt 6, 3) := by decide +kernel
theorem d_Le_codeForGrowing_44 : decode b_Le_codeForGrowing 44 = .ok (.bipush (-2), 2) := by decide +kernel
theorem d_Le_codeForGrowing_46 : decode b_Le_codeForGrowing 46 = .ok (.ireturn, 1) := by decide +kernel
theorem d_Le_codeForGrowing_47 : decode b_Le_codeForGrowing 47 = .ok (.aload_n 0, 1) := by decide +kernel
theorem d_Le_codeForGrowing_48 : decode b_Le_codeForGrowing 48 = .ok (.getfield 12, 3) := by decide +kernel
theorem d_Le_codeForGrowing_51 : decode b_Le_codeForGrowing 51 = .ok (.getfield 88, 3) := by decide +kernel
theorem d_Le_codeForGrowing_54 : decode b_Le_codeForGrowing 54 = .ok (.iload_n 1, 1) := by decide +kernel
theorem d_Le_codeForGrowing_55 : decode b_Le_codeForGrowing 55 = .ok (.iaload, 1) := by decide +kernel
theorem d_Le_codeForGrowing_56 : decode b_Le_codeForGrowing 56 = .ok (.iload_n 3, 1) := by decide +kernel
theorem d_Le_codeForGrowing_57 : decode b_Le_codeForGrowing 57 = .ok (.invokestatic 91, 3) := by decide +kernel
theorem d_Le_codeForGrowing_60 : decode b_Le_codeForGrowing 60 = .ok (.istore 4, 2) := by decide +kernel
theorem d_Le_codeForGrowing_62 : decode b_Le_codeForGrowing 62 = .ok (.aload_n 0, 1) := by decide +kernel
theorem d_Le_codeForGrowing_63 : decode b_Le_codeForGrowing 63 = .ok (.getfield 12, 3) := by decide +kernel
theorem d_Le_codeForGrowing_66 : decode b_Le_codeForGrowing 66 = .ok (.iload_n 2, 1) := by decide +kernel
theorem d_Le_codeForGrowing_67 : decode b_Le_codeForGrowing 67 = .ok (.iload 4, 2) := by decide +kernel
theorem d_Le_codeForGrowing_69 : decode b_Le_codeForGrowing 69 = .ok (.iload_n 3, 1) := by decide +kernel
theorem d_Le_codeForGrowing_70 : decode b_Le_codeForGrowing 70 = .ok (.invokevirtual 69, 3) := by decide +kernel
theorem d_Le_codeForGrowing_73 : decode b_Le_codeForGrowing 73 = .ok (.ifCond .eq 7, 3) := by decide +kernel
theorem d_Le_codeForGrowing_76 : decode b_Le_codeForGrowing 76 = .ok (.iconst 0, 1) := by decide +kernel
theorem d_Le_codeForGrowing_77 : decode b_Le_codeForGrowing 77 = .ok (.goto 4, 3) := by decide +kernel
theorem d_Le_codeForGrowing_80 : decode b_Le_codeForGrowing 80 = .ok (.iconst (-1), 1) := by decide +kernel
theorem d_Le_codeForGrowing_81 : decode b_Le_codeForGrowing 81 = .ok (.ireturn, 1) := by decide +kernel
theorem d_Le_codeForHalving_0 : decode b_Le_codeForHalving 0 = .ok (.aload_n 0, 1) := by decide +kernel
theorem d_Le_codeForHalving_1 : decode b_Le_codeForHalving 1 = .ok (.iload_n 1, 1) := by decide +kernel
theorem d_Le_codeForHalving_2 : decode b_Le_codeForHalving 2 = .ok (.invokevirtual 82, 3) := by decide +kernel
theorem d_Le_codeForHalving_5 : decode b_Le_codeForHalving 5 = .ok (.ifCond .ne 6, 3) := by decide +kernel
theorem d_Le_codeForHalving_8 : decode b_Le_codeForHalving 8 = .ok (.bipush (-5), 2) := by decide +kernel
theorem d_Le_codeForHalving_10 : decode b_Le_codeForHalving 10 = .ok (.ireturn, 1) := by decide +kernel
theorem d_Le_codeForHalving_11 : decode b_Le_codeForHalving 11 = .ok (.aload_n 0, 1) := by decide +kernel
theorem d_Le_codeForHalving_12 : decode b_Le_codeForHalving 12 = .ok (.getfield 12, 3) := by decide +kernel
theorem d_Le_codeForHalving_15 : decode b_Le_codeForHalving 15 = .ok (.getfield 72, 3) := by decide +kernel
theorem d_Le_codeForHalving_18 : decode b_Le_codeForHalving 18 = .ok (.iload_n 1, 1) := by decide +kernel
theorem d_Le_codeForHalving_19 : decode b_Le_codeForHalving 19 = .ok (.iaload, 1) := by decide +kernel
theorem d_Le_codeForHalving_20 : decode b_Le_codeForHalving 20 = .ok (.bipush 32, 2) := by decide +kernel
theorem d_Le_codeForHalving_22 : decode b_Le_codeForHalving 22 = .ok (.if_icmp .lt 6, 3) := by decide +kernel
theorem d_Le_codeForHalving_25 : decode b_Le_codeForHalving 25 = .ok (.bipush (-2), 2) := by decide +kernel
theorem d_Le_codeForHalving_27 : decode b_Le_codeForHalving 27 = .ok (.ireturn, 1) := by decide +kernel
theorem d_Le_codeForHalving_28 : decode b_Le_codeForHalving 28 = .ok (.aload_n 0, 1) := by decide +kernel
theorem d_Le_codeForHalving_29 : decode b_Le_codeForHalving 29 = .ok (.getfield 12, 3) := by decide +kernel
theorem d_Le_codeForHalving_32 : decode b_Le_codeForHalving 32 = .ok (.getfield 72, 3) := by decide +kernel
theorem d_Le_codeForHalving_35 : decode b_Le_codeForHalving 35 = .ok (.iload_n 1, 1) := by decide +kernel
theorem d_Le_codeForHalving_36 : decode b_Le_codeForHalving 36 = .ok (.iaload, 1) := by decide +kernel
theorem d_Le_codeForHalving_37 : decode b_Le_codeForHalving 37 = .ok (.iconst 1, 1) := by decide +kernel
theorem d_Le_codeForHalving_38 : decode b_Le_codeForHalving 38 = .ok (.iadd, 1) := by decide +kernel
theorem d_Le_codeForHalving_39 : decode b_Le_codeForHalving 39 = .ok (.istore_n 3, 1) := by decide +kernel
theorem d_Le_codeForHalving_40 : decode b_Le_codeForHalving 40 = .ok (.aload_n 0, 1) := by decide +kernel
theorem d_Le_codeForHalving_41 : decode b_Le_codeForHalving 41 = .ok (.getfield 12, 3) := by decide +kernel
theorem d_Le_codeForHalving_44 : decode b_Le_codeForHalving 44 = .ok (.iload_n 1, 1) := by decide +kernel
theorem d_Le_codeForHalving_45 : decode b_Le_codeForHalving 45 = .ok (.aload_n 0, 1) := by decide +kernel
theorem d_Le_codeForHalving_46 : decode b_Le_codeForHalving 46 = .ok (.iload_n 1, 1) := by decide +kernel
theorem d_Le_codeForHalving_47 : decode b_Le_codeForHalving 47 = .ok (.iload_n 2, 1) := by decide +kernel
theorem d_Le_codeForHalving_48 : decode b_Le_codeForHalving 48 = .ok (.ifCond .ne 7, 3) := by decide +kernel
theorem d_Le_codeForHalving_51 : decode b_Le_codeForHalving 51 = .ok (.iconst 1, 1) := by decide +kernel
theorem d_Le_codeForHalving_52 : decode b_Le_codeForHalving 52 = .ok (.goto 4, 3) := by decide +kernel
theorem d_Le_codeForHalving_55 : decode b_Le_codeForHalving 55 = .ok (.iconst 0, 1) := by decide +kernel
theorem d_Le_codeForHalving_56 : decode b_Le_codeForHalving 56 = .ok (.invokevirtual 95, 3) := by decide +kernel
theorem d_Le_codeForHalving_59 : decode b_Le_codeForHalving 59 = .ok (.iload_n 3, 1) := by decide +kernel
theorem d_Le_codeForHalving_60 : decode b_Le_codeForHalving 60 = .ok (.invokevirtual 69, 3) := by decide +kernel
theorem d_Le_codeForHalving_63 : decode b_Le_codeForHalving 63 = .ok (.ifCond .eq 7, 3) := by decide +kernel
theorem d_Le_codeForHalving_66 : decode b_Le_codeForHalving 66 = .ok (.iconst 0, 1) := by decide +kernel
theorem d_Le_codeForHalving_67 : decode b_Le_codeForHalving 67 = .ok (.goto 4, 3) := by decide +kernel
theorem d_Le_codeForHalving_70 : decode b_Le_codeForHalving 70 = .ok (.iconst (-1), 1) := by decide +kernel
theorem d_Le_codeForHalving_71 : decode b_Le_codeForHalving 71 = .ok (.ireturn, 1) := by decide +kernel
theorem d_Le_isGivenBelow_0 : decode b_Le_isGivenBelow 0 = .ok (.aload_n 0, 1) := by decide +kernel
theorem d_Le_isGivenBelow_1 : decode b_Le_isGivenBelow 1 = .ok (.getfield 12, 3) := by decide +kernel
theorem d_Le_isGivenBelow_4 : decode b_Le_isGivenBelow 4 = .ok (.iload_n 1, 1) := by decide +kernel
theorem d_Le_isGivenBelow_5 : decode b_Le_isGivenBelow 5 = .ok (.invokevirtual 41, 3) := by decide +kernel
theorem d_Le_isGivenBelow_8 : decode b_Le_isGivenBelow 8 = .ok (.ifCond .eq 18, 3) := by decide +kernel
theorem d_Le_isGivenBelow_11 : decode b_Le_isGivenBelow 11 = .ok (.aload_n 0, 1) := by decide +kernel
theorem d_Le_isGivenBelow_12 : decode b_Le_isGivenBelow 12 = .ok (.getfield 12, 3) := by decide +kernel
theorem d_Le_isGivenBelow_15 : decode b_Le_isGivenBelow 15 = .ok (.iload_n 1, 1) := by decide +kernel
theorem d_Le_isGivenBelow_16 : decode b_Le_isGivenBelow 16 = .ok (.invokevirtual 99, 3) := by decide +kernel
theorem d_Le_isGivenBelow_19 : decode b_Le_isGivenBelow 19 = .ok (.ifCond .ne 7, 3) := by decide +kernel
theorem d_Le_isGivenBelow_22 : decode b_Le_isGivenBelow 22 = .ok (.iconst 1, 1) := by decide +kernel
theorem d_Le_isGivenBelow_23 : decode b_Le_isGivenBelow 23 = .ok (.goto 4, 3) := by decide +kernel
theorem d_Le_isGivenBelow_26 : decode b_Le_isGivenBelow 26 = .ok (.iconst 0, 1) := by decide +kernel
theorem d_Le_isGivenBelow_27 : decode b_Le_isGivenBelow 27 = .ok (.ireturn, 1) := by decide +kernel
theorem d_Le_halfOf_0 : decode b_Le_halfOf 0 = .ok (.aload_n 0, 1) := by decide +kernel
theorem d_Le_halfOf_1 : decode b_Le_halfOf 1 = .ok (.getfield 12, 3) := by decide +kernel
theorem d_Le_halfOf_4 : decode b_Le_halfOf 4 = .ok (.getfield 88, 3) := by decide +kernel
theorem d_Le_halfOf_7 : decode b_Le_halfOf 7 = .ok (.iload_n 1, 1) := by decide +kernel
theorem d_Le_halfOf_8 : decode b_Le_halfOf 8 = .ok (.iaload, 1) := by decide +kernel
theorem d_Le_halfOf_9 : decode b_Le_halfOf 9 = .ok (.istore_n 3, 1) := by decide +kernel
theorem d_Le_halfOf_10 : decode b_Le_halfOf 10 = .ok (.iload_n 2, 1) := by decide +kernel
theorem d_Le_halfOf_11 : decode b_Le_halfOf 11 = .ok (.ifCond .eq 21, 3) := by decide +kernel
theorem d_Le_halfOf_14 : decode b_Le_halfOf 14 = .ok (.iload_n 3, 1) := by decide +kernel
theorem d_Le_halfOf_15 : decode b_Le_halfOf 15 = .ok (.aload_n 0, 1) := by decide +kernel
theorem d_Le_halfOf_16 : decode b_Le_halfOf 16 = .ok (.getfield 12, 3) := by decide +kernel
theorem d_Le_halfOf_19 : decode b_Le_halfOf 19 = .ok (.getfield 72, 3) := by decide +kernel
theorem d_Le_halfOf_22 : decode b_Le_halfOf 22 = .ok (.iload_n 1, 1) := by decide +kernel
theorem d_Le_halfOf_23 : decode b_Le_halfOf 23 = .ok (.iaload, 1) := by decide +kernel
theorem d_Le_halfOf_24 : decode b_Le_halfOf 24 = .ok (.iconst 1, 1) := by decide +kernel
theorem d_Le_halfOf_25 : decode b_Le_halfOf 25 = .ok (.iadd, 1) := by decide +kernel
theorem d_Le_halfOf_26 : decode b_Le_halfOf 26 = .ok (.invokestatic 91, 3) := by decide +kernel
theorem d_Le_halfOf_29 : decode b_Le_halfOf 29 = .ok (.goto 4, 3) := by decide +kernel
theorem d_Le_halfOf_32 : decode b_Le_halfOf 32 = .ok (.iload_n 3, 1) := by decide +kernel
theorem d_Le_halfOf_33 : decode b_Le_halfOf 33 = .ok (.ireturn, 1) := by decide +kernel
theorem d_Le_mayComeBack_0 : decode b_Le_mayComeBack 0 = .ok (.aload_n 0, 1) := by decide +kernel
theorem d_Le_mayComeBack_1 : decode b_Le_mayComeBack 1 = .ok (.getfield 12, 3) := by decide +kernel
theorem d_Le_mayComeBack_4 : decode b_Le_mayComeBack 4 = .ok (.getfield 102, 3) := by decide +kernel
theorem d_Le_mayComeBack_7 : decode b_Le_mayComeBack 7 = .ok (.iload_n 1, 1) := by decide +kernel
theorem d_Le_mayComeBack_8 : decode b_Le_mayComeBack 8 = .ok (.iaload, 1) := by decide +kernel
theorem d_Le_mayComeBack_9 : decode b_Le_mayComeBack 9 = .ok (.istore_n 2, 1) := by decide +kernel
theorem d_Le_mayComeBack_10 : decode b_Le_mayComeBack 10 = .ok (.iload_n 2, 1) := by decide +kernel
theorem d_Le_mayComeBack_11 : decode b_Le_mayComeBack 11 = .ok (.iconst 1, 1) := by decide +kernel
theorem d_Le_mayComeBack_12 : decode b_Le_mayComeBack 12 = .ok (.if_icmp .eq 8, 3) := by decide +kernel
theorem d_Le_mayComeBack_15 : decode b_Le_mayComeBack 15 = .ok (.iload_n 2, 1) := by decide +kernel
theorem d_Le_mayComeBack_16 : decode b_Le_mayComeBack 16 = .ok (.iconst 2, 1) := by decide +kernel
theorem d_Le_mayComeBack_17 : decode b_Le_mayComeBack 17 = .ok (.if_icmp .ne 20, 3) := by decide +kernel
theorem d_Le_mayComeBack_20 : decode b_Le_mayComeBack 20 = .ok (.aload_n 0, 1) := by decide +kernel
theorem d_Le_mayComeBack_21 : decode b_Le_mayComeBack 21 = .ok (.getfield 12, 3) := by decide +kernel
theorem d_Le_mayComeBack_24 : decode b_Le_mayComeBack 24 = .ok (.getfield 105, 3) := by decide +kernel
theorem d_Le_mayComeBack_27 : decode b_Le_mayComeBack 27 = .ok (.iload_n 1, 1) := by decide +kernel
theorem d_Le_mayComeBack_28 : decode b_Le_mayComeBack 28 = .ok (.iaload, 1) := by decide +kernel
theorem d_Le_mayComeBack_29 : decode b_Le_mayComeBack 29 = .ok (.iconst (-1), 1) := by decide +kernel
theorem d_Le_mayComeBack_30 : decode b_Le_mayComeBack 30 = .ok (.if_icmp .ne 7, 3) := by decide +kernel
theorem d_Le_mayComeBack_33 : decode b_Le_mayComeBack 33 = .ok (.iconst 1, 1) := by decide +kernel
theorem d_Le_mayComeBack_34 : decode b_Le_mayComeBack 34 = .ok (.goto 4, 3) := by decide +kernel
theorem d_Le_mayComeBack_37 : decode b_Le_mayComeBack 37 = .ok (.iconst 0, 1) := by decide +kernel
theorem d_Le_mayComeBack_38 : decode b_Le_mayComeBack 38 = .ok (.ireturn, 1) := by decide +kernel
theorem d_Le_topBlockMeets_0 : decode b_Le_topBlockMeets 0 = .ok (.iconst 0, 1) := by decide +kernel
theorem d_Le_topBlockMeets_1 : decode b_Le_topBlockMeets 1 = .ok (.istore_n 3, 1) := by decide +kernel
theorem d_Le_topBlockMeets_2 : decode b_Le_topBlockMeets 2 = .ok (.iload_n 3, 1) := by decide +kernel
theorem d_Le_topBlockMeets_3 : decode b_Le_topBlockMeets 3 = .ok (.aload_n 0, 1) := by decide +kernel
theorem d_Le_topBlockMeets_4 : decode b_Le_topBlockMeets 4 = .ok (.getfield 12, 3) := by decide +kernel
theorem d_Le_topBlockMeets_7 : decode b_Le_topBlockMeets 7 = .ok (.getfield 38, 3) := by decide +kernel
theorem d_Le_topBlockMeets_10 : decode b_Le_topBlockMeets 10 = .ok (.if_icmp .ge 46, 3) := by decide +kernel
theorem d_Le_topBlockMeets_13 : decode b_Le_topBlockMeets 13 = .ok (.aload_n 0, 1) := by decide +kernel
theorem d_Le_topBlockMeets_14 : decode b_Le_topBlockMeets 14 = .ok (.getfield 12, 3) := by decide +kernel
theorem d_Le_topBlockMeets_17 : decode b_Le_topBlockMeets 17 = .ok (.iload_n 3, 1) := by decide +kernel
theorem d_Le_topBlockMeets_18 : decode b_Le_topBlockMeets 18 = .ok (.invokevirtual 99, 3) := by decide +kernel
theorem d_Le_topBlockMeets_21 : decode b_Le_topBlockMeets 21 = .ok (.ifCond .eq 29, 3) := by decide +kernel
theorem d_Le_topBlockMeets_24 : decode b_Le_topBlockMeets 24 = .ok (.aload_n 0, 1) := by decide +kernel
theorem d_Le_topBlockMeets_25 : decode b_Le_topBlockMeets 25 = .ok (.getfield 12, 3) := by decide +kernel
theorem d_Le_topBlockMeets_28 : decode b_Le_topBlockMeets 28 = .ok (.iload_n 3, 1) := by decide +kernel
theorem d_Le_topBlockMeets_29 : decode b_Le_topBlockMeets 29 = .ok (.invokevirtual 108, 3) := by decide +kernel
theorem d_Le_topBlockMeets_32 : decode b_Le_topBlockMeets 32 = .ok (.ifCond .eq 18, 3) := by decide +kernel
theorem d_Le_topBlockMeets_35 : decode b_Le_topBlockMeets 35 = .ok (.aload_n 0, 1) := by decide +kernel
theorem d_Le_topBlockMeets_36 : decode b_Le_topBlockMeets 36 = .ok (.getfield 12, 3) := by decide +kernel
theorem d_Le_topBlockMeets_39 : decode b_Le_topBlockMeets 39 = .ok (.iload_n 3, 1) := by decide +kernel
theorem d_Le_topBlockMeets_40 : decode b_Le_topBlockMeets 40 = .ok (.iload_n 1, 1) := by decide +kernel
theorem d_Le_topBlockMeets_41 : decode b_Le_topBlockMeets 41 = .ok (.iload_n 2, 1) := by decide +kernel
theorem d_Le_topBlockMeets_42 : decode b_Le_topBlockMeets 42 = .ok (.invokevirtual 65, 3) := by decide +kernel
theorem d_Le_topBlockMeets_45 : decode b_Le_topBlockMeets 45 = .ok (.ifCond .eq 5, 3) := by decide +kernel
theorem d_Le_topBlockMeets_48 : decode b_Le_topBlockMeets 48 = .ok (.iconst 1, 1) := by decide +kernel
theorem d_Le_topBlockMeets_49 : decode b_Le_topBlockMeets 49 = .ok (.ireturn, 1) := by decide +kernel
theorem d_Le_topBlockMeets_50 : decode b_Le_topBlockMeets 50 = .ok (.iinc 3 1, 3) := by decide +kernel
theorem d_Le_topBlockMeets_53 : decode b_Le_topBlockMeets 53 = .ok (.goto (-51), 3) := by decide +kernel
theorem d_Le_topBlockMeets_56 : decode b_Le_topBlockMeets 56 = .ok (.iconst 0, 1) := by decide +kernel
theorem d_Le_topBlockMeets_57 : decode b_Le_topBlockMeets 57 = .ok (.ireturn, 1) := by decide +kernel
theorem d_Le_isPolicyMet_0 : decode b_Le_isPolicyMet 0 = .ok (.aload_n 0, 1) := by decide +kernel
theorem d_Le_isPolicyMet_1 : decode b_Le_isPolicyMet 1 = .ok (.getfield 27, 3) := by decide +kernel
theorem d_Le_isPolicyMet_4 : decode b_Le_isPolicyMet 4 = .ok (.aload_n 0, 1) := by decide +kernel
theorem d_Le_isPolicyMet_5 : decode b_Le_isPolicyMet 5 = .ok (.getfield 12, 3) := by decide +kernel
theorem d_Le_isPolicyMet_8 : decode b_Le_isPolicyMet 8 = .ok (.getfield 75, 3) := by decide +kernel
theorem d_Le_isPolicyMet_11 : decode b_Le_isPolicyMet 11 = .ok (.iload_n 1, 1) := by decide +kernel
theorem d_Le_isPolicyMet_12 : decode b_Le_isPolicyMet 12 = .ok (.iaload, 1) := by decide +kernel
theorem d_Le_isPolicyMet_13 : decode b_Le_isPolicyMet 13 = .ok (.iaload, 1) := by decide +kernel
theorem d_Le_isPolicyMet_14 : decode b_Le_isPolicyMet 14 = .ok (.istore_n 2, 1) := by decide +kernel
theorem d_Le_isPolicyMet_15 : decode b_Le_isPolicyMet 15 = .ok (.aload_n 0, 1) := by decide +kernel
theorem d_Le_isPolicyMet_16 : decode b_Le_isPolicyMet 16 = .ok (.getfield 12, 3) := by decide +kernel
theorem d_Le_isPolicyMet_19 : decode b_Le_isPolicyMet 19 = .ok (.getfield 105, 3) := by decide +kernel
theorem d_Le_isPolicyMet_22 : decode b_Le_isPolicyMet 22 = .ok (.iload_n 1, 1) := by decide +kernel
theorem d_Le_isPolicyMet_23 : decode b_Le_isPolicyMet 23 = .ok (.iaload, 1) := by decide +kernel
theorem d_Le_isPolicyMet_24 : decode b_Le_isPolicyMet 24 = .ok (.istore_n 3, 1) := by decide +kernel
theorem d_Le_isPolicyMet_25 : decode b_Le_isPolicyMet 25 = .ok (.iconst 0, 1) := by decide +kernel
theorem d_Le_isPolicyMet_26 : decode b_Le_isPolicyMet 26 = .ok (.istore 4, 2) := by decide +kernel
theorem d_Le_isPolicyMet_28 : decode b_Le_isPolicyMet 28 = .ok (.iload 4, 2) := by decide +kernel
theorem d_Le_isPolicyMet_30 : decode b_Le_isPolicyMet 30 = .ok (.sipush 200, 3) := by decide +kernel
theorem d_Le_isPolicyMet_33 : decode b_Le_isPolicyMet 33 = .ok (.if_icmp .ge 99, 3) := by decide +kernel
theorem d_Le_isPolicyMet_36 : decode b_Le_isPolicyMet 36 = .ok (.iload_n 3, 1) := by decide +kernel
theorem d_Le_isPolicyMet_37 : decode b_Le_isPolicyMet 37 = .ok (.iconst (-1), 1) := by decide +kernel
theorem d_Le_isPolicyMet_38 : decode b_Le_isPolicyMet 38 = .ok (.if_icmp .eq 94, 3) := by decide +kernel
theorem d_Le_isPolicyMet_41 : decode b_Le_isPolicyMet 41 = .ok (.aload_n 0, 1) := by decide +kernel
theorem d_Le_isPolicyMet_42 : decode b_Le_isPolicyMet 42 = .ok (.getfield 12, 3) := by decide +kernel
theorem d_Le_isPolicyMet_45 : decode b_Le_isPolicyMet 45 = .ok (.getfield 102, 3) := by decide +kernel
theorem d_Le_isPolicyMet_48 : decode b_Le_isPolicyMet 48 = .ok (.iload_n 3, 1) := by decide +kernel
theorem d_Le_isPolicyMet_49 : decode b_Le_isPolicyMet 49 = .ok (.iaload, 1) := by decide +kernel
theorem d_Le_isPolicyMet_50 : decode b_Le_isPolicyMet 50 = .ok (.iconst 1, 1) := by decide +kernel
theorem d_Le_isPolicyMet_51 : decode b_Le_isPolicyMet 51 = .ok (.if_icmp .ne 28, 3) := by decide +kernel
theorem d_Le_isPolicyMet_54 : decode b_Le_isPolicyMet 54 = .ok (.aload_n 0, 1) := by decide +kernel
theorem d_Le_isPolicyMet_55 : decode b_Le_isPolicyMet 55 = .ok (.getfield 12, 3) := by decide +kernel
theorem d_Le_isPolicyMet_58 : decode b_Le_isPolicyMet 58 = .ok (.getfield 111, 3) := by decide +kernel
theorem d_Le_isPolicyMet_61 : decode b_Le_isPolicyMet 61 = .ok (.iload_n 3, 1) := by decide +kernel
theorem d_Le_isPolicyMet_62 : decode b_Le_isPolicyMet 62 = .ok (.iaload, 1) := by decide +kernel
theorem d_Le_isPolicyMet_63 : decode b_Le_isPolicyMet 63 = .ok (.aload_n 0, 1) := by decide +kernel
theorem d_Le_isPolicyMet_64 : decode b_Le_isPolicyMet 64 = .ok (.getfield 12, 3) := by decide +kernel
theorem d_Le_isPolicyMet_67 : decode b_Le_isPolicyMet 67 = .ok (.getfield 111, 3) := by decide +kernel
theorem d_Le_isPolicyMet_70 : decode b_Le_isPolicyMet 70 = .ok (.iload_n 1, 1) := by decide +kernel
theorem d_Le_isPolicyMet_71 : decode b_Le_isPolicyMet 71 = .ok (.iaload, 1) := by decide +kernel
theorem d_Le_isPolicyMet_72 : decode b_Le_isPolicyMet 72 = .ok (.if_icmp .ne 7, 3) := by decide +kernel
theorem d_Le_isPolicyMet_75 : decode b_Le_isPolicyMet 75 = .ok (.iconst 1, 1) := by decide +kernel
theorem d_Le_isPolicyMet_76 : decode b_Le_isPolicyMet 76 = .ok (.goto 4, 3) := by decide +kernel
theorem d_Le_isPolicyMet_79 : decode b_Le_isPolicyMet 79 = .ok (.iconst 0, 1) := by decide +kernel
theorem d_Le_isPolicyMet_80 : decode b_Le_isPolicyMet 80 = .ok (.istore 5, 2) := by decide +kernel
theorem d_Le_isPolicyMet_82 : decode b_Le_isPolicyMet 82 = .ok (.iload 5, 2) := by decide +kernel
theorem d_Le_isPolicyMet_84 : decode b_Le_isPolicyMet 84 = .ok (.ifCond .eq 32, 3) := by decide +kernel
theorem d_Le_isPolicyMet_87 : decode b_Le_isPolicyMet 87 = .ok (.aload_n 0, 1) := by decide +kernel
theorem d_Le_isPolicyMet_88 : decode b_Le_isPolicyMet 88 = .ok (.getfield 12, 3) := by decide +kernel
theorem d_Le_isPolicyMet_91 : decode b_Le_isPolicyMet 91 = .ok (.iload_n 3, 1) := by decide +kernel
theorem d_Le_isPolicyMet_92 : decode b_Le_isPolicyMet 92 = .ok (.invokevirtual 114, 3) := by decide +kernel
theorem d_Le_isPolicyMet_95 : decode b_Le_isPolicyMet 95 = .ok (.ldc2_w 118, 3) := by decide +kernel
theorem d_Le_isPolicyMet_98 : decode b_Le_isPolicyMet 98 = .ok (.lmul, 1) := by decide +kernel
theorem d_Le_isPolicyMet_99 : decode b_Le_isPolicyMet 99 = .ok (.aload_n 0, 1) := by decide +kernel
theorem d_Le_isPolicyMet_100 : decode b_Le_isPolicyMet 100 = .ok (.getfield 12, 3) := by decide +kernel
theorem d_Le_isPolicyMet_103 : decode b_Le_isPolicyMet 103 = .ok (.iload_n 3, 1) := by decide +kernel
theorem d_Le_isPolicyMet_104 : decode b_Le_isPolicyMet 104 = .ok (.invokevirtual 120, 3) := by decide +kernel
theorem d_Le_isPolicyMet_107 : decode b_Le_isPolicyMet 107 = .ok (.iload_n 2, 1) := by decide +kernel
theorem d_Le_isPolicyMet_108 : decode b_Le_isPolicyMet 108 = .ok (.i2l, 1) := by decide +kernel
theorem d_Le_isPolicyMet_109 : decode b_Le_isPolicyMet 109 = .ok (.lmul, 1) := by decide +kernel
theorem d_Le_isPolicyMet_110 : decode b_Le_isPolicyMet 110 = .ok (.lcmp, 1) := by decide +kernel
theorem d_Le_isPolicyMet_111 : decode b_Le_isPolicyMet 111 = .ok (.ifCond .ge 5, 3) := by decide +kernel
theorem d_Le_isPolicyMet_114 : decode b_Le_isPolicyMet 114 = .ok (.iconst 0, 1) := by decide +kernel
theorem d_Le_isPolicyMet_115 : decode b_Le_isPolicyMet 115 = .ok (.ireturn, 1) := by decide +kernel
theorem d_Le_isPolicyMet_116 : decode b_Le_isPolicyMet 116 = .ok (.aload_n 0, 1) := by decide +kernel
theorem d_Le_isPolicyMet_117 : decode b_Le_isPolicyMet 117 = .ok (.getfield 12, 3) := by decide +kernel
theorem d_Le_isPolicyMet_120 : decode b_Le_isPolicyMet 120 = .ok (.getfield 123, 3) := by decide +kernel
theorem d_Le_isPolicyMet_123 : decode b_Le_isPolicyMet 123 = .ok (.iload_n 3, 1) := by decide +kernel
theorem d_Le_isPolicyMet_124 : decode b_Le_isPolicyMet 124 = .ok (.iaload, 1) := by decide +kernel
theorem d_Le_isPolicyMet_125 : decode b_Le_isPolicyMet 125 = .ok (.istore_n 3, 1) := by decide +kernel
theorem d_Le_isPolicyMet_126 : decode b_Le_isPolicyMet 126 = .ok (.iinc 4 1, 3) := by decide +kernel
theorem d_Le_isPolicyMet_129 : decode b_Le_isPolicyMet 129 = .ok (.goto (-101), 3) := by decide +kernel
theorem d_Le_isPolicyMet_132 : decode b_Le_isPolicyMet 132 = .ok (.iconst 1, 1) := by decide +kernel
theorem d_Le_isPolicyMet_133 : decode b_Le_isPolicyMet 133 = .ok (.ireturn, 1) := by decide +kernel
theorem d_Le_placeFor_0 : decode b_Le_placeFor 0 = .ok (.ldc2_w 60, 3) := by decide +kernel
theorem d_Le_placeFor_3 : decode b_Le_placeFor 3 = .ok (.lstore 4, 2) := by decide +kernel
theorem d_Le_placeFor_5 : decode b_Le_placeFor 5 = .ok (.iconst (-1), 1) := by decide +kernel
theorem d_Le_placeFor_6 : decode b_Le_placeFor 6 = .ok (.istore 6, 2) := by decide +kernel
theorem d_Le_placeFor_8 : decode b_Le_placeFor 8 = .ok (.aload_n 0, 1) := by decide +kernel
theorem d_Le_placeFor_9 : decode b_Le_placeFor 9 = .ok (.getfield 23, 3) := by decide +kernel
theorem d_Le_placeFor_12 : decode b_Le_placeFor 12 = .ok (.iload_n 1, 1) := by decide +kernel
theorem d_Le_placeFor_13 : decode b_Le_placeFor 13 = .ok (.invokevirtual 126, 3) := by decide +kernel
theorem d_Le_placeFor_16 : decode b_Le_placeFor 16 = .ok (.iconst 0, 1) := by decide +kernel
theorem d_Le_placeFor_17 : decode b_Le_placeFor 17 = .ok (.istore 7, 2) := by decide +kernel
theorem d_Le_placeFor_19 : decode b_Le_placeFor 19 = .ok (.iload 7, 2) := by decide +kernel
theorem d_Le_placeFor_21 : decode b_Le_placeFor 21 = .ok (.ldc 130, 2) := by decide +kernel
theorem d_Le_placeFor_23 : decode b_Le_placeFor 23 = .ok (.if_icmp .ge 100, 3) := by decide +kernel
theorem d_Le_placeFor_26 : decode b_Le_placeFor 26 = .ok (.aload_n 0, 1) := by decide +kernel
theorem d_Le_placeFor_27 : decode b_Le_placeFor 27 = .ok (.getfield 23, 3) := by decide +kernel
theorem d_Le_placeFor_30 : decode b_Le_placeFor 30 = .ok (.invokevirtual 131, 3) := by decide +kernel
theorem d_Le_placeFor_33 : decode b_Le_placeFor 33 = .ok (.ifCond .eq 90, 3) := by decide +kernel
theorem d_Le_placeFor_36 : decode b_Le_placeFor 36 = .ok (.lload 4, 2) := by decide +kernel
theorem d_Le_placeFor_38 : decode b_Le_placeFor 38 = .ok (.ldc2_w 60, 3) := by decide +kernel
theorem d_Le_placeFor_41 : decode b_Le_placeFor 41 = .ok (.lcmp, 1) := by decide +kernel
theorem d_Le_placeFor_42 : decode b_Le_placeFor 42 = .ok (.ifCond .eq 34, 3) := by decide +kernel
theorem d_Le_placeFor_45 : decode b_Le_placeFor 45 = .ok (.iload_n 3, 1) := by decide +kernel
theorem d_Le_placeFor_46 : decode b_Le_placeFor 46 = .ok (.ifCond .eq 18, 3) := by decide +kernel
theorem d_Le_placeFor_49 : decode b_Le_placeFor 49 = .ok (.aload_n 0, 1) := by decide +kernel
theorem d_Le_placeFor_50 : decode b_Le_placeFor 50 = .ok (.getfield 23, 3) := by decide +kernel
theorem d_Le_placeFor_53 : decode b_Le_placeFor 53 = .ok (.getfield 134, 3) := by decide +kernel
theorem d_Le_placeFor_56 : decode b_Le_placeFor 56 = .ok (.iload 6, 2) := by decide +kernel
theorem d_Le_placeFor_58 : decode b_Le_placeFor 58 = .ok (.if_icmp .ge 22, 3) := by decide +kernel
theorem d_Le_placeFor_61 : decode b_Le_placeFor 61 = .ok (.goto 15, 3) := by decide +kernel
theorem d_Le_placeFor_64 : decode b_Le_placeFor 64 = .ok (.aload_n 0, 1) := by decide +kernel
theorem d_Le_placeFor_65 : decode b_Le_placeFor 65 = .ok (.getfield 23, 3) := by decide +kernel
theorem d_Le_placeFor_68 : decode b_Le_placeFor 68 = .ok (.getfield 134, 3) := by decide +kernel
theorem d_Le_placeFor_71 : decode b_Le_placeFor 71 = .ok (.iload 6, 2) := by decide +kernel
theorem d_Le_placeFor_73 : decode b_Le_placeFor 73 = .ok (.if_icmp .le 7, 3) := by decide +kernel
theorem d_Le_placeFor_76 : decode b_Le_placeFor 76 = .ok (.iconst 1, 1) := by decide +kernel
theorem d_Le_placeFor_77 : decode b_Le_placeFor 77 = .ok (.goto 4, 3) := by decide +kernel
theorem d_Le_placeFor_80 : decode b_Le_placeFor 80 = .ok (.iconst 0, 1) := by decide +kernel
theorem d_Le_placeFor_81 : decode b_Le_placeFor 81 = .ok (.istore 8, 2) := by decide +kernel
theorem d_Le_placeFor_83 : decode b_Le_placeFor 83 = .ok (.aload_n 0, 1) := by decide +kernel
theorem d_Le_placeFor_84 : decode b_Le_placeFor 84 = .ok (.getfield 23, 3) := by decide +kernel
theorem d_Le_placeFor_87 : decode b_Le_placeFor 87 = .ok (.getfield 134, 3) := by decide +kernel
theorem d_Le_placeFor_90 : decode b_Le_placeFor 90 = .ok (.iload_n 2, 1) := by decide +kernel
theorem d_Le_placeFor_91 : decode b_Le_placeFor 91 = .ok (.if_icmp .gt 26, 3) := by decide +kernel
theorem d_Le_placeFor_94 : decode b_Le_placeFor 94 = .ok (.iload 8, 2) := by decide +kernel
theorem d_Le_placeFor_96 : decode b_Le_placeFor 96 = .ok (.ifCond .eq 21, 3) := by decide +kernel
theorem d_Le_placeFor_99 : decode b_Le_placeFor 99 = .ok (.aload_n 0, 1) := by decide +kernel
theorem d_Le_placeFor_100 : decode b_Le_placeFor 100 = .ok (.getfield 23, 3) := by decide +kernel
theorem d_Le_placeFor_103 : decode b_Le_placeFor 103 = .ok (.getfield 136, 3) := by decide +kernel
theorem d_Le_placeFor_106 : decode b_Le_placeFor 106 = .ok (.lstore 4, 2) := by decide +kernel
theorem d_Le_placeFor_108 : decode b_Le_placeFor 108 = .ok (.aload_n 0, 1) := by decide +kernel
theorem d_Le_placeFor_109 : decode b_Le_placeFor 109 = .ok (.getfield 23, 3) := by decide +kernel
theorem d_Le_placeFor_112 : decode b_Le_placeFor 112 = .ok (.getfield 134, 3) := by decide +kernel
theorem d_Le_placeFor_115 : decode b_Le_placeFor 115 = .ok (.istore 6, 2) := by decide +kernel
theorem d_Le_placeFor_117 : decode b_Le_placeFor 117 = .ok (.iinc 7 1, 3) := by decide +kernel
theorem d_Le_placeFor_120 : decode b_Le_placeFor 120 = .ok (.goto (-101), 3) := by decide +kernel
theorem d_Le_placeFor_123 : decode b_Le_placeFor 123 = .ok (.lload 4, 2) := by decide +kernel
theorem d_Le_placeFor_125 : decode b_Le_placeFor 125 = .ok (.lreturn, 1) := by decide +kernel
theorem d_Le_carryOut_0 : decode b_Le_carryOut 0 = .ok (.iload_n 1, 1) := by decide +kernel
theorem d_Le_carryOut_1 : decode b_Le_carryOut 1 = .ok (.tableswitch 163 1 10 #[55, 67, 96, 109, 115, 121, 127, 143, 150, 157], 55) := by decide +kernel
theorem d_Le_carryOut_56 : decode b_Le_carryOut 56 = .ok (.aload_n 0, 1) := by decide +kernel
theorem d_Le_carryOut_57 : decode b_Le_carryOut 57 = .ok (.getfield 12, 3) := by decide +kernel
theorem d_Le_carryOut_60 : decode b_Le_carryOut 60 = .ok (.iload_n 2, 1) := by decide +kernel
theorem d_Le_carryOut_61 : decode b_Le_carryOut 61 = .ok (.iload_n 3, 1) := by decide +kernel
theorem d_Le_carryOut_62 : decode b_Le_carryOut 62 = .ok (.iload 4, 2) := by decide +kernel
theorem d_Le_carryOut_64 : decode b_Le_carryOut 64 = .ok (.invokevirtual 140, 3) := by decide +kernel
theorem d_Le_carryOut_67 : decode b_Le_carryOut 67 = .ok (.ireturn, 1) := by decide +kernel
theorem d_Le_carryOut_68 : decode b_Le_carryOut 68 = .ok (.aload_n 0, 1) := by decide +kernel
theorem d_Le_carryOut_69 : decode b_Le_carryOut 69 = .ok (.getfield 12, 3) := by decide +kernel
theorem d_Le_carryOut_72 : decode b_Le_carryOut 72 = .ok (.iload_n 2, 1) := by decide +kernel
theorem d_Le_carryOut_73 : decode b_Le_carryOut 73 = .ok (.aload_n 0, 1) := by decide +kernel
theorem d_Le_carryOut_74 : decode b_Le_carryOut 74 = .ok (.iload_n 2, 1) := by decide +kernel
theorem d_Le_carryOut_75 : decode b_Le_carryOut 75 = .ok (.iload_n 3, 1) := by decide +kernel
theorem d_Le_carryOut_76 : decode b_Le_carryOut 76 = .ok (.iload 4, 2) := by decide +kernel
theorem d_Le_carryOut_78 : decode b_Le_carryOut 78 = .ok (.iconst 1, 1) := by decide +kernel
theorem d_Le_carryOut_79 : decode b_Le_carryOut 79 = .ok (.if_icmp .ne 7, 3) := by decide +kernel
theorem d_Le_carryOut_82 : decode b_Le_carryOut 82 = .ok (.iconst 1, 1) := by decide +kernel
theorem d_Le_carryOut_83 : decode b_Le_carryOut 83 = .ok (.goto 4, 3) := by decide +kernel
theorem d_Le_carryOut_86 : decode b_Le_carryOut 86 = .ok (.iconst 0, 1) := by decide +kernel
theorem d_Le_carryOut_87 : decode b_Le_carryOut 87 = .ok (.invokevirtual 56, 3) := by decide +kernel
theorem d_Le_carryOut_90 : decode b_Le_carryOut 90 = .ok (.l2i, 1) := by decide +kernel
theorem d_Le_carryOut_91 : decode b_Le_carryOut 91 = .ok (.iload_n 3, 1) := by decide +kernel
theorem d_Le_carryOut_92 : decode b_Le_carryOut 92 = .ok (.iconst 1, 1) := by decide +kernel
theorem d_Le_carryOut_93 : decode b_Le_carryOut 93 = .ok (.invokevirtual 144, 3) := by decide +kernel
theorem d_Le_carryOut_96 : decode b_Le_carryOut 96 = .ok (.ireturn, 1) := by decide +kernel
theorem d_Le_carryOut_97 : decode b_Le_carryOut 97 = .ok (.aload_n 0, 1) := by decide +kernel
theorem d_Le_carryOut_98 : decode b_Le_carryOut 98 = .ok (.getfield 12, 3) := by decide +kernel
theorem d_Le_carryOut_101 : decode b_Le_carryOut 101 = .ok (.iload_n 2, 1) := by decide +kernel
theorem d_Le_carryOut_102 : decode b_Le_carryOut 102 = .ok (.iload_n 3, 1) := by decide +kernel
theorem d_Le_carryOut_103 : decode b_Le_carryOut 103 = .ok (.iload 4, 2) := by decide +kernel
theorem d_Le_carryOut_105 : decode b_Le_carryOut 105 = .ok (.iconst 2, 1) := by decide +kernel
theorem d_Le_carryOut_106 : decode b_Le_carryOut 106 = .ok (.invokevirtual 144, 3) := by decide +kernel
theorem d_Le_carryOut_109 : decode b_Le_carryOut 109 = .ok (.ireturn, 1) := by decide +kernel
theorem d_Le_carryOut_110 : decode b_Le_carryOut 110 = .ok (.aload_n 0, 1) := by decide +kernel
theorem d_Le_carryOut_111 : decode b_Le_carryOut 111 = .ok (.iload_n 2, 1) := by decide +kernel
theorem d_Le_carryOut_112 : decode b_Le_carryOut 112 = .ok (.invokevirtual 148, 3) := by decide +kernel
theorem d_Le_carryOut_115 : decode b_Le_carryOut 115 = .ok (.ireturn, 1) := by decide +kernel
theorem d_Le_carryOut_116 : decode b_Le_carryOut 116 = .ok (.aload_n 0, 1) := by decide +kernel
theorem d_Le_carryOut_117 : decode b_Le_carryOut 117 = .ok (.iload_n 2, 1) := by decide +kernel
theorem d_Le_carryOut_118 : decode b_Le_carryOut 118 = .ok (.invokevirtual 151, 3) := by decide +kernel
theorem d_Le_carryOut_121 : decode b_Le_carryOut 121 = .ok (.ireturn, 1) := by decide +kernel
theorem d_Le_carryOut_122 : decode b_Le_carryOut 122 = .ok (.aload_n 0, 1) := by decide +kernel
theorem d_Le_carryOut_123 : decode b_Le_carryOut 123 = .ok (.iload_n 2, 1) := by decide +kernel
theorem d_Le_carryOut_124 : decode b_Le_carryOut 124 = .ok (.invokevirtual 154, 3) := by decide +kernel
theorem d_Le_carryOut_127 : decode b_Le_carryOut 127 = .ok (.ireturn, 1) := by decide +kernel
theorem d_Le_carryOut_128 : decode b_Le_carryOut 128 = .ok (.aload_n 0, 1) := by decide +kernel
theorem d_Le_carryOut_129 : decode b_Le_carryOut 129 = .ok (.iload_n 2, 1) := by decide +kernel
theorem d_Le_carryOut_130 : decode b_Le_carryOut 130 = .ok (.iload_n 3, 1) := by decide +kernel
theorem d_Le_carryOut_131 : decode b_Le_carryOut 131 = .ok (.iconst 1, 1) := by decide +kernel
theorem d_Le_carryOut_132 : decode b_Le_carryOut 132 = .ok (.if_icmp .ne 7, 3) := by decide +kernel
theorem d_Le_carryOut_135 : decode b_Le_carryOut 135 = .ok (.iconst 1, 1) := by decide +kernel
theorem d_Le_carryOut_136 : decode b_Le_carryOut 136 = .ok (.goto 4, 3) := by decide +kernel
theorem d_Le_carryOut_139 : decode b_Le_carryOut 139 = .ok (.iconst 0, 1) := by decide +kernel
theorem d_Le_carryOut_140 : decode b_Le_carryOut 140 = .ok (.invokevirtual 157, 3) := by decide +kernel
theorem d_Le_carryOut_143 : decode b_Le_carryOut 143 = .ok (.ireturn, 1) := by decide +kernel
theorem d_Le_carryOut_144 : decode b_Le_carryOut 144 = .ok (.aload_n 0, 1) := by decide +kernel
theorem d_Le_carryOut_145 : decode b_Le_carryOut 145 = .ok (.iload_n 2, 1) := by decide +kernel
theorem d_Le_carryOut_146 : decode b_Le_carryOut 146 = .ok (.iload_n 3, 1) := by decide +kernel
theorem d_Le_carryOut_147 : decode b_Le_carryOut 147 = .ok (.invokevirtual 160, 3) := by decide +kernel
theorem d_Le_carryOut_150 : decode b_Le_carryOut 150 = .ok (.ireturn, 1) := by decide +kernel
theorem d_Le_carryOut_151 : decode b_Le_carryOut 151 = .ok (.aload_n 0, 1) := by decide +kernel
theorem d_Le_carryOut_152 : decode b_Le_carryOut 152 = .ok (.iload_n 2, 1) := by decide +kernel
theorem d_Le_carryOut_153 : decode b_Le_carryOut 153 = .ok (.iload_n 3, 1) := by decide +kernel
theorem d_Le_carryOut_154 : decode b_Le_carryOut 154 = .ok (.invokevirtual 163, 3) := by decide +kernel
theorem d_Le_carryOut_157 : decode b_Le_carryOut 157 = .ok (.ireturn, 1) := by decide +kernel
theorem d_Le_carryOut_158 : decode b_Le_carryOut 158 = .ok (.aload_n 0, 1) := by decide +kernel
theorem d_Le_carryOut_159 : decode b_Le_carryOut 159 = .ok (.iload_n 2, 1) := by decide +kernel
theorem d_Le_carryOut_160 : decode b_Le_carryOut 160 = .ok (.invokevirtual 166, 3) := by decide +kernel
theorem d_Le_carryOut_163 : decode b_Le_carryOut 163 = .ok (.ireturn, 1) := by decide +kernel
theorem d_Le_carryOut_164 : decode b_Le_carryOut 164 = .ok (.aload_n 0, 1) := by decide +kernel
theorem d_Le_carryOut_165 : decode b_Le_carryOut 165 = .ok (.iload_n 2, 1) := by decide +kernel
theorem d_Le_carryOut_166 : decode b_Le_carryOut 166 = .ok (.invokevirtual 169, 3) := by decide +kernel
theorem d_Le_carryOut_169 : decode b_Le_carryOut 169 = .ok (.ireturn, 1) := by decide +kernel
theorem d_Le_handOut_0 : decode b_Le_handOut 0 = .ok (.aload_n 0, 1) := by decide +kernel
theorem d_Le_handOut_1 : decode b_Le_handOut 1 = .ok (.getfield 12, 3) := by decide +kernel
theorem d_Le_handOut_4 : decode b_Le_handOut 4 = .ok (.getfield 102, 3) := by decide +kernel
theorem d_Le_handOut_7 : decode b_Le_handOut 7 = .ok (.iload_n 1, 1) := by decide +kernel
theorem d_Le_handOut_8 : decode b_Le_handOut 8 = .ok (.iconst 1, 1) := by decide +kernel
theorem d_Le_handOut_9 : decode b_Le_handOut 9 = .ok (.iastore, 1) := by decide +kernel
theorem d_Le_handOut_10 : decode b_Le_handOut 10 = .ok (.iconst 0, 1) := by decide +kernel
theorem d_Le_handOut_11 : decode b_Le_handOut 11 = .ok (.ireturn, 1) := by decide +kernel
theorem d_Le_takeBack_0 : decode b_Le_takeBack 0 = .ok (.aload_n 0, 1) := by decide +kernel
theorem d_Le_takeBack_1 : decode b_Le_takeBack 1 = .ok (.getfield 12, 3) := by decide +kernel
theorem d_Le_takeBack_4 : decode b_Le_takeBack 4 = .ok (.getfield 172, 3) := by decide +kernel
theorem d_Le_takeBack_7 : decode b_Le_takeBack 7 = .ok (.iload_n 1, 1) := by decide +kernel
theorem d_Le_takeBack_8 : decode b_Le_takeBack 8 = .ok (.aload_n 0, 1) := by decide +kernel
theorem d_Le_takeBack_9 : decode b_Le_takeBack 9 = .ok (.getfield 31, 3) := by decide +kernel
theorem d_Le_takeBack_12 : decode b_Le_takeBack 12 = .ok (.aload_n 0, 1) := by decide +kernel
theorem d_Le_takeBack_13 : decode b_Le_takeBack 13 = .ok (.getfield 35, 3) := by decide +kernel
theorem d_Le_takeBack_16 : decode b_Le_takeBack 16 = .ok (.iadd, 1) := by decide +kernel
theorem d_Le_takeBack_17 : decode b_Le_takeBack 17 = .ok (.iastore, 1) := by decide +kernel
theorem d_Le_takeBack_18 : decode b_Le_takeBack 18 = .ok (.aload_n 0, 1) := by decide +kernel
theorem d_Le_takeBack_19 : decode b_Le_takeBack 19 = .ok (.getfield 35, 3) := by decide +kernel
theorem d_Le_takeBack_22 : decode b_Le_takeBack 22 = .ok (.ifCond .le 16, 3) := by decide +kernel
theorem d_Le_takeBack_25 : decode b_Le_takeBack 25 = .ok (.aload_n 0, 1) := by decide +kernel
theorem d_Le_takeBack_26 : decode b_Le_takeBack 26 = .ok (.getfield 12, 3) := by decide +kernel
theorem d_Le_takeBack_29 : decode b_Le_takeBack 29 = .ok (.getfield 102, 3) := by decide +kernel
theorem d_Le_takeBack_32 : decode b_Le_takeBack 32 = .ok (.iload_n 1, 1) := by decide +kernel
theorem d_Le_takeBack_33 : decode b_Le_takeBack 33 = .ok (.iconst 3, 1) := by decide +kernel
theorem d_Le_takeBack_34 : decode b_Le_takeBack 34 = .ok (.iastore, 1) := by decide +kernel
theorem d_Le_takeBack_35 : decode b_Le_takeBack 35 = .ok (.goto 11, 3) := by decide +kernel
theorem d_Le_takeBack_38 : decode b_Le_takeBack 38 = .ok (.aload_n 0, 1) := by decide +kernel
theorem d_Le_takeBack_39 : decode b_Le_takeBack 39 = .ok (.getfield 12, 3) := by decide +kernel
theorem d_Le_takeBack_42 : decode b_Le_takeBack 42 = .ok (.iload_n 1, 1) := by decide +kernel
theorem d_Le_takeBack_43 : decode b_Le_takeBack 43 = .ok (.invokevirtual 175, 3) := by decide +kernel
theorem d_Le_takeBack_46 : decode b_Le_takeBack 46 = .ok (.aload_n 0, 1) := by decide +kernel
theorem d_Le_takeBack_47 : decode b_Le_takeBack 47 = .ok (.getfield 12, 3) := by decide +kernel
theorem d_Le_takeBack_50 : decode b_Le_takeBack 50 = .ok (.getfield 172, 3) := by decide +kernel
theorem d_Le_takeBack_53 : decode b_Le_takeBack 53 = .ok (.iload_n 1, 1) := by decide +kernel
theorem d_Le_takeBack_54 : decode b_Le_takeBack 54 = .ok (.iaload, 1) := by decide +kernel
theorem d_Le_takeBack_55 : decode b_Le_takeBack 55 = .ok (.ireturn, 1) := by decide +kernel
theorem d_Le_doubled_0 : decode b_Le_doubled 0 = .ok (.aload_n 0, 1) := by decide +kernel
theorem d_Le_doubled_1 : decode b_Le_doubled 1 = .ok (.getfield 12, 3) := by decide +kernel
theorem d_Le_doubled_4 : decode b_Le_doubled 4 = .ok (.getfield 88, 3) := by decide +kernel
theorem d_Le_doubled_7 : decode b_Le_doubled 7 = .ok (.iload_n 1, 1) := by decide +kernel
theorem d_Le_doubled_8 : decode b_Le_doubled 8 = .ok (.iaload, 1) := by decide +kernel
theorem d_Le_doubled_9 : decode b_Le_doubled 9 = .ok (.istore_n 2, 1) := by decide +kernel
theorem d_Le_doubled_10 : decode b_Le_doubled 10 = .ok (.aload_n 0, 1) := by decide +kernel
theorem d_Le_doubled_11 : decode b_Le_doubled 11 = .ok (.getfield 12, 3) := by decide +kernel
theorem d_Le_doubled_14 : decode b_Le_doubled 14 = .ok (.getfield 88, 3) := by decide +kernel
theorem d_Le_doubled_17 : decode b_Le_doubled 17 = .ok (.iload_n 1, 1) := by decide +kernel
theorem d_Le_doubled_18 : decode b_Le_doubled 18 = .ok (.iload_n 2, 1) := by decide +kernel
theorem d_Le_doubled_19 : decode b_Le_doubled 19 = .ok (.iload_n 2, 1) := by decide +kernel
theorem d_Le_doubled_20 : decode b_Le_doubled 20 = .ok (.aload_n 0, 1) := by decide +kernel
theorem d_Le_doubled_21 : decode b_Le_doubled 21 = .ok (.getfield 12, 3) := by decide +kernel
theorem d_Le_doubled_24 : decode b_Le_doubled 24 = .ok (.getfield 72, 3) := by decide +kernel
theorem d_Le_doubled_27 : decode b_Le_doubled 27 = .ok (.iload_n 1, 1) := by decide +kernel
theorem d_Le_doubled_28 : decode b_Le_doubled 28 = .ok (.iaload, 1) := by decide +kernel
theorem d_Le_doubled_29 : decode b_Le_doubled 29 = .ok (.invokestatic 91, 3) := by decide +kernel
theorem d_Le_doubled_32 : decode b_Le_doubled 32 = .ok (.iand, 1) := by decide +kernel
theorem d_Le_doubled_33 : decode b_Le_doubled 33 = .ok (.iastore, 1) := by decide +kernel
theorem d_Le_doubled_34 : decode b_Le_doubled 34 = .ok (.aload_n 0, 1) := by decide +kernel
theorem d_Le_doubled_35 : decode b_Le_doubled 35 = .ok (.getfield 12, 3) := by decide +kernel
theorem d_Le_doubled_38 : decode b_Le_doubled 38 = .ok (.getfield 72, 3) := by decide +kernel
theorem d_Le_doubled_41 : decode b_Le_doubled 41 = .ok (.iload_n 1, 1) := by decide +kernel
theorem d_Le_doubled_42 : decode b_Le_doubled 42 = .ok (.dup2, 1) := by decide +kernel
theorem d_Le_doubled_43 : decode b_Le_doubled 43 = .ok (.iaload, 1) := by decide +kernel
theorem d_Le_doubled_44 : decode b_Le_doubled 44 = .ok (.iconst 1, 1) := by decide +kernel
theorem d_Le_doubled_45 : decode b_Le_doubled 45 = .ok (.isub, 1) := by decide +kernel
theorem d_Le_doubled_46 : decode b_Le_doubled 46 = .ok (.iastore, 1) := by decide +kernel
theorem d_Le_doubled_47 : decode b_Le_doubled 47 = .ok (.aload_n 0, 1) := by decide +kernel
theorem d_Le_doubled_48 : decode b_Le_doubled 48 = .ok (.getfield 12, 3) := by decide +kernel
theorem d_Le_doubled_51 : decode b_Le_doubled 51 = .ok (.getfield 72, 3) := by decide +kernel
theorem d_Le_doubled_54 : decode b_Le_doubled 54 = .ok (.iload_n 1, 1) := by decide +kernel
theorem d_Le_doubled_55 : decode b_Le_doubled 55 = .ok (.iaload, 1) := by decide +kernel
theorem d_Le_doubled_56 : decode b_Le_doubled 56 = .ok (.ireturn, 1) := by decide +kernel
theorem d_Le_halved_0 : decode b_Le_halved 0 = .ok (.aload_n 0, 1) := by decide +kernel
theorem d_Le_halved_1 : decode b_Le_halved 1 = .ok (.getfield 12, 3) := by decide +kernel
theorem d_Le_halved_4 : decode b_Le_halved 4 = .ok (.getfield 88, 3) := by decide +kernel
theorem d_Le_halved_7 : decode b_Le_halved 7 = .ok (.iload_n 1, 1) := by decide +kernel
theorem d_Le_halved_8 : decode b_Le_halved 8 = .ok (.aload_n 0, 1) := by decide +kernel
theorem d_Le_halved_9 : decode b_Le_halved 9 = .ok (.iload_n 1, 1) := by decide +kernel
theorem d_Le_halved_10 : decode b_Le_halved 10 = .ok (.iload_n 2, 1) := by decide +kernel
theorem d_Le_halved_11 : decode b_Le_halved 11 = .ok (.invokevirtual 95, 3) := by decide +kernel
theorem d_Le_halved_14 : decode b_Le_halved 14 = .ok (.iastore, 1) := by decide +kernel
theorem d_Le_halved_15 : decode b_Le_halved 15 = .ok (.aload_n 0, 1) := by decide +kernel
theorem d_Le_halved_16 : decode b_Le_halved 16 = .ok (.getfield 12, 3) := by decide +kernel
theorem d_Le_halved_19 : decode b_Le_halved 19 = .ok (.getfield 72, 3) := by decide +kernel
theorem d_Le_halved_22 : decode b_Le_halved 22 = .ok (.iload_n 1, 1) := by decide +kernel
theorem d_Le_halved_23 : decode b_Le_halved 23 = .ok (.dup2, 1) := by decide +kernel
theorem d_Le_halved_24 : decode b_Le_halved 24 = .ok (.iaload, 1) := by decide +kernel
theorem d_Le_halved_25 : decode b_Le_halved 25 = .ok (.iconst 1, 1) := by decide +kernel
theorem d_Le_halved_26 : decode b_Le_halved 26 = .ok (.iadd, 1) := by decide +kernel
theorem d_Le_halved_27 : decode b_Le_halved 27 = .ok (.iastore, 1) := by decide +kernel
theorem d_Le_halved_28 : decode b_Le_halved 28 = .ok (.aload_n 0, 1) := by decide +kernel
theorem d_Le_halved_29 : decode b_Le_halved 29 = .ok (.getfield 12, 3) := by decide +kernel
theorem d_Le_halved_32 : decode b_Le_halved 32 = .ok (.getfield 72, 3) := by decide +kernel
theorem d_Le_halved_35 : decode b_Le_halved 35 = .ok (.iload_n 1, 1) := by decide +kernel
theorem d_Le_halved_36 : decode b_Le_halved 36 = .ok (.iaload, 1) := by decide +kernel
theorem d_Le_halved_37 : decode b_Le_halved 37 = .ok (.ireturn, 1) := by decide +kernel
theorem d_Le_handOver_0 : decode b_Le_handOver 0 = .ok (.iconst 0, 1) := by decide +kernel
theorem d_Le_handOver_1 : decode b_Le_handOver 1 = .ok (.istore_n 3, 1) := by decide +kernel
theorem d_Le_handOver_2 : decode b_Le_handOver 2 = .ok (.iconst 0, 1) := by decide +kernel
theorem d_Le_handOver_3 : decode b_Le_handOver 3 = .ok (.istore 4, 2) := by decide +kernel
theorem d_Le_handOver_5 : decode b_Le_handOver 5 = .ok (.iload 4, 2) := by decide +kernel
theorem d_Le_handOver_7 : decode b_Le_handOver 7 = .ok (.aload_n 0, 1) := by decide +kernel
theorem d_Le_handOver_8 : decode b_Le_handOver 8 = .ok (.getfield 12, 3) := by decide +kernel
theorem d_Le_handOver_11 : decode b_Le_handOver 11 = .ok (.getfield 38, 3) := by decide +kernel
theorem d_Le_handOver_14 : decode b_Le_handOver 14 = .ok (.if_icmp .ge 48, 3) := by decide +kernel
theorem d_Le_handOver_17 : decode b_Le_handOver 17 = .ok (.aload_n 0, 1) := by decide +kernel
theorem d_Le_handOver_18 : decode b_Le_handOver 18 = .ok (.getfield 12, 3) := by decide +kernel
theorem d_Le_handOver_21 : decode b_Le_handOver 21 = .ok (.iload 4, 2) := by decide +kernel
theorem d_Le_handOver_23 : decode b_Le_handOver 23 = .ok (.invokevirtual 108, 3) := by decide +kernel
theorem d_Le_handOver_26 : decode b_Le_handOver 26 = .ok (.ifCond .eq 30, 3) := by decide +kernel
theorem d_Le_handOver_29 : decode b_Le_handOver 29 = .ok (.aload_n 0, 1) := by decide +kernel
theorem d_Le_handOver_30 : decode b_Le_handOver 30 = .ok (.getfield 12, 3) := by decide +kernel
theorem d_Le_handOver_33 : decode b_Le_handOver 33 = .ok (.iload 4, 2) := by decide +kernel
theorem d_Le_handOver_35 : decode b_Le_handOver 35 = .ok (.iload_n 1, 1) := by decide +kernel
theorem d_Le_handOver_36 : decode b_Le_handOver 36 = .ok (.invokevirtual 178, 3) := by decide +kernel
theorem d_Le_handOver_39 : decode b_Le_handOver 39 = .ok (.ifCond .eq 17, 3) := by decide +kernel
theorem d_Le_handOver_42 : decode b_Le_handOver 42 = .ok (.aload_n 0, 1) := by decide +kernel
theorem d_Le_handOver_43 : decode b_Le_handOver 43 = .ok (.getfield 12, 3) := by decide +kernel
theorem d_Le_handOver_46 : decode b_Le_handOver 46 = .ok (.getfield 111, 3) := by decide +kernel
theorem d_Le_handOver_49 : decode b_Le_handOver 49 = .ok (.iload 4, 2) := by decide +kernel
theorem d_Le_handOver_51 : decode b_Le_handOver 51 = .ok (.iload_n 2, 1) := by decide +kernel
theorem d_Le_handOver_52 : decode b_Le_handOver 52 = .ok (.iastore, 1) := by decide +kernel
theorem d_Le_handOver_53 : decode b_Le_handOver 53 = .ok (.iinc 3 1, 3) := by decide +kernel
theorem d_Le_handOver_56 : decode b_Le_handOver 56 = .ok (.iinc 4 1, 3) := by decide +kernel
theorem d_Le_handOver_59 : decode b_Le_handOver 59 = .ok (.goto (-54), 3) := by decide +kernel
theorem d_Le_handOver_62 : decode b_Le_handOver 62 = .ok (.iload_n 3, 1) := by decide +kernel
theorem d_Le_handOver_63 : decode b_Le_handOver 63 = .ok (.ireturn, 1) := by decide +kernel
theorem d_Le_setPolicy_0 : decode b_Le_setPolicy 0 = .ok (.aload_n 0, 1) := by decide +kernel
theorem d_Le_setPolicy_1 : decode b_Le_setPolicy 1 = .ok (.getfield 27, 3) := by decide +kernel
theorem d_Le_setPolicy_4 : decode b_Le_setPolicy 4 = .ok (.iload_n 1, 1) := by decide +kernel
theorem d_Le_setPolicy_5 : decode b_Le_setPolicy 5 = .ok (.iload_n 2, 1) := by decide +kernel
theorem d_Le_setPolicy_6 : decode b_Le_setPolicy 6 = .ok (.iastore, 1) := by decide +kernel
theorem d_Le_setPolicy_7 : decode b_Le_setPolicy 7 = .ok (.iconst 0, 1) := by decide +kernel
theorem d_Le_setPolicy_8 : decode b_Le_setPolicy 8 = .ok (.ireturn, 1) := by decide +kernel
theorem d_Le_beginDay_0 : decode b_Le_beginDay 0 = .ok (.aload_n 0, 1) := by decide +kernel
theorem d_Le_beginDay_1 : decode b_Le_beginDay 1 = .ok (.iload_n 1, 1) := by decide +kernel
theorem d_Le_beginDay_2 : decode b_Le_beginDay 2 = .ok (.putfield 31, 3) := by decide +kernel
theorem d_Le_beginDay_5 : decode b_Le_beginDay 5 = .ok (.iconst 0, 1) := by decide +kernel
theorem d_Le_beginDay_6 : decode b_Le_beginDay 6 = .ok (.istore_n 2, 1) := by decide +kernel
theorem d_Le_beginDay_7 : decode b_Le_beginDay 7 = .ok (.iconst 0, 1) := by decide +kernel
theorem d_Le_beginDay_8 : decode b_Le_beginDay 8 = .ok (.istore_n 3, 1) := by decide +kernel
theorem d_Le_beginDay_9 : decode b_Le_beginDay 9 = .ok (.iload_n 3, 1) := by decide +kernel
theorem d_Le_beginDay_10 : decode b_Le_beginDay 10 = .ok (.aload_n 0, 1) := by decide +kernel
theorem d_Le_beginDay_11 : decode b_Le_beginDay 11 = .ok (.getfield 12, 3) := by decide +kernel
theorem d_Le_beginDay_14 : decode b_Le_beginDay 14 = .ok (.getfield 38, 3) := by decide +kernel
theorem d_Le_beginDay_17 : decode b_Le_beginDay 17 = .ok (.if_icmp .ge 46, 3) := by decide +kernel
theorem d_Le_beginDay_20 : decode b_Le_beginDay 20 = .ok (.aload_n 0, 1) := by decide +kernel
theorem d_Le_beginDay_21 : decode b_Le_beginDay 21 = .ok (.getfield 12, 3) := by decide +kernel
theorem d_Le_beginDay_24 : decode b_Le_beginDay 24 = .ok (.getfield 102, 3) := by decide +kernel
theorem d_Le_beginDay_27 : decode b_Le_beginDay 27 = .ok (.iload_n 3, 1) := by decide +kernel
theorem d_Le_beginDay_28 : decode b_Le_beginDay 28 = .ok (.iaload, 1) := by decide +kernel
theorem d_Le_beginDay_29 : decode b_Le_beginDay 29 = .ok (.iconst 3, 1) := by decide +kernel
theorem d_Le_beginDay_30 : decode b_Le_beginDay 30 = .ok (.if_icmp .ne 27, 3) := by decide +kernel
theorem d_Le_beginDay_33 : decode b_Le_beginDay 33 = .ok (.aload_n 0, 1) := by decide +kernel
theorem d_Le_beginDay_34 : decode b_Le_beginDay 34 = .ok (.getfield 12, 3) := by decide +kernel
theorem d_Le_beginDay_37 : decode b_Le_beginDay 37 = .ok (.getfield 172, 3) := by decide +kernel
theorem d_Le_beginDay_40 : decode b_Le_beginDay 40 = .ok (.iload_n 3, 1) := by decide +kernel
theorem d_Le_beginDay_41 : decode b_Le_beginDay 41 = .ok (.iaload, 1) := by decide +kernel
theorem d_Le_beginDay_42 : decode b_Le_beginDay 42 = .ok (.iload_n 1, 1) := by decide +kernel
theorem d_Le_beginDay_43 : decode b_Le_beginDay 43 = .ok (.if_icmp .gt 14, 3) := by decide +kernel
theorem d_Le_beginDay_46 : decode b_Le_beginDay 46 = .ok (.aload_n 0, 1) := by decide +kernel
theorem d_Le_beginDay_47 : decode b_Le_beginDay 47 = .ok (.getfield 12, 3) := by decide +kernel
theorem d_Le_beginDay_50 : decode b_Le_beginDay 50 = .ok (.iload_n 3, 1) := by decide +kernel
theorem d_Le_beginDay_51 : decode b_Le_beginDay 51 = .ok (.invokevirtual 175, 3) := by decide +kernel
theorem d_Le_beginDay_54 : decode b_Le_beginDay 54 = .ok (.iinc 2 1, 3) := by decide +kernel
theorem d_Le_beginDay_57 : decode b_Le_beginDay 57 = .ok (.iinc 3 1, 3) := by decide +kernel
theorem d_Le_beginDay_60 : decode b_Le_beginDay 60 = .ok (.goto (-51), 3) := by decide +kernel
theorem d_Le_beginDay_63 : decode b_Le_beginDay 63 = .ok (.iload_n 2, 1) := by decide +kernel
theorem d_Le_beginDay_64 : decode b_Le_beginDay 64 = .ok (.ireturn, 1) := by decide +kernel
theorem d_Le_setQuarantine_0 : decode b_Le_setQuarantine 0 = .ok (.aload_n 0, 1) := by decide +kernel
theorem d_Le_setQuarantine_1 : decode b_Le_setQuarantine 1 = .ok (.iload_n 1, 1) := by decide +kernel
theorem d_Le_setQuarantine_2 : decode b_Le_setQuarantine 2 = .ok (.putfield 35, 3) := by decide +kernel
theorem d_Le_setQuarantine_5 : decode b_Le_setQuarantine 5 = .ok (.iconst 0, 1) := by decide +kernel
theorem d_Le_setQuarantine_6 : decode b_Le_setQuarantine 6 = .ok (.ireturn, 1) := by decide +kernel
theorem d_Le_countBlocks_0 : decode b_Le_countBlocks 0 = .ok (.iconst 0, 1) := by decide +kernel
theorem d_Le_countBlocks_1 : decode b_Le_countBlocks 1 = .ok (.istore_n 2, 1) := by decide +kernel
theorem d_Le_countBlocks_2 : decode b_Le_countBlocks 2 = .ok (.aload_n 0, 1) := by decide +kernel
theorem d_Le_countBlocks_3 : decode b_Le_countBlocks 3 = .ok (.getfield 23, 3) := by decide +kernel
theorem d_Le_countBlocks_6 : decode b_Le_countBlocks 6 = .ok (.iload_n 1, 1) := by decide +kernel
theorem d_Le_countBlocks_7 : decode b_Le_countBlocks 7 = .ok (.invokevirtual 126, 3) := by decide +kernel
theorem d_Le_countBlocks_10 : decode b_Le_countBlocks 10 = .ok (.iconst 0, 1) := by decide +kernel
theorem d_Le_countBlocks_11 : decode b_Le_countBlocks 11 = .ok (.istore_n 3, 1) := by decide +kernel
theorem d_Le_countBlocks_12 : decode b_Le_countBlocks 12 = .ok (.iload_n 3, 1) := by decide +kernel
theorem d_Le_countBlocks_13 : decode b_Le_countBlocks 13 = .ok (.ldc 130, 2) := by decide +kernel
theorem d_Le_countBlocks_15 : decode b_Le_countBlocks 15 = .ok (.if_icmp .ge 22, 3) := by decide +kernel
theorem d_Le_countBlocks_18 : decode b_Le_countBlocks 18 = .ok (.aload_n 0, 1) := by decide +kernel
theorem d_Le_countBlocks_19 : decode b_Le_countBlocks 19 = .ok (.getfield 23, 3) := by decide +kernel
theorem d_Le_countBlocks_22 : decode b_Le_countBlocks 22 = .ok (.invokevirtual 131, 3) := by decide +kernel
theorem d_Le_countBlocks_25 : decode b_Le_countBlocks 25 = .ok (.ifCond .eq 12, 3) := by decide +kernel
theorem d_Le_countBlocks_28 : decode b_Le_countBlocks 28 = .ok (.iinc 2 1, 3) := by decide +kernel
theorem d_Le_countBlocks_31 : decode b_Le_countBlocks 31 = .ok (.iinc 3 1, 3) := by decide +kernel
theorem d_Le_countBlocks_34 : decode b_Le_countBlocks 34 = .ok (.goto (-22), 3) := by decide +kernel
theorem d_Le_countBlocks_37 : decode b_Le_countBlocks 37 = .ok (.iload_n 2, 1) := by decide +kernel
theorem d_Le_countBlocks_38 : decode b_Le_countBlocks 38 = .ok (.ireturn, 1) := by decide +kernel
theorem d_Le_countFree_0 : decode b_Le_countFree 0 = .ok (.lconst 0, 1) := by decide +kernel
theorem d_Le_countFree_1 : decode b_Le_countFree 1 = .ok (.lstore_n 3, 1) := by decide +kernel
theorem d_Le_countFree_2 : decode b_Le_countFree 2 = .ok (.aload_n 0, 1) := by decide +kernel
theorem d_Le_countFree_3 : decode b_Le_countFree 3 = .ok (.getfield 23, 3) := by decide +kernel
theorem d_Le_countFree_6 : decode b_Le_countFree 6 = .ok (.iload_n 1, 1) := by decide +kernel
theorem d_Le_countFree_7 : decode b_Le_countFree 7 = .ok (.invokevirtual 126, 3) := by decide +kernel
theorem d_Le_countFree_10 : decode b_Le_countFree 10 = .ok (.iconst 0, 1) := by decide +kernel
theorem d_Le_countFree_11 : decode b_Le_countFree 11 = .ok (.istore 5, 2) := by decide +kernel
theorem d_Le_countFree_13 : decode b_Le_countFree 13 = .ok (.iload 5, 2) := by decide +kernel
theorem d_Le_countFree_15 : decode b_Le_countFree 15 = .ok (.ldc 130, 2) := by decide +kernel
theorem d_Le_countFree_17 : decode b_Le_countFree 17 = .ok (.if_icmp .ge 44, 3) := by decide +kernel
theorem d_Le_countFree_20 : decode b_Le_countFree 20 = .ok (.aload_n 0, 1) := by decide +kernel
theorem d_Le_countFree_21 : decode b_Le_countFree 21 = .ok (.getfield 23, 3) := by decide +kernel
theorem d_Le_countFree_24 : decode b_Le_countFree 24 = .ok (.invokevirtual 131, 3) := by decide +kernel
theorem d_Le_countFree_27 : decode b_Le_countFree 27 = .ok (.ifCond .eq 34, 3) := by decide +kernel
theorem d_Le_countFree_30 : decode b_Le_countFree 30 = .ok (.aload_n 0, 1) := by decide +kernel
theorem d_Le_countFree_31 : decode b_Le_countFree 31 = .ok (.getfield 23, 3) := by decide +kernel
theorem d_Le_countFree_34 : decode b_Le_countFree 34 = .ok (.getfield 134, 3) := by decide +kernel
theorem d_Le_countFree_37 : decode b_Le_countFree 37 = .ok (.iload_n 2, 1) := by decide +kernel
theorem d_Le_countFree_38 : decode b_Le_countFree 38 = .ok (.if_icmp .gt 17, 3) := by decide +kernel
theorem d_Le_countFree_41 : decode b_Le_countFree 41 = .ok (.lload_n 3, 1) := by decide +kernel
theorem d_Le_countFree_42 : decode b_Le_countFree 42 = .ok (.lconst 1, 1) := by decide +kernel
theorem d_Le_countFree_43 : decode b_Le_countFree 43 = .ok (.iload_n 2, 1) := by decide +kernel
theorem d_Le_countFree_44 : decode b_Le_countFree 44 = .ok (.aload_n 0, 1) := by decide +kernel
theorem d_Le_countFree_45 : decode b_Le_countFree 45 = .ok (.getfield 23, 3) := by decide +kernel
theorem d_Le_countFree_48 : decode b_Le_countFree 48 = .ok (.getfield 134, 3) := by decide +kernel
theorem d_Le_countFree_51 : decode b_Le_countFree 51 = .ok (.isub, 1) := by decide +kernel
theorem d_Le_countFree_52 : decode b_Le_countFree 52 = .ok (.lshl, 1) := by decide +kernel
theorem d_Le_countFree_53 : decode b_Le_countFree 53 = .ok (.ladd, 1) := by decide +kernel
theorem d_Le_countFree_54 : decode b_Le_countFree 54 = .ok (.lstore_n 3, 1) := by decide +kernel
theorem d_Le_countFree_55 : decode b_Le_countFree 55 = .ok (.iinc 5 1, 3) := by decide +kernel
theorem d_Le_countFree_58 : decode b_Le_countFree 58 = .ok (.goto (-45), 3) := by decide +kernel
theorem d_Le_countFree_61 : decode b_Le_countFree 61 = .ok (.lload_n 3, 1) := by decide +kernel
theorem d_Le_countFree_62 : decode b_Le_countFree 62 = .ok (.lreturn, 1) := by decide +kernel
theorem d_Le_isLike_0 : decode b_Le_isLike 0 = .ok (.iconst 0, 1) := by decide +kernel
theorem d_Le_isLike_1 : decode b_Le_isLike 1 = .ok (.istore_n 2, 1) := by decide +kernel
theorem d_Le_isLike_2 : decode b_Le_isLike 2 = .ok (.iload_n 2, 1) := by decide +kernel
theorem d_Le_isLike_3 : decode b_Le_isLike 3 = .ok (.iconst 4, 1) := by decide +kernel
theorem d_Le_isLike_4 : decode b_Le_isLike 4 = .ok (.if_icmp .ge 26, 3) := by decide +kernel
theorem d_Le_isLike_7 : decode b_Le_isLike 7 = .ok (.aload_n 0, 1) := by decide +kernel
theorem d_Le_isLike_8 : decode b_Le_isLike 8 = .ok (.getfield 27, 3) := by decide +kernel
theorem d_Le_isLike_11 : decode b_Le_isLike 11 = .ok (.iload_n 2, 1) := by decide +kernel
theorem d_Le_isLike_12 : decode b_Le_isLike 12 = .ok (.iaload, 1) := by decide +kernel
theorem d_Le_isLike_13 : decode b_Le_isLike 13 = .ok (.aload_n 1, 1) := by decide +kernel
theorem d_Le_isLike_14 : decode b_Le_isLike 14 = .ok (.getfield 27, 3) := by decide +kernel
theorem d_Le_isLike_17 : decode b_Le_isLike 17 = .ok (.iload_n 2, 1) := by decide +kernel
theorem d_Le_isLike_18 : decode b_Le_isLike 18 = .ok (.iaload, 1) := by decide +kernel
theorem d_Le_isLike_19 : decode b_Le_isLike 19 = .ok (.if_icmp .eq 5, 3) := by decide +kernel
theorem d_Le_isLike_22 : decode b_Le_isLike 22 = .ok (.iconst 0, 1) := by decide +kernel
theorem d_Le_isLike_23 : decode b_Le_isLike 23 = .ok (.ireturn, 1) := by decide +kernel
theorem d_Le_isLike_24 : decode b_Le_isLike 24 = .ok (.iinc 2 1, 3) := by decide +kernel
theorem d_Le_isLike_27 : decode b_Le_isLike 27 = .ok (.goto (-25), 3) := by decide +kernel
theorem d_Le_isLike_30 : decode b_Le_isLike 30 = .ok (.aload_n 0, 1) := by decide +kernel
theorem d_Le_isLike_31 : decode b_Le_isLike 31 = .ok (.getfield 31, 3) := by decide +kernel
theorem d_Le_isLike_34 : decode b_Le_isLike 34 = .ok (.aload_n 1, 1) := by decide +kernel
theorem d_Le_isLike_35 : decode b_Le_isLike 35 = .ok (.getfield 31, 3) := by decide +kernel
theorem d_Le_isLike_38 : decode b_Le_isLike 38 = .ok (.if_icmp .ne 32, 3) := by decide +kernel
theorem d_Le_isLike_41 : decode b_Le_isLike 41 = .ok (.aload_n 0, 1) := by decide +kernel
theorem d_Le_isLike_42 : decode b_Le_isLike 42 = .ok (.getfield 35, 3) := by decide +kernel
theorem d_Le_isLike_45 : decode b_Le_isLike 45 = .ok (.aload_n 1, 1) := by decide +kernel
theorem d_Le_isLike_46 : decode b_Le_isLike 46 = .ok (.getfield 35, 3) := by decide +kernel
theorem d_Le_isLike_49 : decode b_Le_isLike 49 = .ok (.if_icmp .ne 21, 3) := by decide +kernel
theorem d_Le_isLike_52 : decode b_Le_isLike 52 = .ok (.aload_n 0, 1) := by decide +kernel
theorem d_Le_isLike_53 : decode b_Le_isLike 53 = .ok (.getfield 12, 3) := by decide +kernel
theorem d_Le_isLike_56 : decode b_Le_isLike 56 = .ok (.aload_n 1, 1) := by decide +kernel
theorem d_Le_isLike_57 : decode b_Le_isLike 57 = .ok (.getfield 12, 3) := by decide +kernel
theorem d_Le_isLike_60 : decode b_Le_isLike 60 = .ok (.invokevirtual 181, 3) := by decide +kernel
theorem d_Le_isLike_63 : decode b_Le_isLike 63 = .ok (.ifCond .eq 7, 3) := by decide +kernel
theorem d_Le_isLike_66 : decode b_Le_isLike 66 = .ok (.iconst 1, 1) := by decide +kernel
theorem d_Le_isLike_67 : decode b_Le_isLike 67 = .ok (.goto 4, 3) := by decide +kernel
theorem d_Le_isLike_70 : decode b_Le_isLike 70 = .ok (.iconst 0, 1) := by decide +kernel
theorem d_Le_isLike_71 : decode b_Le_isLike 71 = .ok (.ireturn, 1) := by decide +kernel
