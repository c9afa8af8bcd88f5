theorem d_Mo_init_0 : decode b_Mo_init 0 = .ok (.aload_n 0, 1) := by decide +kernel
theorem d_Mo_init_1 : decode b_Mo_init 1 = .ok (.invokespecial 1, 3) := by decide +kernel
theorem d_Mo_init_4 : decode b_Mo_init 4 = .ok (.aload_n 0, 1) := by decide +kernel
theorem d_Mo_init_5 : decode b_Mo_init 5 = .ok (.iconst 2, 1) := by decide +kernel
theorem d_Mo_init_6 : decode b_Mo_init 6 = .ok (.newarray .int, 2) := by decide +kernel
theorem d_Mo_init_8 : decode b_Mo_init 8 = .ok (.putfield 7, 3) := by decide +kernel
theorem d_Mo_init_11 : decode b_Mo_init 11 = .ok (.aload_n 0, 1) := by decide +kernel
theorem d_Mo_init_12 : decode b_Mo_init 12 = .ok (.sipush 400, 3) := by decide +kernel
theorem d_Mo_init_15 : decode b_Mo_init 15 = .ok (.newarray .int, 2) := by decide +kernel
theorem d_Mo_init_17 : decode b_Mo_init 17 = .ok (.putfield 13, 3) := by decide +kernel
theorem d_Mo_init_20 : decode b_Mo_init 20 = .ok (.aload_n 0, 1) := by decide +kernel
theorem d_Mo_init_21 : decode b_Mo_init 21 = .ok (.sipush 400, 3) := by decide +kernel
theorem d_Mo_init_24 : decode b_Mo_init 24 = .ok (.newarray .int, 2) := by decide +kernel
theorem d_Mo_init_26 : decode b_Mo_init 26 = .ok (.putfield 16, 3) := by decide +kernel
theorem d_Mo_init_29 : decode b_Mo_init 29 = .ok (.aload_n 0, 1) := by decide +kernel
theorem d_Mo_init_30 : decode b_Mo_init 30 = .ok (.sipush 400, 3) := by decide +kernel
theorem d_Mo_init_33 : decode b_Mo_init 33 = .ok (.newarray .int, 2) := by decide +kernel
theorem d_Mo_init_35 : decode b_Mo_init 35 = .ok (.putfield 19, 3) := by decide +kernel
theorem d_Mo_init_38 : decode b_Mo_init 38 = .ok (.aload_n 0, 1) := by decide +kernel
theorem d_Mo_init_39 : decode b_Mo_init 39 = .ok (.sipush 400, 3) := by decide +kernel
theorem d_Mo_init_42 : decode b_Mo_init 42 = .ok (.newarray .int, 2) := by decide +kernel
theorem d_Mo_init_44 : decode b_Mo_init 44 = .ok (.putfield 22, 3) := by decide +kernel
theorem d_Mo_init_47 : decode b_Mo_init 47 = .ok (.aload_n 0, 1) := by decide +kernel
theorem d_Mo_init_48 : decode b_Mo_init 48 = .ok (.sipush 400, 3) := by decide +kernel
theorem d_Mo_init_51 : decode b_Mo_init 51 = .ok (.newarray .int, 2) := by decide +kernel
theorem d_Mo_init_53 : decode b_Mo_init 53 = .ok (.putfield 25, 3) := by decide +kernel
theorem d_Mo_init_56 : decode b_Mo_init 56 = .ok (.aload_n 0, 1) := by decide +kernel
theorem d_Mo_init_57 : decode b_Mo_init 57 = .ok (.sipush 400, 3) := by decide +kernel
theorem d_Mo_init_60 : decode b_Mo_init 60 = .ok (.newarray .int, 2) := by decide +kernel
theorem d_Mo_init_62 : decode b_Mo_init 62 = .ok (.putfield 28, 3) := by decide +kernel
theorem d_Mo_init_65 : decode b_Mo_init 65 = .ok (.aload_n 0, 1) := by decide +kernel
theorem d_Mo_init_66 : decode b_Mo_init 66 = .ok (.sipush 400, 3) := by decide +kernel
theorem d_Mo_init_69 : decode b_Mo_init 69 = .ok (.newarray .int, 2) := by decide +kernel
theorem d_Mo_init_71 : decode b_Mo_init 71 = .ok (.putfield 31, 3) := by decide +kernel
theorem d_Mo_init_74 : decode b_Mo_init 74 = .ok (.aload_n 0, 1) := by decide +kernel
theorem d_Mo_init_75 : decode b_Mo_init 75 = .ok (.iconst 2, 1) := by decide +kernel
theorem d_Mo_init_76 : decode b_Mo_init 76 = .ok (.newarray .int, 2) := by decide +kernel
theorem d_Mo_init_78 : decode b_Mo_init 78 = .ok (.putfield 34, 3) := by decide +kernel
theorem d_Mo_init_81 : decode b_Mo_init 81 = .ok (.aload_n 0, 1) := by decide +kernel
theorem d_Mo_init_82 : decode b_Mo_init 82 = .ok (.iconst 2, 1) := by decide +kernel
theorem d_Mo_init_83 : decode b_Mo_init 83 = .ok (.newarray .int, 2) := by decide +kernel
theorem d_Mo_init_85 : decode b_Mo_init 85 = .ok (.putfield 37, 3) := by decide +kernel
theorem d_Mo_init_88 : decode b_Mo_init 88 = .ok (.aload_n 0, 1) := by decide +kernel
theorem d_Mo_init_89 : decode b_Mo_init 89 = .ok (.bipush 8, 2) := by decide +kernel
theorem d_Mo_init_91 : decode b_Mo_init 91 = .ok (.newarray .int, 2) := by decide +kernel
theorem d_Mo_init_93 : decode b_Mo_init 93 = .ok (.putfield 40, 3) := by decide +kernel
theorem d_Mo_init_96 : decode b_Mo_init 96 = .ok (.aload_n 0, 1) := by decide +kernel
theorem d_Mo_init_97 : decode b_Mo_init 97 = .ok (.sipush 300, 3) := by decide +kernel
theorem d_Mo_init_100 : decode b_Mo_init 100 = .ok (.newarray .int, 2) := by decide +kernel
theorem d_Mo_init_102 : decode b_Mo_init 102 = .ok (.putfield 43, 3) := by decide +kernel
theorem d_Mo_init_105 : decode b_Mo_init 105 = .ok (.aload_n 0, 1) := by decide +kernel
theorem d_Mo_init_106 : decode b_Mo_init 106 = .ok (.sipush 300, 3) := by decide +kernel
theorem d_Mo_init_109 : decode b_Mo_init 109 = .ok (.newarray .int, 2) := by decide +kernel
theorem d_Mo_init_111 : decode b_Mo_init 111 = .ok (.putfield 46, 3) := by decide +kernel
theorem d_Mo_init_114 : decode b_Mo_init 114 = .ok (.aload_n 0, 1) := by decide +kernel
theorem d_Mo_init_115 : decode b_Mo_init 115 = .ok (.sipush 300, 3) := by decide +kernel
theorem d_Mo_init_118 : decode b_Mo_init 118 = .ok (.newarray .int, 2) := by decide +kernel
theorem d_Mo_init_120 : decode b_Mo_init 120 = .ok (.putfield 49, 3) := by decide +kernel
theorem d_Mo_init_123 : decode b_Mo_init 123 = .ok (.aload_n 0, 1) := by decide +kernel
theorem d_Mo_init_124 : decode b_Mo_init 124 = .ok (.sipush 300, 3) := by decide +kernel
theorem d_Mo_init_127 : decode b_Mo_init 127 = .ok (.newarray .int, 2) := by decide +kernel
theorem d_Mo_init_129 : decode b_Mo_init 129 = .ok (.putfield 52, 3) := by decide +kernel
theorem d_Mo_init_132 : decode b_Mo_init 132 = .ok (.return_, 1) := by decide +kernel
theorem d_Mo_thrown_0 : decode b_Mo_thrown 0 = .ok (.aload_n 0, 1) := by decide +kernel
theorem d_Mo_thrown_1 : decode b_Mo_thrown 1 = .ok (.getfield 55, 3) := by decide +kernel
theorem d_Mo_thrown_4 : decode b_Mo_thrown 4 = .ok (.ireturn, 1) := by decide +kernel
theorem d_Mo_in_0 : decode b_Mo_in 0 = .ok (.iload_n 0, 1) := by decide +kernel
theorem d_Mo_in_1 : decode b_Mo_in 1 = .ok (.iload_n 1, 1) := by decide +kernel
theorem d_Mo_in_2 : decode b_Mo_in 2 = .ok (.if_icmp .lt 12, 3) := by decide +kernel
theorem d_Mo_in_5 : decode b_Mo_in 5 = .ok (.iload_n 0, 1) := by decide +kernel
theorem d_Mo_in_6 : decode b_Mo_in 6 = .ok (.iload_n 2, 1) := by decide +kernel
theorem d_Mo_in_7 : decode b_Mo_in 7 = .ok (.if_icmp .gt 7, 3) := by decide +kernel
theorem d_Mo_in_10 : decode b_Mo_in 10 = .ok (.iconst 1, 1) := by decide +kernel
theorem d_Mo_in_11 : decode b_Mo_in 11 = .ok (.goto 4, 3) := by decide +kernel
theorem d_Mo_in_14 : decode b_Mo_in 14 = .ok (.iconst 0, 1) := by decide +kernel
theorem d_Mo_in_15 : decode b_Mo_in 15 = .ok (.ireturn, 1) := by decide +kernel
theorem d_Mo_mask_0 : decode b_Mo_mask 0 = .ok (.iload_n 0, 1) := by decide +kernel
theorem d_Mo_mask_1 : decode b_Mo_mask 1 = .ok (.ifCond .ne 7, 3) := by decide +kernel
theorem d_Mo_mask_4 : decode b_Mo_mask 4 = .ok (.iconst 0, 1) := by decide +kernel
theorem d_Mo_mask_5 : decode b_Mo_mask 5 = .ok (.goto 9, 3) := by decide +kernel
theorem d_Mo_mask_8 : decode b_Mo_mask 8 = .ok (.iconst (-1), 1) := by decide +kernel
theorem d_Mo_mask_9 : decode b_Mo_mask 9 = .ok (.bipush 32, 2) := by decide +kernel
theorem d_Mo_mask_11 : decode b_Mo_mask 11 = .ok (.iload_n 0, 1) := by decide +kernel
theorem d_Mo_mask_12 : decode b_Mo_mask 12 = .ok (.isub, 1) := by decide +kernel
theorem d_Mo_mask_13 : decode b_Mo_mask 13 = .ok (.ishl, 1) := by decide +kernel
theorem d_Mo_mask_14 : decode b_Mo_mask 14 = .ok (.ireturn, 1) := by decide +kernel
theorem d_Mo_sizeOf_0 : decode b_Mo_sizeOf 0 = .ok (.lconst 1, 1) := by decide +kernel
theorem d_Mo_sizeOf_1 : decode b_Mo_sizeOf 1 = .ok (.bipush 32, 2) := by decide +kernel
theorem d_Mo_sizeOf_3 : decode b_Mo_sizeOf 3 = .ok (.iload_n 0, 1) := by decide +kernel
theorem d_Mo_sizeOf_4 : decode b_Mo_sizeOf 4 = .ok (.isub, 1) := by decide +kernel
theorem d_Mo_sizeOf_5 : decode b_Mo_sizeOf 5 = .ok (.lshl, 1) := by decide +kernel
theorem d_Mo_sizeOf_6 : decode b_Mo_sizeOf 6 = .ok (.lreturn, 1) := by decide +kernel
theorem d_Mo_meets_0 : decode b_Mo_meets 0 = .ok (.iload_n 0, 1) := by decide +kernel
theorem d_Mo_meets_1 : decode b_Mo_meets 1 = .ok (.iload_n 2, 1) := by decide +kernel
theorem d_Mo_meets_2 : decode b_Mo_meets 2 = .ok (.ixor, 1) := by decide +kernel
theorem d_Mo_meets_3 : decode b_Mo_meets 3 = .ok (.iload_n 1, 1) := by decide +kernel
theorem d_Mo_meets_4 : decode b_Mo_meets 4 = .ok (.iload_n 3, 1) := by decide +kernel
theorem d_Mo_meets_5 : decode b_Mo_meets 5 = .ok (.if_icmp .ge 7, 3) := by decide +kernel
theorem d_Mo_meets_8 : decode b_Mo_meets 8 = .ok (.iload_n 1, 1) := by decide +kernel
theorem d_Mo_meets_9 : decode b_Mo_meets 9 = .ok (.goto 4, 3) := by decide +kernel
theorem d_Mo_meets_12 : decode b_Mo_meets 12 = .ok (.iload_n 3, 1) := by decide +kernel
theorem d_Mo_meets_13 : decode b_Mo_meets 13 = .ok (.invokestatic 59, 3) := by decide +kernel
theorem d_Mo_meets_16 : decode b_Mo_meets 16 = .ok (.iand, 1) := by decide +kernel
theorem d_Mo_meets_17 : decode b_Mo_meets 17 = .ok (.ifCond .ne 7, 3) := by decide +kernel
theorem d_Mo_meets_20 : decode b_Mo_meets 20 = .ok (.iconst 1, 1) := by decide +kernel
theorem d_Mo_meets_21 : decode b_Mo_meets 21 = .ok (.goto 4, 3) := by decide +kernel
theorem d_Mo_meets_24 : decode b_Mo_meets 24 = .ok (.iconst 0, 1) := by decide +kernel
theorem d_Mo_meets_25 : decode b_Mo_meets 25 = .ok (.ireturn, 1) := by decide +kernel
theorem d_Mo_isLive_0 : decode b_Mo_isLive 0 = .ok (.aload_n 0, 1) := by decide +kernel
theorem d_Mo_isLive_1 : decode b_Mo_isLive 1 = .ok (.getfield 28, 3) := by decide +kernel
theorem d_Mo_isLive_4 : decode b_Mo_isLive 4 = .ok (.iload_n 1, 1) := by decide +kernel
theorem d_Mo_isLive_5 : decode b_Mo_isLive 5 = .ok (.iaload, 1) := by decide +kernel
theorem d_Mo_isLive_6 : decode b_Mo_isLive 6 = .ok (.iconst 4, 1) := by decide +kernel
theorem d_Mo_isLive_7 : decode b_Mo_isLive 7 = .ok (.if_icmp .eq 7, 3) := by decide +kernel
theorem d_Mo_isLive_10 : decode b_Mo_isLive 10 = .ok (.iconst 1, 1) := by decide +kernel
theorem d_Mo_isLive_11 : decode b_Mo_isLive 11 = .ok (.goto 4, 3) := by decide +kernel
theorem d_Mo_isLive_14 : decode b_Mo_isLive 14 = .ok (.iconst 0, 1) := by decide +kernel
theorem d_Mo_isLive_15 : decode b_Mo_isLive 15 = .ok (.ireturn, 1) := by decide +kernel
theorem d_Mo_isChild_0 : decode b_Mo_isChild 0 = .ok (.aload_n 0, 1) := by decide +kernel
theorem d_Mo_isChild_1 : decode b_Mo_isChild 1 = .ok (.getfield 19, 3) := by decide +kernel
theorem d_Mo_isChild_4 : decode b_Mo_isChild 4 = .ok (.iload_n 1, 1) := by decide +kernel
theorem d_Mo_isChild_5 : decode b_Mo_isChild 5 = .ok (.iaload, 1) := by decide +kernel
theorem d_Mo_isChild_6 : decode b_Mo_isChild 6 = .ok (.iload_n 2, 1) := by decide +kernel
theorem d_Mo_isChild_7 : decode b_Mo_isChild 7 = .ok (.if_icmp .ne 15, 3) := by decide +kernel
theorem d_Mo_isChild_10 : decode b_Mo_isChild 10 = .ok (.aload_n 0, 1) := by decide +kernel
theorem d_Mo_isChild_11 : decode b_Mo_isChild 11 = .ok (.iload_n 1, 1) := by decide +kernel
theorem d_Mo_isChild_12 : decode b_Mo_isChild 12 = .ok (.invokevirtual 63, 3) := by decide +kernel
theorem d_Mo_isChild_15 : decode b_Mo_isChild 15 = .ok (.ifCond .eq 7, 3) := by decide +kernel
theorem d_Mo_isChild_18 : decode b_Mo_isChild 18 = .ok (.iconst 1, 1) := by decide +kernel
theorem d_Mo_isChild_19 : decode b_Mo_isChild 19 = .ok (.goto 4, 3) := by decide +kernel
theorem d_Mo_isChild_22 : decode b_Mo_isChild 22 = .ok (.iconst 0, 1) := by decide +kernel
theorem d_Mo_isChild_23 : decode b_Mo_isChild 23 = .ok (.ireturn, 1) := by decide +kernel
theorem d_Mo_endOf_0 : decode b_Mo_endOf 0 = .ok (.iload_n 1, 1) := by decide +kernel
theorem d_Mo_endOf_1 : decode b_Mo_endOf 1 = .ok (.sipush 200, 3) := by decide +kernel
theorem d_Mo_endOf_4 : decode b_Mo_endOf 4 = .ok (.if_icmp .ge 12, 3) := by decide +kernel
theorem d_Mo_endOf_7 : decode b_Mo_endOf 7 = .ok (.aload_n 0, 1) := by decide +kernel
theorem d_Mo_endOf_8 : decode b_Mo_endOf 8 = .ok (.getfield 7, 3) := by decide +kernel
theorem d_Mo_endOf_11 : decode b_Mo_endOf 11 = .ok (.iconst 0, 1) := by decide +kernel
theorem d_Mo_endOf_12 : decode b_Mo_endOf 12 = .ok (.iaload, 1) := by decide +kernel
theorem d_Mo_endOf_13 : decode b_Mo_endOf 13 = .ok (.goto 13, 3) := by decide +kernel
theorem d_Mo_endOf_16 : decode b_Mo_endOf 16 = .ok (.sipush 200, 3) := by decide +kernel
theorem d_Mo_endOf_19 : decode b_Mo_endOf 19 = .ok (.aload_n 0, 1) := by decide +kernel
theorem d_Mo_endOf_20 : decode b_Mo_endOf 20 = .ok (.getfield 7, 3) := by decide +kernel
theorem d_Mo_endOf_23 : decode b_Mo_endOf 23 = .ok (.iconst 1, 1) := by decide +kernel
theorem d_Mo_endOf_24 : decode b_Mo_endOf 24 = .ok (.iaload, 1) := by decide +kernel
theorem d_Mo_endOf_25 : decode b_Mo_endOf 25 = .ok (.iadd, 1) := by decide +kernel
theorem d_Mo_endOf_26 : decode b_Mo_endOf 26 = .ok (.ireturn, 1) := by decide +kernel
theorem d_Mo_startOf_0 : decode b_Mo_startOf 0 = .ok (.iload_n 1, 1) := by decide +kernel
theorem d_Mo_startOf_1 : decode b_Mo_startOf 1 = .ok (.sipush 200, 3) := by decide +kernel
theorem d_Mo_startOf_4 : decode b_Mo_startOf 4 = .ok (.if_icmp .ge 7, 3) := by decide +kernel
theorem d_Mo_startOf_7 : decode b_Mo_startOf 7 = .ok (.iconst 0, 1) := by decide +kernel
theorem d_Mo_startOf_8 : decode b_Mo_startOf 8 = .ok (.goto 6, 3) := by decide +kernel
theorem d_Mo_startOf_11 : decode b_Mo_startOf 11 = .ok (.sipush 200, 3) := by decide +kernel
theorem d_Mo_startOf_14 : decode b_Mo_startOf 14 = .ok (.ireturn, 1) := by decide +kernel
theorem d_Mo_taker_0 : decode b_Mo_taker 0 = .ok (.iconst (-1), 1) := by decide +kernel
theorem d_Mo_taker_1 : decode b_Mo_taker 1 = .ok (.istore 4, 2) := by decide +kernel
theorem d_Mo_taker_3 : decode b_Mo_taker 3 = .ok (.aload_n 0, 1) := by decide +kernel
theorem d_Mo_taker_4 : decode b_Mo_taker 4 = .ok (.iload_n 1, 1) := by decide +kernel
theorem d_Mo_taker_5 : decode b_Mo_taker 5 = .ok (.invokevirtual 67, 3) := by decide +kernel
theorem d_Mo_taker_8 : decode b_Mo_taker 8 = .ok (.istore 5, 2) := by decide +kernel
theorem d_Mo_taker_10 : decode b_Mo_taker 10 = .ok (.iload 5, 2) := by decide +kernel
theorem d_Mo_taker_12 : decode b_Mo_taker 12 = .ok (.aload_n 0, 1) := by decide +kernel
theorem d_Mo_taker_13 : decode b_Mo_taker 13 = .ok (.iload_n 1, 1) := by decide +kernel
theorem d_Mo_taker_14 : decode b_Mo_taker 14 = .ok (.invokevirtual 70, 3) := by decide +kernel
theorem d_Mo_taker_17 : decode b_Mo_taker 17 = .ok (.if_icmp .ge 50, 3) := by decide +kernel
theorem d_Mo_taker_20 : decode b_Mo_taker 20 = .ok (.aload_n 0, 1) := by decide +kernel
theorem d_Mo_taker_21 : decode b_Mo_taker 21 = .ok (.iload 5, 2) := by decide +kernel
theorem d_Mo_taker_23 : decode b_Mo_taker 23 = .ok (.iload_n 1, 1) := by decide +kernel
theorem d_Mo_taker_24 : decode b_Mo_taker 24 = .ok (.invokevirtual 73, 3) := by decide +kernel
theorem d_Mo_taker_27 : decode b_Mo_taker 27 = .ok (.ifCond .eq 30, 3) := by decide +kernel
theorem d_Mo_taker_30 : decode b_Mo_taker 30 = .ok (.aload_n 0, 1) := by decide +kernel
theorem d_Mo_taker_31 : decode b_Mo_taker 31 = .ok (.getfield 13, 3) := by decide +kernel
theorem d_Mo_taker_34 : decode b_Mo_taker 34 = .ok (.iload 5, 2) := by decide +kernel
theorem d_Mo_taker_36 : decode b_Mo_taker 36 = .ok (.iaload, 1) := by decide +kernel
theorem d_Mo_taker_37 : decode b_Mo_taker 37 = .ok (.aload_n 0, 1) := by decide +kernel
theorem d_Mo_taker_38 : decode b_Mo_taker 38 = .ok (.getfield 16, 3) := by decide +kernel
theorem d_Mo_taker_41 : decode b_Mo_taker 41 = .ok (.iload 5, 2) := by decide +kernel
theorem d_Mo_taker_43 : decode b_Mo_taker 43 = .ok (.iaload, 1) := by decide +kernel
theorem d_Mo_taker_44 : decode b_Mo_taker 44 = .ok (.iload_n 2, 1) := by decide +kernel
theorem d_Mo_taker_45 : decode b_Mo_taker 45 = .ok (.iload_n 3, 1) := by decide +kernel
theorem d_Mo_taker_46 : decode b_Mo_taker 46 = .ok (.invokestatic 77, 3) := by decide +kernel
theorem d_Mo_taker_49 : decode b_Mo_taker 49 = .ok (.ifCond .eq 8, 3) := by decide +kernel
theorem d_Mo_taker_52 : decode b_Mo_taker 52 = .ok (.iload 5, 2) := by decide +kernel
theorem d_Mo_taker_54 : decode b_Mo_taker 54 = .ok (.goto 5, 3) := by decide +kernel
theorem d_Mo_taker_57 : decode b_Mo_taker 57 = .ok (.iload 4, 2) := by decide +kernel
theorem d_Mo_taker_59 : decode b_Mo_taker 59 = .ok (.istore 4, 2) := by decide +kernel
theorem d_Mo_taker_61 : decode b_Mo_taker 61 = .ok (.iinc 5 1, 3) := by decide +kernel
theorem d_Mo_taker_64 : decode b_Mo_taker 64 = .ok (.goto (-54), 3) := by decide +kernel
theorem d_Mo_taker_67 : decode b_Mo_taker 67 = .ok (.iload 4, 2) := by decide +kernel
theorem d_Mo_taker_69 : decode b_Mo_taker 69 = .ok (.ireturn, 1) := by decide +kernel
theorem d_Mo_isFree_0 : decode b_Mo_isFree 0 = .ok (.iload_n 3, 1) := by decide +kernel
theorem d_Mo_isFree_1 : decode b_Mo_isFree 1 = .ok (.aload_n 0, 1) := by decide +kernel
theorem d_Mo_isFree_2 : decode b_Mo_isFree 2 = .ok (.getfield 16, 3) := by decide +kernel
theorem d_Mo_isFree_5 : decode b_Mo_isFree 5 = .ok (.iload_n 1, 1) := by decide +kernel
theorem d_Mo_isFree_6 : decode b_Mo_isFree 6 = .ok (.iaload, 1) := by decide +kernel
theorem d_Mo_isFree_7 : decode b_Mo_isFree 7 = .ok (.if_icmp .lt 37, 3) := by decide +kernel
theorem d_Mo_isFree_10 : decode b_Mo_isFree 10 = .ok (.iload_n 2, 1) := by decide +kernel
theorem d_Mo_isFree_11 : decode b_Mo_isFree 11 = .ok (.iload_n 3, 1) := by decide +kernel
theorem d_Mo_isFree_12 : decode b_Mo_isFree 12 = .ok (.aload_n 0, 1) := by decide +kernel
theorem d_Mo_isFree_13 : decode b_Mo_isFree 13 = .ok (.getfield 13, 3) := by decide +kernel
theorem d_Mo_isFree_16 : decode b_Mo_isFree 16 = .ok (.iload_n 1, 1) := by decide +kernel
theorem d_Mo_isFree_17 : decode b_Mo_isFree 17 = .ok (.iaload, 1) := by decide +kernel
theorem d_Mo_isFree_18 : decode b_Mo_isFree 18 = .ok (.aload_n 0, 1) := by decide +kernel
theorem d_Mo_isFree_19 : decode b_Mo_isFree 19 = .ok (.getfield 16, 3) := by decide +kernel
theorem d_Mo_isFree_22 : decode b_Mo_isFree 22 = .ok (.iload_n 1, 1) := by decide +kernel
theorem d_Mo_isFree_23 : decode b_Mo_isFree 23 = .ok (.iaload, 1) := by decide +kernel
theorem d_Mo_isFree_24 : decode b_Mo_isFree 24 = .ok (.invokestatic 77, 3) := by decide +kernel
theorem d_Mo_isFree_27 : decode b_Mo_isFree 27 = .ok (.ifCond .eq 17, 3) := by decide +kernel
theorem d_Mo_isFree_30 : decode b_Mo_isFree 30 = .ok (.aload_n 0, 1) := by decide +kernel
theorem d_Mo_isFree_31 : decode b_Mo_isFree 31 = .ok (.iload_n 1, 1) := by decide +kernel
theorem d_Mo_isFree_32 : decode b_Mo_isFree 32 = .ok (.iload_n 2, 1) := by decide +kernel
theorem d_Mo_isFree_33 : decode b_Mo_isFree 33 = .ok (.iload_n 3, 1) := by decide +kernel
theorem d_Mo_isFree_34 : decode b_Mo_isFree 34 = .ok (.invokevirtual 81, 3) := by decide +kernel
theorem d_Mo_isFree_37 : decode b_Mo_isFree 37 = .ok (.ifCond .ge 7, 3) := by decide +kernel
theorem d_Mo_isFree_40 : decode b_Mo_isFree 40 = .ok (.iconst 1, 1) := by decide +kernel
theorem d_Mo_isFree_41 : decode b_Mo_isFree 41 = .ok (.goto 4, 3) := by decide +kernel
theorem d_Mo_isFree_44 : decode b_Mo_isFree 44 = .ok (.iconst 0, 1) := by decide +kernel
theorem d_Mo_isFree_45 : decode b_Mo_isFree 45 = .ok (.ireturn, 1) := by decide +kernel
theorem d_Mo_nextBlock_0 : decode b_Mo_nextBlock 0 = .ok (.lload_n 2, 1) := by decide +kernel
theorem d_Mo_nextBlock_1 : decode b_Mo_nextBlock 1 = .ok (.lstore 4, 2) := by decide +kernel
theorem d_Mo_nextBlock_3 : decode b_Mo_nextBlock 3 = .ok (.aload_n 0, 1) := by decide +kernel
theorem d_Mo_nextBlock_4 : decode b_Mo_nextBlock 4 = .ok (.getfield 13, 3) := by decide +kernel
theorem d_Mo_nextBlock_7 : decode b_Mo_nextBlock 7 = .ok (.iload_n 1, 1) := by decide +kernel
theorem d_Mo_nextBlock_8 : decode b_Mo_nextBlock 8 = .ok (.iaload, 1) := by decide +kernel
theorem d_Mo_nextBlock_9 : decode b_Mo_nextBlock 9 = .ok (.i2l, 1) := by decide +kernel
theorem d_Mo_nextBlock_10 : decode b_Mo_nextBlock 10 = .ok (.ldc2_w 85, 3) := by decide +kernel
theorem d_Mo_nextBlock_13 : decode b_Mo_nextBlock 13 = .ok (.land, 1) := by decide +kernel
theorem d_Mo_nextBlock_14 : decode b_Mo_nextBlock 14 = .ok (.aload_n 0, 1) := by decide +kernel
theorem d_Mo_nextBlock_15 : decode b_Mo_nextBlock 15 = .ok (.getfield 16, 3) := by decide +kernel
theorem d_Mo_nextBlock_18 : decode b_Mo_nextBlock 18 = .ok (.iload_n 1, 1) := by decide +kernel
theorem d_Mo_nextBlock_19 : decode b_Mo_nextBlock 19 = .ok (.iaload, 1) := by decide +kernel
theorem d_Mo_nextBlock_20 : decode b_Mo_nextBlock 20 = .ok (.invokestatic 87, 3) := by decide +kernel
theorem d_Mo_nextBlock_23 : decode b_Mo_nextBlock 23 = .ok (.ladd, 1) := by decide +kernel
theorem d_Mo_nextBlock_24 : decode b_Mo_nextBlock 24 = .ok (.lstore 6, 2) := by decide +kernel
theorem d_Mo_nextBlock_26 : decode b_Mo_nextBlock 26 = .ok (.lload 4, 2) := by decide +kernel
theorem d_Mo_nextBlock_28 : decode b_Mo_nextBlock 28 = .ok (.lload 6, 2) := by decide +kernel
theorem d_Mo_nextBlock_30 : decode b_Mo_nextBlock 30 = .ok (.lcmp, 1) := by decide +kernel
theorem d_Mo_nextBlock_31 : decode b_Mo_nextBlock 31 = .ok (.ifCond .ge 16, 3) := by decide +kernel
theorem d_Mo_nextBlock_34 : decode b_Mo_nextBlock 34 = .ok (.aload_n 0, 1) := by decide +kernel
theorem d_Mo_nextBlock_35 : decode b_Mo_nextBlock 35 = .ok (.iload_n 1, 1) := by decide +kernel
theorem d_Mo_nextBlock_36 : decode b_Mo_nextBlock 36 = .ok (.lload 4, 2) := by decide +kernel
theorem d_Mo_nextBlock_38 : decode b_Mo_nextBlock 38 = .ok (.l2i, 1) := by decide +kernel
theorem d_Mo_nextBlock_39 : decode b_Mo_nextBlock 39 = .ok (.bipush 32, 2) := by decide +kernel
theorem d_Mo_nextBlock_41 : decode b_Mo_nextBlock 41 = .ok (.invokevirtual 81, 3) := by decide +kernel
theorem d_Mo_nextBlock_44 : decode b_Mo_nextBlock 44 = .ok (.goto 4, 3) := by decide +kernel
theorem d_Mo_nextBlock_47 : decode b_Mo_nextBlock 47 = .ok (.iconst (-1), 1) := by decide +kernel
theorem d_Mo_nextBlock_48 : decode b_Mo_nextBlock 48 = .ok (.istore 8, 2) := by decide +kernel
theorem d_Mo_nextBlock_50 : decode b_Mo_nextBlock 50 = .ok (.lload 4, 2) := by decide +kernel
theorem d_Mo_nextBlock_52 : decode b_Mo_nextBlock 52 = .ok (.lload 6, 2) := by decide +kernel
theorem d_Mo_nextBlock_54 : decode b_Mo_nextBlock 54 = .ok (.lcmp, 1) := by decide +kernel
theorem d_Mo_nextBlock_55 : decode b_Mo_nextBlock 55 = .ok (.ifCond .ge 60, 3) := by decide +kernel
theorem d_Mo_nextBlock_58 : decode b_Mo_nextBlock 58 = .ok (.iload 8, 2) := by decide +kernel
theorem d_Mo_nextBlock_60 : decode b_Mo_nextBlock 60 = .ok (.ifCond .lt 55, 3) := by decide +kernel
theorem d_Mo_nextBlock_63 : decode b_Mo_nextBlock 63 = .ok (.aload_n 0, 1) := by decide +kernel
theorem d_Mo_nextBlock_64 : decode b_Mo_nextBlock 64 = .ok (.getfield 13, 3) := by decide +kernel
theorem d_Mo_nextBlock_67 : decode b_Mo_nextBlock 67 = .ok (.iload 8, 2) := by decide +kernel
theorem d_Mo_nextBlock_69 : decode b_Mo_nextBlock 69 = .ok (.iaload, 1) := by decide +kernel
theorem d_Mo_nextBlock_70 : decode b_Mo_nextBlock 70 = .ok (.i2l, 1) := by decide +kernel
theorem d_Mo_nextBlock_71 : decode b_Mo_nextBlock 71 = .ok (.ldc2_w 85, 3) := by decide +kernel
theorem d_Mo_nextBlock_74 : decode b_Mo_nextBlock 74 = .ok (.land, 1) := by decide +kernel
theorem d_Mo_nextBlock_75 : decode b_Mo_nextBlock 75 = .ok (.aload_n 0, 1) := by decide +kernel
theorem d_Mo_nextBlock_76 : decode b_Mo_nextBlock 76 = .ok (.getfield 16, 3) := by decide +kernel
theorem d_Mo_nextBlock_79 : decode b_Mo_nextBlock 79 = .ok (.iload 8, 2) := by decide +kernel
theorem d_Mo_nextBlock_81 : decode b_Mo_nextBlock 81 = .ok (.iaload, 1) := by decide +kernel
theorem d_Mo_nextBlock_82 : decode b_Mo_nextBlock 82 = .ok (.invokestatic 87, 3) := by decide +kernel
theorem d_Mo_nextBlock_85 : decode b_Mo_nextBlock 85 = .ok (.ladd, 1) := by decide +kernel
theorem d_Mo_nextBlock_86 : decode b_Mo_nextBlock 86 = .ok (.lstore 4, 2) := by decide +kernel
theorem d_Mo_nextBlock_88 : decode b_Mo_nextBlock 88 = .ok (.lload 4, 2) := by decide +kernel
theorem d_Mo_nextBlock_90 : decode b_Mo_nextBlock 90 = .ok (.lload 6, 2) := by decide +kernel
theorem d_Mo_nextBlock_92 : decode b_Mo_nextBlock 92 = .ok (.lcmp, 1) := by decide +kernel
theorem d_Mo_nextBlock_93 : decode b_Mo_nextBlock 93 = .ok (.ifCond .ge 16, 3) := by decide +kernel
theorem d_Mo_nextBlock_96 : decode b_Mo_nextBlock 96 = .ok (.aload_n 0, 1) := by decide +kernel
theorem d_Mo_nextBlock_97 : decode b_Mo_nextBlock 97 = .ok (.iload_n 1, 1) := by decide +kernel
theorem d_Mo_nextBlock_98 : decode b_Mo_nextBlock 98 = .ok (.lload 4, 2) := by decide +kernel
theorem d_Mo_nextBlock_100 : decode b_Mo_nextBlock 100 = .ok (.l2i, 1) := by decide +kernel
theorem d_Mo_nextBlock_101 : decode b_Mo_nextBlock 101 = .ok (.bipush 32, 2) := by decide +kernel
theorem d_Mo_nextBlock_103 : decode b_Mo_nextBlock 103 = .ok (.invokevirtual 81, 3) := by decide +kernel
theorem d_Mo_nextBlock_106 : decode b_Mo_nextBlock 106 = .ok (.goto 4, 3) := by decide +kernel
theorem d_Mo_nextBlock_109 : decode b_Mo_nextBlock 109 = .ok (.iconst (-1), 1) := by decide +kernel
theorem d_Mo_nextBlock_110 : decode b_Mo_nextBlock 110 = .ok (.istore 8, 2) := by decide +kernel
theorem d_Mo_nextBlock_112 : decode b_Mo_nextBlock 112 = .ok (.goto (-62), 3) := by decide +kernel
theorem d_Mo_nextBlock_115 : decode b_Mo_nextBlock 115 = .ok (.lload 4, 2) := by decide +kernel
theorem d_Mo_nextBlock_117 : decode b_Mo_nextBlock 117 = .ok (.lload 6, 2) := by decide +kernel
theorem d_Mo_nextBlock_119 : decode b_Mo_nextBlock 119 = .ok (.lcmp, 1) := by decide +kernel
theorem d_Mo_nextBlock_120 : decode b_Mo_nextBlock 120 = .ok (.ifCond .lt 5, 3) := by decide +kernel
theorem d_Mo_nextBlock_123 : decode b_Mo_nextBlock 123 = .ok (.iconst 0, 1) := by decide +kernel
theorem d_Mo_nextBlock_124 : decode b_Mo_nextBlock 124 = .ok (.ireturn, 1) := by decide +kernel
theorem d_Mo_nextBlock_125 : decode b_Mo_nextBlock 125 = .ok (.bipush 32, 2) := by decide +kernel
theorem d_Mo_nextBlock_127 : decode b_Mo_nextBlock 127 = .ok (.istore 9, 2) := by decide +kernel
theorem d_Mo_nextBlock_129 : decode b_Mo_nextBlock 129 = .ok (.iload 9, 2) := by decide +kernel
theorem d_Mo_nextBlock_131 : decode b_Mo_nextBlock 131 = .ok (.ifCond .le 40, 3) := by decide +kernel
theorem d_Mo_nextBlock_134 : decode b_Mo_nextBlock 134 = .ok (.lload 4, 2) := by decide +kernel
theorem d_Mo_nextBlock_136 : decode b_Mo_nextBlock 136 = .ok (.l2i, 1) := by decide +kernel
theorem d_Mo_nextBlock_137 : decode b_Mo_nextBlock 137 = .ok (.iload 9, 2) := by decide +kernel
theorem d_Mo_nextBlock_139 : decode b_Mo_nextBlock 139 = .ok (.iconst 1, 1) := by decide +kernel
theorem d_Mo_nextBlock_140 : decode b_Mo_nextBlock 140 = .ok (.isub, 1) := by decide +kernel
theorem d_Mo_nextBlock_141 : decode b_Mo_nextBlock 141 = .ok (.invokestatic 59, 3) := by decide +kernel
theorem d_Mo_nextBlock_144 : decode b_Mo_nextBlock 144 = .ok (.iconst (-1), 1) := by decide +kernel
theorem d_Mo_nextBlock_145 : decode b_Mo_nextBlock 145 = .ok (.ixor, 1) := by decide +kernel
theorem d_Mo_nextBlock_146 : decode b_Mo_nextBlock 146 = .ok (.iand, 1) := by decide +kernel
theorem d_Mo_nextBlock_147 : decode b_Mo_nextBlock 147 = .ok (.ifCond .ne 24, 3) := by decide +kernel
theorem d_Mo_nextBlock_150 : decode b_Mo_nextBlock 150 = .ok (.aload_n 0, 1) := by decide +kernel
theorem d_Mo_nextBlock_151 : decode b_Mo_nextBlock 151 = .ok (.iload_n 1, 1) := by decide +kernel
theorem d_Mo_nextBlock_152 : decode b_Mo_nextBlock 152 = .ok (.lload 4, 2) := by decide +kernel
theorem d_Mo_nextBlock_154 : decode b_Mo_nextBlock 154 = .ok (.l2i, 1) := by decide +kernel
theorem d_Mo_nextBlock_155 : decode b_Mo_nextBlock 155 = .ok (.iload 9, 2) := by decide +kernel
theorem d_Mo_nextBlock_157 : decode b_Mo_nextBlock 157 = .ok (.iconst 1, 1) := by decide +kernel
theorem d_Mo_nextBlock_158 : decode b_Mo_nextBlock 158 = .ok (.isub, 1) := by decide +kernel
theorem d_Mo_nextBlock_159 : decode b_Mo_nextBlock 159 = .ok (.invokevirtual 91, 3) := by decide +kernel
theorem d_Mo_nextBlock_162 : decode b_Mo_nextBlock 162 = .ok (.ifCond .eq 9, 3) := by decide +kernel
theorem d_Mo_nextBlock_165 : decode b_Mo_nextBlock 165 = .ok (.iinc 9 (-1), 3) := by decide +kernel
theorem d_Mo_nextBlock_168 : decode b_Mo_nextBlock 168 = .ok (.goto (-39), 3) := by decide +kernel
theorem d_Mo_nextBlock_171 : decode b_Mo_nextBlock 171 = .ok (.aload_n 0, 1) := by decide +kernel
theorem d_Mo_nextBlock_172 : decode b_Mo_nextBlock 172 = .ok (.lload 4, 2) := by decide +kernel
theorem d_Mo_nextBlock_174 : decode b_Mo_nextBlock 174 = .ok (.putfield 95, 3) := by decide +kernel
theorem d_Mo_nextBlock_177 : decode b_Mo_nextBlock 177 = .ok (.aload_n 0, 1) := by decide +kernel
theorem d_Mo_nextBlock_178 : decode b_Mo_nextBlock 178 = .ok (.iload 9, 2) := by decide +kernel
theorem d_Mo_nextBlock_180 : decode b_Mo_nextBlock 180 = .ok (.putfield 99, 3) := by decide +kernel
theorem d_Mo_nextBlock_183 : decode b_Mo_nextBlock 183 = .ok (.iconst 1, 1) := by decide +kernel
theorem d_Mo_nextBlock_184 : decode b_Mo_nextBlock 184 = .ok (.ireturn, 1) := by decide +kernel
theorem d_Mo_behind_0 : decode b_Mo_behind 0 = .ok (.aload_n 0, 1) := by decide +kernel
theorem d_Mo_behind_1 : decode b_Mo_behind 1 = .ok (.getfield 95, 3) := by decide +kernel
theorem d_Mo_behind_4 : decode b_Mo_behind 4 = .ok (.aload_n 0, 1) := by decide +kernel
theorem d_Mo_behind_5 : decode b_Mo_behind 5 = .ok (.getfield 99, 3) := by decide +kernel
theorem d_Mo_behind_8 : decode b_Mo_behind 8 = .ok (.invokestatic 87, 3) := by decide +kernel
theorem d_Mo_behind_11 : decode b_Mo_behind 11 = .ok (.ladd, 1) := by decide +kernel
theorem d_Mo_behind_12 : decode b_Mo_behind 12 = .ok (.lreturn, 1) := by decide +kernel
theorem d_Mo_beginOf_0 : decode b_Mo_beginOf 0 = .ok (.aload_n 0, 1) := by decide +kernel
theorem d_Mo_beginOf_1 : decode b_Mo_beginOf 1 = .ok (.getfield 13, 3) := by decide +kernel
theorem d_Mo_beginOf_4 : decode b_Mo_beginOf 4 = .ok (.iload_n 1, 1) := by decide +kernel
theorem d_Mo_beginOf_5 : decode b_Mo_beginOf 5 = .ok (.iaload, 1) := by decide +kernel
theorem d_Mo_beginOf_6 : decode b_Mo_beginOf 6 = .ok (.i2l, 1) := by decide +kernel
theorem d_Mo_beginOf_7 : decode b_Mo_beginOf 7 = .ok (.ldc2_w 85, 3) := by decide +kernel
theorem d_Mo_beginOf_10 : decode b_Mo_beginOf 10 = .ok (.land, 1) := by decide +kernel
theorem d_Mo_beginOf_11 : decode b_Mo_beginOf 11 = .ok (.lreturn, 1) := by decide +kernel
theorem d_Mo_usedOf_0 : decode b_Mo_usedOf 0 = .ok (.lconst 0, 1) := by decide +kernel
theorem d_Mo_usedOf_1 : decode b_Mo_usedOf 1 = .ok (.lstore_n 2, 1) := by decide +kernel
theorem d_Mo_usedOf_2 : decode b_Mo_usedOf 2 = .ok (.aload_n 0, 1) := by decide +kernel
theorem d_Mo_usedOf_3 : decode b_Mo_usedOf 3 = .ok (.iload_n 1, 1) := by decide +kernel
theorem d_Mo_usedOf_4 : decode b_Mo_usedOf 4 = .ok (.invokevirtual 67, 3) := by decide +kernel
theorem d_Mo_usedOf_7 : decode b_Mo_usedOf 7 = .ok (.istore 4, 2) := by decide +kernel
theorem d_Mo_usedOf_9 : decode b_Mo_usedOf 9 = .ok (.iload 4, 2) := by decide +kernel
theorem d_Mo_usedOf_11 : decode b_Mo_usedOf 11 = .ok (.aload_n 0, 1) := by decide +kernel
theorem d_Mo_usedOf_12 : decode b_Mo_usedOf 12 = .ok (.iload_n 1, 1) := by decide +kernel
theorem d_Mo_usedOf_13 : decode b_Mo_usedOf 13 = .ok (.invokevirtual 70, 3) := by decide +kernel
theorem d_Mo_usedOf_16 : decode b_Mo_usedOf 16 = .ok (.if_icmp .ge 36, 3) := by decide +kernel
theorem d_Mo_usedOf_19 : decode b_Mo_usedOf 19 = .ok (.lload_n 2, 1) := by decide +kernel
theorem d_Mo_usedOf_20 : decode b_Mo_usedOf 20 = .ok (.aload_n 0, 1) := by decide +kernel
theorem d_Mo_usedOf_21 : decode b_Mo_usedOf 21 = .ok (.iload 4, 2) := by decide +kernel
theorem d_Mo_usedOf_23 : decode b_Mo_usedOf 23 = .ok (.iload_n 1, 1) := by decide +kernel
theorem d_Mo_usedOf_24 : decode b_Mo_usedOf 24 = .ok (.invokevirtual 73, 3) := by decide +kernel
theorem d_Mo_usedOf_27 : decode b_Mo_usedOf 27 = .ok (.ifCond .eq 16, 3) := by decide +kernel
theorem d_Mo_usedOf_30 : decode b_Mo_usedOf 30 = .ok (.aload_n 0, 1) := by decide +kernel
theorem d_Mo_usedOf_31 : decode b_Mo_usedOf 31 = .ok (.getfield 16, 3) := by decide +kernel
theorem d_Mo_usedOf_34 : decode b_Mo_usedOf 34 = .ok (.iload 4, 2) := by decide +kernel
theorem d_Mo_usedOf_36 : decode b_Mo_usedOf 36 = .ok (.iaload, 1) := by decide +kernel
theorem d_Mo_usedOf_37 : decode b_Mo_usedOf 37 = .ok (.invokestatic 87, 3) := by decide +kernel
theorem d_Mo_usedOf_40 : decode b_Mo_usedOf 40 = .ok (.goto 4, 3) := by decide +kernel
theorem d_Mo_usedOf_43 : decode b_Mo_usedOf 43 = .ok (.lconst 0, 1) := by decide +kernel
theorem d_Mo_usedOf_44 : decode b_Mo_usedOf 44 = .ok (.ladd, 1) := by decide +kernel
theorem d_Mo_usedOf_45 : decode b_Mo_usedOf 45 = .ok (.lstore_n 2, 1) := by decide +kernel
theorem d_Mo_usedOf_46 : decode b_Mo_usedOf 46 = .ok (.iinc 4 1, 3) := by decide +kernel
theorem d_Mo_usedOf_49 : decode b_Mo_usedOf 49 = .ok (.goto (-40), 3) := by decide +kernel
theorem d_Mo_usedOf_52 : decode b_Mo_usedOf 52 = .ok (.lload_n 2, 1) := by decide +kernel
theorem d_Mo_usedOf_53 : decode b_Mo_usedOf 53 = .ok (.lreturn, 1) := by decide +kernel
theorem d_Mo_isRecord_0 : decode b_Mo_isRecord 0 = .ok (.iload_n 2, 1) := by decide +kernel
theorem d_Mo_isRecord_1 : decode b_Mo_isRecord 1 = .ok (.iconst 0, 1) := by decide +kernel
theorem d_Mo_isRecord_2 : decode b_Mo_isRecord 2 = .ok (.aload_n 0, 1) := by decide +kernel
theorem d_Mo_isRecord_3 : decode b_Mo_isRecord 3 = .ok (.getfield 7, 3) := by decide +kernel
theorem d_Mo_isRecord_6 : decode b_Mo_isRecord 6 = .ok (.iload_n 1, 1) := by decide +kernel
theorem d_Mo_isRecord_7 : decode b_Mo_isRecord 7 = .ok (.sipush 200, 3) := by decide +kernel
theorem d_Mo_isRecord_10 : decode b_Mo_isRecord 10 = .ok (.idiv, 1) := by decide +kernel
theorem d_Mo_isRecord_11 : decode b_Mo_isRecord 11 = .ok (.iaload, 1) := by decide +kernel
theorem d_Mo_isRecord_12 : decode b_Mo_isRecord 12 = .ok (.iconst 1, 1) := by decide +kernel
theorem d_Mo_isRecord_13 : decode b_Mo_isRecord 13 = .ok (.isub, 1) := by decide +kernel
theorem d_Mo_isRecord_14 : decode b_Mo_isRecord 14 = .ok (.invokestatic 102, 3) := by decide +kernel
theorem d_Mo_isRecord_17 : decode b_Mo_isRecord 17 = .ok (.ireturn, 1) := by decide +kernel
theorem d_Mo_make_0 : decode b_Mo_make 0 = .ok (.iload_n 1, 1) := by decide +kernel
theorem d_Mo_make_1 : decode b_Mo_make 1 = .ok (.aload_n 0, 1) := by decide +kernel
theorem d_Mo_make_2 : decode b_Mo_make 2 = .ok (.getfield 7, 3) := by decide +kernel
theorem d_Mo_make_5 : decode b_Mo_make 5 = .ok (.iload_n 1, 1) := by decide +kernel
theorem d_Mo_make_6 : decode b_Mo_make 6 = .ok (.sipush 200, 3) := by decide +kernel
theorem d_Mo_make_9 : decode b_Mo_make 9 = .ok (.idiv, 1) := by decide +kernel
theorem d_Mo_make_10 : decode b_Mo_make 10 = .ok (.iaload, 1) := by decide +kernel
theorem d_Mo_make_11 : decode b_Mo_make 11 = .ok (.iadd, 1) := by decide +kernel
theorem d_Mo_make_12 : decode b_Mo_make 12 = .ok (.istore 7, 2) := by decide +kernel
theorem d_Mo_make_14 : decode b_Mo_make 14 = .ok (.aload_n 0, 1) := by decide +kernel
theorem d_Mo_make_15 : decode b_Mo_make 15 = .ok (.getfield 13, 3) := by decide +kernel
theorem d_Mo_make_18 : decode b_Mo_make 18 = .ok (.iload 7, 2) := by decide +kernel
theorem d_Mo_make_20 : decode b_Mo_make 20 = .ok (.iload_n 2, 1) := by decide +kernel
theorem d_Mo_make_21 : decode b_Mo_make 21 = .ok (.iastore, 1) := by decide +kernel
theorem d_Mo_make_22 : decode b_Mo_make 22 = .ok (.aload_n 0, 1) := by decide +kernel
theorem d_Mo_make_23 : decode b_Mo_make 23 = .ok (.getfield 16, 3) := by decide +kernel
theorem d_Mo_make_26 : decode b_Mo_make 26 = .ok (.iload 7, 2) := by decide +kernel
theorem d_Mo_make_28 : decode b_Mo_make 28 = .ok (.iload_n 3, 1) := by decide +kernel
theorem d_Mo_make_29 : decode b_Mo_make 29 = .ok (.iastore, 1) := by decide +kernel
theorem d_Mo_make_30 : decode b_Mo_make 30 = .ok (.aload_n 0, 1) := by decide +kernel
theorem d_Mo_make_31 : decode b_Mo_make 31 = .ok (.getfield 19, 3) := by decide +kernel
theorem d_Mo_make_34 : decode b_Mo_make 34 = .ok (.iload 7, 2) := by decide +kernel
theorem d_Mo_make_36 : decode b_Mo_make 36 = .ok (.iload 4, 2) := by decide +kernel
theorem d_Mo_make_38 : decode b_Mo_make 38 = .ok (.iastore, 1) := by decide +kernel
theorem d_Mo_make_39 : decode b_Mo_make 39 = .ok (.aload_n 0, 1) := by decide +kernel
theorem d_Mo_make_40 : decode b_Mo_make 40 = .ok (.getfield 22, 3) := by decide +kernel
theorem d_Mo_make_43 : decode b_Mo_make 43 = .ok (.iload 7, 2) := by decide +kernel
theorem d_Mo_make_45 : decode b_Mo_make 45 = .ok (.iload 4, 2) := by decide +kernel
theorem d_Mo_make_47 : decode b_Mo_make 47 = .ok (.ifCond .ge 7, 3) := by decide +kernel
theorem d_Mo_make_50 : decode b_Mo_make 50 = .ok (.iconst 0, 1) := by decide +kernel
theorem d_Mo_make_51 : decode b_Mo_make 51 = .ok (.goto 12, 3) := by decide +kernel
theorem d_Mo_make_54 : decode b_Mo_make 54 = .ok (.aload_n 0, 1) := by decide +kernel
theorem d_Mo_make_55 : decode b_Mo_make 55 = .ok (.getfield 22, 3) := by decide +kernel
theorem d_Mo_make_58 : decode b_Mo_make 58 = .ok (.iload 4, 2) := by decide +kernel
theorem d_Mo_make_60 : decode b_Mo_make 60 = .ok (.iaload, 1) := by decide +kernel
theorem d_Mo_make_61 : decode b_Mo_make 61 = .ok (.iconst 1, 1) := by decide +kernel
theorem d_Mo_make_62 : decode b_Mo_make 62 = .ok (.iadd, 1) := by decide +kernel
theorem d_Mo_make_63 : decode b_Mo_make 63 = .ok (.iastore, 1) := by decide +kernel
theorem d_Mo_make_64 : decode b_Mo_make 64 = .ok (.aload_n 0, 1) := by decide +kernel
theorem d_Mo_make_65 : decode b_Mo_make 65 = .ok (.getfield 25, 3) := by decide +kernel
theorem d_Mo_make_68 : decode b_Mo_make 68 = .ok (.iload 7, 2) := by decide +kernel
theorem d_Mo_make_70 : decode b_Mo_make 70 = .ok (.iload 5, 2) := by decide +kernel
theorem d_Mo_make_72 : decode b_Mo_make 72 = .ok (.iastore, 1) := by decide +kernel
theorem d_Mo_make_73 : decode b_Mo_make 73 = .ok (.aload_n 0, 1) := by decide +kernel
theorem d_Mo_make_74 : decode b_Mo_make 74 = .ok (.getfield 28, 3) := by decide +kernel
theorem d_Mo_make_77 : decode b_Mo_make 77 = .ok (.iload 7, 2) := by decide +kernel
theorem d_Mo_make_79 : decode b_Mo_make 79 = .ok (.iload 6, 2) := by decide +kernel
theorem d_Mo_make_81 : decode b_Mo_make 81 = .ok (.iastore, 1) := by decide +kernel
theorem d_Mo_make_82 : decode b_Mo_make 82 = .ok (.aload_n 0, 1) := by decide +kernel
theorem d_Mo_make_83 : decode b_Mo_make 83 = .ok (.getfield 31, 3) := by decide +kernel
theorem d_Mo_make_86 : decode b_Mo_make 86 = .ok (.iload 7, 2) := by decide +kernel
theorem d_Mo_make_88 : decode b_Mo_make 88 = .ok (.iconst 0, 1) := by decide +kernel
theorem d_Mo_make_89 : decode b_Mo_make 89 = .ok (.iastore, 1) := by decide +kernel
theorem d_Mo_make_90 : decode b_Mo_make 90 = .ok (.aload_n 0, 1) := by decide +kernel
theorem d_Mo_make_91 : decode b_Mo_make 91 = .ok (.getfield 7, 3) := by decide +kernel
theorem d_Mo_make_94 : decode b_Mo_make 94 = .ok (.iload_n 1, 1) := by decide +kernel
theorem d_Mo_make_95 : decode b_Mo_make 95 = .ok (.sipush 200, 3) := by decide +kernel
theorem d_Mo_make_98 : decode b_Mo_make 98 = .ok (.idiv, 1) := by decide +kernel
theorem d_Mo_make_99 : decode b_Mo_make 99 = .ok (.dup2, 1) := by decide +kernel
theorem d_Mo_make_100 : decode b_Mo_make 100 = .ok (.iaload, 1) := by decide +kernel
theorem d_Mo_make_101 : decode b_Mo_make 101 = .ok (.iconst 1, 1) := by decide +kernel
theorem d_Mo_make_102 : decode b_Mo_make 102 = .ok (.iadd, 1) := by decide +kernel
theorem d_Mo_make_103 : decode b_Mo_make 103 = .ok (.iastore, 1) := by decide +kernel
theorem d_Mo_make_104 : decode b_Mo_make 104 = .ok (.iload 7, 2) := by decide +kernel
theorem d_Mo_make_106 : decode b_Mo_make 106 = .ok (.iload_n 1, 1) := by decide +kernel
theorem d_Mo_make_107 : decode b_Mo_make 107 = .ok (.isub, 1) := by decide +kernel
theorem d_Mo_make_108 : decode b_Mo_make 108 = .ok (.ireturn, 1) := by decide +kernel
theorem d_Mo_rootWrong_0 : decode b_Mo_rootWrong 0 = .ok (.iload_n 3, 1) := by decide +kernel
theorem d_Mo_rootWrong_1 : decode b_Mo_rootWrong 1 = .ok (.iconst 0, 1) := by decide +kernel
theorem d_Mo_rootWrong_2 : decode b_Mo_rootWrong 2 = .ok (.bipush 31, 2) := by decide +kernel
theorem d_Mo_rootWrong_4 : decode b_Mo_rootWrong 4 = .ok (.invokestatic 102, 3) := by decide +kernel
theorem d_Mo_rootWrong_7 : decode b_Mo_rootWrong 7 = .ok (.ifCond .eq 26, 3) := by decide +kernel
theorem d_Mo_rootWrong_10 : decode b_Mo_rootWrong 10 = .ok (.iload_n 2, 1) := by decide +kernel
theorem d_Mo_rootWrong_11 : decode b_Mo_rootWrong 11 = .ok (.iload_n 3, 1) := by decide +kernel
theorem d_Mo_rootWrong_12 : decode b_Mo_rootWrong 12 = .ok (.invokestatic 59, 3) := by decide +kernel
theorem d_Mo_rootWrong_15 : decode b_Mo_rootWrong 15 = .ok (.iconst (-1), 1) := by decide +kernel
theorem d_Mo_rootWrong_16 : decode b_Mo_rootWrong 16 = .ok (.ixor, 1) := by decide +kernel
theorem d_Mo_rootWrong_17 : decode b_Mo_rootWrong 17 = .ok (.iand, 1) := by decide +kernel
theorem d_Mo_rootWrong_18 : decode b_Mo_rootWrong 18 = .ok (.ifCond .ne 15, 3) := by decide +kernel
theorem d_Mo_rootWrong_21 : decode b_Mo_rootWrong 21 = .ok (.iload 4, 2) := by decide +kernel
theorem d_Mo_rootWrong_23 : decode b_Mo_rootWrong 23 = .ok (.iconst 0, 1) := by decide +kernel
theorem d_Mo_rootWrong_24 : decode b_Mo_rootWrong 24 = .ok (.sipush 9999, 3) := by decide +kernel
theorem d_Mo_rootWrong_27 : decode b_Mo_rootWrong 27 = .ok (.invokestatic 102, 3) := by decide +kernel
theorem d_Mo_rootWrong_30 : decode b_Mo_rootWrong 30 = .ok (.ifCond .ne 5, 3) := by decide +kernel
theorem d_Mo_rootWrong_33 : decode b_Mo_rootWrong 33 = .ok (.iconst 1, 1) := by decide +kernel
theorem d_Mo_rootWrong_34 : decode b_Mo_rootWrong 34 = .ok (.ireturn, 1) := by decide +kernel
theorem d_Mo_rootWrong_35 : decode b_Mo_rootWrong 35 = .ok (.iload_n 1, 1) := by decide +kernel
theorem d_Mo_rootWrong_36 : decode b_Mo_rootWrong 36 = .ok (.istore 5, 2) := by decide +kernel
theorem d_Mo_rootWrong_38 : decode b_Mo_rootWrong 38 = .ok (.iload 5, 2) := by decide +kernel
theorem d_Mo_rootWrong_40 : decode b_Mo_rootWrong 40 = .ok (.iload_n 1, 1) := by decide +kernel
theorem d_Mo_rootWrong_41 : decode b_Mo_rootWrong 41 = .ok (.aload_n 0, 1) := by decide +kernel
theorem d_Mo_rootWrong_42 : decode b_Mo_rootWrong 42 = .ok (.getfield 7, 3) := by decide +kernel
theorem d_Mo_rootWrong_45 : decode b_Mo_rootWrong 45 = .ok (.iload_n 1, 1) := by decide +kernel
theorem d_Mo_rootWrong_46 : decode b_Mo_rootWrong 46 = .ok (.sipush 200, 3) := by decide +kernel
theorem d_Mo_rootWrong_49 : decode b_Mo_rootWrong 49 = .ok (.idiv, 1) := by decide +kernel
theorem d_Mo_rootWrong_50 : decode b_Mo_rootWrong 50 = .ok (.iaload, 1) := by decide +kernel
theorem d_Mo_rootWrong_51 : decode b_Mo_rootWrong 51 = .ok (.iadd, 1) := by decide +kernel
theorem d_Mo_rootWrong_52 : decode b_Mo_rootWrong 52 = .ok (.if_icmp .ge 52, 3) := by decide +kernel
theorem d_Mo_rootWrong_55 : decode b_Mo_rootWrong 55 = .ok (.aload_n 0, 1) := by decide +kernel
theorem d_Mo_rootWrong_56 : decode b_Mo_rootWrong 56 = .ok (.getfield 19, 3) := by decide +kernel
theorem d_Mo_rootWrong_59 : decode b_Mo_rootWrong 59 = .ok (.iload 5, 2) := by decide +kernel
theorem d_Mo_rootWrong_61 : decode b_Mo_rootWrong 61 = .ok (.iaload, 1) := by decide +kernel
theorem d_Mo_rootWrong_62 : decode b_Mo_rootWrong 62 = .ok (.ifCond .ge 36, 3) := by decide +kernel
theorem d_Mo_rootWrong_65 : decode b_Mo_rootWrong 65 = .ok (.aload_n 0, 1) := by decide +kernel
theorem d_Mo_rootWrong_66 : decode b_Mo_rootWrong 66 = .ok (.iload 5, 2) := by decide +kernel
theorem d_Mo_rootWrong_68 : decode b_Mo_rootWrong 68 = .ok (.invokevirtual 63, 3) := by decide +kernel
theorem d_Mo_rootWrong_71 : decode b_Mo_rootWrong 71 = .ok (.ifCond .eq 27, 3) := by decide +kernel
theorem d_Mo_rootWrong_74 : decode b_Mo_rootWrong 74 = .ok (.aload_n 0, 1) := by decide +kernel
theorem d_Mo_rootWrong_75 : decode b_Mo_rootWrong 75 = .ok (.getfield 13, 3) := by decide +kernel
theorem d_Mo_rootWrong_78 : decode b_Mo_rootWrong 78 = .ok (.iload 5, 2) := by decide +kernel
theorem d_Mo_rootWrong_80 : decode b_Mo_rootWrong 80 = .ok (.iaload, 1) := by decide +kernel
theorem d_Mo_rootWrong_81 : decode b_Mo_rootWrong 81 = .ok (.aload_n 0, 1) := by decide +kernel
theorem d_Mo_rootWrong_82 : decode b_Mo_rootWrong 82 = .ok (.getfield 16, 3) := by decide +kernel
theorem d_Mo_rootWrong_85 : decode b_Mo_rootWrong 85 = .ok (.iload 5, 2) := by decide +kernel
theorem d_Mo_rootWrong_87 : decode b_Mo_rootWrong 87 = .ok (.iaload, 1) := by decide +kernel
theorem d_Mo_rootWrong_88 : decode b_Mo_rootWrong 88 = .ok (.iload_n 2, 1) := by decide +kernel
theorem d_Mo_rootWrong_89 : decode b_Mo_rootWrong 89 = .ok (.iload_n 3, 1) := by decide +kernel
theorem d_Mo_rootWrong_90 : decode b_Mo_rootWrong 90 = .ok (.invokestatic 77, 3) := by decide +kernel
theorem d_Mo_rootWrong_93 : decode b_Mo_rootWrong 93 = .ok (.ifCond .eq 5, 3) := by decide +kernel
theorem d_Mo_rootWrong_96 : decode b_Mo_rootWrong 96 = .ok (.iconst 2, 1) := by decide +kernel
theorem d_Mo_rootWrong_97 : decode b_Mo_rootWrong 97 = .ok (.ireturn, 1) := by decide +kernel
theorem d_Mo_rootWrong_98 : decode b_Mo_rootWrong 98 = .ok (.iinc 5 1, 3) := by decide +kernel
theorem d_Mo_rootWrong_101 : decode b_Mo_rootWrong 101 = .ok (.goto (-63), 3) := by decide +kernel
theorem d_Mo_rootWrong_104 : decode b_Mo_rootWrong 104 = .ok (.aload_n 0, 1) := by decide +kernel
theorem d_Mo_rootWrong_105 : decode b_Mo_rootWrong 105 = .ok (.getfield 7, 3) := by decide +kernel
theorem d_Mo_rootWrong_108 : decode b_Mo_rootWrong 108 = .ok (.iload_n 1, 1) := by decide +kernel
theorem d_Mo_rootWrong_109 : decode b_Mo_rootWrong 109 = .ok (.sipush 200, 3) := by decide +kernel
theorem d_Mo_rootWrong_112 : decode b_Mo_rootWrong 112 = .ok (.idiv, 1) := by decide +kernel
theorem d_Mo_rootWrong_113 : decode b_Mo_rootWrong 113 = .ok (.iaload, 1) := by decide +kernel
theorem d_Mo_rootWrong_114 : decode b_Mo_rootWrong 114 = .ok (.sipush 200, 3) := by decide +kernel
theorem d_Mo_rootWrong_117 : decode b_Mo_rootWrong 117 = .ok (.if_icmp .ne 7, 3) := by decide +kernel
theorem d_Mo_rootWrong_120 : decode b_Mo_rootWrong 120 = .ok (.iconst 3, 1) := by decide +kernel
theorem d_Mo_rootWrong_121 : decode b_Mo_rootWrong 121 = .ok (.goto 4, 3) := by decide +kernel
theorem d_Mo_rootWrong_124 : decode b_Mo_rootWrong 124 = .ok (.iconst 0, 1) := by decide +kernel
theorem d_Mo_rootWrong_125 : decode b_Mo_rootWrong 125 = .ok (.ireturn, 1) := by decide +kernel
theorem d_Mo_isMet_0 : decode b_Mo_isMet 0 = .ok (.aload_n 0, 1) := by decide +kernel
theorem d_Mo_isMet_1 : decode b_Mo_isMet 1 = .ok (.getfield 40, 3) := by decide +kernel
theorem d_Mo_isMet_4 : decode b_Mo_isMet 4 = .ok (.iconst 4, 1) := by decide +kernel
theorem d_Mo_isMet_5 : decode b_Mo_isMet 5 = .ok (.iload_n 1, 1) := by decide +kernel
theorem d_Mo_isMet_6 : decode b_Mo_isMet 6 = .ok (.sipush 200, 3) := by decide +kernel
theorem d_Mo_isMet_9 : decode b_Mo_isMet 9 = .ok (.idiv, 1) := by decide +kernel
theorem d_Mo_isMet_10 : decode b_Mo_isMet 10 = .ok (.imul, 1) := by decide +kernel
theorem d_Mo_isMet_11 : decode b_Mo_isMet 11 = .ok (.aload_n 0, 1) := by decide +kernel
theorem d_Mo_isMet_12 : decode b_Mo_isMet 12 = .ok (.getfield 22, 3) := by decide +kernel
theorem d_Mo_isMet_15 : decode b_Mo_isMet 15 = .ok (.iload_n 2, 1) := by decide +kernel
theorem d_Mo_isMet_16 : decode b_Mo_isMet 16 = .ok (.iaload, 1) := by decide +kernel
theorem d_Mo_isMet_17 : decode b_Mo_isMet 17 = .ok (.iadd, 1) := by decide +kernel
theorem d_Mo_isMet_18 : decode b_Mo_isMet 18 = .ok (.iaload, 1) := by decide +kernel
theorem d_Mo_isMet_19 : decode b_Mo_isMet 19 = .ok (.istore_n 3, 1) := by decide +kernel
theorem d_Mo_isMet_20 : decode b_Mo_isMet 20 = .ok (.iconst 1, 1) := by decide +kernel
theorem d_Mo_isMet_21 : decode b_Mo_isMet 21 = .ok (.istore 4, 2) := by decide +kernel
theorem d_Mo_isMet_23 : decode b_Mo_isMet 23 = .ok (.iload_n 1, 1) := by decide +kernel
theorem d_Mo_isMet_24 : decode b_Mo_isMet 24 = .ok (.istore 5, 2) := by decide +kernel
theorem d_Mo_isMet_26 : decode b_Mo_isMet 26 = .ok (.iload 5, 2) := by decide +kernel
theorem d_Mo_isMet_28 : decode b_Mo_isMet 28 = .ok (.iload_n 1, 1) := by decide +kernel
theorem d_Mo_isMet_29 : decode b_Mo_isMet 29 = .ok (.aload_n 0, 1) := by decide +kernel
theorem d_Mo_isMet_30 : decode b_Mo_isMet 30 = .ok (.getfield 7, 3) := by decide +kernel
theorem d_Mo_isMet_33 : decode b_Mo_isMet 33 = .ok (.iload_n 1, 1) := by decide +kernel
theorem d_Mo_isMet_34 : decode b_Mo_isMet 34 = .ok (.sipush 200, 3) := by decide +kernel
theorem d_Mo_isMet_37 : decode b_Mo_isMet 37 = .ok (.idiv, 1) := by decide +kernel
theorem d_Mo_isMet_38 : decode b_Mo_isMet 38 = .ok (.iaload, 1) := by decide +kernel
theorem d_Mo_isMet_39 : decode b_Mo_isMet 39 = .ok (.iadd, 1) := by decide +kernel
theorem d_Mo_isMet_40 : decode b_Mo_isMet 40 = .ok (.if_icmp .ge 86, 3) := by decide +kernel
theorem d_Mo_isMet_43 : decode b_Mo_isMet 43 = .ok (.aload_n 0, 1) := by decide +kernel
theorem d_Mo_isMet_44 : decode b_Mo_isMet 44 = .ok (.getfield 19, 3) := by decide +kernel
theorem d_Mo_isMet_47 : decode b_Mo_isMet 47 = .ok (.iload 5, 2) := by decide +kernel
theorem d_Mo_isMet_49 : decode b_Mo_isMet 49 = .ok (.iaload, 1) := by decide +kernel
theorem d_Mo_isMet_50 : decode b_Mo_isMet 50 = .ok (.iload_n 2, 1) := by decide +kernel
theorem d_Mo_isMet_51 : decode b_Mo_isMet 51 = .ok (.if_icmp .ne 69, 3) := by decide +kernel
theorem d_Mo_isMet_54 : decode b_Mo_isMet 54 = .ok (.aload_n 0, 1) := by decide +kernel
theorem d_Mo_isMet_55 : decode b_Mo_isMet 55 = .ok (.getfield 28, 3) := by decide +kernel
theorem d_Mo_isMet_58 : decode b_Mo_isMet 58 = .ok (.iload 5, 2) := by decide +kernel
theorem d_Mo_isMet_60 : decode b_Mo_isMet 60 = .ok (.iaload, 1) := by decide +kernel
theorem d_Mo_isMet_61 : decode b_Mo_isMet 61 = .ok (.iconst 1, 1) := by decide +kernel
theorem d_Mo_isMet_62 : decode b_Mo_isMet 62 = .ok (.if_icmp .ne 58, 3) := by decide +kernel
theorem d_Mo_isMet_65 : decode b_Mo_isMet 65 = .ok (.aload_n 0, 1) := by decide +kernel
theorem d_Mo_isMet_66 : decode b_Mo_isMet 66 = .ok (.getfield 25, 3) := by decide +kernel
theorem d_Mo_isMet_69 : decode b_Mo_isMet 69 = .ok (.iload 5, 2) := by decide +kernel
theorem d_Mo_isMet_71 : decode b_Mo_isMet 71 = .ok (.iaload, 1) := by decide +kernel
theorem d_Mo_isMet_72 : decode b_Mo_isMet 72 = .ok (.aload_n 0, 1) := by decide +kernel
theorem d_Mo_isMet_73 : decode b_Mo_isMet 73 = .ok (.getfield 25, 3) := by decide +kernel
theorem d_Mo_isMet_76 : decode b_Mo_isMet 76 = .ok (.iload_n 2, 1) := by decide +kernel
theorem d_Mo_isMet_77 : decode b_Mo_isMet 77 = .ok (.iaload, 1) := by decide +kernel
theorem d_Mo_isMet_78 : decode b_Mo_isMet 78 = .ok (.if_icmp .ne 42, 3) := by decide +kernel
theorem d_Mo_isMet_81 : decode b_Mo_isMet 81 = .ok (.iload 4, 2) := by decide +kernel
theorem d_Mo_isMet_83 : decode b_Mo_isMet 83 = .ok (.ifCond .eq 34, 3) := by decide +kernel
theorem d_Mo_isMet_86 : decode b_Mo_isMet 86 = .ok (.aload_n 0, 1) := by decide +kernel
theorem d_Mo_isMet_87 : decode b_Mo_isMet 87 = .ok (.iload 5, 2) := by decide +kernel
theorem d_Mo_isMet_89 : decode b_Mo_isMet 89 = .ok (.invokevirtual 105, 3) := by decide +kernel
theorem d_Mo_isMet_92 : decode b_Mo_isMet 92 = .ok (.ldc2_w 108, 3) := by decide +kernel
theorem d_Mo_isMet_95 : decode b_Mo_isMet 95 = .ok (.lmul, 1) := by decide +kernel
theorem d_Mo_isMet_96 : decode b_Mo_isMet 96 = .ok (.aload_n 0, 1) := by decide +kernel
theorem d_Mo_isMet_97 : decode b_Mo_isMet 97 = .ok (.getfield 16, 3) := by decide +kernel
theorem d_Mo_isMet_100 : decode b_Mo_isMet 100 = .ok (.iload 5, 2) := by decide +kernel
theorem d_Mo_isMet_102 : decode b_Mo_isMet 102 = .ok (.iaload, 1) := by decide +kernel
theorem d_Mo_isMet_103 : decode b_Mo_isMet 103 = .ok (.invokestatic 87, 3) := by decide +kernel
theorem d_Mo_isMet_106 : decode b_Mo_isMet 106 = .ok (.iload_n 3, 1) := by decide +kernel
theorem d_Mo_isMet_107 : decode b_Mo_isMet 107 = .ok (.i2l, 1) := by decide +kernel
theorem d_Mo_isMet_108 : decode b_Mo_isMet 108 = .ok (.lmul, 1) := by decide +kernel
theorem d_Mo_isMet_109 : decode b_Mo_isMet 109 = .ok (.lcmp, 1) := by decide +kernel
theorem d_Mo_isMet_110 : decode b_Mo_isMet 110 = .ok (.ifCond .lt 7, 3) := by decide +kernel
theorem d_Mo_isMet_113 : decode b_Mo_isMet 113 = .ok (.iconst 1, 1) := by decide +kernel
theorem d_Mo_isMet_114 : decode b_Mo_isMet 114 = .ok (.goto 4, 3) := by decide +kernel
theorem d_Mo_isMet_117 : decode b_Mo_isMet 117 = .ok (.iconst 0, 1) := by decide +kernel
theorem d_Mo_isMet_118 : decode b_Mo_isMet 118 = .ok (.istore 4, 2) := by decide +kernel
theorem d_Mo_isMet_120 : decode b_Mo_isMet 120 = .ok (.iinc 5 1, 3) := by decide +kernel
theorem d_Mo_isMet_123 : decode b_Mo_isMet 123 = .ok (.goto (-97), 3) := by decide +kernel
theorem d_Mo_isMet_126 : decode b_Mo_isMet 126 = .ok (.iload 4, 2) := by decide +kernel
theorem d_Mo_isMet_128 : decode b_Mo_isMet 128 = .ok (.ireturn, 1) := by decide +kernel
theorem d_Mo_choose_0 : decode b_Mo_choose 0 = .ok (.ldc2_w 110, 3) := by decide +kernel
theorem d_Mo_choose_3 : decode b_Mo_choose 3 = .ok (.lstore 4, 2) := by decide +kernel
theorem d_Mo_choose_5 : decode b_Mo_choose 5 = .ok (.iconst (-1), 1) := by decide +kernel
theorem d_Mo_choose_6 : decode b_Mo_choose 6 = .ok (.istore 6, 2) := by decide +kernel
theorem d_Mo_choose_8 : decode b_Mo_choose 8 = .ok (.aload_n 0, 1) := by decide +kernel
theorem d_Mo_choose_9 : decode b_Mo_choose 9 = .ok (.iload_n 1, 1) := by decide +kernel
theorem d_Mo_choose_10 : decode b_Mo_choose 10 = .ok (.aload_n 0, 1) := by decide +kernel
theorem d_Mo_choose_11 : decode b_Mo_choose 11 = .ok (.iload_n 1, 1) := by decide +kernel
theorem d_Mo_choose_12 : decode b_Mo_choose 12 = .ok (.invokevirtual 112, 3) := by decide +kernel
theorem d_Mo_choose_15 : decode b_Mo_choose 15 = .ok (.invokevirtual 115, 3) := by decide +kernel
theorem d_Mo_choose_18 : decode b_Mo_choose 18 = .ok (.istore 7, 2) := by decide +kernel
theorem d_Mo_choose_20 : decode b_Mo_choose 20 = .ok (.iload 7, 2) := by decide +kernel
theorem d_Mo_choose_22 : decode b_Mo_choose 22 = .ok (.ifCond .eq 79, 3) := by decide +kernel
theorem d_Mo_choose_25 : decode b_Mo_choose 25 = .ok (.iload 6, 2) := by decide +kernel
theorem d_Mo_choose_27 : decode b_Mo_choose 27 = .ok (.ifCond .lt 28, 3) := by decide +kernel
theorem d_Mo_choose_30 : decode b_Mo_choose 30 = .ok (.iload_n 3, 1) := by decide +kernel
theorem d_Mo_choose_31 : decode b_Mo_choose 31 = .ok (.ifCond .eq 15, 3) := by decide +kernel
theorem d_Mo_choose_34 : decode b_Mo_choose 34 = .ok (.aload_n 0, 1) := by decide +kernel
theorem d_Mo_choose_35 : decode b_Mo_choose 35 = .ok (.getfield 99, 3) := by decide +kernel
theorem d_Mo_choose_38 : decode b_Mo_choose 38 = .ok (.iload 6, 2) := by decide +kernel
theorem d_Mo_choose_40 : decode b_Mo_choose 40 = .ok (.if_icmp .ge 19, 3) := by decide +kernel
theorem d_Mo_choose_43 : decode b_Mo_choose 43 = .ok (.goto 12, 3) := by decide +kernel
theorem d_Mo_choose_46 : decode b_Mo_choose 46 = .ok (.aload_n 0, 1) := by decide +kernel
theorem d_Mo_choose_47 : decode b_Mo_choose 47 = .ok (.getfield 99, 3) := by decide +kernel
theorem d_Mo_choose_50 : decode b_Mo_choose 50 = .ok (.iload 6, 2) := by decide +kernel
theorem d_Mo_choose_52 : decode b_Mo_choose 52 = .ok (.if_icmp .le 7, 3) := by decide +kernel
theorem d_Mo_choose_55 : decode b_Mo_choose 55 = .ok (.iconst 1, 1) := by decide +kernel
theorem d_Mo_choose_56 : decode b_Mo_choose 56 = .ok (.goto 4, 3) := by decide +kernel
theorem d_Mo_choose_59 : decode b_Mo_choose 59 = .ok (.iconst 0, 1) := by decide +kernel
theorem d_Mo_choose_60 : decode b_Mo_choose 60 = .ok (.istore 8, 2) := by decide +kernel
theorem d_Mo_choose_62 : decode b_Mo_choose 62 = .ok (.aload_n 0, 1) := by decide +kernel
theorem d_Mo_choose_63 : decode b_Mo_choose 63 = .ok (.getfield 99, 3) := by decide +kernel
theorem d_Mo_choose_66 : decode b_Mo_choose 66 = .ok (.iload_n 2, 1) := by decide +kernel
theorem d_Mo_choose_67 : decode b_Mo_choose 67 = .ok (.if_icmp .gt 20, 3) := by decide +kernel
theorem d_Mo_choose_70 : decode b_Mo_choose 70 = .ok (.iload 8, 2) := by decide +kernel
theorem d_Mo_choose_72 : decode b_Mo_choose 72 = .ok (.ifCond .eq 15, 3) := by decide +kernel
theorem d_Mo_choose_75 : decode b_Mo_choose 75 = .ok (.aload_n 0, 1) := by decide +kernel
theorem d_Mo_choose_76 : decode b_Mo_choose 76 = .ok (.getfield 95, 3) := by decide +kernel
theorem d_Mo_choose_79 : decode b_Mo_choose 79 = .ok (.lstore 4, 2) := by decide +kernel
theorem d_Mo_choose_81 : decode b_Mo_choose 81 = .ok (.aload_n 0, 1) := by decide +kernel
theorem d_Mo_choose_82 : decode b_Mo_choose 82 = .ok (.getfield 99, 3) := by decide +kernel
theorem d_Mo_choose_85 : decode b_Mo_choose 85 = .ok (.istore 6, 2) := by decide +kernel
theorem d_Mo_choose_87 : decode b_Mo_choose 87 = .ok (.aload_n 0, 1) := by decide +kernel
theorem d_Mo_choose_88 : decode b_Mo_choose 88 = .ok (.iload_n 1, 1) := by decide +kernel
theorem d_Mo_choose_89 : decode b_Mo_choose 89 = .ok (.aload_n 0, 1) := by decide +kernel
theorem d_Mo_choose_90 : decode b_Mo_choose 90 = .ok (.invokevirtual 119, 3) := by decide +kernel
theorem d_Mo_choose_93 : decode b_Mo_choose 93 = .ok (.invokevirtual 115, 3) := by decide +kernel
theorem d_Mo_choose_96 : decode b_Mo_choose 96 = .ok (.istore 7, 2) := by decide +kernel
theorem d_Mo_choose_98 : decode b_Mo_choose 98 = .ok (.goto (-78), 3) := by decide +kernel
theorem d_Mo_choose_101 : decode b_Mo_choose 101 = .ok (.aload_n 0, 1) := by decide +kernel
theorem d_Mo_choose_102 : decode b_Mo_choose 102 = .ok (.lload 4, 2) := by decide +kernel
theorem d_Mo_choose_104 : decode b_Mo_choose 104 = .ok (.putfield 95, 3) := by decide +kernel
theorem d_Mo_choose_107 : decode b_Mo_choose 107 = .ok (.aload_n 0, 1) := by decide +kernel
theorem d_Mo_choose_108 : decode b_Mo_choose 108 = .ok (.iload 6, 2) := by decide +kernel
theorem d_Mo_choose_110 : decode b_Mo_choose 110 = .ok (.putfield 99, 3) := by decide +kernel
theorem d_Mo_choose_113 : decode b_Mo_choose 113 = .ok (.iload 6, 2) := by decide +kernel
theorem d_Mo_choose_115 : decode b_Mo_choose 115 = .ok (.ifCond .lt 7, 3) := by decide +kernel
theorem d_Mo_choose_118 : decode b_Mo_choose 118 = .ok (.iconst 1, 1) := by decide +kernel
theorem d_Mo_choose_119 : decode b_Mo_choose 119 = .ok (.goto 4, 3) := by decide +kernel
theorem d_Mo_choose_122 : decode b_Mo_choose 122 = .ok (.iconst 0, 1) := by decide +kernel
theorem d_Mo_choose_123 : decode b_Mo_choose 123 = .ok (.ireturn, 1) := by decide +kernel
theorem d_Mo_belowWrong_0 : decode b_Mo_belowWrong 0 = .ok (.aload_n 0, 1) := by decide +kernel
theorem d_Mo_belowWrong_1 : decode b_Mo_belowWrong 1 = .ok (.iload_n 1, 1) := by decide +kernel
theorem d_Mo_belowWrong_2 : decode b_Mo_belowWrong 2 = .ok (.iload_n 2, 1) := by decide +kernel
theorem d_Mo_belowWrong_3 : decode b_Mo_belowWrong 3 = .ok (.invokevirtual 123, 3) := by decide +kernel
theorem d_Mo_belowWrong_6 : decode b_Mo_belowWrong 6 = .ok (.ifCond .eq 15, 3) := by decide +kernel
theorem d_Mo_belowWrong_9 : decode b_Mo_belowWrong 9 = .ok (.aload_n 0, 1) := by decide +kernel
theorem d_Mo_belowWrong_10 : decode b_Mo_belowWrong 10 = .ok (.getfield 28, 3) := by decide +kernel
theorem d_Mo_belowWrong_13 : decode b_Mo_belowWrong 13 = .ok (.iload_n 1, 1) := by decide +kernel
theorem d_Mo_belowWrong_14 : decode b_Mo_belowWrong 14 = .ok (.iload_n 2, 1) := by decide +kernel
theorem d_Mo_belowWrong_15 : decode b_Mo_belowWrong 15 = .ok (.iadd, 1) := by decide +kernel
theorem d_Mo_belowWrong_16 : decode b_Mo_belowWrong 16 = .ok (.iaload, 1) := by decide +kernel
theorem d_Mo_belowWrong_17 : decode b_Mo_belowWrong 17 = .ok (.iconst 1, 1) := by decide +kernel
theorem d_Mo_belowWrong_18 : decode b_Mo_belowWrong 18 = .ok (.if_icmp .eq 6, 3) := by decide +kernel
theorem d_Mo_belowWrong_21 : decode b_Mo_belowWrong 21 = .ok (.bipush (-5), 2) := by decide +kernel
theorem d_Mo_belowWrong_23 : decode b_Mo_belowWrong 23 = .ok (.ireturn, 1) := by decide +kernel
theorem d_Mo_belowWrong_24 : decode b_Mo_belowWrong 24 = .ok (.iload_n 3, 1) := by decide +kernel
theorem d_Mo_belowWrong_25 : decode b_Mo_belowWrong 25 = .ok (.ifCond .ne 8, 3) := by decide +kernel
theorem d_Mo_belowWrong_28 : decode b_Mo_belowWrong 28 = .ok (.bipush (-2), 2) := by decide +kernel
theorem d_Mo_belowWrong_30 : decode b_Mo_belowWrong 30 = .ok (.goto 42, 3) := by decide +kernel
theorem d_Mo_belowWrong_33 : decode b_Mo_belowWrong 33 = .ok (.aload_n 0, 1) := by decide +kernel
theorem d_Mo_belowWrong_34 : decode b_Mo_belowWrong 34 = .ok (.getfield 22, 3) := by decide +kernel
theorem d_Mo_belowWrong_37 : decode b_Mo_belowWrong 37 = .ok (.iload_n 1, 1) := by decide +kernel
theorem d_Mo_belowWrong_38 : decode b_Mo_belowWrong 38 = .ok (.iload_n 2, 1) := by decide +kernel
theorem d_Mo_belowWrong_39 : decode b_Mo_belowWrong 39 = .ok (.iadd, 1) := by decide +kernel
theorem d_Mo_belowWrong_40 : decode b_Mo_belowWrong 40 = .ok (.iaload, 1) := by decide +kernel
theorem d_Mo_belowWrong_41 : decode b_Mo_belowWrong 41 = .ok (.iconst 4, 1) := by decide +kernel
theorem d_Mo_belowWrong_42 : decode b_Mo_belowWrong 42 = .ok (.if_icmp .ne 8, 3) := by decide +kernel
theorem d_Mo_belowWrong_45 : decode b_Mo_belowWrong 45 = .ok (.bipush (-6), 2) := by decide +kernel
theorem d_Mo_belowWrong_47 : decode b_Mo_belowWrong 47 = .ok (.goto 25, 3) := by decide +kernel
theorem d_Mo_belowWrong_50 : decode b_Mo_belowWrong 50 = .ok (.aload_n 0, 1) := by decide +kernel
theorem d_Mo_belowWrong_51 : decode b_Mo_belowWrong 51 = .ok (.getfield 7, 3) := by decide +kernel
theorem d_Mo_belowWrong_54 : decode b_Mo_belowWrong 54 = .ok (.iload_n 1, 1) := by decide +kernel
theorem d_Mo_belowWrong_55 : decode b_Mo_belowWrong 55 = .ok (.sipush 200, 3) := by decide +kernel
theorem d_Mo_belowWrong_58 : decode b_Mo_belowWrong 58 = .ok (.idiv, 1) := by decide +kernel
theorem d_Mo_belowWrong_59 : decode b_Mo_belowWrong 59 = .ok (.iaload, 1) := by decide +kernel
theorem d_Mo_belowWrong_60 : decode b_Mo_belowWrong 60 = .ok (.sipush 200, 3) := by decide +kernel
theorem d_Mo_belowWrong_63 : decode b_Mo_belowWrong 63 = .ok (.if_icmp .ne 8, 3) := by decide +kernel
theorem d_Mo_belowWrong_66 : decode b_Mo_belowWrong 66 = .ok (.bipush (-3), 2) := by decide +kernel
theorem d_Mo_belowWrong_68 : decode b_Mo_belowWrong 68 = .ok (.goto 4, 3) := by decide +kernel
theorem d_Mo_belowWrong_71 : decode b_Mo_belowWrong 71 = .ok (.iconst 0, 1) := by decide +kernel
theorem d_Mo_belowWrong_72 : decode b_Mo_belowWrong 72 = .ok (.ireturn, 1) := by decide +kernel
theorem d_Mo_askWrong_0 : decode b_Mo_askWrong 0 = .ok (.aload_n 0, 1) := by decide +kernel
theorem d_Mo_askWrong_1 : decode b_Mo_askWrong 1 = .ok (.iload_n 1, 1) := by decide +kernel
theorem d_Mo_askWrong_2 : decode b_Mo_askWrong 2 = .ok (.iload_n 2, 1) := by decide +kernel
theorem d_Mo_askWrong_3 : decode b_Mo_askWrong 3 = .ok (.invokevirtual 123, 3) := by decide +kernel
theorem d_Mo_askWrong_6 : decode b_Mo_askWrong 6 = .ok (.ifCond .eq 25, 3) := by decide +kernel
theorem d_Mo_askWrong_9 : decode b_Mo_askWrong 9 = .ok (.iload_n 3, 1) := by decide +kernel
theorem d_Mo_askWrong_10 : decode b_Mo_askWrong 10 = .ok (.aload_n 0, 1) := by decide +kernel
theorem d_Mo_askWrong_11 : decode b_Mo_askWrong 11 = .ok (.getfield 16, 3) := by decide +kernel
theorem d_Mo_askWrong_14 : decode b_Mo_askWrong 14 = .ok (.iload_n 1, 1) := by decide +kernel
theorem d_Mo_askWrong_15 : decode b_Mo_askWrong 15 = .ok (.iload_n 2, 1) := by decide +kernel
theorem d_Mo_askWrong_16 : decode b_Mo_askWrong 16 = .ok (.iadd, 1) := by decide +kernel
theorem d_Mo_askWrong_17 : decode b_Mo_askWrong 17 = .ok (.iaload, 1) := by decide +kernel
theorem d_Mo_askWrong_18 : decode b_Mo_askWrong 18 = .ok (.if_icmp .le 13, 3) := by decide +kernel
theorem d_Mo_askWrong_21 : decode b_Mo_askWrong 21 = .ok (.iload_n 3, 1) := by decide +kernel
theorem d_Mo_askWrong_22 : decode b_Mo_askWrong 22 = .ok (.bipush 32, 2) := by decide +kernel
theorem d_Mo_askWrong_24 : decode b_Mo_askWrong 24 = .ok (.if_icmp .gt 7, 3) := by decide +kernel
theorem d_Mo_askWrong_27 : decode b_Mo_askWrong 27 = .ok (.iconst 1, 1) := by decide +kernel
theorem d_Mo_askWrong_28 : decode b_Mo_askWrong 28 = .ok (.goto 4, 3) := by decide +kernel
theorem d_Mo_askWrong_31 : decode b_Mo_askWrong 31 = .ok (.iconst 0, 1) := by decide +kernel
theorem d_Mo_askWrong_32 : decode b_Mo_askWrong 32 = .ok (.istore 5, 2) := by decide +kernel
theorem d_Mo_askWrong_34 : decode b_Mo_askWrong 34 = .ok (.aload_n 0, 1) := by decide +kernel
theorem d_Mo_askWrong_35 : decode b_Mo_askWrong 35 = .ok (.iload_n 1, 1) := by decide +kernel
theorem d_Mo_askWrong_36 : decode b_Mo_askWrong 36 = .ok (.iload_n 2, 1) := by decide +kernel
theorem d_Mo_askWrong_37 : decode b_Mo_askWrong 37 = .ok (.iload 5, 2) := by decide +kernel
theorem d_Mo_askWrong_39 : decode b_Mo_askWrong 39 = .ok (.invokevirtual 126, 3) := by decide +kernel
theorem d_Mo_askWrong_42 : decode b_Mo_askWrong 42 = .ok (.istore 6, 2) := by decide +kernel
theorem d_Mo_askWrong_44 : decode b_Mo_askWrong 44 = .ok (.iload 6, 2) := by decide +kernel
theorem d_Mo_askWrong_46 : decode b_Mo_askWrong 46 = .ok (.ifCond .ge 6, 3) := by decide +kernel
theorem d_Mo_askWrong_49 : decode b_Mo_askWrong 49 = .ok (.iload 6, 2) := by decide +kernel
theorem d_Mo_askWrong_51 : decode b_Mo_askWrong 51 = .ok (.ireturn, 1) := by decide +kernel
theorem d_Mo_askWrong_52 : decode b_Mo_askWrong 52 = .ok (.aload_n 0, 1) := by decide +kernel
theorem d_Mo_askWrong_53 : decode b_Mo_askWrong 53 = .ok (.iload_n 1, 1) := by decide +kernel
theorem d_Mo_askWrong_54 : decode b_Mo_askWrong 54 = .ok (.iload_n 1, 1) := by decide +kernel
theorem d_Mo_askWrong_55 : decode b_Mo_askWrong 55 = .ok (.iload_n 2, 1) := by decide +kernel
theorem d_Mo_askWrong_56 : decode b_Mo_askWrong 56 = .ok (.iadd, 1) := by decide +kernel
theorem d_Mo_askWrong_57 : decode b_Mo_askWrong 57 = .ok (.invokevirtual 130, 3) := by decide +kernel
theorem d_Mo_askWrong_60 : decode b_Mo_askWrong 60 = .ok (.ifCond .ne 6, 3) := by decide +kernel
theorem d_Mo_askWrong_63 : decode b_Mo_askWrong 63 = .ok (.bipush (-4), 2) := by decide +kernel
theorem d_Mo_askWrong_65 : decode b_Mo_askWrong 65 = .ok (.ireturn, 1) := by decide +kernel
theorem d_Mo_askWrong_66 : decode b_Mo_askWrong 66 = .ok (.aload_n 0, 1) := by decide +kernel
theorem d_Mo_askWrong_67 : decode b_Mo_askWrong 67 = .ok (.iload_n 1, 1) := by decide +kernel
theorem d_Mo_askWrong_68 : decode b_Mo_askWrong 68 = .ok (.iload_n 2, 1) := by decide +kernel
theorem d_Mo_askWrong_69 : decode b_Mo_askWrong 69 = .ok (.iadd, 1) := by decide +kernel
theorem d_Mo_askWrong_70 : decode b_Mo_askWrong 70 = .ok (.iload_n 3, 1) := by decide +kernel
theorem d_Mo_askWrong_71 : decode b_Mo_askWrong 71 = .ok (.iload 4, 2) := by decide +kernel
theorem d_Mo_askWrong_73 : decode b_Mo_askWrong 73 = .ok (.invokevirtual 133, 3) := by decide +kernel
theorem d_Mo_askWrong_76 : decode b_Mo_askWrong 76 = .ok (.ifCond .eq 7, 3) := by decide +kernel
theorem d_Mo_askWrong_79 : decode b_Mo_askWrong 79 = .ok (.iconst 0, 1) := by decide +kernel
theorem d_Mo_askWrong_80 : decode b_Mo_askWrong 80 = .ok (.goto 4, 3) := by decide +kernel
theorem d_Mo_askWrong_83 : decode b_Mo_askWrong 83 = .ok (.iconst (-1), 1) := by decide +kernel
theorem d_Mo_askWrong_84 : decode b_Mo_askWrong 84 = .ok (.ireturn, 1) := by decide +kernel
theorem d_Mo_reserveWrong_0 : decode b_Mo_reserveWrong 0 = .ok (.aload_n 0, 1) := by decide +kernel
theorem d_Mo_reserveWrong_1 : decode b_Mo_reserveWrong 1 = .ok (.iload_n 1, 1) := by decide +kernel
theorem d_Mo_reserveWrong_2 : decode b_Mo_reserveWrong 2 = .ok (.iload_n 2, 1) := by decide +kernel
theorem d_Mo_reserveWrong_3 : decode b_Mo_reserveWrong 3 = .ok (.invokevirtual 123, 3) := by decide +kernel
theorem d_Mo_reserveWrong_6 : decode b_Mo_reserveWrong 6 = .ok (.ifCond .eq 27, 3) := by decide +kernel
theorem d_Mo_reserveWrong_9 : decode b_Mo_reserveWrong 9 = .ok (.iload 4, 2) := by decide +kernel
theorem d_Mo_reserveWrong_11 : decode b_Mo_reserveWrong 11 = .ok (.aload_n 0, 1) := by decide +kernel
theorem d_Mo_reserveWrong_12 : decode b_Mo_reserveWrong 12 = .ok (.getfield 16, 3) := by decide +kernel
theorem d_Mo_reserveWrong_15 : decode b_Mo_reserveWrong 15 = .ok (.iload_n 1, 1) := by decide +kernel
theorem d_Mo_reserveWrong_16 : decode b_Mo_reserveWrong 16 = .ok (.iload_n 2, 1) := by decide +kernel
theorem d_Mo_reserveWrong_17 : decode b_Mo_reserveWrong 17 = .ok (.iadd, 1) := by decide +kernel
theorem d_Mo_reserveWrong_18 : decode b_Mo_reserveWrong 18 = .ok (.iaload, 1) := by decide +kernel
theorem d_Mo_reserveWrong_19 : decode b_Mo_reserveWrong 19 = .ok (.if_icmp .le 14, 3) := by decide +kernel
theorem d_Mo_reserveWrong_22 : decode b_Mo_reserveWrong 22 = .ok (.iload 4, 2) := by decide +kernel
theorem d_Mo_reserveWrong_24 : decode b_Mo_reserveWrong 24 = .ok (.bipush 32, 2) := by decide +kernel
theorem d_Mo_reserveWrong_26 : decode b_Mo_reserveWrong 26 = .ok (.if_icmp .gt 7, 3) := by decide +kernel
theorem d_Mo_reserveWrong_29 : decode b_Mo_reserveWrong 29 = .ok (.iconst 1, 1) := by decide +kernel
theorem d_Mo_reserveWrong_30 : decode b_Mo_reserveWrong 30 = .ok (.goto 4, 3) := by decide +kernel
theorem d_Mo_reserveWrong_33 : decode b_Mo_reserveWrong 33 = .ok (.iconst 0, 1) := by decide +kernel
theorem d_Mo_reserveWrong_34 : decode b_Mo_reserveWrong 34 = .ok (.istore 5, 2) := by decide +kernel
theorem d_Mo_reserveWrong_36 : decode b_Mo_reserveWrong 36 = .ok (.iload 5, 2) := by decide +kernel
theorem d_Mo_reserveWrong_38 : decode b_Mo_reserveWrong 38 = .ok (.ifCond .eq 44, 3) := by decide +kernel
theorem d_Mo_reserveWrong_41 : decode b_Mo_reserveWrong 41 = .ok (.iload_n 3, 1) := by decide +kernel
theorem d_Mo_reserveWrong_42 : decode b_Mo_reserveWrong 42 = .ok (.iload 4, 2) := by decide +kernel
theorem d_Mo_reserveWrong_44 : decode b_Mo_reserveWrong 44 = .ok (.invokestatic 59, 3) := by decide +kernel
theorem d_Mo_reserveWrong_47 : decode b_Mo_reserveWrong 47 = .ok (.iconst (-1), 1) := by decide +kernel
theorem d_Mo_reserveWrong_48 : decode b_Mo_reserveWrong 48 = .ok (.ixor, 1) := by decide +kernel
theorem d_Mo_reserveWrong_49 : decode b_Mo_reserveWrong 49 = .ok (.iand, 1) := by decide +kernel
theorem d_Mo_reserveWrong_50 : decode b_Mo_reserveWrong 50 = .ok (.ifCond .ne 32, 3) := by decide +kernel
theorem d_Mo_reserveWrong_53 : decode b_Mo_reserveWrong 53 = .ok (.iload_n 3, 1) := by decide +kernel
theorem d_Mo_reserveWrong_54 : decode b_Mo_reserveWrong 54 = .ok (.iload 4, 2) := by decide +kernel
theorem d_Mo_reserveWrong_56 : decode b_Mo_reserveWrong 56 = .ok (.aload_n 0, 1) := by decide +kernel
theorem d_Mo_reserveWrong_57 : decode b_Mo_reserveWrong 57 = .ok (.getfield 13, 3) := by decide +kernel
theorem d_Mo_reserveWrong_60 : decode b_Mo_reserveWrong 60 = .ok (.iload_n 1, 1) := by decide +kernel
theorem d_Mo_reserveWrong_61 : decode b_Mo_reserveWrong 61 = .ok (.iload_n 2, 1) := by decide +kernel
theorem d_Mo_reserveWrong_62 : decode b_Mo_reserveWrong 62 = .ok (.iadd, 1) := by decide +kernel
theorem d_Mo_reserveWrong_63 : decode b_Mo_reserveWrong 63 = .ok (.iaload, 1) := by decide +kernel
theorem d_Mo_reserveWrong_64 : decode b_Mo_reserveWrong 64 = .ok (.aload_n 0, 1) := by decide +kernel
theorem d_Mo_reserveWrong_65 : decode b_Mo_reserveWrong 65 = .ok (.getfield 16, 3) := by decide +kernel
theorem d_Mo_reserveWrong_68 : decode b_Mo_reserveWrong 68 = .ok (.iload_n 1, 1) := by decide +kernel
theorem d_Mo_reserveWrong_69 : decode b_Mo_reserveWrong 69 = .ok (.iload_n 2, 1) := by decide +kernel
theorem d_Mo_reserveWrong_70 : decode b_Mo_reserveWrong 70 = .ok (.iadd, 1) := by decide +kernel
theorem d_Mo_reserveWrong_71 : decode b_Mo_reserveWrong 71 = .ok (.iaload, 1) := by decide +kernel
theorem d_Mo_reserveWrong_72 : decode b_Mo_reserveWrong 72 = .ok (.invokestatic 77, 3) := by decide +kernel
theorem d_Mo_reserveWrong_75 : decode b_Mo_reserveWrong 75 = .ok (.ifCond .eq 7, 3) := by decide +kernel
theorem d_Mo_reserveWrong_78 : decode b_Mo_reserveWrong 78 = .ok (.iconst 1, 1) := by decide +kernel
theorem d_Mo_reserveWrong_79 : decode b_Mo_reserveWrong 79 = .ok (.goto 4, 3) := by decide +kernel
theorem d_Mo_reserveWrong_82 : decode b_Mo_reserveWrong 82 = .ok (.iconst 0, 1) := by decide +kernel
theorem d_Mo_reserveWrong_83 : decode b_Mo_reserveWrong 83 = .ok (.istore 5, 2) := by decide +kernel
theorem d_Mo_reserveWrong_85 : decode b_Mo_reserveWrong 85 = .ok (.aload_n 0, 1) := by decide +kernel
theorem d_Mo_reserveWrong_86 : decode b_Mo_reserveWrong 86 = .ok (.iload_n 1, 1) := by decide +kernel
theorem d_Mo_reserveWrong_87 : decode b_Mo_reserveWrong 87 = .ok (.iload_n 2, 1) := by decide +kernel
theorem d_Mo_reserveWrong_88 : decode b_Mo_reserveWrong 88 = .ok (.iload 5, 2) := by decide +kernel
theorem d_Mo_reserveWrong_90 : decode b_Mo_reserveWrong 90 = .ok (.invokevirtual 126, 3) := by decide +kernel
theorem d_Mo_reserveWrong_93 : decode b_Mo_reserveWrong 93 = .ok (.istore 6, 2) := by decide +kernel
theorem d_Mo_reserveWrong_95 : decode b_Mo_reserveWrong 95 = .ok (.iload 6, 2) := by decide +kernel
theorem d_Mo_reserveWrong_97 : decode b_Mo_reserveWrong 97 = .ok (.ifCond .ge 8, 3) := by decide +kernel
theorem d_Mo_reserveWrong_100 : decode b_Mo_reserveWrong 100 = .ok (.iload 6, 2) := by decide +kernel
theorem d_Mo_reserveWrong_102 : decode b_Mo_reserveWrong 102 = .ok (.goto 21, 3) := by decide +kernel
theorem d_Mo_reserveWrong_105 : decode b_Mo_reserveWrong 105 = .ok (.aload_n 0, 1) := by decide +kernel
theorem d_Mo_reserveWrong_106 : decode b_Mo_reserveWrong 106 = .ok (.iload_n 1, 1) := by decide +kernel
theorem d_Mo_reserveWrong_107 : decode b_Mo_reserveWrong 107 = .ok (.iload_n 2, 1) := by decide +kernel
theorem d_Mo_reserveWrong_108 : decode b_Mo_reserveWrong 108 = .ok (.iadd, 1) := by decide +kernel
theorem d_Mo_reserveWrong_109 : decode b_Mo_reserveWrong 109 = .ok (.iload_n 3, 1) := by decide +kernel
theorem d_Mo_reserveWrong_110 : decode b_Mo_reserveWrong 110 = .ok (.iload 4, 2) := by decide +kernel
theorem d_Mo_reserveWrong_112 : decode b_Mo_reserveWrong 112 = .ok (.invokevirtual 91, 3) := by decide +kernel
theorem d_Mo_reserveWrong_115 : decode b_Mo_reserveWrong 115 = .ok (.ifCond .eq 7, 3) := by decide +kernel
theorem d_Mo_reserveWrong_118 : decode b_Mo_reserveWrong 118 = .ok (.iconst 0, 1) := by decide +kernel
theorem d_Mo_reserveWrong_119 : decode b_Mo_reserveWrong 119 = .ok (.goto 4, 3) := by decide +kernel
theorem d_Mo_reserveWrong_122 : decode b_Mo_reserveWrong 122 = .ok (.iconst (-1), 1) := by decide +kernel
theorem d_Mo_reserveWrong_123 : decode b_Mo_reserveWrong 123 = .ok (.ireturn, 1) := by decide +kernel
theorem d_Mo_hasLive_0 : decode b_Mo_hasLive 0 = .ok (.iconst 0, 1) := by decide +kernel
theorem d_Mo_hasLive_1 : decode b_Mo_hasLive 1 = .ok (.istore_n 2, 1) := by decide +kernel
theorem d_Mo_hasLive_2 : decode b_Mo_hasLive 2 = .ok (.aload_n 0, 1) := by decide +kernel
theorem d_Mo_hasLive_3 : decode b_Mo_hasLive 3 = .ok (.iload_n 1, 1) := by decide +kernel
theorem d_Mo_hasLive_4 : decode b_Mo_hasLive 4 = .ok (.invokevirtual 67, 3) := by decide +kernel
theorem d_Mo_hasLive_7 : decode b_Mo_hasLive 7 = .ok (.istore_n 3, 1) := by decide +kernel
theorem d_Mo_hasLive_8 : decode b_Mo_hasLive 8 = .ok (.iload_n 3, 1) := by decide +kernel
theorem d_Mo_hasLive_9 : decode b_Mo_hasLive 9 = .ok (.aload_n 0, 1) := by decide +kernel
theorem d_Mo_hasLive_10 : decode b_Mo_hasLive 10 = .ok (.iload_n 1, 1) := by decide +kernel
theorem d_Mo_hasLive_11 : decode b_Mo_hasLive 11 = .ok (.invokevirtual 70, 3) := by decide +kernel
theorem d_Mo_hasLive_14 : decode b_Mo_hasLive 14 = .ok (.if_icmp .ge 28, 3) := by decide +kernel
theorem d_Mo_hasLive_17 : decode b_Mo_hasLive 17 = .ok (.iload_n 2, 1) := by decide +kernel
theorem d_Mo_hasLive_18 : decode b_Mo_hasLive 18 = .ok (.ifCond .ne 12, 3) := by decide +kernel
theorem d_Mo_hasLive_21 : decode b_Mo_hasLive 21 = .ok (.aload_n 0, 1) := by decide +kernel
theorem d_Mo_hasLive_22 : decode b_Mo_hasLive 22 = .ok (.iload_n 3, 1) := by decide +kernel
theorem d_Mo_hasLive_23 : decode b_Mo_hasLive 23 = .ok (.iload_n 1, 1) := by decide +kernel
theorem d_Mo_hasLive_24 : decode b_Mo_hasLive 24 = .ok (.invokevirtual 73, 3) := by decide +kernel
theorem d_Mo_hasLive_27 : decode b_Mo_hasLive 27 = .ok (.ifCond .eq 7, 3) := by decide +kernel
theorem d_Mo_hasLive_30 : decode b_Mo_hasLive 30 = .ok (.iconst 1, 1) := by decide +kernel
theorem d_Mo_hasLive_31 : decode b_Mo_hasLive 31 = .ok (.goto 4, 3) := by decide +kernel
theorem d_Mo_hasLive_34 : decode b_Mo_hasLive 34 = .ok (.iconst 0, 1) := by decide +kernel
theorem d_Mo_hasLive_35 : decode b_Mo_hasLive 35 = .ok (.istore_n 2, 1) := by decide +kernel
theorem d_Mo_hasLive_36 : decode b_Mo_hasLive 36 = .ok (.iinc 3 1, 3) := by decide +kernel
theorem d_Mo_hasLive_39 : decode b_Mo_hasLive 39 = .ok (.goto (-31), 3) := by decide +kernel
theorem d_Mo_hasLive_42 : decode b_Mo_hasLive 42 = .ok (.iload_n 2, 1) := by decide +kernel
theorem d_Mo_hasLive_43 : decode b_Mo_hasLive 43 = .ok (.ireturn, 1) := by decide +kernel
theorem d_Mo_backWrong_0 : decode b_Mo_backWrong 0 = .ok (.aload_n 0, 1) := by decide +kernel
theorem d_Mo_backWrong_1 : decode b_Mo_backWrong 1 = .ok (.iload_n 1, 1) := by decide +kernel
theorem d_Mo_backWrong_2 : decode b_Mo_backWrong 2 = .ok (.iload_n 2, 1) := by decide +kernel
theorem d_Mo_backWrong_3 : decode b_Mo_backWrong 3 = .ok (.invokevirtual 123, 3) := by decide +kernel
theorem d_Mo_backWrong_6 : decode b_Mo_backWrong 6 = .ok (.ifCond .ne 5, 3) := by decide +kernel
theorem d_Mo_backWrong_9 : decode b_Mo_backWrong 9 = .ok (.iconst 1, 1) := by decide +kernel
theorem d_Mo_backWrong_10 : decode b_Mo_backWrong 10 = .ok (.ireturn, 1) := by decide +kernel
theorem d_Mo_backWrong_11 : decode b_Mo_backWrong 11 = .ok (.aload_n 0, 1) := by decide +kernel
theorem d_Mo_backWrong_12 : decode b_Mo_backWrong 12 = .ok (.getfield 28, 3) := by decide +kernel
theorem d_Mo_backWrong_15 : decode b_Mo_backWrong 15 = .ok (.iload_n 1, 1) := by decide +kernel
theorem d_Mo_backWrong_16 : decode b_Mo_backWrong 16 = .ok (.iload_n 2, 1) := by decide +kernel
theorem d_Mo_backWrong_17 : decode b_Mo_backWrong 17 = .ok (.iadd, 1) := by decide +kernel
theorem d_Mo_backWrong_18 : decode b_Mo_backWrong 18 = .ok (.iaload, 1) := by decide +kernel
theorem d_Mo_backWrong_19 : decode b_Mo_backWrong 19 = .ok (.istore_n 3, 1) := by decide +kernel
theorem d_Mo_backWrong_20 : decode b_Mo_backWrong 20 = .ok (.iload_n 3, 1) := by decide +kernel
theorem d_Mo_backWrong_21 : decode b_Mo_backWrong 21 = .ok (.iconst 1, 1) := by decide +kernel
theorem d_Mo_backWrong_22 : decode b_Mo_backWrong 22 = .ok (.if_icmp .eq 8, 3) := by decide +kernel
theorem d_Mo_backWrong_25 : decode b_Mo_backWrong 25 = .ok (.iload_n 3, 1) := by decide +kernel
theorem d_Mo_backWrong_26 : decode b_Mo_backWrong 26 = .ok (.iconst 2, 1) := by decide +kernel
theorem d_Mo_backWrong_27 : decode b_Mo_backWrong 27 = .ok (.if_icmp .ne 13, 3) := by decide +kernel
theorem d_Mo_backWrong_30 : decode b_Mo_backWrong 30 = .ok (.aload_n 0, 1) := by decide +kernel
theorem d_Mo_backWrong_31 : decode b_Mo_backWrong 31 = .ok (.iload_n 1, 1) := by decide +kernel
theorem d_Mo_backWrong_32 : decode b_Mo_backWrong 32 = .ok (.iload_n 2, 1) := by decide +kernel
theorem d_Mo_backWrong_33 : decode b_Mo_backWrong 33 = .ok (.iadd, 1) := by decide +kernel
theorem d_Mo_backWrong_34 : decode b_Mo_backWrong 34 = .ok (.invokevirtual 137, 3) := by decide +kernel
theorem d_Mo_backWrong_37 : decode b_Mo_backWrong 37 = .ok (.ifCond .eq 7, 3) := by decide +kernel
theorem d_Mo_backWrong_40 : decode b_Mo_backWrong 40 = .ok (.iconst 2, 1) := by decide +kernel
theorem d_Mo_backWrong_41 : decode b_Mo_backWrong 41 = .ok (.goto 4, 3) := by decide +kernel
theorem d_Mo_backWrong_44 : decode b_Mo_backWrong 44 = .ok (.iconst 0, 1) := by decide +kernel
theorem d_Mo_backWrong_45 : decode b_Mo_backWrong 45 = .ok (.ireturn, 1) := by decide +kernel
theorem d_Mo_returned_0 : decode b_Mo_returned 0 = .ok (.iload_n 1, 1) := by decide +kernel
theorem d_Mo_returned_1 : decode b_Mo_returned 1 = .ok (.iload_n 2, 1) := by decide +kernel
theorem d_Mo_returned_2 : decode b_Mo_returned 2 = .ok (.iadd, 1) := by decide +kernel
theorem d_Mo_returned_3 : decode b_Mo_returned 3 = .ok (.istore_n 3, 1) := by decide +kernel
theorem d_Mo_returned_4 : decode b_Mo_returned 4 = .ok (.aload_n 0, 1) := by decide +kernel
theorem d_Mo_returned_5 : decode b_Mo_returned 5 = .ok (.getfield 31, 3) := by decide +kernel
theorem d_Mo_returned_8 : decode b_Mo_returned 8 = .ok (.iload_n 3, 1) := by decide +kernel
theorem d_Mo_returned_9 : decode b_Mo_returned 9 = .ok (.aload_n 0, 1) := by decide +kernel
theorem d_Mo_returned_10 : decode b_Mo_returned 10 = .ok (.getfield 34, 3) := by decide +kernel
theorem d_Mo_returned_13 : decode b_Mo_returned 13 = .ok (.iload_n 1, 1) := by decide +kernel
theorem d_Mo_returned_14 : decode b_Mo_returned 14 = .ok (.sipush 200, 3) := by decide +kernel
theorem d_Mo_returned_17 : decode b_Mo_returned 17 = .ok (.idiv, 1) := by decide +kernel
theorem d_Mo_returned_18 : decode b_Mo_returned 18 = .ok (.iaload, 1) := by decide +kernel
theorem d_Mo_returned_19 : decode b_Mo_returned 19 = .ok (.aload_n 0, 1) := by decide +kernel
theorem d_Mo_returned_20 : decode b_Mo_returned 20 = .ok (.getfield 37, 3) := by decide +kernel
theorem d_Mo_returned_23 : decode b_Mo_returned 23 = .ok (.iload_n 1, 1) := by decide +kernel
theorem d_Mo_returned_24 : decode b_Mo_returned 24 = .ok (.sipush 200, 3) := by decide +kernel
theorem d_Mo_returned_27 : decode b_Mo_returned 27 = .ok (.idiv, 1) := by decide +kernel
theorem d_Mo_returned_28 : decode b_Mo_returned 28 = .ok (.iaload, 1) := by decide +kernel
theorem d_Mo_returned_29 : decode b_Mo_returned 29 = .ok (.iadd, 1) := by decide +kernel
theorem d_Mo_returned_30 : decode b_Mo_returned 30 = .ok (.iastore, 1) := by decide +kernel
theorem d_Mo_returned_31 : decode b_Mo_returned 31 = .ok (.aload_n 0, 1) := by decide +kernel
theorem d_Mo_returned_32 : decode b_Mo_returned 32 = .ok (.getfield 28, 3) := by decide +kernel
theorem d_Mo_returned_35 : decode b_Mo_returned 35 = .ok (.iload_n 3, 1) := by decide +kernel
theorem d_Mo_returned_36 : decode b_Mo_returned 36 = .ok (.aload_n 0, 1) := by decide +kernel
theorem d_Mo_returned_37 : decode b_Mo_returned 37 = .ok (.getfield 37, 3) := by decide +kernel
theorem d_Mo_returned_40 : decode b_Mo_returned 40 = .ok (.iload_n 1, 1) := by decide +kernel
theorem d_Mo_returned_41 : decode b_Mo_returned 41 = .ok (.sipush 200, 3) := by decide +kernel
theorem d_Mo_returned_44 : decode b_Mo_returned 44 = .ok (.idiv, 1) := by decide +kernel
theorem d_Mo_returned_45 : decode b_Mo_returned 45 = .ok (.iaload, 1) := by decide +kernel
theorem d_Mo_returned_46 : decode b_Mo_returned 46 = .ok (.ifCond .ne 7, 3) := by decide +kernel
theorem d_Mo_returned_49 : decode b_Mo_returned 49 = .ok (.iconst 4, 1) := by decide +kernel
theorem d_Mo_returned_50 : decode b_Mo_returned 50 = .ok (.goto 4, 3) := by decide +kernel
theorem d_Mo_returned_53 : decode b_Mo_returned 53 = .ok (.iconst 3, 1) := by decide +kernel
theorem d_Mo_returned_54 : decode b_Mo_returned 54 = .ok (.iastore, 1) := by decide +kernel
theorem d_Mo_returned_55 : decode b_Mo_returned 55 = .ok (.aload_n 0, 1) := by decide +kernel
theorem d_Mo_returned_56 : decode b_Mo_returned 56 = .ok (.getfield 31, 3) := by decide +kernel
theorem d_Mo_returned_59 : decode b_Mo_returned 59 = .ok (.iload_n 3, 1) := by decide +kernel
theorem d_Mo_returned_60 : decode b_Mo_returned 60 = .ok (.iaload, 1) := by decide +kernel
theorem d_Mo_returned_61 : decode b_Mo_returned 61 = .ok (.ireturn, 1) := by decide +kernel
theorem d_Mo_sibling_0 : decode b_Mo_sibling 0 = .ok (.iload_n 0, 1) := by decide +kernel
theorem d_Mo_sibling_1 : decode b_Mo_sibling 1 = .ok (.iconst 1, 1) := by decide +kernel
theorem d_Mo_sibling_2 : decode b_Mo_sibling 2 = .ok (.bipush 32, 2) := by decide +kernel
theorem d_Mo_sibling_4 : decode b_Mo_sibling 4 = .ok (.iload_n 1, 1) := by decide +kernel
theorem d_Mo_sibling_5 : decode b_Mo_sibling 5 = .ok (.isub, 1) := by decide +kernel
theorem d_Mo_sibling_6 : decode b_Mo_sibling 6 = .ok (.ishl, 1) := by decide +kernel
theorem d_Mo_sibling_7 : decode b_Mo_sibling 7 = .ok (.ixor, 1) := by decide +kernel
theorem d_Mo_sibling_8 : decode b_Mo_sibling 8 = .ok (.ireturn, 1) := by decide +kernel
theorem d_Mo_growWrong_0 : decode b_Mo_growWrong 0 = .ok (.aload_n 0, 1) := by decide +kernel
theorem d_Mo_growWrong_1 : decode b_Mo_growWrong 1 = .ok (.iload_n 1, 1) := by decide +kernel
theorem d_Mo_growWrong_2 : decode b_Mo_growWrong 2 = .ok (.iload_n 2, 1) := by decide +kernel
theorem d_Mo_growWrong_3 : decode b_Mo_growWrong 3 = .ok (.invokevirtual 123, 3) := by decide +kernel
theorem d_Mo_growWrong_6 : decode b_Mo_growWrong 6 = .ok (.ifCond .eq 26, 3) := by decide +kernel
theorem d_Mo_growWrong_9 : decode b_Mo_growWrong 9 = .ok (.aload_n 0, 1) := by decide +kernel
theorem d_Mo_growWrong_10 : decode b_Mo_growWrong 10 = .ok (.getfield 28, 3) := by decide +kernel
theorem d_Mo_growWrong_13 : decode b_Mo_growWrong 13 = .ok (.iload_n 1, 1) := by decide +kernel
theorem d_Mo_growWrong_14 : decode b_Mo_growWrong 14 = .ok (.iload_n 2, 1) := by decide +kernel
theorem d_Mo_growWrong_15 : decode b_Mo_growWrong 15 = .ok (.iadd, 1) := by decide +kernel
theorem d_Mo_growWrong_16 : decode b_Mo_growWrong 16 = .ok (.iaload, 1) := by decide +kernel
theorem d_Mo_growWrong_17 : decode b_Mo_growWrong 17 = .ok (.iconst 1, 1) := by decide +kernel
theorem d_Mo_growWrong_18 : decode b_Mo_growWrong 18 = .ok (.if_icmp .ne 14, 3) := by decide +kernel
theorem d_Mo_growWrong_21 : decode b_Mo_growWrong 21 = .ok (.aload_n 0, 1) := by decide +kernel
theorem d_Mo_growWrong_22 : decode b_Mo_growWrong 22 = .ok (.getfield 19, 3) := by decide +kernel
theorem d_Mo_growWrong_25 : decode b_Mo_growWrong 25 = .ok (.iload_n 1, 1) := by decide +kernel
theorem d_Mo_growWrong_26 : decode b_Mo_growWrong 26 = .ok (.iload_n 2, 1) := by decide +kernel
theorem d_Mo_growWrong_27 : decode b_Mo_growWrong 27 = .ok (.iadd, 1) := by decide +kernel
theorem d_Mo_growWrong_28 : decode b_Mo_growWrong 28 = .ok (.iaload, 1) := by decide +kernel
theorem d_Mo_growWrong_29 : decode b_Mo_growWrong 29 = .ok (.ifCond .ge 6, 3) := by decide +kernel
theorem d_Mo_growWrong_32 : decode b_Mo_growWrong 32 = .ok (.bipush (-5), 2) := by decide +kernel
theorem d_Mo_growWrong_34 : decode b_Mo_growWrong 34 = .ok (.ireturn, 1) := by decide +kernel
theorem d_Mo_growWrong_35 : decode b_Mo_growWrong 35 = .ok (.iload_n 1, 1) := by decide +kernel
theorem d_Mo_growWrong_36 : decode b_Mo_growWrong 36 = .ok (.iload_n 2, 1) := by decide +kernel
theorem d_Mo_growWrong_37 : decode b_Mo_growWrong 37 = .ok (.iadd, 1) := by decide +kernel
theorem d_Mo_growWrong_38 : decode b_Mo_growWrong 38 = .ok (.istore_n 3, 1) := by decide +kernel
theorem d_Mo_growWrong_39 : decode b_Mo_growWrong 39 = .ok (.aload_n 0, 1) := by decide +kernel
theorem d_Mo_growWrong_40 : decode b_Mo_growWrong 40 = .ok (.getfield 16, 3) := by decide +kernel
theorem d_Mo_growWrong_43 : decode b_Mo_growWrong 43 = .ok (.iload_n 3, 1) := by decide +kernel
theorem d_Mo_growWrong_44 : decode b_Mo_growWrong 44 = .ok (.iaload, 1) := by decide +kernel
theorem d_Mo_growWrong_45 : decode b_Mo_growWrong 45 = .ok (.aload_n 0, 1) := by decide +kernel
theorem d_Mo_growWrong_46 : decode b_Mo_growWrong 46 = .ok (.getfield 16, 3) := by decide +kernel
theorem d_Mo_growWrong_49 : decode b_Mo_growWrong 49 = .ok (.aload_n 0, 1) := by decide +kernel
theorem d_Mo_growWrong_50 : decode b_Mo_growWrong 50 = .ok (.getfield 19, 3) := by decide +kernel
theorem d_Mo_growWrong_53 : decode b_Mo_growWrong 53 = .ok (.iload_n 3, 1) := by decide +kernel
theorem d_Mo_growWrong_54 : decode b_Mo_growWrong 54 = .ok (.iaload, 1) := by decide +kernel
theorem d_Mo_growWrong_55 : decode b_Mo_growWrong 55 = .ok (.iaload, 1) := by decide +kernel
theorem d_Mo_growWrong_56 : decode b_Mo_growWrong 56 = .ok (.if_icmp .ne 6, 3) := by decide +kernel
theorem d_Mo_growWrong_59 : decode b_Mo_growWrong 59 = .ok (.bipush (-2), 2) := by decide +kernel
theorem d_Mo_growWrong_61 : decode b_Mo_growWrong 61 = .ok (.ireturn, 1) := by decide +kernel
theorem d_Mo_growWrong_62 : decode b_Mo_growWrong 62 = .ok (.aload_n 0, 1) := by decide +kernel
theorem d_Mo_growWrong_63 : decode b_Mo_growWrong 63 = .ok (.aload_n 0, 1) := by decide +kernel
theorem d_Mo_growWrong_64 : decode b_Mo_growWrong 64 = .ok (.getfield 19, 3) := by decide +kernel
theorem d_Mo_growWrong_67 : decode b_Mo_growWrong 67 = .ok (.iload_n 3, 1) := by decide +kernel
theorem d_Mo_growWrong_68 : decode b_Mo_growWrong 68 = .ok (.iaload, 1) := by decide +kernel
theorem d_Mo_growWrong_69 : decode b_Mo_growWrong 69 = .ok (.aload_n 0, 1) := by decide +kernel
theorem d_Mo_growWrong_70 : decode b_Mo_growWrong 70 = .ok (.getfield 13, 3) := by decide +kernel
theorem d_Mo_growWrong_73 : decode b_Mo_growWrong 73 = .ok (.iload_n 3, 1) := by decide +kernel
theorem d_Mo_growWrong_74 : decode b_Mo_growWrong 74 = .ok (.iaload, 1) := by decide +kernel
theorem d_Mo_growWrong_75 : decode b_Mo_growWrong 75 = .ok (.aload_n 0, 1) := by decide +kernel
theorem d_Mo_growWrong_76 : decode b_Mo_growWrong 76 = .ok (.getfield 16, 3) := by decide +kernel
theorem d_Mo_growWrong_79 : decode b_Mo_growWrong 79 = .ok (.iload_n 3, 1) := by decide +kernel
theorem d_Mo_growWrong_80 : decode b_Mo_growWrong 80 = .ok (.iaload, 1) := by decide +kernel
theorem d_Mo_growWrong_81 : decode b_Mo_growWrong 81 = .ok (.invokestatic 140, 3) := by decide +kernel
theorem d_Mo_growWrong_84 : decode b_Mo_growWrong 84 = .ok (.aload_n 0, 1) := by decide +kernel
theorem d_Mo_growWrong_85 : decode b_Mo_growWrong 85 = .ok (.getfield 16, 3) := by decide +kernel
theorem d_Mo_growWrong_88 : decode b_Mo_growWrong 88 = .ok (.iload_n 3, 1) := by decide +kernel
theorem d_Mo_growWrong_89 : decode b_Mo_growWrong 89 = .ok (.iaload, 1) := by decide +kernel
theorem d_Mo_growWrong_90 : decode b_Mo_growWrong 90 = .ok (.invokevirtual 91, 3) := by decide +kernel
theorem d_Mo_growWrong_93 : decode b_Mo_growWrong 93 = .ok (.ifCond .eq 7, 3) := by decide +kernel
theorem d_Mo_growWrong_96 : decode b_Mo_growWrong 96 = .ok (.iconst 0, 1) := by decide +kernel
theorem d_Mo_growWrong_97 : decode b_Mo_growWrong 97 = .ok (.goto 4, 3) := by decide +kernel
theorem d_Mo_growWrong_100 : decode b_Mo_growWrong 100 = .ok (.iconst (-1), 1) := by decide +kernel
theorem d_Mo_growWrong_101 : decode b_Mo_growWrong 101 = .ok (.ireturn, 1) := by decide +kernel
theorem d_Mo_grown_0 : decode b_Mo_grown 0 = .ok (.aload_n 0, 1) := by decide +kernel
theorem d_Mo_grown_1 : decode b_Mo_grown 1 = .ok (.getfield 16, 3) := by decide +kernel
theorem d_Mo_grown_4 : decode b_Mo_grown 4 = .ok (.iload_n 1, 1) := by decide +kernel
theorem d_Mo_grown_5 : decode b_Mo_grown 5 = .ok (.dup2, 1) := by decide +kernel
theorem d_Mo_grown_6 : decode b_Mo_grown 6 = .ok (.iaload, 1) := by decide +kernel
theorem d_Mo_grown_7 : decode b_Mo_grown 7 = .ok (.iconst 1, 1) := by decide +kernel
theorem d_Mo_grown_8 : decode b_Mo_grown 8 = .ok (.isub, 1) := by decide +kernel
theorem d_Mo_grown_9 : decode b_Mo_grown 9 = .ok (.iastore, 1) := by decide +kernel
theorem d_Mo_grown_10 : decode b_Mo_grown 10 = .ok (.aload_n 0, 1) := by decide +kernel
theorem d_Mo_grown_11 : decode b_Mo_grown 11 = .ok (.getfield 13, 3) := by decide +kernel
theorem d_Mo_grown_14 : decode b_Mo_grown 14 = .ok (.iload_n 1, 1) := by decide +kernel
theorem d_Mo_grown_15 : decode b_Mo_grown 15 = .ok (.aload_n 0, 1) := by decide +kernel
theorem d_Mo_grown_16 : decode b_Mo_grown 16 = .ok (.getfield 13, 3) := by decide +kernel
theorem d_Mo_grown_19 : decode b_Mo_grown 19 = .ok (.iload_n 1, 1) := by decide +kernel
theorem d_Mo_grown_20 : decode b_Mo_grown 20 = .ok (.iaload, 1) := by decide +kernel
theorem d_Mo_grown_21 : decode b_Mo_grown 21 = .ok (.aload_n 0, 1) := by decide +kernel
theorem d_Mo_grown_22 : decode b_Mo_grown 22 = .ok (.getfield 16, 3) := by decide +kernel
theorem d_Mo_grown_25 : decode b_Mo_grown 25 = .ok (.iload_n 1, 1) := by decide +kernel
theorem d_Mo_grown_26 : decode b_Mo_grown 26 = .ok (.iaload, 1) := by decide +kernel
theorem d_Mo_grown_27 : decode b_Mo_grown 27 = .ok (.invokestatic 59, 3) := by decide +kernel
theorem d_Mo_grown_30 : decode b_Mo_grown 30 = .ok (.iand, 1) := by decide +kernel
theorem d_Mo_grown_31 : decode b_Mo_grown 31 = .ok (.iastore, 1) := by decide +kernel
theorem d_Mo_grown_32 : decode b_Mo_grown 32 = .ok (.aload_n 0, 1) := by decide +kernel
theorem d_Mo_grown_33 : decode b_Mo_grown 33 = .ok (.getfield 16, 3) := by decide +kernel
theorem d_Mo_grown_36 : decode b_Mo_grown 36 = .ok (.iload_n 1, 1) := by decide +kernel
theorem d_Mo_grown_37 : decode b_Mo_grown 37 = .ok (.iaload, 1) := by decide +kernel
theorem d_Mo_grown_38 : decode b_Mo_grown 38 = .ok (.ireturn, 1) := by decide +kernel
theorem d_Mo_shrinkWrong_0 : decode b_Mo_shrinkWrong 0 = .ok (.aload_n 0, 1) := by decide +kernel
theorem d_Mo_shrinkWrong_1 : decode b_Mo_shrinkWrong 1 = .ok (.iload_n 1, 1) := by decide +kernel
theorem d_Mo_shrinkWrong_2 : decode b_Mo_shrinkWrong 2 = .ok (.iload_n 2, 1) := by decide +kernel
theorem d_Mo_shrinkWrong_3 : decode b_Mo_shrinkWrong 3 = .ok (.invokevirtual 123, 3) := by decide +kernel
theorem d_Mo_shrinkWrong_6 : decode b_Mo_shrinkWrong 6 = .ok (.ifCond .eq 26, 3) := by decide +kernel
theorem d_Mo_shrinkWrong_9 : decode b_Mo_shrinkWrong 9 = .ok (.aload_n 0, 1) := by decide +kernel
theorem d_Mo_shrinkWrong_10 : decode b_Mo_shrinkWrong 10 = .ok (.getfield 28, 3) := by decide +kernel
theorem d_Mo_shrinkWrong_13 : decode b_Mo_shrinkWrong 13 = .ok (.iload_n 1, 1) := by decide +kernel
theorem d_Mo_shrinkWrong_14 : decode b_Mo_shrinkWrong 14 = .ok (.iload_n 2, 1) := by decide +kernel
theorem d_Mo_shrinkWrong_15 : decode b_Mo_shrinkWrong 15 = .ok (.iadd, 1) := by decide +kernel
theorem d_Mo_shrinkWrong_16 : decode b_Mo_shrinkWrong 16 = .ok (.iaload, 1) := by decide +kernel
theorem d_Mo_shrinkWrong_17 : decode b_Mo_shrinkWrong 17 = .ok (.iconst 1, 1) := by decide +kernel
theorem d_Mo_shrinkWrong_18 : decode b_Mo_shrinkWrong 18 = .ok (.if_icmp .ne 14, 3) := by decide +kernel
theorem d_Mo_shrinkWrong_21 : decode b_Mo_shrinkWrong 21 = .ok (.aload_n 0, 1) := by decide +kernel
theorem d_Mo_shrinkWrong_22 : decode b_Mo_shrinkWrong 22 = .ok (.getfield 19, 3) := by decide +kernel
theorem d_Mo_shrinkWrong_25 : decode b_Mo_shrinkWrong 25 = .ok (.iload_n 1, 1) := by decide +kernel
theorem d_Mo_shrinkWrong_26 : decode b_Mo_shrinkWrong 26 = .ok (.iload_n 2, 1) := by decide +kernel
theorem d_Mo_shrinkWrong_27 : decode b_Mo_shrinkWrong 27 = .ok (.iadd, 1) := by decide +kernel
theorem d_Mo_shrinkWrong_28 : decode b_Mo_shrinkWrong 28 = .ok (.iaload, 1) := by decide +kernel
theorem d_Mo_shrinkWrong_29 : decode b_Mo_shrinkWrong 29 = .ok (.ifCond .ge 6, 3) := by decide +kernel
theorem d_Mo_shrinkWrong_32 : decode b_Mo_shrinkWrong 32 = .ok (.bipush (-5), 2) := by decide +kernel
theorem d_Mo_shrinkWrong_34 : decode b_Mo_shrinkWrong 34 = .ok (.ireturn, 1) := by decide +kernel
theorem d_Mo_shrinkWrong_35 : decode b_Mo_shrinkWrong 35 = .ok (.iload_n 1, 1) := by decide +kernel
theorem d_Mo_shrinkWrong_36 : decode b_Mo_shrinkWrong 36 = .ok (.iload_n 2, 1) := by decide +kernel
theorem d_Mo_shrinkWrong_37 : decode b_Mo_shrinkWrong 37 = .ok (.iadd, 1) := by decide +kernel
theorem d_Mo_shrinkWrong_38 : decode b_Mo_shrinkWrong 38 = .ok (.istore 4, 2) := by decide +kernel
theorem d_Mo_shrinkWrong_40 : decode b_Mo_shrinkWrong 40 = .ok (.aload_n 0, 1) := by decide +kernel
theorem d_Mo_shrinkWrong_41 : decode b_Mo_shrinkWrong 41 = .ok (.getfield 16, 3) := by decide +kernel
theorem d_Mo_shrinkWrong_44 : decode b_Mo_shrinkWrong 44 = .ok (.iload 4, 2) := by decide +kernel
theorem d_Mo_shrinkWrong_46 : decode b_Mo_shrinkWrong 46 = .ok (.iaload, 1) := by decide +kernel
theorem d_Mo_shrinkWrong_47 : decode b_Mo_shrinkWrong 47 = .ok (.bipush 32, 2) := by decide +kernel
theorem d_Mo_shrinkWrong_49 : decode b_Mo_shrinkWrong 49 = .ok (.if_icmp .ne 6, 3) := by decide +kernel
theorem d_Mo_shrinkWrong_52 : decode b_Mo_shrinkWrong 52 = .ok (.bipush (-2), 2) := by decide +kernel
theorem d_Mo_shrinkWrong_54 : decode b_Mo_shrinkWrong 54 = .ok (.ireturn, 1) := by decide +kernel
theorem d_Mo_shrinkWrong_55 : decode b_Mo_shrinkWrong 55 = .ok (.iload_n 3, 1) := by decide +kernel
theorem d_Mo_shrinkWrong_56 : decode b_Mo_shrinkWrong 56 = .ok (.ifCond .eq 13, 3) := by decide +kernel
theorem d_Mo_shrinkWrong_59 : decode b_Mo_shrinkWrong 59 = .ok (.aload_n 0, 1) := by decide +kernel
theorem d_Mo_shrinkWrong_60 : decode b_Mo_shrinkWrong 60 = .ok (.getfield 13, 3) := by decide +kernel
theorem d_Mo_shrinkWrong_63 : decode b_Mo_shrinkWrong 63 = .ok (.iload 4, 2) := by decide +kernel
theorem d_Mo_shrinkWrong_65 : decode b_Mo_shrinkWrong 65 = .ok (.iaload, 1) := by decide +kernel
theorem d_Mo_shrinkWrong_66 : decode b_Mo_shrinkWrong 66 = .ok (.goto 22, 3) := by decide +kernel
theorem d_Mo_shrinkWrong_69 : decode b_Mo_shrinkWrong 69 = .ok (.aload_n 0, 1) := by decide +kernel
theorem d_Mo_shrinkWrong_70 : decode b_Mo_shrinkWrong 70 = .ok (.getfield 13, 3) := by decide +kernel
theorem d_Mo_shrinkWrong_73 : decode b_Mo_shrinkWrong 73 = .ok (.iload 4, 2) := by decide +kernel
theorem d_Mo_shrinkWrong_75 : decode b_Mo_shrinkWrong 75 = .ok (.iaload, 1) := by decide +kernel
theorem d_Mo_shrinkWrong_76 : decode b_Mo_shrinkWrong 76 = .ok (.aload_n 0, 1) := by decide +kernel
theorem d_Mo_shrinkWrong_77 : decode b_Mo_shrinkWrong 77 = .ok (.getfield 16, 3) := by decide +kernel
theorem d_Mo_shrinkWrong_80 : decode b_Mo_shrinkWrong 80 = .ok (.iload 4, 2) := by decide +kernel
theorem d_Mo_shrinkWrong_82 : decode b_Mo_shrinkWrong 82 = .ok (.iaload, 1) := by decide +kernel
theorem d_Mo_shrinkWrong_83 : decode b_Mo_shrinkWrong 83 = .ok (.iconst 1, 1) := by decide +kernel
theorem d_Mo_shrinkWrong_84 : decode b_Mo_shrinkWrong 84 = .ok (.iadd, 1) := by decide +kernel
theorem d_Mo_shrinkWrong_85 : decode b_Mo_shrinkWrong 85 = .ok (.invokestatic 140, 3) := by decide +kernel
theorem d_Mo_shrinkWrong_88 : decode b_Mo_shrinkWrong 88 = .ok (.istore 5, 2) := by decide +kernel
theorem d_Mo_shrinkWrong_90 : decode b_Mo_shrinkWrong 90 = .ok (.aload_n 0, 1) := by decide +kernel
theorem d_Mo_shrinkWrong_91 : decode b_Mo_shrinkWrong 91 = .ok (.iload 4, 2) := by decide +kernel
theorem d_Mo_shrinkWrong_93 : decode b_Mo_shrinkWrong 93 = .ok (.iload 5, 2) := by decide +kernel
theorem d_Mo_shrinkWrong_95 : decode b_Mo_shrinkWrong 95 = .ok (.aload_n 0, 1) := by decide +kernel
theorem d_Mo_shrinkWrong_96 : decode b_Mo_shrinkWrong 96 = .ok (.getfield 16, 3) := by decide +kernel
theorem d_Mo_shrinkWrong_99 : decode b_Mo_shrinkWrong 99 = .ok (.iload 4, 2) := by decide +kernel
theorem d_Mo_shrinkWrong_101 : decode b_Mo_shrinkWrong 101 = .ok (.iaload, 1) := by decide +kernel
theorem d_Mo_shrinkWrong_102 : decode b_Mo_shrinkWrong 102 = .ok (.iconst 1, 1) := by decide +kernel
theorem d_Mo_shrinkWrong_103 : decode b_Mo_shrinkWrong 103 = .ok (.iadd, 1) := by decide +kernel
theorem d_Mo_shrinkWrong_104 : decode b_Mo_shrinkWrong 104 = .ok (.invokevirtual 81, 3) := by decide +kernel
theorem d_Mo_shrinkWrong_107 : decode b_Mo_shrinkWrong 107 = .ok (.ifCond .ge 7, 3) := by decide +kernel
theorem d_Mo_shrinkWrong_110 : decode b_Mo_shrinkWrong 110 = .ok (.iconst 0, 1) := by decide +kernel
theorem d_Mo_shrinkWrong_111 : decode b_Mo_shrinkWrong 111 = .ok (.goto 4, 3) := by decide +kernel
theorem d_Mo_shrinkWrong_114 : decode b_Mo_shrinkWrong 114 = .ok (.iconst (-1), 1) := by decide +kernel
theorem d_Mo_shrinkWrong_115 : decode b_Mo_shrinkWrong 115 = .ok (.ireturn, 1) := by decide +kernel
theorem d_Mo_shrunk_0 : decode b_Mo_shrunk 0 = .ok (.aload_n 0, 1) := by decide +kernel
theorem d_Mo_shrunk_1 : decode b_Mo_shrunk 1 = .ok (.getfield 16, 3) := by decide +kernel
theorem d_Mo_shrunk_4 : decode b_Mo_shrunk 4 = .ok (.iload_n 1, 1) := by decide +kernel
theorem d_Mo_shrunk_5 : decode b_Mo_shrunk 5 = .ok (.dup2, 1) := by decide +kernel
theorem d_Mo_shrunk_6 : decode b_Mo_shrunk 6 = .ok (.iaload, 1) := by decide +kernel
theorem d_Mo_shrunk_7 : decode b_Mo_shrunk 7 = .ok (.iconst 1, 1) := by decide +kernel
theorem d_Mo_shrunk_8 : decode b_Mo_shrunk 8 = .ok (.iadd, 1) := by decide +kernel
theorem d_Mo_shrunk_9 : decode b_Mo_shrunk 9 = .ok (.iastore, 1) := by decide +kernel
theorem d_Mo_shrunk_10 : decode b_Mo_shrunk 10 = .ok (.aload_n 0, 1) := by decide +kernel
theorem d_Mo_shrunk_11 : decode b_Mo_shrunk 11 = .ok (.getfield 13, 3) := by decide +kernel
theorem d_Mo_shrunk_14 : decode b_Mo_shrunk 14 = .ok (.iload_n 1, 1) := by decide +kernel
theorem d_Mo_shrunk_15 : decode b_Mo_shrunk 15 = .ok (.iload_n 2, 1) := by decide +kernel
theorem d_Mo_shrunk_16 : decode b_Mo_shrunk 16 = .ok (.ifCond .eq 24, 3) := by decide +kernel
theorem d_Mo_shrunk_19 : decode b_Mo_shrunk 19 = .ok (.aload_n 0, 1) := by decide +kernel
theorem d_Mo_shrunk_20 : decode b_Mo_shrunk 20 = .ok (.getfield 13, 3) := by decide +kernel
theorem d_Mo_shrunk_23 : decode b_Mo_shrunk 23 = .ok (.iload_n 1, 1) := by decide +kernel
theorem d_Mo_shrunk_24 : decode b_Mo_shrunk 24 = .ok (.iaload, 1) := by decide +kernel
theorem d_Mo_shrunk_25 : decode b_Mo_shrunk 25 = .ok (.iconst 1, 1) := by decide +kernel
theorem d_Mo_shrunk_26 : decode b_Mo_shrunk 26 = .ok (.bipush 32, 2) := by decide +kernel
theorem d_Mo_shrunk_28 : decode b_Mo_shrunk 28 = .ok (.aload_n 0, 1) := by decide +kernel
theorem d_Mo_shrunk_29 : decode b_Mo_shrunk 29 = .ok (.getfield 16, 3) := by decide +kernel
theorem d_Mo_shrunk_32 : decode b_Mo_shrunk 32 = .ok (.iload_n 1, 1) := by decide +kernel
theorem d_Mo_shrunk_33 : decode b_Mo_shrunk 33 = .ok (.iaload, 1) := by decide +kernel
theorem d_Mo_shrunk_34 : decode b_Mo_shrunk 34 = .ok (.isub, 1) := by decide +kernel
theorem d_Mo_shrunk_35 : decode b_Mo_shrunk 35 = .ok (.ishl, 1) := by decide +kernel
theorem d_Mo_shrunk_36 : decode b_Mo_shrunk 36 = .ok (.ior, 1) := by decide +kernel
theorem d_Mo_shrunk_37 : decode b_Mo_shrunk 37 = .ok (.goto 9, 3) := by decide +kernel
theorem d_Mo_shrunk_40 : decode b_Mo_shrunk 40 = .ok (.aload_n 0, 1) := by decide +kernel
theorem d_Mo_shrunk_41 : decode b_Mo_shrunk 41 = .ok (.getfield 13, 3) := by decide +kernel
theorem d_Mo_shrunk_44 : decode b_Mo_shrunk 44 = .ok (.iload_n 1, 1) := by decide +kernel
theorem d_Mo_shrunk_45 : decode b_Mo_shrunk 45 = .ok (.iaload, 1) := by decide +kernel
theorem d_Mo_shrunk_46 : decode b_Mo_shrunk 46 = .ok (.iastore, 1) := by decide +kernel
theorem d_Mo_shrunk_47 : decode b_Mo_shrunk 47 = .ok (.aload_n 0, 1) := by decide +kernel
theorem d_Mo_shrunk_48 : decode b_Mo_shrunk 48 = .ok (.getfield 16, 3) := by decide +kernel
theorem d_Mo_shrunk_51 : decode b_Mo_shrunk 51 = .ok (.iload_n 1, 1) := by decide +kernel
theorem d_Mo_shrunk_52 : decode b_Mo_shrunk 52 = .ok (.iaload, 1) := by decide +kernel
theorem d_Mo_shrunk_53 : decode b_Mo_shrunk 53 = .ok (.ireturn, 1) := by decide +kernel
