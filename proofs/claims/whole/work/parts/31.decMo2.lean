theorem d_Mo_handOver_0 : decode b_Mo_handOver 0 = .ok (.iconst 0, 1) := by decide +kernel
theorem d_Mo_handOver_1 : decode b_Mo_handOver 1 = .ok (.istore_n 3, 1) := by decide +kernel
theorem d_Mo_handOver_2 : decode b_Mo_handOver 2 = .ok (.aload_n 0, 1) := by decide +kernel
theorem d_Mo_handOver_3 : decode b_Mo_handOver 3 = .ok (.iload_n 1, 1) := by decide +kernel
theorem d_Mo_handOver_4 : decode b_Mo_handOver 4 = .ok (.invokevirtual 67, 3) := by decide +kernel
theorem d_Mo_handOver_7 : decode b_Mo_handOver 7 = .ok (.istore 4, 2) := by decide +kernel
theorem d_Mo_handOver_9 : decode b_Mo_handOver 9 = .ok (.iload 4, 2) := by decide +kernel
theorem d_Mo_handOver_11 : decode b_Mo_handOver 11 = .ok (.aload_n 0, 1) := by decide +kernel
theorem d_Mo_handOver_12 : decode b_Mo_handOver 12 = .ok (.iload_n 1, 1) := by decide +kernel
theorem d_Mo_handOver_13 : decode b_Mo_handOver 13 = .ok (.invokevirtual 70, 3) := by decide +kernel
theorem d_Mo_handOver_16 : decode b_Mo_handOver 16 = .ok (.if_icmp .ge 62, 3) := by decide +kernel
theorem d_Mo_handOver_19 : decode b_Mo_handOver 19 = .ok (.iload 4, 2) := by decide +kernel
theorem d_Mo_handOver_21 : decode b_Mo_handOver 21 = .ok (.istore 5, 2) := by decide +kernel
theorem d_Mo_handOver_23 : decode b_Mo_handOver 23 = .ok (.iload 5, 2) := by decide +kernel
theorem d_Mo_handOver_25 : decode b_Mo_handOver 25 = .ok (.ifCond .lt 30, 3) := by decide +kernel
theorem d_Mo_handOver_28 : decode b_Mo_handOver 28 = .ok (.iload 5, 2) := by decide +kernel
theorem d_Mo_handOver_30 : decode b_Mo_handOver 30 = .ok (.iload_n 1, 1) := by decide +kernel
theorem d_Mo_handOver_31 : decode b_Mo_handOver 31 = .ok (.if_icmp .eq 24, 3) := by decide +kernel
theorem d_Mo_handOver_34 : decode b_Mo_handOver 34 = .ok (.aload_n 0, 1) := by decide +kernel
theorem d_Mo_handOver_35 : decode b_Mo_handOver 35 = .ok (.iload 5, 2) := by decide +kernel
theorem d_Mo_handOver_37 : decode b_Mo_handOver 37 = .ok (.invokevirtual 63, 3) := by decide +kernel
theorem d_Mo_handOver_40 : decode b_Mo_handOver 40 = .ok (.ifCond .eq 15, 3) := by decide +kernel
theorem d_Mo_handOver_43 : decode b_Mo_handOver 43 = .ok (.aload_n 0, 1) := by decide +kernel
theorem d_Mo_handOver_44 : decode b_Mo_handOver 44 = .ok (.getfield 19, 3) := by decide +kernel
theorem d_Mo_handOver_47 : decode b_Mo_handOver 47 = .ok (.iload 5, 2) := by decide +kernel
theorem d_Mo_handOver_49 : decode b_Mo_handOver 49 = .ok (.iaload, 1) := by decide +kernel
theorem d_Mo_handOver_50 : decode b_Mo_handOver 50 = .ok (.istore 5, 2) := by decide +kernel
theorem d_Mo_handOver_52 : decode b_Mo_handOver 52 = .ok (.goto (-29), 3) := by decide +kernel
theorem d_Mo_handOver_55 : decode b_Mo_handOver 55 = .ok (.iload 5, 2) := by decide +kernel
theorem d_Mo_handOver_57 : decode b_Mo_handOver 57 = .ok (.iload_n 1, 1) := by decide +kernel
theorem d_Mo_handOver_58 : decode b_Mo_handOver 58 = .ok (.if_icmp .ne 14, 3) := by decide +kernel
theorem d_Mo_handOver_61 : decode b_Mo_handOver 61 = .ok (.aload_n 0, 1) := by decide +kernel
theorem d_Mo_handOver_62 : decode b_Mo_handOver 62 = .ok (.getfield 25, 3) := by decide +kernel
theorem d_Mo_handOver_65 : decode b_Mo_handOver 65 = .ok (.iload 4, 2) := by decide +kernel
theorem d_Mo_handOver_67 : decode b_Mo_handOver 67 = .ok (.iload_n 2, 1) := by decide +kernel
theorem d_Mo_handOver_68 : decode b_Mo_handOver 68 = .ok (.iastore, 1) := by decide +kernel
theorem d_Mo_handOver_69 : decode b_Mo_handOver 69 = .ok (.iinc 3 1, 3) := by decide +kernel
theorem d_Mo_handOver_72 : decode b_Mo_handOver 72 = .ok (.iinc 4 1, 3) := by decide +kernel
theorem d_Mo_handOver_75 : decode b_Mo_handOver 75 = .ok (.goto (-66), 3) := by decide +kernel
theorem d_Mo_handOver_78 : decode b_Mo_handOver 78 = .ok (.iload_n 3, 1) := by decide +kernel
theorem d_Mo_handOver_79 : decode b_Mo_handOver 79 = .ok (.ireturn, 1) := by decide +kernel
theorem d_Mo_pass_0 : decode b_Mo_pass 0 = .ok (.aload_n 0, 1) := by decide +kernel
theorem d_Mo_pass_1 : decode b_Mo_pass 1 = .ok (.getfield 34, 3) := by decide +kernel
theorem d_Mo_pass_4 : decode b_Mo_pass 4 = .ok (.iload_n 1, 1) := by decide +kernel
theorem d_Mo_pass_5 : decode b_Mo_pass 5 = .ok (.sipush 200, 3) := by decide +kernel
theorem d_Mo_pass_8 : decode b_Mo_pass 8 = .ok (.idiv, 1) := by decide +kernel
theorem d_Mo_pass_9 : decode b_Mo_pass 9 = .ok (.iload_n 2, 1) := by decide +kernel
theorem d_Mo_pass_10 : decode b_Mo_pass 10 = .ok (.iastore, 1) := by decide +kernel
theorem d_Mo_pass_11 : decode b_Mo_pass 11 = .ok (.iconst 0, 1) := by decide +kernel
theorem d_Mo_pass_12 : decode b_Mo_pass 12 = .ok (.istore_n 3, 1) := by decide +kernel
theorem d_Mo_pass_13 : decode b_Mo_pass 13 = .ok (.iload_n 1, 1) := by decide +kernel
theorem d_Mo_pass_14 : decode b_Mo_pass 14 = .ok (.istore 4, 2) := by decide +kernel
theorem d_Mo_pass_16 : decode b_Mo_pass 16 = .ok (.iload 4, 2) := by decide +kernel
theorem d_Mo_pass_18 : decode b_Mo_pass 18 = .ok (.iload_n 1, 1) := by decide +kernel
theorem d_Mo_pass_19 : decode b_Mo_pass 19 = .ok (.aload_n 0, 1) := by decide +kernel
theorem d_Mo_pass_20 : decode b_Mo_pass 20 = .ok (.getfield 7, 3) := by decide +kernel
theorem d_Mo_pass_23 : decode b_Mo_pass 23 = .ok (.iload_n 1, 1) := by decide +kernel
theorem d_Mo_pass_24 : decode b_Mo_pass 24 = .ok (.sipush 200, 3) := by decide +kernel
theorem d_Mo_pass_27 : decode b_Mo_pass 27 = .ok (.idiv, 1) := by decide +kernel
theorem d_Mo_pass_28 : decode b_Mo_pass 28 = .ok (.iaload, 1) := by decide +kernel
theorem d_Mo_pass_29 : decode b_Mo_pass 29 = .ok (.iadd, 1) := by decide +kernel
theorem d_Mo_pass_30 : decode b_Mo_pass 30 = .ok (.if_icmp .ge 74, 3) := by decide +kernel
theorem d_Mo_pass_33 : decode b_Mo_pass 33 = .ok (.aload_n 0, 1) := by decide +kernel
theorem d_Mo_pass_34 : decode b_Mo_pass 34 = .ok (.getfield 28, 3) := by decide +kernel
theorem d_Mo_pass_37 : decode b_Mo_pass 37 = .ok (.iload 4, 2) := by decide +kernel
theorem d_Mo_pass_39 : decode b_Mo_pass 39 = .ok (.iaload, 1) := by decide +kernel
theorem d_Mo_pass_40 : decode b_Mo_pass 40 = .ok (.iconst 3, 1) := by decide +kernel
theorem d_Mo_pass_41 : decode b_Mo_pass 41 = .ok (.if_icmp .ne 18, 3) := by decide +kernel
theorem d_Mo_pass_44 : decode b_Mo_pass 44 = .ok (.aload_n 0, 1) := by decide +kernel
theorem d_Mo_pass_45 : decode b_Mo_pass 45 = .ok (.getfield 31, 3) := by decide +kernel
theorem d_Mo_pass_48 : decode b_Mo_pass 48 = .ok (.iload 4, 2) := by decide +kernel
theorem d_Mo_pass_50 : decode b_Mo_pass 50 = .ok (.iaload, 1) := by decide +kernel
theorem d_Mo_pass_51 : decode b_Mo_pass 51 = .ok (.iload_n 2, 1) := by decide +kernel
theorem d_Mo_pass_52 : decode b_Mo_pass 52 = .ok (.if_icmp .gt 7, 3) := by decide +kernel
theorem d_Mo_pass_55 : decode b_Mo_pass 55 = .ok (.iconst 1, 1) := by decide +kernel
theorem d_Mo_pass_56 : decode b_Mo_pass 56 = .ok (.goto 4, 3) := by decide +kernel
theorem d_Mo_pass_59 : decode b_Mo_pass 59 = .ok (.iconst 0, 1) := by decide +kernel
theorem d_Mo_pass_60 : decode b_Mo_pass 60 = .ok (.istore 5, 2) := by decide +kernel
theorem d_Mo_pass_62 : decode b_Mo_pass 62 = .ok (.iload_n 3, 1) := by decide +kernel
theorem d_Mo_pass_63 : decode b_Mo_pass 63 = .ok (.iload 5, 2) := by decide +kernel
theorem d_Mo_pass_65 : decode b_Mo_pass 65 = .ok (.ifCond .eq 7, 3) := by decide +kernel
theorem d_Mo_pass_68 : decode b_Mo_pass 68 = .ok (.iconst 1, 1) := by decide +kernel
theorem d_Mo_pass_69 : decode b_Mo_pass 69 = .ok (.goto 4, 3) := by decide +kernel
theorem d_Mo_pass_72 : decode b_Mo_pass 72 = .ok (.iconst 0, 1) := by decide +kernel
theorem d_Mo_pass_73 : decode b_Mo_pass 73 = .ok (.iadd, 1) := by decide +kernel
theorem d_Mo_pass_74 : decode b_Mo_pass 74 = .ok (.istore_n 3, 1) := by decide +kernel
theorem d_Mo_pass_75 : decode b_Mo_pass 75 = .ok (.aload_n 0, 1) := by decide +kernel
theorem d_Mo_pass_76 : decode b_Mo_pass 76 = .ok (.getfield 28, 3) := by decide +kernel
theorem d_Mo_pass_79 : decode b_Mo_pass 79 = .ok (.iload 4, 2) := by decide +kernel
theorem d_Mo_pass_81 : decode b_Mo_pass 81 = .ok (.iload 5, 2) := by decide +kernel
theorem d_Mo_pass_83 : decode b_Mo_pass 83 = .ok (.ifCond .eq 7, 3) := by decide +kernel
theorem d_Mo_pass_86 : decode b_Mo_pass 86 = .ok (.iconst 4, 1) := by decide +kernel
theorem d_Mo_pass_87 : decode b_Mo_pass 87 = .ok (.goto 10, 3) := by decide +kernel
theorem d_Mo_pass_90 : decode b_Mo_pass 90 = .ok (.aload_n 0, 1) := by decide +kernel
theorem d_Mo_pass_91 : decode b_Mo_pass 91 = .ok (.getfield 28, 3) := by decide +kernel
theorem d_Mo_pass_94 : decode b_Mo_pass 94 = .ok (.iload 4, 2) := by decide +kernel
theorem d_Mo_pass_96 : decode b_Mo_pass 96 = .ok (.iaload, 1) := by decide +kernel
theorem d_Mo_pass_97 : decode b_Mo_pass 97 = .ok (.iastore, 1) := by decide +kernel
theorem d_Mo_pass_98 : decode b_Mo_pass 98 = .ok (.iinc 4 1, 3) := by decide +kernel
theorem d_Mo_pass_101 : decode b_Mo_pass 101 = .ok (.goto (-85), 3) := by decide +kernel
theorem d_Mo_pass_104 : decode b_Mo_pass 104 = .ok (.iload_n 3, 1) := by decide +kernel
theorem d_Mo_pass_105 : decode b_Mo_pass 105 = .ok (.ireturn, 1) := by decide +kernel
theorem d_Mo_isFullLog_0 : decode b_Mo_isFullLog 0 = .ok (.aload_n 0, 1) := by decide +kernel
theorem d_Mo_isFullLog_1 : decode b_Mo_isFullLog 1 = .ok (.getfield 144, 3) := by decide +kernel
theorem d_Mo_isFullLog_4 : decode b_Mo_isFullLog 4 = .ok (.sipush 300, 3) := by decide +kernel
theorem d_Mo_isFullLog_7 : decode b_Mo_isFullLog 7 = .ok (.if_icmp .ne 7, 3) := by decide +kernel
theorem d_Mo_isFullLog_10 : decode b_Mo_isFullLog 10 = .ok (.iconst 1, 1) := by decide +kernel
theorem d_Mo_isFullLog_11 : decode b_Mo_isFullLog 11 = .ok (.goto 4, 3) := by decide +kernel
theorem d_Mo_isFullLog_14 : decode b_Mo_isFullLog 14 = .ok (.iconst 0, 1) := by decide +kernel
theorem d_Mo_isFullLog_15 : decode b_Mo_isFullLog 15 = .ok (.ireturn, 1) := by decide +kernel
theorem d_Mo_note_0 : decode b_Mo_note 0 = .ok (.aload_n 0, 1) := by decide +kernel
theorem d_Mo_note_1 : decode b_Mo_note 1 = .ok (.getfield 43, 3) := by decide +kernel
theorem d_Mo_note_4 : decode b_Mo_note 4 = .ok (.aload_n 0, 1) := by decide +kernel
theorem d_Mo_note_5 : decode b_Mo_note 5 = .ok (.getfield 144, 3) := by decide +kernel
theorem d_Mo_note_8 : decode b_Mo_note 8 = .ok (.iload_n 1, 1) := by decide +kernel
theorem d_Mo_note_9 : decode b_Mo_note 9 = .ok (.iastore, 1) := by decide +kernel
theorem d_Mo_note_10 : decode b_Mo_note 10 = .ok (.aload_n 0, 1) := by decide +kernel
theorem d_Mo_note_11 : decode b_Mo_note 11 = .ok (.getfield 46, 3) := by decide +kernel
theorem d_Mo_note_14 : decode b_Mo_note 14 = .ok (.aload_n 0, 1) := by decide +kernel
theorem d_Mo_note_15 : decode b_Mo_note 15 = .ok (.getfield 144, 3) := by decide +kernel
theorem d_Mo_note_18 : decode b_Mo_note 18 = .ok (.iload_n 2, 1) := by decide +kernel
theorem d_Mo_note_19 : decode b_Mo_note 19 = .ok (.iastore, 1) := by decide +kernel
theorem d_Mo_note_20 : decode b_Mo_note 20 = .ok (.aload_n 0, 1) := by decide +kernel
theorem d_Mo_note_21 : decode b_Mo_note 21 = .ok (.getfield 49, 3) := by decide +kernel
theorem d_Mo_note_24 : decode b_Mo_note 24 = .ok (.aload_n 0, 1) := by decide +kernel
theorem d_Mo_note_25 : decode b_Mo_note 25 = .ok (.getfield 144, 3) := by decide +kernel
theorem d_Mo_note_28 : decode b_Mo_note 28 = .ok (.iload_n 3, 1) := by decide +kernel
theorem d_Mo_note_29 : decode b_Mo_note 29 = .ok (.iastore, 1) := by decide +kernel
theorem d_Mo_note_30 : decode b_Mo_note 30 = .ok (.aload_n 0, 1) := by decide +kernel
theorem d_Mo_note_31 : decode b_Mo_note 31 = .ok (.getfield 52, 3) := by decide +kernel
theorem d_Mo_note_34 : decode b_Mo_note 34 = .ok (.aload_n 0, 1) := by decide +kernel
theorem d_Mo_note_35 : decode b_Mo_note 35 = .ok (.getfield 144, 3) := by decide +kernel
theorem d_Mo_note_38 : decode b_Mo_note 38 = .ok (.iload 4, 2) := by decide +kernel
theorem d_Mo_note_40 : decode b_Mo_note 40 = .ok (.iastore, 1) := by decide +kernel
theorem d_Mo_note_41 : decode b_Mo_note 41 = .ok (.aload_n 0, 1) := by decide +kernel
theorem d_Mo_note_42 : decode b_Mo_note 42 = .ok (.dup, 1) := by decide +kernel
theorem d_Mo_note_43 : decode b_Mo_note 43 = .ok (.getfield 144, 3) := by decide +kernel
theorem d_Mo_note_46 : decode b_Mo_note 46 = .ok (.iconst 1, 1) := by decide +kernel
theorem d_Mo_note_47 : decode b_Mo_note 47 = .ok (.iadd, 1) := by decide +kernel
theorem d_Mo_note_48 : decode b_Mo_note 48 = .ok (.putfield 144, 3) := by decide +kernel
theorem d_Mo_note_51 : decode b_Mo_note 51 = .ok (.return_, 1) := by decide +kernel
theorem d_Mo_root_0 : decode b_Mo_root 0 = .ok (.aload_n 0, 1) := by decide +kernel
theorem d_Mo_root_1 : decode b_Mo_root 1 = .ok (.iconst 0, 1) := by decide +kernel
theorem d_Mo_root_2 : decode b_Mo_root 2 = .ok (.iload_n 1, 1) := by decide +kernel
theorem d_Mo_root_3 : decode b_Mo_root 3 = .ok (.iload_n 2, 1) := by decide +kernel
theorem d_Mo_root_4 : decode b_Mo_root 4 = .ok (.iload_n 3, 1) := by decide +kernel
theorem d_Mo_root_5 : decode b_Mo_root 5 = .ok (.invokevirtual 147, 3) := by decide +kernel
theorem d_Mo_root_8 : decode b_Mo_root 8 = .ok (.istore 4, 2) := by decide +kernel
theorem d_Mo_root_10 : decode b_Mo_root 10 = .ok (.aload_n 0, 1) := by decide +kernel
theorem d_Mo_root_11 : decode b_Mo_root 11 = .ok (.iload 4, 2) := by decide +kernel
theorem d_Mo_root_13 : decode b_Mo_root 13 = .ok (.ifCond .le 8, 3) := by decide +kernel
theorem d_Mo_root_16 : decode b_Mo_root 16 = .ok (.iload 4, 2) := by decide +kernel
theorem d_Mo_root_18 : decode b_Mo_root 18 = .ok (.goto 15, 3) := by decide +kernel
theorem d_Mo_root_21 : decode b_Mo_root 21 = .ok (.aload_n 0, 1) := by decide +kernel
theorem d_Mo_root_22 : decode b_Mo_root 22 = .ok (.invokevirtual 151, 3) := by decide +kernel
theorem d_Mo_root_25 : decode b_Mo_root 25 = .ok (.ifCond .eq 7, 3) := by decide +kernel
theorem d_Mo_root_28 : decode b_Mo_root 28 = .ok (.iconst 3, 1) := by decide +kernel
theorem d_Mo_root_29 : decode b_Mo_root 29 = .ok (.goto 4, 3) := by decide +kernel
theorem d_Mo_root_32 : decode b_Mo_root 32 = .ok (.iconst 0, 1) := by decide +kernel
theorem d_Mo_root_33 : decode b_Mo_root 33 = .ok (.putfield 55, 3) := by decide +kernel
theorem d_Mo_root_36 : decode b_Mo_root 36 = .ok (.aload_n 0, 1) := by decide +kernel
theorem d_Mo_root_37 : decode b_Mo_root 37 = .ok (.getfield 55, 3) := by decide +kernel
theorem d_Mo_root_40 : decode b_Mo_root 40 = .ok (.ifCond .le 5, 3) := by decide +kernel
theorem d_Mo_root_43 : decode b_Mo_root 43 = .ok (.iconst 0, 1) := by decide +kernel
theorem d_Mo_root_44 : decode b_Mo_root 44 = .ok (.ireturn, 1) := by decide +kernel
theorem d_Mo_root_45 : decode b_Mo_root 45 = .ok (.aload_n 0, 1) := by decide +kernel
theorem d_Mo_root_46 : decode b_Mo_root 46 = .ok (.iconst 1, 1) := by decide +kernel
theorem d_Mo_root_47 : decode b_Mo_root 47 = .ok (.iload_n 1, 1) := by decide +kernel
theorem d_Mo_root_48 : decode b_Mo_root 48 = .ok (.iload_n 2, 1) := by decide +kernel
theorem d_Mo_root_49 : decode b_Mo_root 49 = .ok (.iload_n 3, 1) := by decide +kernel
theorem d_Mo_root_50 : decode b_Mo_root 50 = .ok (.invokevirtual 155, 3) := by decide +kernel
theorem d_Mo_root_53 : decode b_Mo_root 53 = .ok (.aload_n 0, 1) := by decide +kernel
theorem d_Mo_root_54 : decode b_Mo_root 54 = .ok (.iconst 0, 1) := by decide +kernel
theorem d_Mo_root_55 : decode b_Mo_root 55 = .ok (.iload_n 1, 1) := by decide +kernel
theorem d_Mo_root_56 : decode b_Mo_root 56 = .ok (.iload_n 2, 1) := by decide +kernel
theorem d_Mo_root_57 : decode b_Mo_root 57 = .ok (.iconst (-1), 1) := by decide +kernel
theorem d_Mo_root_58 : decode b_Mo_root 58 = .ok (.iload_n 3, 1) := by decide +kernel
theorem d_Mo_root_59 : decode b_Mo_root 59 = .ok (.iconst 1, 1) := by decide +kernel
theorem d_Mo_root_60 : decode b_Mo_root 60 = .ok (.invokevirtual 159, 3) := by decide +kernel
theorem d_Mo_root_63 : decode b_Mo_root 63 = .ok (.ireturn, 1) := by decide +kernel
theorem d_Mo_ask_0 : decode b_Mo_ask 0 = .ok (.aload_n 0, 1) := by decide +kernel
theorem d_Mo_ask_1 : decode b_Mo_ask 1 = .ok (.iconst 0, 1) := by decide +kernel
theorem d_Mo_ask_2 : decode b_Mo_ask 2 = .ok (.iload_n 1, 1) := by decide +kernel
theorem d_Mo_ask_3 : decode b_Mo_ask 3 = .ok (.iload_n 2, 1) := by decide +kernel
theorem d_Mo_ask_4 : decode b_Mo_ask 4 = .ok (.iload_n 3, 1) := by decide +kernel
theorem d_Mo_ask_5 : decode b_Mo_ask 5 = .ok (.invokevirtual 163, 3) := by decide +kernel
theorem d_Mo_ask_8 : decode b_Mo_ask 8 = .ok (.istore 4, 2) := by decide +kernel
theorem d_Mo_ask_10 : decode b_Mo_ask 10 = .ok (.aload_n 0, 1) := by decide +kernel
theorem d_Mo_ask_11 : decode b_Mo_ask 11 = .ok (.iload 4, 2) := by decide +kernel
theorem d_Mo_ask_13 : decode b_Mo_ask 13 = .ok (.ifCond .ne 14, 3) := by decide +kernel
theorem d_Mo_ask_16 : decode b_Mo_ask 16 = .ok (.aload_n 0, 1) := by decide +kernel
theorem d_Mo_ask_17 : decode b_Mo_ask 17 = .ok (.invokevirtual 151, 3) := by decide +kernel
theorem d_Mo_ask_20 : decode b_Mo_ask 20 = .ok (.ifCond .eq 7, 3) := by decide +kernel
theorem d_Mo_ask_23 : decode b_Mo_ask 23 = .ok (.iconst 1, 1) := by decide +kernel
theorem d_Mo_ask_24 : decode b_Mo_ask 24 = .ok (.goto 4, 3) := by decide +kernel
theorem d_Mo_ask_27 : decode b_Mo_ask 27 = .ok (.iconst 0, 1) := by decide +kernel
theorem d_Mo_ask_28 : decode b_Mo_ask 28 = .ok (.putfield 55, 3) := by decide +kernel
theorem d_Mo_ask_31 : decode b_Mo_ask 31 = .ok (.iload 4, 2) := by decide +kernel
theorem d_Mo_ask_33 : decode b_Mo_ask 33 = .ok (.ifCond .lt 10, 3) := by decide +kernel
theorem d_Mo_ask_36 : decode b_Mo_ask 36 = .ok (.aload_n 0, 1) := by decide +kernel
theorem d_Mo_ask_37 : decode b_Mo_ask 37 = .ok (.getfield 55, 3) := by decide +kernel
theorem d_Mo_ask_40 : decode b_Mo_ask 40 = .ok (.ifCond .le 17, 3) := by decide +kernel
theorem d_Mo_ask_43 : decode b_Mo_ask 43 = .ok (.aload_n 0, 1) := by decide +kernel
theorem d_Mo_ask_44 : decode b_Mo_ask 44 = .ok (.getfield 55, 3) := by decide +kernel
theorem d_Mo_ask_47 : decode b_Mo_ask 47 = .ok (.ifCond .le 7, 3) := by decide +kernel
theorem d_Mo_ask_50 : decode b_Mo_ask 50 = .ok (.iconst 0, 1) := by decide +kernel
theorem d_Mo_ask_51 : decode b_Mo_ask 51 = .ok (.goto 5, 3) := by decide +kernel
theorem d_Mo_ask_54 : decode b_Mo_ask 54 = .ok (.iload 4, 2) := by decide +kernel
theorem d_Mo_ask_56 : decode b_Mo_ask 56 = .ok (.ireturn, 1) := by decide +kernel
theorem d_Mo_ask_57 : decode b_Mo_ask 57 = .ok (.aload_n 0, 1) := by decide +kernel
theorem d_Mo_ask_58 : decode b_Mo_ask 58 = .ok (.iconst 2, 1) := by decide +kernel
theorem d_Mo_ask_59 : decode b_Mo_ask 59 = .ok (.iload_n 1, 1) := by decide +kernel
theorem d_Mo_ask_60 : decode b_Mo_ask 60 = .ok (.iload_n 2, 1) := by decide +kernel
theorem d_Mo_ask_61 : decode b_Mo_ask 61 = .ok (.iload_n 3, 1) := by decide +kernel
theorem d_Mo_ask_62 : decode b_Mo_ask 62 = .ok (.ifCond .eq 7, 3) := by decide +kernel
theorem d_Mo_ask_65 : decode b_Mo_ask 65 = .ok (.iconst 1, 1) := by decide +kernel
theorem d_Mo_ask_66 : decode b_Mo_ask 66 = .ok (.goto 4, 3) := by decide +kernel
theorem d_Mo_ask_69 : decode b_Mo_ask 69 = .ok (.iconst 0, 1) := by decide +kernel
theorem d_Mo_ask_70 : decode b_Mo_ask 70 = .ok (.invokevirtual 155, 3) := by decide +kernel
theorem d_Mo_ask_73 : decode b_Mo_ask 73 = .ok (.aload_n 0, 1) := by decide +kernel
theorem d_Mo_ask_74 : decode b_Mo_ask 74 = .ok (.iconst 0, 1) := by decide +kernel
theorem d_Mo_ask_75 : decode b_Mo_ask 75 = .ok (.aload_n 0, 1) := by decide +kernel
theorem d_Mo_ask_76 : decode b_Mo_ask 76 = .ok (.getfield 95, 3) := by decide +kernel
theorem d_Mo_ask_79 : decode b_Mo_ask 79 = .ok (.l2i, 1) := by decide +kernel
theorem d_Mo_ask_80 : decode b_Mo_ask 80 = .ok (.iload_n 2, 1) := by decide +kernel
theorem d_Mo_ask_81 : decode b_Mo_ask 81 = .ok (.iload_n 1, 1) := by decide +kernel
theorem d_Mo_ask_82 : decode b_Mo_ask 82 = .ok (.aload_n 0, 1) := by decide +kernel
theorem d_Mo_ask_83 : decode b_Mo_ask 83 = .ok (.getfield 25, 3) := by decide +kernel
theorem d_Mo_ask_86 : decode b_Mo_ask 86 = .ok (.iload_n 1, 1) := by decide +kernel
theorem d_Mo_ask_87 : decode b_Mo_ask 87 = .ok (.iaload, 1) := by decide +kernel
theorem d_Mo_ask_88 : decode b_Mo_ask 88 = .ok (.iconst 1, 1) := by decide +kernel
theorem d_Mo_ask_89 : decode b_Mo_ask 89 = .ok (.invokevirtual 159, 3) := by decide +kernel
theorem d_Mo_ask_92 : decode b_Mo_ask 92 = .ok (.ireturn, 1) := by decide +kernel
theorem d_Mo_reserve_0 : decode b_Mo_reserve 0 = .ok (.aload_n 0, 1) := by decide +kernel
theorem d_Mo_reserve_1 : decode b_Mo_reserve 1 = .ok (.iconst 0, 1) := by decide +kernel
theorem d_Mo_reserve_2 : decode b_Mo_reserve 2 = .ok (.iload_n 1, 1) := by decide +kernel
theorem d_Mo_reserve_3 : decode b_Mo_reserve 3 = .ok (.iload_n 2, 1) := by decide +kernel
theorem d_Mo_reserve_4 : decode b_Mo_reserve 4 = .ok (.iload_n 3, 1) := by decide +kernel
theorem d_Mo_reserve_5 : decode b_Mo_reserve 5 = .ok (.invokevirtual 167, 3) := by decide +kernel
theorem d_Mo_reserve_8 : decode b_Mo_reserve 8 = .ok (.istore 4, 2) := by decide +kernel
theorem d_Mo_reserve_10 : decode b_Mo_reserve 10 = .ok (.aload_n 0, 1) := by decide +kernel
theorem d_Mo_reserve_11 : decode b_Mo_reserve 11 = .ok (.iload 4, 2) := by decide +kernel
theorem d_Mo_reserve_13 : decode b_Mo_reserve 13 = .ok (.ifCond .ne 14, 3) := by decide +kernel
theorem d_Mo_reserve_16 : decode b_Mo_reserve 16 = .ok (.aload_n 0, 1) := by decide +kernel
theorem d_Mo_reserve_17 : decode b_Mo_reserve 17 = .ok (.invokevirtual 151, 3) := by decide +kernel
theorem d_Mo_reserve_20 : decode b_Mo_reserve 20 = .ok (.ifCond .eq 7, 3) := by decide +kernel
theorem d_Mo_reserve_23 : decode b_Mo_reserve 23 = .ok (.iconst 1, 1) := by decide +kernel
theorem d_Mo_reserve_24 : decode b_Mo_reserve 24 = .ok (.goto 4, 3) := by decide +kernel
theorem d_Mo_reserve_27 : decode b_Mo_reserve 27 = .ok (.iconst 0, 1) := by decide +kernel
theorem d_Mo_reserve_28 : decode b_Mo_reserve 28 = .ok (.putfield 55, 3) := by decide +kernel
theorem d_Mo_reserve_31 : decode b_Mo_reserve 31 = .ok (.iload 4, 2) := by decide +kernel
theorem d_Mo_reserve_33 : decode b_Mo_reserve 33 = .ok (.ifCond .lt 10, 3) := by decide +kernel
theorem d_Mo_reserve_36 : decode b_Mo_reserve 36 = .ok (.aload_n 0, 1) := by decide +kernel
theorem d_Mo_reserve_37 : decode b_Mo_reserve 37 = .ok (.getfield 55, 3) := by decide +kernel
theorem d_Mo_reserve_40 : decode b_Mo_reserve 40 = .ok (.ifCond .le 17, 3) := by decide +kernel
theorem d_Mo_reserve_43 : decode b_Mo_reserve 43 = .ok (.aload_n 0, 1) := by decide +kernel
theorem d_Mo_reserve_44 : decode b_Mo_reserve 44 = .ok (.getfield 55, 3) := by decide +kernel
theorem d_Mo_reserve_47 : decode b_Mo_reserve 47 = .ok (.ifCond .le 7, 3) := by decide +kernel
theorem d_Mo_reserve_50 : decode b_Mo_reserve 50 = .ok (.iconst 0, 1) := by decide +kernel
theorem d_Mo_reserve_51 : decode b_Mo_reserve 51 = .ok (.goto 5, 3) := by decide +kernel
theorem d_Mo_reserve_54 : decode b_Mo_reserve 54 = .ok (.iload 4, 2) := by decide +kernel
theorem d_Mo_reserve_56 : decode b_Mo_reserve 56 = .ok (.ireturn, 1) := by decide +kernel
theorem d_Mo_reserve_57 : decode b_Mo_reserve 57 = .ok (.aload_n 0, 1) := by decide +kernel
theorem d_Mo_reserve_58 : decode b_Mo_reserve 58 = .ok (.iconst 3, 1) := by decide +kernel
theorem d_Mo_reserve_59 : decode b_Mo_reserve 59 = .ok (.iload_n 1, 1) := by decide +kernel
theorem d_Mo_reserve_60 : decode b_Mo_reserve 60 = .ok (.iload_n 2, 1) := by decide +kernel
theorem d_Mo_reserve_61 : decode b_Mo_reserve 61 = .ok (.iload_n 3, 1) := by decide +kernel
theorem d_Mo_reserve_62 : decode b_Mo_reserve 62 = .ok (.invokevirtual 155, 3) := by decide +kernel
theorem d_Mo_reserve_65 : decode b_Mo_reserve 65 = .ok (.aload_n 0, 1) := by decide +kernel
theorem d_Mo_reserve_66 : decode b_Mo_reserve 66 = .ok (.iconst 0, 1) := by decide +kernel
theorem d_Mo_reserve_67 : decode b_Mo_reserve 67 = .ok (.iload_n 2, 1) := by decide +kernel
theorem d_Mo_reserve_68 : decode b_Mo_reserve 68 = .ok (.iload_n 3, 1) := by decide +kernel
theorem d_Mo_reserve_69 : decode b_Mo_reserve 69 = .ok (.iload_n 1, 1) := by decide +kernel
theorem d_Mo_reserve_70 : decode b_Mo_reserve 70 = .ok (.aload_n 0, 1) := by decide +kernel
theorem d_Mo_reserve_71 : decode b_Mo_reserve 71 = .ok (.getfield 25, 3) := by decide +kernel
theorem d_Mo_reserve_74 : decode b_Mo_reserve 74 = .ok (.iload_n 1, 1) := by decide +kernel
theorem d_Mo_reserve_75 : decode b_Mo_reserve 75 = .ok (.iaload, 1) := by decide +kernel
theorem d_Mo_reserve_76 : decode b_Mo_reserve 76 = .ok (.iconst 2, 1) := by decide +kernel
theorem d_Mo_reserve_77 : decode b_Mo_reserve 77 = .ok (.invokevirtual 159, 3) := by decide +kernel
theorem d_Mo_reserve_80 : decode b_Mo_reserve 80 = .ok (.ireturn, 1) := by decide +kernel
theorem d_Mo_give_0 : decode b_Mo_give 0 = .ok (.aload_n 0, 1) := by decide +kernel
theorem d_Mo_give_1 : decode b_Mo_give 1 = .ok (.aload_n 0, 1) := by decide +kernel
theorem d_Mo_give_2 : decode b_Mo_give 2 = .ok (.iconst 0, 1) := by decide +kernel
theorem d_Mo_give_3 : decode b_Mo_give 3 = .ok (.iload_n 1, 1) := by decide +kernel
theorem d_Mo_give_4 : decode b_Mo_give 4 = .ok (.invokevirtual 123, 3) := by decide +kernel
theorem d_Mo_give_7 : decode b_Mo_give 7 = .ok (.ifCond .ne 7, 3) := by decide +kernel
theorem d_Mo_give_10 : decode b_Mo_give 10 = .ok (.iconst 1, 1) := by decide +kernel
theorem d_Mo_give_11 : decode b_Mo_give 11 = .ok (.goto 29, 3) := by decide +kernel
theorem d_Mo_give_14 : decode b_Mo_give 14 = .ok (.aload_n 0, 1) := by decide +kernel
theorem d_Mo_give_15 : decode b_Mo_give 15 = .ok (.getfield 28, 3) := by decide +kernel
theorem d_Mo_give_18 : decode b_Mo_give 18 = .ok (.iload_n 1, 1) := by decide +kernel
theorem d_Mo_give_19 : decode b_Mo_give 19 = .ok (.iaload, 1) := by decide +kernel
theorem d_Mo_give_20 : decode b_Mo_give 20 = .ok (.iconst 2, 1) := by decide +kernel
theorem d_Mo_give_21 : decode b_Mo_give 21 = .ok (.if_icmp .eq 7, 3) := by decide +kernel
theorem d_Mo_give_24 : decode b_Mo_give 24 = .ok (.iconst 2, 1) := by decide +kernel
theorem d_Mo_give_25 : decode b_Mo_give 25 = .ok (.goto 15, 3) := by decide +kernel
theorem d_Mo_give_28 : decode b_Mo_give 28 = .ok (.aload_n 0, 1) := by decide +kernel
theorem d_Mo_give_29 : decode b_Mo_give 29 = .ok (.invokevirtual 151, 3) := by decide +kernel
theorem d_Mo_give_32 : decode b_Mo_give 32 = .ok (.ifCond .eq 7, 3) := by decide +kernel
theorem d_Mo_give_35 : decode b_Mo_give 35 = .ok (.iconst 3, 1) := by decide +kernel
theorem d_Mo_give_36 : decode b_Mo_give 36 = .ok (.goto 4, 3) := by decide +kernel
theorem d_Mo_give_39 : decode b_Mo_give 39 = .ok (.iconst 0, 1) := by decide +kernel
theorem d_Mo_give_40 : decode b_Mo_give 40 = .ok (.putfield 55, 3) := by decide +kernel
theorem d_Mo_give_43 : decode b_Mo_give 43 = .ok (.aload_n 0, 1) := by decide +kernel
theorem d_Mo_give_44 : decode b_Mo_give 44 = .ok (.getfield 55, 3) := by decide +kernel
theorem d_Mo_give_47 : decode b_Mo_give 47 = .ok (.ifCond .ne 18, 3) := by decide +kernel
theorem d_Mo_give_50 : decode b_Mo_give 50 = .ok (.aload_n 0, 1) := by decide +kernel
theorem d_Mo_give_51 : decode b_Mo_give 51 = .ok (.iconst 4, 1) := by decide +kernel
theorem d_Mo_give_52 : decode b_Mo_give 52 = .ok (.iload_n 1, 1) := by decide +kernel
theorem d_Mo_give_53 : decode b_Mo_give 53 = .ok (.iconst 0, 1) := by decide +kernel
theorem d_Mo_give_54 : decode b_Mo_give 54 = .ok (.iconst 0, 1) := by decide +kernel
theorem d_Mo_give_55 : decode b_Mo_give 55 = .ok (.invokevirtual 155, 3) := by decide +kernel
theorem d_Mo_give_58 : decode b_Mo_give 58 = .ok (.aload_n 0, 1) := by decide +kernel
theorem d_Mo_give_59 : decode b_Mo_give 59 = .ok (.getfield 28, 3) := by decide +kernel
theorem d_Mo_give_62 : decode b_Mo_give 62 = .ok (.iload_n 1, 1) := by decide +kernel
theorem d_Mo_give_63 : decode b_Mo_give 63 = .ok (.iconst 1, 1) := by decide +kernel
theorem d_Mo_give_64 : decode b_Mo_give 64 = .ok (.iastore, 1) := by decide +kernel
theorem d_Mo_give_65 : decode b_Mo_give 65 = .ok (.return_, 1) := by decide +kernel
theorem d_Mo_back_0 : decode b_Mo_back 0 = .ok (.aload_n 0, 1) := by decide +kernel
theorem d_Mo_back_1 : decode b_Mo_back 1 = .ok (.iconst 0, 1) := by decide +kernel
theorem d_Mo_back_2 : decode b_Mo_back 2 = .ok (.iload_n 1, 1) := by decide +kernel
theorem d_Mo_back_3 : decode b_Mo_back 3 = .ok (.invokevirtual 170, 3) := by decide +kernel
theorem d_Mo_back_6 : decode b_Mo_back 6 = .ok (.istore_n 2, 1) := by decide +kernel
theorem d_Mo_back_7 : decode b_Mo_back 7 = .ok (.aload_n 0, 1) := by decide +kernel
theorem d_Mo_back_8 : decode b_Mo_back 8 = .ok (.iload_n 2, 1) := by decide +kernel
theorem d_Mo_back_9 : decode b_Mo_back 9 = .ok (.ifCond .le 7, 3) := by decide +kernel
theorem d_Mo_back_12 : decode b_Mo_back 12 = .ok (.iload_n 2, 1) := by decide +kernel
theorem d_Mo_back_13 : decode b_Mo_back 13 = .ok (.goto 15, 3) := by decide +kernel
theorem d_Mo_back_16 : decode b_Mo_back 16 = .ok (.aload_n 0, 1) := by decide +kernel
theorem d_Mo_back_17 : decode b_Mo_back 17 = .ok (.invokevirtual 151, 3) := by decide +kernel
theorem d_Mo_back_20 : decode b_Mo_back 20 = .ok (.ifCond .eq 7, 3) := by decide +kernel
theorem d_Mo_back_23 : decode b_Mo_back 23 = .ok (.iconst 3, 1) := by decide +kernel
theorem d_Mo_back_24 : decode b_Mo_back 24 = .ok (.goto 4, 3) := by decide +kernel
theorem d_Mo_back_27 : decode b_Mo_back 27 = .ok (.iconst 0, 1) := by decide +kernel
theorem d_Mo_back_28 : decode b_Mo_back 28 = .ok (.putfield 55, 3) := by decide +kernel
theorem d_Mo_back_31 : decode b_Mo_back 31 = .ok (.aload_n 0, 1) := by decide +kernel
theorem d_Mo_back_32 : decode b_Mo_back 32 = .ok (.getfield 55, 3) := by decide +kernel
theorem d_Mo_back_35 : decode b_Mo_back 35 = .ok (.ifCond .le 5, 3) := by decide +kernel
theorem d_Mo_back_38 : decode b_Mo_back 38 = .ok (.iconst 0, 1) := by decide +kernel
theorem d_Mo_back_39 : decode b_Mo_back 39 = .ok (.ireturn, 1) := by decide +kernel
theorem d_Mo_back_40 : decode b_Mo_back 40 = .ok (.aload_n 0, 1) := by decide +kernel
theorem d_Mo_back_41 : decode b_Mo_back 41 = .ok (.iconst 5, 1) := by decide +kernel
theorem d_Mo_back_42 : decode b_Mo_back 42 = .ok (.iload_n 1, 1) := by decide +kernel
theorem d_Mo_back_43 : decode b_Mo_back 43 = .ok (.iconst 0, 1) := by decide +kernel
theorem d_Mo_back_44 : decode b_Mo_back 44 = .ok (.iconst 0, 1) := by decide +kernel
theorem d_Mo_back_45 : decode b_Mo_back 45 = .ok (.invokevirtual 155, 3) := by decide +kernel
theorem d_Mo_back_48 : decode b_Mo_back 48 = .ok (.aload_n 0, 1) := by decide +kernel
theorem d_Mo_back_49 : decode b_Mo_back 49 = .ok (.iconst 0, 1) := by decide +kernel
theorem d_Mo_back_50 : decode b_Mo_back 50 = .ok (.iload_n 1, 1) := by decide +kernel
theorem d_Mo_back_51 : decode b_Mo_back 51 = .ok (.invokevirtual 173, 3) := by decide +kernel
theorem d_Mo_back_54 : decode b_Mo_back 54 = .ok (.ireturn, 1) := by decide +kernel
theorem d_Mo_grow_0 : decode b_Mo_grow 0 = .ok (.aload_n 0, 1) := by decide +kernel
theorem d_Mo_grow_1 : decode b_Mo_grow 1 = .ok (.iconst 0, 1) := by decide +kernel
theorem d_Mo_grow_2 : decode b_Mo_grow 2 = .ok (.iload_n 1, 1) := by decide +kernel
theorem d_Mo_grow_3 : decode b_Mo_grow 3 = .ok (.invokevirtual 176, 3) := by decide +kernel
theorem d_Mo_grow_6 : decode b_Mo_grow 6 = .ok (.istore_n 2, 1) := by decide +kernel
theorem d_Mo_grow_7 : decode b_Mo_grow 7 = .ok (.aload_n 0, 1) := by decide +kernel
theorem d_Mo_grow_8 : decode b_Mo_grow 8 = .ok (.iload_n 2, 1) := by decide +kernel
theorem d_Mo_grow_9 : decode b_Mo_grow 9 = .ok (.ifCond .ne 14, 3) := by decide +kernel
theorem d_Mo_grow_12 : decode b_Mo_grow 12 = .ok (.aload_n 0, 1) := by decide +kernel
theorem d_Mo_grow_13 : decode b_Mo_grow 13 = .ok (.invokevirtual 151, 3) := by decide +kernel
theorem d_Mo_grow_16 : decode b_Mo_grow 16 = .ok (.ifCond .eq 7, 3) := by decide +kernel
theorem d_Mo_grow_19 : decode b_Mo_grow 19 = .ok (.iconst 1, 1) := by decide +kernel
theorem d_Mo_grow_20 : decode b_Mo_grow 20 = .ok (.goto 4, 3) := by decide +kernel
theorem d_Mo_grow_23 : decode b_Mo_grow 23 = .ok (.iconst 0, 1) := by decide +kernel
theorem d_Mo_grow_24 : decode b_Mo_grow 24 = .ok (.putfield 55, 3) := by decide +kernel
theorem d_Mo_grow_27 : decode b_Mo_grow 27 = .ok (.iload_n 2, 1) := by decide +kernel
theorem d_Mo_grow_28 : decode b_Mo_grow 28 = .ok (.ifCond .lt 10, 3) := by decide +kernel
theorem d_Mo_grow_31 : decode b_Mo_grow 31 = .ok (.aload_n 0, 1) := by decide +kernel
theorem d_Mo_grow_32 : decode b_Mo_grow 32 = .ok (.getfield 55, 3) := by decide +kernel
theorem d_Mo_grow_35 : decode b_Mo_grow 35 = .ok (.ifCond .le 16, 3) := by decide +kernel
theorem d_Mo_grow_38 : decode b_Mo_grow 38 = .ok (.aload_n 0, 1) := by decide +kernel
theorem d_Mo_grow_39 : decode b_Mo_grow 39 = .ok (.getfield 55, 3) := by decide +kernel
theorem d_Mo_grow_42 : decode b_Mo_grow 42 = .ok (.ifCond .le 7, 3) := by decide +kernel
theorem d_Mo_grow_45 : decode b_Mo_grow 45 = .ok (.iconst 0, 1) := by decide +kernel
theorem d_Mo_grow_46 : decode b_Mo_grow 46 = .ok (.goto 4, 3) := by decide +kernel
theorem d_Mo_grow_49 : decode b_Mo_grow 49 = .ok (.iload_n 2, 1) := by decide +kernel
theorem d_Mo_grow_50 : decode b_Mo_grow 50 = .ok (.ireturn, 1) := by decide +kernel
theorem d_Mo_grow_51 : decode b_Mo_grow 51 = .ok (.aload_n 0, 1) := by decide +kernel
theorem d_Mo_grow_52 : decode b_Mo_grow 52 = .ok (.bipush 6, 2) := by decide +kernel
theorem d_Mo_grow_54 : decode b_Mo_grow 54 = .ok (.iload_n 1, 1) := by decide +kernel
theorem d_Mo_grow_55 : decode b_Mo_grow 55 = .ok (.iconst 0, 1) := by decide +kernel
theorem d_Mo_grow_56 : decode b_Mo_grow 56 = .ok (.iconst 0, 1) := by decide +kernel
theorem d_Mo_grow_57 : decode b_Mo_grow 57 = .ok (.invokevirtual 155, 3) := by decide +kernel
theorem d_Mo_grow_60 : decode b_Mo_grow 60 = .ok (.aload_n 0, 1) := by decide +kernel
theorem d_Mo_grow_61 : decode b_Mo_grow 61 = .ok (.iload_n 1, 1) := by decide +kernel
theorem d_Mo_grow_62 : decode b_Mo_grow 62 = .ok (.invokevirtual 179, 3) := by decide +kernel
theorem d_Mo_grow_65 : decode b_Mo_grow 65 = .ok (.ireturn, 1) := by decide +kernel
theorem d_Mo_shrink_0 : decode b_Mo_shrink 0 = .ok (.aload_n 0, 1) := by decide +kernel
theorem d_Mo_shrink_1 : decode b_Mo_shrink 1 = .ok (.iconst 0, 1) := by decide +kernel
theorem d_Mo_shrink_2 : decode b_Mo_shrink 2 = .ok (.iload_n 1, 1) := by decide +kernel
theorem d_Mo_shrink_3 : decode b_Mo_shrink 3 = .ok (.iload_n 2, 1) := by decide +kernel
theorem d_Mo_shrink_4 : decode b_Mo_shrink 4 = .ok (.invokevirtual 182, 3) := by decide +kernel
theorem d_Mo_shrink_7 : decode b_Mo_shrink 7 = .ok (.istore_n 3, 1) := by decide +kernel
theorem d_Mo_shrink_8 : decode b_Mo_shrink 8 = .ok (.aload_n 0, 1) := by decide +kernel
theorem d_Mo_shrink_9 : decode b_Mo_shrink 9 = .ok (.iload_n 3, 1) := by decide +kernel
theorem d_Mo_shrink_10 : decode b_Mo_shrink 10 = .ok (.ifCond .ne 14, 3) := by decide +kernel
theorem d_Mo_shrink_13 : decode b_Mo_shrink 13 = .ok (.aload_n 0, 1) := by decide +kernel
theorem d_Mo_shrink_14 : decode b_Mo_shrink 14 = .ok (.invokevirtual 151, 3) := by decide +kernel
theorem d_Mo_shrink_17 : decode b_Mo_shrink 17 = .ok (.ifCond .eq 7, 3) := by decide +kernel
theorem d_Mo_shrink_20 : decode b_Mo_shrink 20 = .ok (.iconst 1, 1) := by decide +kernel
theorem d_Mo_shrink_21 : decode b_Mo_shrink 21 = .ok (.goto 4, 3) := by decide +kernel
theorem d_Mo_shrink_24 : decode b_Mo_shrink 24 = .ok (.iconst 0, 1) := by decide +kernel
theorem d_Mo_shrink_25 : decode b_Mo_shrink 25 = .ok (.putfield 55, 3) := by decide +kernel
theorem d_Mo_shrink_28 : decode b_Mo_shrink 28 = .ok (.iload_n 3, 1) := by decide +kernel
theorem d_Mo_shrink_29 : decode b_Mo_shrink 29 = .ok (.ifCond .lt 10, 3) := by decide +kernel
theorem d_Mo_shrink_32 : decode b_Mo_shrink 32 = .ok (.aload_n 0, 1) := by decide +kernel
theorem d_Mo_shrink_33 : decode b_Mo_shrink 33 = .ok (.getfield 55, 3) := by decide +kernel
theorem d_Mo_shrink_36 : decode b_Mo_shrink 36 = .ok (.ifCond .le 16, 3) := by decide +kernel
theorem d_Mo_shrink_39 : decode b_Mo_shrink 39 = .ok (.aload_n 0, 1) := by decide +kernel
theorem d_Mo_shrink_40 : decode b_Mo_shrink 40 = .ok (.getfield 55, 3) := by decide +kernel
theorem d_Mo_shrink_43 : decode b_Mo_shrink 43 = .ok (.ifCond .le 7, 3) := by decide +kernel
theorem d_Mo_shrink_46 : decode b_Mo_shrink 46 = .ok (.iconst 0, 1) := by decide +kernel
theorem d_Mo_shrink_47 : decode b_Mo_shrink 47 = .ok (.goto 4, 3) := by decide +kernel
theorem d_Mo_shrink_50 : decode b_Mo_shrink 50 = .ok (.iload_n 3, 1) := by decide +kernel
theorem d_Mo_shrink_51 : decode b_Mo_shrink 51 = .ok (.ireturn, 1) := by decide +kernel
theorem d_Mo_shrink_52 : decode b_Mo_shrink 52 = .ok (.aload_n 0, 1) := by decide +kernel
theorem d_Mo_shrink_53 : decode b_Mo_shrink 53 = .ok (.bipush 7, 2) := by decide +kernel
theorem d_Mo_shrink_55 : decode b_Mo_shrink 55 = .ok (.iload_n 1, 1) := by decide +kernel
theorem d_Mo_shrink_56 : decode b_Mo_shrink 56 = .ok (.iload_n 2, 1) := by decide +kernel
theorem d_Mo_shrink_57 : decode b_Mo_shrink 57 = .ok (.ifCond .eq 7, 3) := by decide +kernel
theorem d_Mo_shrink_60 : decode b_Mo_shrink 60 = .ok (.iconst 1, 1) := by decide +kernel
theorem d_Mo_shrink_61 : decode b_Mo_shrink 61 = .ok (.goto 4, 3) := by decide +kernel
theorem d_Mo_shrink_64 : decode b_Mo_shrink 64 = .ok (.iconst 0, 1) := by decide +kernel
theorem d_Mo_shrink_65 : decode b_Mo_shrink 65 = .ok (.iconst 0, 1) := by decide +kernel
theorem d_Mo_shrink_66 : decode b_Mo_shrink 66 = .ok (.invokevirtual 155, 3) := by decide +kernel
theorem d_Mo_shrink_69 : decode b_Mo_shrink 69 = .ok (.aload_n 0, 1) := by decide +kernel
theorem d_Mo_shrink_70 : decode b_Mo_shrink 70 = .ok (.iload_n 1, 1) := by decide +kernel
theorem d_Mo_shrink_71 : decode b_Mo_shrink 71 = .ok (.iload_n 2, 1) := by decide +kernel
theorem d_Mo_shrink_72 : decode b_Mo_shrink 72 = .ok (.invokevirtual 185, 3) := by decide +kernel
theorem d_Mo_shrink_75 : decode b_Mo_shrink 75 = .ok (.ireturn, 1) := by decide +kernel
theorem d_Mo_transfer_0 : decode b_Mo_transfer 0 = .ok (.aload_n 0, 1) := by decide +kernel
theorem d_Mo_transfer_1 : decode b_Mo_transfer 1 = .ok (.aload_n 0, 1) := by decide +kernel
theorem d_Mo_transfer_2 : decode b_Mo_transfer 2 = .ok (.iconst 0, 1) := by decide +kernel
theorem d_Mo_transfer_3 : decode b_Mo_transfer 3 = .ok (.iload_n 1, 1) := by decide +kernel
theorem d_Mo_transfer_4 : decode b_Mo_transfer 4 = .ok (.invokevirtual 123, 3) := by decide +kernel
theorem d_Mo_transfer_7 : decode b_Mo_transfer 7 = .ok (.ifCond .ne 7, 3) := by decide +kernel
theorem d_Mo_transfer_10 : decode b_Mo_transfer 10 = .ok (.iconst 1, 1) := by decide +kernel
theorem d_Mo_transfer_11 : decode b_Mo_transfer 11 = .ok (.goto 44, 3) := by decide +kernel
theorem d_Mo_transfer_14 : decode b_Mo_transfer 14 = .ok (.iload_n 2, 1) := by decide +kernel
theorem d_Mo_transfer_15 : decode b_Mo_transfer 15 = .ok (.iconst 0, 1) := by decide +kernel
theorem d_Mo_transfer_16 : decode b_Mo_transfer 16 = .ok (.sipush 9999, 3) := by decide +kernel
theorem d_Mo_transfer_19 : decode b_Mo_transfer 19 = .ok (.invokestatic 102, 3) := by decide +kernel
theorem d_Mo_transfer_22 : decode b_Mo_transfer 22 = .ok (.ifCond .ne 7, 3) := by decide +kernel
theorem d_Mo_transfer_25 : decode b_Mo_transfer 25 = .ok (.iconst 2, 1) := by decide +kernel
theorem d_Mo_transfer_26 : decode b_Mo_transfer 26 = .ok (.goto 29, 3) := by decide +kernel
theorem d_Mo_transfer_29 : decode b_Mo_transfer 29 = .ok (.aload_n 0, 1) := by decide +kernel
theorem d_Mo_transfer_30 : decode b_Mo_transfer 30 = .ok (.getfield 28, 3) := by decide +kernel
theorem d_Mo_transfer_33 : decode b_Mo_transfer 33 = .ok (.iload_n 1, 1) := by decide +kernel
theorem d_Mo_transfer_34 : decode b_Mo_transfer 34 = .ok (.iaload, 1) := by decide +kernel
theorem d_Mo_transfer_35 : decode b_Mo_transfer 35 = .ok (.iconst 4, 1) := by decide +kernel
theorem d_Mo_transfer_36 : decode b_Mo_transfer 36 = .ok (.if_icmp .ne 7, 3) := by decide +kernel
theorem d_Mo_transfer_39 : decode b_Mo_transfer 39 = .ok (.iconst 3, 1) := by decide +kernel
theorem d_Mo_transfer_40 : decode b_Mo_transfer 40 = .ok (.goto 15, 3) := by decide +kernel
theorem d_Mo_transfer_43 : decode b_Mo_transfer 43 = .ok (.aload_n 0, 1) := by decide +kernel
theorem d_Mo_transfer_44 : decode b_Mo_transfer 44 = .ok (.invokevirtual 151, 3) := by decide +kernel
theorem d_Mo_transfer_47 : decode b_Mo_transfer 47 = .ok (.ifCond .eq 7, 3) := by decide +kernel
theorem d_Mo_transfer_50 : decode b_Mo_transfer 50 = .ok (.iconst 4, 1) := by decide +kernel
theorem d_Mo_transfer_51 : decode b_Mo_transfer 51 = .ok (.goto 4, 3) := by decide +kernel
theorem d_Mo_transfer_54 : decode b_Mo_transfer 54 = .ok (.iconst 0, 1) := by decide +kernel
theorem d_Mo_transfer_55 : decode b_Mo_transfer 55 = .ok (.putfield 55, 3) := by decide +kernel
theorem d_Mo_transfer_58 : decode b_Mo_transfer 58 = .ok (.aload_n 0, 1) := by decide +kernel
theorem d_Mo_transfer_59 : decode b_Mo_transfer 59 = .ok (.getfield 55, 3) := by decide +kernel
theorem d_Mo_transfer_62 : decode b_Mo_transfer 62 = .ok (.ifCond .le 5, 3) := by decide +kernel
theorem d_Mo_transfer_65 : decode b_Mo_transfer 65 = .ok (.iconst 0, 1) := by decide +kernel
theorem d_Mo_transfer_66 : decode b_Mo_transfer 66 = .ok (.ireturn, 1) := by decide +kernel
theorem d_Mo_transfer_67 : decode b_Mo_transfer 67 = .ok (.aload_n 0, 1) := by decide +kernel
theorem d_Mo_transfer_68 : decode b_Mo_transfer 68 = .ok (.bipush 8, 2) := by decide +kernel
theorem d_Mo_transfer_70 : decode b_Mo_transfer 70 = .ok (.iload_n 1, 1) := by decide +kernel
theorem d_Mo_transfer_71 : decode b_Mo_transfer 71 = .ok (.iload_n 2, 1) := by decide +kernel
theorem d_Mo_transfer_72 : decode b_Mo_transfer 72 = .ok (.iconst 0, 1) := by decide +kernel
theorem d_Mo_transfer_73 : decode b_Mo_transfer 73 = .ok (.invokevirtual 155, 3) := by decide +kernel
theorem d_Mo_transfer_76 : decode b_Mo_transfer 76 = .ok (.aload_n 0, 1) := by decide +kernel
theorem d_Mo_transfer_77 : decode b_Mo_transfer 77 = .ok (.iload_n 1, 1) := by decide +kernel
theorem d_Mo_transfer_78 : decode b_Mo_transfer 78 = .ok (.iload_n 2, 1) := by decide +kernel
theorem d_Mo_transfer_79 : decode b_Mo_transfer 79 = .ok (.invokevirtual 189, 3) := by decide +kernel
theorem d_Mo_transfer_82 : decode b_Mo_transfer 82 = .ok (.ireturn, 1) := by decide +kernel
theorem d_Mo_policy_0 : decode b_Mo_policy 0 = .ok (.aload_n 0, 1) := by decide +kernel
theorem d_Mo_policy_1 : decode b_Mo_policy 1 = .ok (.iload_n 1, 1) := by decide +kernel
theorem d_Mo_policy_2 : decode b_Mo_policy 2 = .ok (.iconst 0, 1) := by decide +kernel
theorem d_Mo_policy_3 : decode b_Mo_policy 3 = .ok (.iconst 3, 1) := by decide +kernel
theorem d_Mo_policy_4 : decode b_Mo_policy 4 = .ok (.invokestatic 102, 3) := by decide +kernel
theorem d_Mo_policy_7 : decode b_Mo_policy 7 = .ok (.ifCond .eq 14, 3) := by decide +kernel
theorem d_Mo_policy_10 : decode b_Mo_policy 10 = .ok (.iload_n 2, 1) := by decide +kernel
theorem d_Mo_policy_11 : decode b_Mo_policy 11 = .ok (.iconst 0, 1) := by decide +kernel
theorem d_Mo_policy_12 : decode b_Mo_policy 12 = .ok (.sipush 1000, 3) := by decide +kernel
theorem d_Mo_policy_15 : decode b_Mo_policy 15 = .ok (.invokestatic 102, 3) := by decide +kernel
theorem d_Mo_policy_18 : decode b_Mo_policy 18 = .ok (.ifCond .ne 7, 3) := by decide +kernel
theorem d_Mo_policy_21 : decode b_Mo_policy 21 = .ok (.iconst 1, 1) := by decide +kernel
theorem d_Mo_policy_22 : decode b_Mo_policy 22 = .ok (.goto 15, 3) := by decide +kernel
theorem d_Mo_policy_25 : decode b_Mo_policy 25 = .ok (.aload_n 0, 1) := by decide +kernel
theorem d_Mo_policy_26 : decode b_Mo_policy 26 = .ok (.invokevirtual 151, 3) := by decide +kernel
theorem d_Mo_policy_29 : decode b_Mo_policy 29 = .ok (.ifCond .eq 7, 3) := by decide +kernel
theorem d_Mo_policy_32 : decode b_Mo_policy 32 = .ok (.iconst 2, 1) := by decide +kernel
theorem d_Mo_policy_33 : decode b_Mo_policy 33 = .ok (.goto 4, 3) := by decide +kernel
theorem d_Mo_policy_36 : decode b_Mo_policy 36 = .ok (.iconst 0, 1) := by decide +kernel
theorem d_Mo_policy_37 : decode b_Mo_policy 37 = .ok (.putfield 55, 3) := by decide +kernel
theorem d_Mo_policy_40 : decode b_Mo_policy 40 = .ok (.aload_n 0, 1) := by decide +kernel
theorem d_Mo_policy_41 : decode b_Mo_policy 41 = .ok (.getfield 55, 3) := by decide +kernel
theorem d_Mo_policy_44 : decode b_Mo_policy 44 = .ok (.ifCond .ne 19, 3) := by decide +kernel
theorem d_Mo_policy_47 : decode b_Mo_policy 47 = .ok (.aload_n 0, 1) := by decide +kernel
theorem d_Mo_policy_48 : decode b_Mo_policy 48 = .ok (.bipush 9, 2) := by decide +kernel
theorem d_Mo_policy_50 : decode b_Mo_policy 50 = .ok (.iload_n 1, 1) := by decide +kernel
theorem d_Mo_policy_51 : decode b_Mo_policy 51 = .ok (.iload_n 2, 1) := by decide +kernel
theorem d_Mo_policy_52 : decode b_Mo_policy 52 = .ok (.iconst 0, 1) := by decide +kernel
theorem d_Mo_policy_53 : decode b_Mo_policy 53 = .ok (.invokevirtual 155, 3) := by decide +kernel
theorem d_Mo_policy_56 : decode b_Mo_policy 56 = .ok (.aload_n 0, 1) := by decide +kernel
theorem d_Mo_policy_57 : decode b_Mo_policy 57 = .ok (.getfield 40, 3) := by decide +kernel
theorem d_Mo_policy_60 : decode b_Mo_policy 60 = .ok (.iload_n 1, 1) := by decide +kernel
theorem d_Mo_policy_61 : decode b_Mo_policy 61 = .ok (.iload_n 2, 1) := by decide +kernel
theorem d_Mo_policy_62 : decode b_Mo_policy 62 = .ok (.iastore, 1) := by decide +kernel
theorem d_Mo_policy_63 : decode b_Mo_policy 63 = .ok (.return_, 1) := by decide +kernel
theorem d_Mo_day_0 : decode b_Mo_day 0 = .ok (.aload_n 0, 1) := by decide +kernel
theorem d_Mo_day_1 : decode b_Mo_day 1 = .ok (.iload_n 1, 1) := by decide +kernel
theorem d_Mo_day_2 : decode b_Mo_day 2 = .ok (.aload_n 0, 1) := by decide +kernel
theorem d_Mo_day_3 : decode b_Mo_day 3 = .ok (.getfield 34, 3) := by decide +kernel
theorem d_Mo_day_6 : decode b_Mo_day 6 = .ok (.iconst 0, 1) := by decide +kernel
theorem d_Mo_day_7 : decode b_Mo_day 7 = .ok (.iaload, 1) := by decide +kernel
theorem d_Mo_day_8 : decode b_Mo_day 8 = .ok (.ldc 192, 2) := by decide +kernel
theorem d_Mo_day_10 : decode b_Mo_day 10 = .ok (.invokestatic 102, 3) := by decide +kernel
theorem d_Mo_day_13 : decode b_Mo_day 13 = .ok (.ifCond .ne 7, 3) := by decide +kernel
theorem d_Mo_day_16 : decode b_Mo_day 16 = .ok (.iconst 1, 1) := by decide +kernel
theorem d_Mo_day_17 : decode b_Mo_day 17 = .ok (.goto 15, 3) := by decide +kernel
theorem d_Mo_day_20 : decode b_Mo_day 20 = .ok (.aload_n 0, 1) := by decide +kernel
theorem d_Mo_day_21 : decode b_Mo_day 21 = .ok (.invokevirtual 151, 3) := by decide +kernel
theorem d_Mo_day_24 : decode b_Mo_day 24 = .ok (.ifCond .eq 7, 3) := by decide +kernel
theorem d_Mo_day_27 : decode b_Mo_day 27 = .ok (.iconst 2, 1) := by decide +kernel
theorem d_Mo_day_28 : decode b_Mo_day 28 = .ok (.goto 4, 3) := by decide +kernel
theorem d_Mo_day_31 : decode b_Mo_day 31 = .ok (.iconst 0, 1) := by decide +kernel
theorem d_Mo_day_32 : decode b_Mo_day 32 = .ok (.putfield 55, 3) := by decide +kernel
theorem d_Mo_day_35 : decode b_Mo_day 35 = .ok (.aload_n 0, 1) := by decide +kernel
theorem d_Mo_day_36 : decode b_Mo_day 36 = .ok (.getfield 55, 3) := by decide +kernel
theorem d_Mo_day_39 : decode b_Mo_day 39 = .ok (.ifCond .le 5, 3) := by decide +kernel
theorem d_Mo_day_42 : decode b_Mo_day 42 = .ok (.iconst 0, 1) := by decide +kernel
theorem d_Mo_day_43 : decode b_Mo_day 43 = .ok (.ireturn, 1) := by decide +kernel
theorem d_Mo_day_44 : decode b_Mo_day 44 = .ok (.aload_n 0, 1) := by decide +kernel
theorem d_Mo_day_45 : decode b_Mo_day 45 = .ok (.bipush 10, 2) := by decide +kernel
theorem d_Mo_day_47 : decode b_Mo_day 47 = .ok (.iload_n 1, 1) := by decide +kernel
theorem d_Mo_day_48 : decode b_Mo_day 48 = .ok (.iconst 0, 1) := by decide +kernel
theorem d_Mo_day_49 : decode b_Mo_day 49 = .ok (.iconst 0, 1) := by decide +kernel
theorem d_Mo_day_50 : decode b_Mo_day 50 = .ok (.invokevirtual 155, 3) := by decide +kernel
theorem d_Mo_day_53 : decode b_Mo_day 53 = .ok (.aload_n 0, 1) := by decide +kernel
theorem d_Mo_day_54 : decode b_Mo_day 54 = .ok (.iconst 0, 1) := by decide +kernel
theorem d_Mo_day_55 : decode b_Mo_day 55 = .ok (.iload_n 1, 1) := by decide +kernel
theorem d_Mo_day_56 : decode b_Mo_day 56 = .ok (.invokevirtual 193, 3) := by decide +kernel
theorem d_Mo_day_59 : decode b_Mo_day 59 = .ok (.ireturn, 1) := by decide +kernel
theorem d_Mo_quarantine_0 : decode b_Mo_quarantine 0 = .ok (.aload_n 0, 1) := by decide +kernel
theorem d_Mo_quarantine_1 : decode b_Mo_quarantine 1 = .ok (.iload_n 1, 1) := by decide +kernel
theorem d_Mo_quarantine_2 : decode b_Mo_quarantine 2 = .ok (.iconst 0, 1) := by decide +kernel
theorem d_Mo_quarantine_3 : decode b_Mo_quarantine 3 = .ok (.sipush 1000, 3) := by decide +kernel
theorem d_Mo_quarantine_6 : decode b_Mo_quarantine 6 = .ok (.invokestatic 102, 3) := by decide +kernel
theorem d_Mo_quarantine_9 : decode b_Mo_quarantine 9 = .ok (.ifCond .ne 7, 3) := by decide +kernel
theorem d_Mo_quarantine_12 : decode b_Mo_quarantine 12 = .ok (.iconst 1, 1) := by decide +kernel
theorem d_Mo_quarantine_13 : decode b_Mo_quarantine 13 = .ok (.goto 15, 3) := by decide +kernel
theorem d_Mo_quarantine_16 : decode b_Mo_quarantine 16 = .ok (.aload_n 0, 1) := by decide +kernel
theorem d_Mo_quarantine_17 : decode b_Mo_quarantine 17 = .ok (.invokevirtual 151, 3) := by decide +kernel
theorem d_Mo_quarantine_20 : decode b_Mo_quarantine 20 = .ok (.ifCond .eq 7, 3) := by decide +kernel
theorem d_Mo_quarantine_23 : decode b_Mo_quarantine 23 = .ok (.iconst 2, 1) := by decide +kernel
theorem d_Mo_quarantine_24 : decode b_Mo_quarantine 24 = .ok (.goto 4, 3) := by decide +kernel
theorem d_Mo_quarantine_27 : decode b_Mo_quarantine 27 = .ok (.iconst 0, 1) := by decide +kernel
theorem d_Mo_quarantine_28 : decode b_Mo_quarantine 28 = .ok (.putfield 55, 3) := by decide +kernel
theorem d_Mo_quarantine_31 : decode b_Mo_quarantine 31 = .ok (.aload_n 0, 1) := by decide +kernel
theorem d_Mo_quarantine_32 : decode b_Mo_quarantine 32 = .ok (.getfield 55, 3) := by decide +kernel
theorem d_Mo_quarantine_35 : decode b_Mo_quarantine 35 = .ok (.ifCond .ne 19, 3) := by decide +kernel
theorem d_Mo_quarantine_38 : decode b_Mo_quarantine 38 = .ok (.aload_n 0, 1) := by decide +kernel
theorem d_Mo_quarantine_39 : decode b_Mo_quarantine 39 = .ok (.bipush 11, 2) := by decide +kernel
theorem d_Mo_quarantine_41 : decode b_Mo_quarantine 41 = .ok (.iload_n 1, 1) := by decide +kernel
theorem d_Mo_quarantine_42 : decode b_Mo_quarantine 42 = .ok (.iconst 0, 1) := by decide +kernel
theorem d_Mo_quarantine_43 : decode b_Mo_quarantine 43 = .ok (.iconst 0, 1) := by decide +kernel
theorem d_Mo_quarantine_44 : decode b_Mo_quarantine 44 = .ok (.invokevirtual 155, 3) := by decide +kernel
theorem d_Mo_quarantine_47 : decode b_Mo_quarantine 47 = .ok (.aload_n 0, 1) := by decide +kernel
theorem d_Mo_quarantine_48 : decode b_Mo_quarantine 48 = .ok (.getfield 37, 3) := by decide +kernel
theorem d_Mo_quarantine_51 : decode b_Mo_quarantine 51 = .ok (.iconst 0, 1) := by decide +kernel
theorem d_Mo_quarantine_52 : decode b_Mo_quarantine 52 = .ok (.iload_n 1, 1) := by decide +kernel
theorem d_Mo_quarantine_53 : decode b_Mo_quarantine 53 = .ok (.iastore, 1) := by decide +kernel
theorem d_Mo_quarantine_54 : decode b_Mo_quarantine 54 = .ok (.return_, 1) := by decide +kernel
theorem d_Mo_holderOf_0 : decode b_Mo_holderOf 0 = .ok (.aload_n 0, 1) := by decide +kernel
theorem d_Mo_holderOf_1 : decode b_Mo_holderOf 1 = .ok (.iconst 0, 1) := by decide +kernel
theorem d_Mo_holderOf_2 : decode b_Mo_holderOf 2 = .ok (.putfield 55, 3) := by decide +kernel
theorem d_Mo_holderOf_5 : decode b_Mo_holderOf 5 = .ok (.iconst (-1), 1) := by decide +kernel
theorem d_Mo_holderOf_6 : decode b_Mo_holderOf 6 = .ok (.istore_n 3, 1) := by decide +kernel
theorem d_Mo_holderOf_7 : decode b_Mo_holderOf 7 = .ok (.iconst 0, 1) := by decide +kernel
theorem d_Mo_holderOf_8 : decode b_Mo_holderOf 8 = .ok (.istore 4, 2) := by decide +kernel
theorem d_Mo_holderOf_10 : decode b_Mo_holderOf 10 = .ok (.iload 4, 2) := by decide +kernel
theorem d_Mo_holderOf_12 : decode b_Mo_holderOf 12 = .ok (.aload_n 0, 1) := by decide +kernel
theorem d_Mo_holderOf_13 : decode b_Mo_holderOf 13 = .ok (.getfield 7, 3) := by decide +kernel
theorem d_Mo_holderOf_16 : decode b_Mo_holderOf 16 = .ok (.iconst 0, 1) := by decide +kernel
theorem d_Mo_holderOf_17 : decode b_Mo_holderOf 17 = .ok (.iaload, 1) := by decide +kernel
theorem d_Mo_holderOf_18 : decode b_Mo_holderOf 18 = .ok (.if_icmp .ge 61, 3) := by decide +kernel
theorem d_Mo_holderOf_21 : decode b_Mo_holderOf 21 = .ok (.aload_n 0, 1) := by decide +kernel
theorem d_Mo_holderOf_22 : decode b_Mo_holderOf 22 = .ok (.getfield 28, 3) := by decide +kernel
theorem d_Mo_holderOf_25 : decode b_Mo_holderOf 25 = .ok (.iload 4, 2) := by decide +kernel
theorem d_Mo_holderOf_27 : decode b_Mo_holderOf 27 = .ok (.iaload, 1) := by decide +kernel
theorem d_Mo_holderOf_28 : decode b_Mo_holderOf 28 = .ok (.iconst 1, 1) := by decide +kernel
theorem d_Mo_holderOf_29 : decode b_Mo_holderOf 29 = .ok (.if_icmp .ne 42, 3) := by decide +kernel
theorem d_Mo_holderOf_32 : decode b_Mo_holderOf 32 = .ok (.aload_n 0, 1) := by decide +kernel
theorem d_Mo_holderOf_33 : decode b_Mo_holderOf 33 = .ok (.getfield 22, 3) := by decide +kernel
theorem d_Mo_holderOf_36 : decode b_Mo_holderOf 36 = .ok (.iload 4, 2) := by decide +kernel
theorem d_Mo_holderOf_38 : decode b_Mo_holderOf 38 = .ok (.iaload, 1) := by decide +kernel
theorem d_Mo_holderOf_39 : decode b_Mo_holderOf 39 = .ok (.iload_n 2, 1) := by decide +kernel
theorem d_Mo_holderOf_40 : decode b_Mo_holderOf 40 = .ok (.if_icmp .ne 31, 3) := by decide +kernel
theorem d_Mo_holderOf_43 : decode b_Mo_holderOf 43 = .ok (.iload_n 1, 1) := by decide +kernel
theorem d_Mo_holderOf_44 : decode b_Mo_holderOf 44 = .ok (.bipush 32, 2) := by decide +kernel
theorem d_Mo_holderOf_46 : decode b_Mo_holderOf 46 = .ok (.aload_n 0, 1) := by decide +kernel
theorem d_Mo_holderOf_47 : decode b_Mo_holderOf 47 = .ok (.getfield 13, 3) := by decide +kernel
theorem d_Mo_holderOf_50 : decode b_Mo_holderOf 50 = .ok (.iload 4, 2) := by decide +kernel
theorem d_Mo_holderOf_52 : decode b_Mo_holderOf 52 = .ok (.iaload, 1) := by decide +kernel
theorem d_Mo_holderOf_53 : decode b_Mo_holderOf 53 = .ok (.aload_n 0, 1) := by decide +kernel
theorem d_Mo_holderOf_54 : decode b_Mo_holderOf 54 = .ok (.getfield 16, 3) := by decide +kernel
theorem d_Mo_holderOf_57 : decode b_Mo_holderOf 57 = .ok (.iload 4, 2) := by decide +kernel
theorem d_Mo_holderOf_59 : decode b_Mo_holderOf 59 = .ok (.iaload, 1) := by decide +kernel
theorem d_Mo_holderOf_60 : decode b_Mo_holderOf 60 = .ok (.invokestatic 77, 3) := by decide +kernel
theorem d_Mo_holderOf_63 : decode b_Mo_holderOf 63 = .ok (.ifCond .eq 8, 3) := by decide +kernel
theorem d_Mo_holderOf_66 : decode b_Mo_holderOf 66 = .ok (.iload 4, 2) := by decide +kernel
theorem d_Mo_holderOf_68 : decode b_Mo_holderOf 68 = .ok (.goto 4, 3) := by decide +kernel
theorem d_Mo_holderOf_71 : decode b_Mo_holderOf 71 = .ok (.iload_n 3, 1) := by decide +kernel
theorem d_Mo_holderOf_72 : decode b_Mo_holderOf 72 = .ok (.istore_n 3, 1) := by decide +kernel
theorem d_Mo_holderOf_73 : decode b_Mo_holderOf 73 = .ok (.iinc 4 1, 3) := by decide +kernel
theorem d_Mo_holderOf_76 : decode b_Mo_holderOf 76 = .ok (.goto (-66), 3) := by decide +kernel
theorem d_Mo_holderOf_79 : decode b_Mo_holderOf 79 = .ok (.iload_n 3, 1) := by decide +kernel
theorem d_Mo_holderOf_80 : decode b_Mo_holderOf 80 = .ok (.ireturn, 1) := by decide +kernel
theorem d_Mo_fieldOf_0 : decode b_Mo_fieldOf 0 = .ok (.iload_n 2, 1) := by decide +kernel
theorem d_Mo_fieldOf_1 : decode b_Mo_fieldOf 1 = .ok (.tableswitch 100 0 5 #[39, 46, 53, 79, 86, 93], 39) := by decide +kernel
theorem d_Mo_fieldOf_40 : decode b_Mo_fieldOf 40 = .ok (.aload_n 0, 1) := by decide +kernel
theorem d_Mo_fieldOf_41 : decode b_Mo_fieldOf 41 = .ok (.getfield 13, 3) := by decide +kernel
theorem d_Mo_fieldOf_44 : decode b_Mo_fieldOf 44 = .ok (.iload_n 1, 1) := by decide +kernel
theorem d_Mo_fieldOf_45 : decode b_Mo_fieldOf 45 = .ok (.iaload, 1) := by decide +kernel
theorem d_Mo_fieldOf_46 : decode b_Mo_fieldOf 46 = .ok (.ireturn, 1) := by decide +kernel
theorem d_Mo_fieldOf_47 : decode b_Mo_fieldOf 47 = .ok (.aload_n 0, 1) := by decide +kernel
theorem d_Mo_fieldOf_48 : decode b_Mo_fieldOf 48 = .ok (.getfield 16, 3) := by decide +kernel
theorem d_Mo_fieldOf_51 : decode b_Mo_fieldOf 51 = .ok (.iload_n 1, 1) := by decide +kernel
theorem d_Mo_fieldOf_52 : decode b_Mo_fieldOf 52 = .ok (.iaload, 1) := by decide +kernel
theorem d_Mo_fieldOf_53 : decode b_Mo_fieldOf 53 = .ok (.ireturn, 1) := by decide +kernel
theorem d_Mo_fieldOf_54 : decode b_Mo_fieldOf 54 = .ok (.aload_n 0, 1) := by decide +kernel
theorem d_Mo_fieldOf_55 : decode b_Mo_fieldOf 55 = .ok (.getfield 19, 3) := by decide +kernel
theorem d_Mo_fieldOf_58 : decode b_Mo_fieldOf 58 = .ok (.iload_n 1, 1) := by decide +kernel
theorem d_Mo_fieldOf_59 : decode b_Mo_fieldOf 59 = .ok (.iaload, 1) := by decide +kernel
theorem d_Mo_fieldOf_60 : decode b_Mo_fieldOf 60 = .ok (.ifCond .ge 7, 3) := by decide +kernel
theorem d_Mo_fieldOf_63 : decode b_Mo_fieldOf 63 = .ok (.iconst (-1), 1) := by decide +kernel
theorem d_Mo_fieldOf_64 : decode b_Mo_fieldOf 64 = .ok (.goto 15, 3) := by decide +kernel
theorem d_Mo_fieldOf_67 : decode b_Mo_fieldOf 67 = .ok (.aload_n 0, 1) := by decide +kernel
theorem d_Mo_fieldOf_68 : decode b_Mo_fieldOf 68 = .ok (.getfield 19, 3) := by decide +kernel
theorem d_Mo_fieldOf_71 : decode b_Mo_fieldOf 71 = .ok (.iload_n 1, 1) := by decide +kernel
theorem d_Mo_fieldOf_72 : decode b_Mo_fieldOf 72 = .ok (.iaload, 1) := by decide +kernel
theorem d_Mo_fieldOf_73 : decode b_Mo_fieldOf 73 = .ok (.aload_n 0, 1) := by decide +kernel
theorem d_Mo_fieldOf_74 : decode b_Mo_fieldOf 74 = .ok (.iload_n 1, 1) := by decide +kernel
theorem d_Mo_fieldOf_75 : decode b_Mo_fieldOf 75 = .ok (.invokevirtual 67, 3) := by decide +kernel
theorem d_Mo_fieldOf_78 : decode b_Mo_fieldOf 78 = .ok (.isub, 1) := by decide +kernel
theorem d_Mo_fieldOf_79 : decode b_Mo_fieldOf 79 = .ok (.ireturn, 1) := by decide +kernel
theorem d_Mo_fieldOf_80 : decode b_Mo_fieldOf 80 = .ok (.aload_n 0, 1) := by decide +kernel
theorem d_Mo_fieldOf_81 : decode b_Mo_fieldOf 81 = .ok (.getfield 22, 3) := by decide +kernel
theorem d_Mo_fieldOf_84 : decode b_Mo_fieldOf 84 = .ok (.iload_n 1, 1) := by decide +kernel
theorem d_Mo_fieldOf_85 : decode b_Mo_fieldOf 85 = .ok (.iaload, 1) := by decide +kernel
theorem d_Mo_fieldOf_86 : decode b_Mo_fieldOf 86 = .ok (.ireturn, 1) := by decide +kernel
theorem d_Mo_fieldOf_87 : decode b_Mo_fieldOf 87 = .ok (.aload_n 0, 1) := by decide +kernel
theorem d_Mo_fieldOf_88 : decode b_Mo_fieldOf 88 = .ok (.getfield 25, 3) := by decide +kernel
theorem d_Mo_fieldOf_91 : decode b_Mo_fieldOf 91 = .ok (.iload_n 1, 1) := by decide +kernel
theorem d_Mo_fieldOf_92 : decode b_Mo_fieldOf 92 = .ok (.iaload, 1) := by decide +kernel
theorem d_Mo_fieldOf_93 : decode b_Mo_fieldOf 93 = .ok (.ireturn, 1) := by decide +kernel
theorem d_Mo_fieldOf_94 : decode b_Mo_fieldOf 94 = .ok (.aload_n 0, 1) := by decide +kernel
theorem d_Mo_fieldOf_95 : decode b_Mo_fieldOf 95 = .ok (.getfield 28, 3) := by decide +kernel
theorem d_Mo_fieldOf_98 : decode b_Mo_fieldOf 98 = .ok (.iload_n 1, 1) := by decide +kernel
theorem d_Mo_fieldOf_99 : decode b_Mo_fieldOf 99 = .ok (.iaload, 1) := by decide +kernel
theorem d_Mo_fieldOf_100 : decode b_Mo_fieldOf 100 = .ok (.ireturn, 1) := by decide +kernel
theorem d_Mo_fieldOf_101 : decode b_Mo_fieldOf 101 = .ok (.aload_n 0, 1) := by decide +kernel
theorem d_Mo_fieldOf_102 : decode b_Mo_fieldOf 102 = .ok (.getfield 31, 3) := by decide +kernel
theorem d_Mo_fieldOf_105 : decode b_Mo_fieldOf 105 = .ok (.iload_n 1, 1) := by decide +kernel
theorem d_Mo_fieldOf_106 : decode b_Mo_fieldOf 106 = .ok (.iaload, 1) := by decide +kernel
theorem d_Mo_fieldOf_107 : decode b_Mo_fieldOf 107 = .ok (.ireturn, 1) := by decide +kernel
theorem d_Mo_field_0 : decode b_Mo_field 0 = .ok (.aload_n 0, 1) := by decide +kernel
theorem d_Mo_field_1 : decode b_Mo_field 1 = .ok (.aload_n 0, 1) := by decide +kernel
theorem d_Mo_field_2 : decode b_Mo_field 2 = .ok (.iconst 0, 1) := by decide +kernel
theorem d_Mo_field_3 : decode b_Mo_field 3 = .ok (.iload_n 1, 1) := by decide +kernel
theorem d_Mo_field_4 : decode b_Mo_field 4 = .ok (.invokevirtual 123, 3) := by decide +kernel
theorem d_Mo_field_7 : decode b_Mo_field 7 = .ok (.ifCond .ne 7, 3) := by decide +kernel
theorem d_Mo_field_10 : decode b_Mo_field 10 = .ok (.iconst 1, 1) := by decide +kernel
theorem d_Mo_field_11 : decode b_Mo_field 11 = .ok (.goto 18, 3) := by decide +kernel
theorem d_Mo_field_14 : decode b_Mo_field 14 = .ok (.iload_n 2, 1) := by decide +kernel
theorem d_Mo_field_15 : decode b_Mo_field 15 = .ok (.iconst 0, 1) := by decide +kernel
theorem d_Mo_field_16 : decode b_Mo_field 16 = .ok (.bipush 6, 2) := by decide +kernel
theorem d_Mo_field_18 : decode b_Mo_field 18 = .ok (.invokestatic 102, 3) := by decide +kernel
theorem d_Mo_field_21 : decode b_Mo_field 21 = .ok (.ifCond .eq 7, 3) := by decide +kernel
theorem d_Mo_field_24 : decode b_Mo_field 24 = .ok (.iconst 0, 1) := by decide +kernel
theorem d_Mo_field_25 : decode b_Mo_field 25 = .ok (.goto 4, 3) := by decide +kernel
theorem d_Mo_field_28 : decode b_Mo_field 28 = .ok (.iconst 2, 1) := by decide +kernel
theorem d_Mo_field_29 : decode b_Mo_field 29 = .ok (.putfield 55, 3) := by decide +kernel
theorem d_Mo_field_32 : decode b_Mo_field 32 = .ok (.aload_n 0, 1) := by decide +kernel
theorem d_Mo_field_33 : decode b_Mo_field 33 = .ok (.getfield 55, 3) := by decide +kernel
theorem d_Mo_field_36 : decode b_Mo_field 36 = .ok (.ifCond .le 7, 3) := by decide +kernel
theorem d_Mo_field_39 : decode b_Mo_field 39 = .ok (.iconst 0, 1) := by decide +kernel
theorem d_Mo_field_40 : decode b_Mo_field 40 = .ok (.goto 9, 3) := by decide +kernel
theorem d_Mo_field_43 : decode b_Mo_field 43 = .ok (.aload_n 0, 1) := by decide +kernel
theorem d_Mo_field_44 : decode b_Mo_field 44 = .ok (.iload_n 1, 1) := by decide +kernel
theorem d_Mo_field_45 : decode b_Mo_field 45 = .ok (.iload_n 2, 1) := by decide +kernel
theorem d_Mo_field_46 : decode b_Mo_field 46 = .ok (.invokevirtual 196, 3) := by decide +kernel
theorem d_Mo_field_49 : decode b_Mo_field 49 = .ok (.ireturn, 1) := by decide +kernel
theorem d_Mo_told_0 : decode b_Mo_told 0 = .ok (.aload_n 0, 1) := by decide +kernel
theorem d_Mo_told_1 : decode b_Mo_told 1 = .ok (.iconst 0, 1) := by decide +kernel
theorem d_Mo_told_2 : decode b_Mo_told 2 = .ok (.putfield 55, 3) := by decide +kernel
theorem d_Mo_told_5 : decode b_Mo_told 5 = .ok (.iload_n 1, 1) := by decide +kernel
theorem d_Mo_told_6 : decode b_Mo_told 6 = .ok (.ifCond .ne 12, 3) := by decide +kernel
theorem d_Mo_told_9 : decode b_Mo_told 9 = .ok (.aload_n 0, 1) := by decide +kernel
theorem d_Mo_told_10 : decode b_Mo_told 10 = .ok (.getfield 7, 3) := by decide +kernel
theorem d_Mo_told_13 : decode b_Mo_told 13 = .ok (.iconst 0, 1) := by decide +kernel
theorem d_Mo_told_14 : decode b_Mo_told 14 = .ok (.iaload, 1) := by decide +kernel
theorem d_Mo_told_15 : decode b_Mo_told 15 = .ok (.goto 44, 3) := by decide +kernel
theorem d_Mo_told_18 : decode b_Mo_told 18 = .ok (.iload_n 1, 1) := by decide +kernel
theorem d_Mo_told_19 : decode b_Mo_told 19 = .ok (.iconst 1, 1) := by decide +kernel
theorem d_Mo_told_20 : decode b_Mo_told 20 = .ok (.if_icmp .ne 12, 3) := by decide +kernel
theorem d_Mo_told_23 : decode b_Mo_told 23 = .ok (.aload_n 0, 1) := by decide +kernel
theorem d_Mo_told_24 : decode b_Mo_told 24 = .ok (.getfield 34, 3) := by decide +kernel
theorem d_Mo_told_27 : decode b_Mo_told 27 = .ok (.iconst 0, 1) := by decide +kernel
theorem d_Mo_told_28 : decode b_Mo_told 28 = .ok (.iaload, 1) := by decide +kernel
theorem d_Mo_told_29 : decode b_Mo_told 29 = .ok (.goto 30, 3) := by decide +kernel
theorem d_Mo_told_32 : decode b_Mo_told 32 = .ok (.iload_n 1, 1) := by decide +kernel
theorem d_Mo_told_33 : decode b_Mo_told 33 = .ok (.iconst 2, 1) := by decide +kernel
theorem d_Mo_told_34 : decode b_Mo_told 34 = .ok (.if_icmp .ne 12, 3) := by decide +kernel
theorem d_Mo_told_37 : decode b_Mo_told 37 = .ok (.aload_n 0, 1) := by decide +kernel
theorem d_Mo_told_38 : decode b_Mo_told 38 = .ok (.getfield 37, 3) := by decide +kernel
theorem d_Mo_told_41 : decode b_Mo_told 41 = .ok (.iconst 0, 1) := by decide +kernel
theorem d_Mo_told_42 : decode b_Mo_told 42 = .ok (.iaload, 1) := by decide +kernel
theorem d_Mo_told_43 : decode b_Mo_told 43 = .ok (.goto 16, 3) := by decide +kernel
theorem d_Mo_told_46 : decode b_Mo_told 46 = .ok (.iload_n 1, 1) := by decide +kernel
theorem d_Mo_told_47 : decode b_Mo_told 47 = .ok (.iconst 3, 1) := by decide +kernel
theorem d_Mo_told_48 : decode b_Mo_told 48 = .ok (.if_icmp .ne 10, 3) := by decide +kernel
theorem d_Mo_told_51 : decode b_Mo_told 51 = .ok (.aload_n 0, 1) := by decide +kernel
theorem d_Mo_told_52 : decode b_Mo_told 52 = .ok (.getfield 144, 3) := by decide +kernel
theorem d_Mo_told_55 : decode b_Mo_told 55 = .ok (.goto 4, 3) := by decide +kernel
theorem d_Mo_told_58 : decode b_Mo_told 58 = .ok (.iconst (-1), 1) := by decide +kernel
theorem d_Mo_told_59 : decode b_Mo_told 59 = .ok (.ireturn, 1) := by decide +kernel
theorem d_Mo_freeAt_0 : decode b_Mo_freeAt 0 = .ok (.aload_n 0, 1) := by decide +kernel
theorem d_Mo_freeAt_1 : decode b_Mo_freeAt 1 = .ok (.aload_n 0, 1) := by decide +kernel
theorem d_Mo_freeAt_2 : decode b_Mo_freeAt 2 = .ok (.iconst 0, 1) := by decide +kernel
theorem d_Mo_freeAt_3 : decode b_Mo_freeAt 3 = .ok (.iload_n 1, 1) := by decide +kernel
theorem d_Mo_freeAt_4 : decode b_Mo_freeAt 4 = .ok (.invokevirtual 123, 3) := by decide +kernel
theorem d_Mo_freeAt_7 : decode b_Mo_freeAt 7 = .ok (.ifCond .ne 7, 3) := by decide +kernel
theorem d_Mo_freeAt_10 : decode b_Mo_freeAt 10 = .ok (.iconst 1, 1) := by decide +kernel
theorem d_Mo_freeAt_11 : decode b_Mo_freeAt 11 = .ok (.goto 18, 3) := by decide +kernel
theorem d_Mo_freeAt_14 : decode b_Mo_freeAt 14 = .ok (.iload_n 2, 1) := by decide +kernel
theorem d_Mo_freeAt_15 : decode b_Mo_freeAt 15 = .ok (.iconst 0, 1) := by decide +kernel
theorem d_Mo_freeAt_16 : decode b_Mo_freeAt 16 = .ok (.bipush 32, 2) := by decide +kernel
theorem d_Mo_freeAt_18 : decode b_Mo_freeAt 18 = .ok (.invokestatic 102, 3) := by decide +kernel
theorem d_Mo_freeAt_21 : decode b_Mo_freeAt 21 = .ok (.ifCond .eq 7, 3) := by decide +kernel
theorem d_Mo_freeAt_24 : decode b_Mo_freeAt 24 = .ok (.iconst 0, 1) := by decide +kernel
theorem d_Mo_freeAt_25 : decode b_Mo_freeAt 25 = .ok (.goto 4, 3) := by decide +kernel
theorem d_Mo_freeAt_28 : decode b_Mo_freeAt 28 = .ok (.iconst 2, 1) := by decide +kernel
theorem d_Mo_freeAt_29 : decode b_Mo_freeAt 29 = .ok (.putfield 55, 3) := by decide +kernel
theorem d_Mo_freeAt_32 : decode b_Mo_freeAt 32 = .ok (.aload_n 0, 1) := by decide +kernel
theorem d_Mo_freeAt_33 : decode b_Mo_freeAt 33 = .ok (.getfield 55, 3) := by decide +kernel
theorem d_Mo_freeAt_36 : decode b_Mo_freeAt 36 = .ok (.ifCond .le 5, 3) := by decide +kernel
theorem d_Mo_freeAt_39 : decode b_Mo_freeAt 39 = .ok (.lconst 0, 1) := by decide +kernel
theorem d_Mo_freeAt_40 : decode b_Mo_freeAt 40 = .ok (.lreturn, 1) := by decide +kernel
theorem d_Mo_freeAt_41 : decode b_Mo_freeAt 41 = .ok (.lconst 0, 1) := by decide +kernel
theorem d_Mo_freeAt_42 : decode b_Mo_freeAt 42 = .ok (.lstore_n 3, 1) := by decide +kernel
theorem d_Mo_freeAt_43 : decode b_Mo_freeAt 43 = .ok (.aload_n 0, 1) := by decide +kernel
theorem d_Mo_freeAt_44 : decode b_Mo_freeAt 44 = .ok (.iload_n 1, 1) := by decide +kernel
theorem d_Mo_freeAt_45 : decode b_Mo_freeAt 45 = .ok (.aload_n 0, 1) := by decide +kernel
theorem d_Mo_freeAt_46 : decode b_Mo_freeAt 46 = .ok (.iload_n 1, 1) := by decide +kernel
theorem d_Mo_freeAt_47 : decode b_Mo_freeAt 47 = .ok (.invokevirtual 112, 3) := by decide +kernel
theorem d_Mo_freeAt_50 : decode b_Mo_freeAt 50 = .ok (.invokevirtual 115, 3) := by decide +kernel
theorem d_Mo_freeAt_53 : decode b_Mo_freeAt 53 = .ok (.istore 5, 2) := by decide +kernel
theorem d_Mo_freeAt_55 : decode b_Mo_freeAt 55 = .ok (.iload 5, 2) := by decide +kernel
theorem d_Mo_freeAt_57 : decode b_Mo_freeAt 57 = .ok (.ifCond .eq 40, 3) := by decide +kernel
theorem d_Mo_freeAt_60 : decode b_Mo_freeAt 60 = .ok (.lload_n 3, 1) := by decide +kernel
theorem d_Mo_freeAt_61 : decode b_Mo_freeAt 61 = .ok (.aload_n 0, 1) := by decide +kernel
theorem d_Mo_freeAt_62 : decode b_Mo_freeAt 62 = .ok (.getfield 99, 3) := by decide +kernel
theorem d_Mo_freeAt_65 : decode b_Mo_freeAt 65 = .ok (.iload_n 2, 1) := by decide +kernel
theorem d_Mo_freeAt_66 : decode b_Mo_freeAt 66 = .ok (.if_icmp .gt 14, 3) := by decide +kernel
theorem d_Mo_freeAt_69 : decode b_Mo_freeAt 69 = .ok (.lconst 1, 1) := by decide +kernel
theorem d_Mo_freeAt_70 : decode b_Mo_freeAt 70 = .ok (.iload_n 2, 1) := by decide +kernel
theorem d_Mo_freeAt_71 : decode b_Mo_freeAt 71 = .ok (.aload_n 0, 1) := by decide +kernel
theorem d_Mo_freeAt_72 : decode b_Mo_freeAt 72 = .ok (.getfield 99, 3) := by decide +kernel
theorem d_Mo_freeAt_75 : decode b_Mo_freeAt 75 = .ok (.isub, 1) := by decide +kernel
theorem d_Mo_freeAt_76 : decode b_Mo_freeAt 76 = .ok (.lshl, 1) := by decide +kernel
theorem d_Mo_freeAt_77 : decode b_Mo_freeAt 77 = .ok (.goto 4, 3) := by decide +kernel
theorem d_Mo_freeAt_80 : decode b_Mo_freeAt 80 = .ok (.lconst 0, 1) := by decide +kernel
theorem d_Mo_freeAt_81 : decode b_Mo_freeAt 81 = .ok (.ladd, 1) := by decide +kernel
theorem d_Mo_freeAt_82 : decode b_Mo_freeAt 82 = .ok (.lstore_n 3, 1) := by decide +kernel
theorem d_Mo_freeAt_83 : decode b_Mo_freeAt 83 = .ok (.aload_n 0, 1) := by decide +kernel
theorem d_Mo_freeAt_84 : decode b_Mo_freeAt 84 = .ok (.iload_n 1, 1) := by decide +kernel
theorem d_Mo_freeAt_85 : decode b_Mo_freeAt 85 = .ok (.aload_n 0, 1) := by decide +kernel
theorem d_Mo_freeAt_86 : decode b_Mo_freeAt 86 = .ok (.invokevirtual 119, 3) := by decide +kernel
theorem d_Mo_freeAt_89 : decode b_Mo_freeAt 89 = .ok (.invokevirtual 115, 3) := by decide +kernel
theorem d_Mo_freeAt_92 : decode b_Mo_freeAt 92 = .ok (.istore 5, 2) := by decide +kernel
theorem d_Mo_freeAt_94 : decode b_Mo_freeAt 94 = .ok (.goto (-39), 3) := by decide +kernel
theorem d_Mo_freeAt_97 : decode b_Mo_freeAt 97 = .ok (.lload_n 3, 1) := by decide +kernel
theorem d_Mo_freeAt_98 : decode b_Mo_freeAt 98 = .ok (.lreturn, 1) := by decide +kernel
theorem d_Mo_walk_0 : decode b_Mo_walk 0 = .ok (.iconst 0, 1) := by decide +kernel
theorem d_Mo_walk_1 : decode b_Mo_walk 1 = .ok (.istore_n 3, 1) := by decide +kernel
theorem d_Mo_walk_2 : decode b_Mo_walk 2 = .ok (.aload_n 0, 1) := by decide +kernel
theorem d_Mo_walk_3 : decode b_Mo_walk 3 = .ok (.iload_n 1, 1) := by decide +kernel
theorem d_Mo_walk_4 : decode b_Mo_walk 4 = .ok (.aload_n 0, 1) := by decide +kernel
theorem d_Mo_walk_5 : decode b_Mo_walk 5 = .ok (.iload_n 1, 1) := by decide +kernel
theorem d_Mo_walk_6 : decode b_Mo_walk 6 = .ok (.invokevirtual 112, 3) := by decide +kernel
theorem d_Mo_walk_9 : decode b_Mo_walk 9 = .ok (.invokevirtual 115, 3) := by decide +kernel
theorem d_Mo_walk_12 : decode b_Mo_walk 12 = .ok (.istore 4, 2) := by decide +kernel
theorem d_Mo_walk_14 : decode b_Mo_walk 14 = .ok (.iload 4, 2) := by decide +kernel
theorem d_Mo_walk_16 : decode b_Mo_walk 16 = .ok (.ifCond .eq 27, 3) := by decide +kernel
theorem d_Mo_walk_19 : decode b_Mo_walk 19 = .ok (.iload_n 3, 1) := by decide +kernel
theorem d_Mo_walk_20 : decode b_Mo_walk 20 = .ok (.iload_n 2, 1) := by decide +kernel
theorem d_Mo_walk_21 : decode b_Mo_walk 21 = .ok (.if_icmp .ne 5, 3) := by decide +kernel
theorem d_Mo_walk_24 : decode b_Mo_walk 24 = .ok (.iconst 1, 1) := by decide +kernel
theorem d_Mo_walk_25 : decode b_Mo_walk 25 = .ok (.ireturn, 1) := by decide +kernel
theorem d_Mo_walk_26 : decode b_Mo_walk 26 = .ok (.iinc 3 1, 3) := by decide +kernel
theorem d_Mo_walk_29 : decode b_Mo_walk 29 = .ok (.aload_n 0, 1) := by decide +kernel
theorem d_Mo_walk_30 : decode b_Mo_walk 30 = .ok (.iload_n 1, 1) := by decide +kernel
theorem d_Mo_walk_31 : decode b_Mo_walk 31 = .ok (.aload_n 0, 1) := by decide +kernel
theorem d_Mo_walk_32 : decode b_Mo_walk 32 = .ok (.invokevirtual 119, 3) := by decide +kernel
theorem d_Mo_walk_35 : decode b_Mo_walk 35 = .ok (.invokevirtual 115, 3) := by decide +kernel
theorem d_Mo_walk_38 : decode b_Mo_walk 38 = .ok (.istore 4, 2) := by decide +kernel
theorem d_Mo_walk_40 : decode b_Mo_walk 40 = .ok (.goto (-26), 3) := by decide +kernel
theorem d_Mo_walk_43 : decode b_Mo_walk 43 = .ok (.iload_n 2, 1) := by decide +kernel
theorem d_Mo_walk_44 : decode b_Mo_walk 44 = .ok (.ifCond .ge 7, 3) := by decide +kernel
theorem d_Mo_walk_47 : decode b_Mo_walk 47 = .ok (.iload_n 3, 1) := by decide +kernel
theorem d_Mo_walk_48 : decode b_Mo_walk 48 = .ok (.goto 4, 3) := by decide +kernel
theorem d_Mo_walk_51 : decode b_Mo_walk 51 = .ok (.iconst 0, 1) := by decide +kernel
theorem d_Mo_walk_52 : decode b_Mo_walk 52 = .ok (.ireturn, 1) := by decide +kernel
theorem d_Mo_blocks_0 : decode b_Mo_blocks 0 = .ok (.aload_n 0, 1) := by decide +kernel
theorem d_Mo_blocks_1 : decode b_Mo_blocks 1 = .ok (.aload_n 0, 1) := by decide +kernel
theorem d_Mo_blocks_2 : decode b_Mo_blocks 2 = .ok (.iconst 0, 1) := by decide +kernel
theorem d_Mo_blocks_3 : decode b_Mo_blocks 3 = .ok (.iload_n 1, 1) := by decide +kernel
theorem d_Mo_blocks_4 : decode b_Mo_blocks 4 = .ok (.invokevirtual 123, 3) := by decide +kernel
theorem d_Mo_blocks_7 : decode b_Mo_blocks 7 = .ok (.ifCond .eq 7, 3) := by decide +kernel
theorem d_Mo_blocks_10 : decode b_Mo_blocks 10 = .ok (.iconst 0, 1) := by decide +kernel
theorem d_Mo_blocks_11 : decode b_Mo_blocks 11 = .ok (.goto 4, 3) := by decide +kernel
theorem d_Mo_blocks_14 : decode b_Mo_blocks 14 = .ok (.iconst 1, 1) := by decide +kernel
theorem d_Mo_blocks_15 : decode b_Mo_blocks 15 = .ok (.putfield 55, 3) := by decide +kernel
theorem d_Mo_blocks_18 : decode b_Mo_blocks 18 = .ok (.aload_n 0, 1) := by decide +kernel
theorem d_Mo_blocks_19 : decode b_Mo_blocks 19 = .ok (.getfield 55, 3) := by decide +kernel
theorem d_Mo_blocks_22 : decode b_Mo_blocks 22 = .ok (.ifCond .le 7, 3) := by decide +kernel
theorem d_Mo_blocks_25 : decode b_Mo_blocks 25 = .ok (.iconst 0, 1) := by decide +kernel
theorem d_Mo_blocks_26 : decode b_Mo_blocks 26 = .ok (.goto 9, 3) := by decide +kernel
theorem d_Mo_blocks_29 : decode b_Mo_blocks 29 = .ok (.aload_n 0, 1) := by decide +kernel
theorem d_Mo_blocks_30 : decode b_Mo_blocks 30 = .ok (.iload_n 1, 1) := by decide +kernel
theorem d_Mo_blocks_31 : decode b_Mo_blocks 31 = .ok (.iconst (-1), 1) := by decide +kernel
theorem d_Mo_blocks_32 : decode b_Mo_blocks 32 = .ok (.invokevirtual 199, 3) := by decide +kernel
theorem d_Mo_blocks_35 : decode b_Mo_blocks 35 = .ok (.ireturn, 1) := by decide +kernel
theorem d_Mo_block_0 : decode b_Mo_block 0 = .ok (.aload_n 0, 1) := by decide +kernel
theorem d_Mo_block_1 : decode b_Mo_block 1 = .ok (.aload_n 0, 1) := by decide +kernel
theorem d_Mo_block_2 : decode b_Mo_block 2 = .ok (.iconst 0, 1) := by decide +kernel
theorem d_Mo_block_3 : decode b_Mo_block 3 = .ok (.iload_n 1, 1) := by decide +kernel
theorem d_Mo_block_4 : decode b_Mo_block 4 = .ok (.invokevirtual 123, 3) := by decide +kernel
theorem d_Mo_block_7 : decode b_Mo_block 7 = .ok (.ifCond .eq 21, 3) := by decide +kernel
theorem d_Mo_block_10 : decode b_Mo_block 10 = .ok (.iload_n 2, 1) := by decide +kernel
theorem d_Mo_block_11 : decode b_Mo_block 11 = .ok (.ifCond .lt 17, 3) := by decide +kernel
theorem d_Mo_block_14 : decode b_Mo_block 14 = .ok (.aload_n 0, 1) := by decide +kernel
theorem d_Mo_block_15 : decode b_Mo_block 15 = .ok (.iload_n 1, 1) := by decide +kernel
theorem d_Mo_block_16 : decode b_Mo_block 16 = .ok (.iload_n 2, 1) := by decide +kernel
theorem d_Mo_block_17 : decode b_Mo_block 17 = .ok (.invokevirtual 199, 3) := by decide +kernel
theorem d_Mo_block_20 : decode b_Mo_block 20 = .ok (.iconst 1, 1) := by decide +kernel
theorem d_Mo_block_21 : decode b_Mo_block 21 = .ok (.if_icmp .ne 7, 3) := by decide +kernel
theorem d_Mo_block_24 : decode b_Mo_block 24 = .ok (.iconst 0, 1) := by decide +kernel
theorem d_Mo_block_25 : decode b_Mo_block 25 = .ok (.goto 4, 3) := by decide +kernel
theorem d_Mo_block_28 : decode b_Mo_block 28 = .ok (.iconst 1, 1) := by decide +kernel
theorem d_Mo_block_29 : decode b_Mo_block 29 = .ok (.putfield 55, 3) := by decide +kernel
theorem d_Mo_block_32 : decode b_Mo_block 32 = .ok (.aload_n 0, 1) := by decide +kernel
theorem d_Mo_block_33 : decode b_Mo_block 33 = .ok (.getfield 55, 3) := by decide +kernel
theorem d_Mo_block_36 : decode b_Mo_block 36 = .ok (.ifCond .le 7, 3) := by decide +kernel
theorem d_Mo_block_39 : decode b_Mo_block 39 = .ok (.iconst 0, 1) := by decide +kernel
theorem d_Mo_block_40 : decode b_Mo_block 40 = .ok (.goto 19, 3) := by decide +kernel
theorem d_Mo_block_43 : decode b_Mo_block 43 = .ok (.iload_n 3, 1) := by decide +kernel
theorem d_Mo_block_44 : decode b_Mo_block 44 = .ok (.ifCond .eq 10, 3) := by decide +kernel
theorem d_Mo_block_47 : decode b_Mo_block 47 = .ok (.aload_n 0, 1) := by decide +kernel
theorem d_Mo_block_48 : decode b_Mo_block 48 = .ok (.getfield 99, 3) := by decide +kernel
theorem d_Mo_block_51 : decode b_Mo_block 51 = .ok (.goto 8, 3) := by decide +kernel
theorem d_Mo_block_54 : decode b_Mo_block 54 = .ok (.aload_n 0, 1) := by decide +kernel
theorem d_Mo_block_55 : decode b_Mo_block 55 = .ok (.getfield 95, 3) := by decide +kernel
theorem d_Mo_block_58 : decode b_Mo_block 58 = .ok (.l2i, 1) := by decide +kernel
theorem d_Mo_block_59 : decode b_Mo_block 59 = .ok (.ireturn, 1) := by decide +kernel
theorem d_Mo_used_0 : decode b_Mo_used 0 = .ok (.aload_n 0, 1) := by decide +kernel
theorem d_Mo_used_1 : decode b_Mo_used 1 = .ok (.aload_n 0, 1) := by decide +kernel
theorem d_Mo_used_2 : decode b_Mo_used 2 = .ok (.iconst 0, 1) := by decide +kernel
theorem d_Mo_used_3 : decode b_Mo_used 3 = .ok (.iload_n 1, 1) := by decide +kernel
theorem d_Mo_used_4 : decode b_Mo_used 4 = .ok (.invokevirtual 123, 3) := by decide +kernel
theorem d_Mo_used_7 : decode b_Mo_used 7 = .ok (.ifCond .eq 7, 3) := by decide +kernel
theorem d_Mo_used_10 : decode b_Mo_used 10 = .ok (.iconst 0, 1) := by decide +kernel
theorem d_Mo_used_11 : decode b_Mo_used 11 = .ok (.goto 4, 3) := by decide +kernel
theorem d_Mo_used_14 : decode b_Mo_used 14 = .ok (.iconst 1, 1) := by decide +kernel
theorem d_Mo_used_15 : decode b_Mo_used 15 = .ok (.putfield 55, 3) := by decide +kernel
theorem d_Mo_used_18 : decode b_Mo_used 18 = .ok (.aload_n 0, 1) := by decide +kernel
theorem d_Mo_used_19 : decode b_Mo_used 19 = .ok (.getfield 55, 3) := by decide +kernel
theorem d_Mo_used_22 : decode b_Mo_used 22 = .ok (.ifCond .le 7, 3) := by decide +kernel
theorem d_Mo_used_25 : decode b_Mo_used 25 = .ok (.lconst 0, 1) := by decide +kernel
theorem d_Mo_used_26 : decode b_Mo_used 26 = .ok (.goto 8, 3) := by decide +kernel
theorem d_Mo_used_29 : decode b_Mo_used 29 = .ok (.aload_n 0, 1) := by decide +kernel
theorem d_Mo_used_30 : decode b_Mo_used 30 = .ok (.iload_n 1, 1) := by decide +kernel
theorem d_Mo_used_31 : decode b_Mo_used 31 = .ok (.invokevirtual 105, 3) := by decide +kernel
theorem d_Mo_used_34 : decode b_Mo_used 34 = .ok (.lreturn, 1) := by decide +kernel
theorem d_Mo_cutLength_0 : decode b_Mo_cutLength 0 = .ok (.iload_n 0, 1) := by decide +kernel
theorem d_Mo_cutLength_1 : decode b_Mo_cutLength 1 = .ok (.iconst 3, 1) := by decide +kernel
theorem d_Mo_cutLength_2 : decode b_Mo_cutLength 2 = .ok (.iadd, 1) := by decide +kernel
theorem d_Mo_cutLength_3 : decode b_Mo_cutLength 3 = .ok (.iconst 4, 1) := by decide +kernel
theorem d_Mo_cutLength_4 : decode b_Mo_cutLength 4 = .ok (.idiv, 1) := by decide +kernel
theorem d_Mo_cutLength_5 : decode b_Mo_cutLength 5 = .ok (.iconst 4, 1) := by decide +kernel
theorem d_Mo_cutLength_6 : decode b_Mo_cutLength 6 = .ok (.imul, 1) := by decide +kernel
theorem d_Mo_cutLength_7 : decode b_Mo_cutLength 7 = .ok (.ireturn, 1) := by decide +kernel
theorem d_Mo_cutsOf_0 : decode b_Mo_cutsOf 0 = .ok (.iconst 1, 1) := by decide +kernel
theorem d_Mo_cutsOf_1 : decode b_Mo_cutsOf 1 = .ok (.iload_n 0, 1) := by decide +kernel
theorem d_Mo_cutsOf_2 : decode b_Mo_cutsOf 2 = .ok (.invokestatic 202, 3) := by decide +kernel
theorem d_Mo_cutsOf_5 : decode b_Mo_cutsOf 5 = .ok (.iload_n 0, 1) := by decide +kernel
theorem d_Mo_cutsOf_6 : decode b_Mo_cutsOf 6 = .ok (.isub, 1) := by decide +kernel
theorem d_Mo_cutsOf_7 : decode b_Mo_cutsOf 7 = .ok (.ishl, 1) := by decide +kernel
theorem d_Mo_cutsOf_8 : decode b_Mo_cutsOf 8 = .ok (.ireturn, 1) := by decide +kernel
theorem d_Mo_cuts_0 : decode b_Mo_cuts 0 = .ok (.aload_n 0, 1) := by decide +kernel
theorem d_Mo_cuts_1 : decode b_Mo_cuts 1 = .ok (.aload_n 0, 1) := by decide +kernel
theorem d_Mo_cuts_2 : decode b_Mo_cuts 2 = .ok (.iconst 0, 1) := by decide +kernel
theorem d_Mo_cuts_3 : decode b_Mo_cuts 3 = .ok (.iload_n 1, 1) := by decide +kernel
theorem d_Mo_cuts_4 : decode b_Mo_cuts 4 = .ok (.invokevirtual 123, 3) := by decide +kernel
theorem d_Mo_cuts_7 : decode b_Mo_cuts 7 = .ok (.ifCond .eq 7, 3) := by decide +kernel
theorem d_Mo_cuts_10 : decode b_Mo_cuts 10 = .ok (.iconst 0, 1) := by decide +kernel
theorem d_Mo_cuts_11 : decode b_Mo_cuts 11 = .ok (.goto 4, 3) := by decide +kernel
theorem d_Mo_cuts_14 : decode b_Mo_cuts 14 = .ok (.iconst 1, 1) := by decide +kernel
theorem d_Mo_cuts_15 : decode b_Mo_cuts 15 = .ok (.putfield 55, 3) := by decide +kernel
theorem d_Mo_cuts_18 : decode b_Mo_cuts 18 = .ok (.iconst 0, 1) := by decide +kernel
theorem d_Mo_cuts_19 : decode b_Mo_cuts 19 = .ok (.istore_n 2, 1) := by decide +kernel
theorem d_Mo_cuts_20 : decode b_Mo_cuts 20 = .ok (.iconst 0, 1) := by decide +kernel
theorem d_Mo_cuts_21 : decode b_Mo_cuts 21 = .ok (.istore_n 3, 1) := by decide +kernel
theorem d_Mo_cuts_22 : decode b_Mo_cuts 22 = .ok (.iload_n 3, 1) := by decide +kernel
theorem d_Mo_cuts_23 : decode b_Mo_cuts 23 = .ok (.aload_n 0, 1) := by decide +kernel
theorem d_Mo_cuts_24 : decode b_Mo_cuts 24 = .ok (.getfield 7, 3) := by decide +kernel
theorem d_Mo_cuts_27 : decode b_Mo_cuts 27 = .ok (.iconst 0, 1) := by decide +kernel
theorem d_Mo_cuts_28 : decode b_Mo_cuts 28 = .ok (.iaload, 1) := by decide +kernel
theorem d_Mo_cuts_29 : decode b_Mo_cuts 29 = .ok (.if_icmp .ge 52, 3) := by decide +kernel
theorem d_Mo_cuts_32 : decode b_Mo_cuts 32 = .ok (.aload_n 0, 1) := by decide +kernel
theorem d_Mo_cuts_33 : decode b_Mo_cuts 33 = .ok (.getfield 55, 3) := by decide +kernel
theorem d_Mo_cuts_36 : decode b_Mo_cuts 36 = .ok (.ifCond .ne 45, 3) := by decide +kernel
theorem d_Mo_cuts_39 : decode b_Mo_cuts 39 = .ok (.iload_n 2, 1) := by decide +kernel
theorem d_Mo_cuts_40 : decode b_Mo_cuts 40 = .ok (.aload_n 0, 1) := by decide +kernel
theorem d_Mo_cuts_41 : decode b_Mo_cuts 41 = .ok (.getfield 19, 3) := by decide +kernel
theorem d_Mo_cuts_44 : decode b_Mo_cuts 44 = .ok (.iload_n 3, 1) := by decide +kernel
theorem d_Mo_cuts_45 : decode b_Mo_cuts 45 = .ok (.iaload, 1) := by decide +kernel
theorem d_Mo_cuts_46 : decode b_Mo_cuts 46 = .ok (.iload_n 1, 1) := by decide +kernel
theorem d_Mo_cuts_47 : decode b_Mo_cuts 47 = .ok (.if_icmp .ne 25, 3) := by decide +kernel
theorem d_Mo_cuts_50 : decode b_Mo_cuts 50 = .ok (.aload_n 0, 1) := by decide +kernel
theorem d_Mo_cuts_51 : decode b_Mo_cuts 51 = .ok (.getfield 28, 3) := by decide +kernel
theorem d_Mo_cuts_54 : decode b_Mo_cuts 54 = .ok (.iload_n 3, 1) := by decide +kernel
theorem d_Mo_cuts_55 : decode b_Mo_cuts 55 = .ok (.iaload, 1) := by decide +kernel
theorem d_Mo_cuts_56 : decode b_Mo_cuts 56 = .ok (.iconst 1, 1) := by decide +kernel
theorem d_Mo_cuts_57 : decode b_Mo_cuts 57 = .ok (.if_icmp .ne 15, 3) := by decide +kernel
theorem d_Mo_cuts_60 : decode b_Mo_cuts 60 = .ok (.aload_n 0, 1) := by decide +kernel
theorem d_Mo_cuts_61 : decode b_Mo_cuts 61 = .ok (.getfield 16, 3) := by decide +kernel
theorem d_Mo_cuts_64 : decode b_Mo_cuts 64 = .ok (.iload_n 3, 1) := by decide +kernel
theorem d_Mo_cuts_65 : decode b_Mo_cuts 65 = .ok (.iaload, 1) := by decide +kernel
theorem d_Mo_cuts_66 : decode b_Mo_cuts 66 = .ok (.invokestatic 205, 3) := by decide +kernel
theorem d_Mo_cuts_69 : decode b_Mo_cuts 69 = .ok (.goto 4, 3) := by decide +kernel
theorem d_Mo_cuts_72 : decode b_Mo_cuts 72 = .ok (.iconst 0, 1) := by decide +kernel
theorem d_Mo_cuts_73 : decode b_Mo_cuts 73 = .ok (.iadd, 1) := by decide +kernel
theorem d_Mo_cuts_74 : decode b_Mo_cuts 74 = .ok (.istore_n 2, 1) := by decide +kernel
theorem d_Mo_cuts_75 : decode b_Mo_cuts 75 = .ok (.iinc 3 1, 3) := by decide +kernel
theorem d_Mo_cuts_78 : decode b_Mo_cuts 78 = .ok (.goto (-56), 3) := by decide +kernel
theorem d_Mo_cuts_81 : decode b_Mo_cuts 81 = .ok (.iload_n 2, 1) := by decide +kernel
theorem d_Mo_cuts_82 : decode b_Mo_cuts 82 = .ok (.ireturn, 1) := by decide +kernel
theorem d_Mo_cut_0 : decode b_Mo_cut 0 = .ok (.aload_n 0, 1) := by decide +kernel
theorem d_Mo_cut_1 : decode b_Mo_cut 1 = .ok (.iconst 1, 1) := by decide +kernel
theorem d_Mo_cut_2 : decode b_Mo_cut 2 = .ok (.putfield 55, 3) := by decide +kernel
theorem d_Mo_cut_5 : decode b_Mo_cut 5 = .ok (.aload_n 0, 1) := by decide +kernel
theorem d_Mo_cut_6 : decode b_Mo_cut 6 = .ok (.iconst 0, 1) := by decide +kernel
theorem d_Mo_cut_7 : decode b_Mo_cut 7 = .ok (.iload_n 1, 1) := by decide +kernel
theorem d_Mo_cut_8 : decode b_Mo_cut 8 = .ok (.invokevirtual 123, 3) := by decide +kernel
theorem d_Mo_cut_11 : decode b_Mo_cut 11 = .ok (.ifCond .eq 7, 3) := by decide +kernel
theorem d_Mo_cut_14 : decode b_Mo_cut 14 = .ok (.iload_n 2, 1) := by decide +kernel
theorem d_Mo_cut_15 : decode b_Mo_cut 15 = .ok (.ifCond .ge 5, 3) := by decide +kernel
theorem d_Mo_cut_18 : decode b_Mo_cut 18 = .ok (.iconst 0, 1) := by decide +kernel
theorem d_Mo_cut_19 : decode b_Mo_cut 19 = .ok (.ireturn, 1) := by decide +kernel
theorem d_Mo_cut_20 : decode b_Mo_cut 20 = .ok (.iconst 0, 1) := by decide +kernel
theorem d_Mo_cut_21 : decode b_Mo_cut 21 = .ok (.istore 4, 2) := by decide +kernel
theorem d_Mo_cut_23 : decode b_Mo_cut 23 = .ok (.iload 4, 2) := by decide +kernel
theorem d_Mo_cut_25 : decode b_Mo_cut 25 = .ok (.aload_n 0, 1) := by decide +kernel
theorem d_Mo_cut_26 : decode b_Mo_cut 26 = .ok (.getfield 7, 3) := by decide +kernel
theorem d_Mo_cut_29 : decode b_Mo_cut 29 = .ok (.iconst 0, 1) := by decide +kernel
theorem d_Mo_cut_30 : decode b_Mo_cut 30 = .ok (.iaload, 1) := by decide +kernel
theorem d_Mo_cut_31 : decode b_Mo_cut 31 = .ok (.if_icmp .ge 181, 3) := by decide +kernel
theorem d_Mo_cut_34 : decode b_Mo_cut 34 = .ok (.aload_n 0, 1) := by decide +kernel
theorem d_Mo_cut_35 : decode b_Mo_cut 35 = .ok (.getfield 19, 3) := by decide +kernel
theorem d_Mo_cut_38 : decode b_Mo_cut 38 = .ok (.iload 4, 2) := by decide +kernel
theorem d_Mo_cut_40 : decode b_Mo_cut 40 = .ok (.iaload, 1) := by decide +kernel
theorem d_Mo_cut_41 : decode b_Mo_cut 41 = .ok (.iload_n 1, 1) := by decide +kernel
theorem d_Mo_cut_42 : decode b_Mo_cut 42 = .ok (.if_icmp .ne 164, 3) := by decide +kernel
theorem d_Mo_cut_45 : decode b_Mo_cut 45 = .ok (.aload_n 0, 1) := by decide +kernel
theorem d_Mo_cut_46 : decode b_Mo_cut 46 = .ok (.getfield 28, 3) := by decide +kernel
theorem d_Mo_cut_49 : decode b_Mo_cut 49 = .ok (.iload 4, 2) := by decide +kernel
theorem d_Mo_cut_51 : decode b_Mo_cut 51 = .ok (.iaload, 1) := by decide +kernel
theorem d_Mo_cut_52 : decode b_Mo_cut 52 = .ok (.iconst 1, 1) := by decide +kernel
theorem d_Mo_cut_53 : decode b_Mo_cut 53 = .ok (.if_icmp .ne 153, 3) := by decide +kernel
theorem d_Mo_cut_56 : decode b_Mo_cut 56 = .ok (.iconst 0, 1) := by decide +kernel
theorem d_Mo_cut_57 : decode b_Mo_cut 57 = .ok (.istore 5, 2) := by decide +kernel
theorem d_Mo_cut_59 : decode b_Mo_cut 59 = .ok (.iconst 0, 1) := by decide +kernel
theorem d_Mo_cut_60 : decode b_Mo_cut 60 = .ok (.istore 6, 2) := by decide +kernel
theorem d_Mo_cut_62 : decode b_Mo_cut 62 = .ok (.iload 6, 2) := by decide +kernel
theorem d_Mo_cut_64 : decode b_Mo_cut 64 = .ok (.aload_n 0, 1) := by decide +kernel
theorem d_Mo_cut_65 : decode b_Mo_cut 65 = .ok (.getfield 7, 3) := by decide +kernel
theorem d_Mo_cut_68 : decode b_Mo_cut 68 = .ok (.iconst 0, 1) := by decide +kernel
theorem d_Mo_cut_69 : decode b_Mo_cut 69 = .ok (.iaload, 1) := by decide +kernel
theorem d_Mo_cut_70 : decode b_Mo_cut 70 = .ok (.if_icmp .ge 66, 3) := by decide +kernel
theorem d_Mo_cut_73 : decode b_Mo_cut 73 = .ok (.iload 5, 2) := by decide +kernel
theorem d_Mo_cut_75 : decode b_Mo_cut 75 = .ok (.aload_n 0, 1) := by decide +kernel
theorem d_Mo_cut_76 : decode b_Mo_cut 76 = .ok (.getfield 19, 3) := by decide +kernel
theorem d_Mo_cut_79 : decode b_Mo_cut 79 = .ok (.iload 6, 2) := by decide +kernel
theorem d_Mo_cut_81 : decode b_Mo_cut 81 = .ok (.iaload, 1) := by decide +kernel
theorem d_Mo_cut_82 : decode b_Mo_cut 82 = .ok (.iload_n 1, 1) := by decide +kernel
theorem d_Mo_cut_83 : decode b_Mo_cut 83 = .ok (.if_icmp .ne 43, 3) := by decide +kernel
theorem d_Mo_cut_86 : decode b_Mo_cut 86 = .ok (.aload_n 0, 1) := by decide +kernel
theorem d_Mo_cut_87 : decode b_Mo_cut 87 = .ok (.getfield 28, 3) := by decide +kernel
theorem d_Mo_cut_90 : decode b_Mo_cut 90 = .ok (.iload 6, 2) := by decide +kernel
theorem d_Mo_cut_92 : decode b_Mo_cut 92 = .ok (.iaload, 1) := by decide +kernel
theorem d_Mo_cut_93 : decode b_Mo_cut 93 = .ok (.iconst 1, 1) := by decide +kernel
theorem d_Mo_cut_94 : decode b_Mo_cut 94 = .ok (.if_icmp .ne 32, 3) := by decide +kernel
theorem d_Mo_cut_97 : decode b_Mo_cut 97 = .ok (.aload_n 0, 1) := by decide +kernel
theorem d_Mo_cut_98 : decode b_Mo_cut 98 = .ok (.iload 6, 2) := by decide +kernel
theorem d_Mo_cut_100 : decode b_Mo_cut 100 = .ok (.invokevirtual 112, 3) := by decide +kernel
theorem d_Mo_cut_103 : decode b_Mo_cut 103 = .ok (.aload_n 0, 1) := by decide +kernel
theorem d_Mo_cut_104 : decode b_Mo_cut 104 = .ok (.iload 4, 2) := by decide +kernel
theorem d_Mo_cut_106 : decode b_Mo_cut 106 = .ok (.invokevirtual 112, 3) := by decide +kernel
theorem d_Mo_cut_109 : decode b_Mo_cut 109 = .ok (.lcmp, 1) := by decide +kernel
theorem d_Mo_cut_110 : decode b_Mo_cut 110 = .ok (.ifCond .ge 16, 3) := by decide +kernel
theorem d_Mo_cut_113 : decode b_Mo_cut 113 = .ok (.aload_n 0, 1) := by decide +kernel
theorem d_Mo_cut_114 : decode b_Mo_cut 114 = .ok (.getfield 16, 3) := by decide +kernel
theorem d_Mo_cut_117 : decode b_Mo_cut 117 = .ok (.iload 6, 2) := by decide +kernel
theorem d_Mo_cut_119 : decode b_Mo_cut 119 = .ok (.iaload, 1) := by decide +kernel
theorem d_Mo_cut_120 : decode b_Mo_cut 120 = .ok (.invokestatic 205, 3) := by decide +kernel
theorem d_Mo_cut_123 : decode b_Mo_cut 123 = .ok (.goto 4, 3) := by decide +kernel
theorem d_Mo_cut_126 : decode b_Mo_cut 126 = .ok (.iconst 0, 1) := by decide +kernel
theorem d_Mo_cut_127 : decode b_Mo_cut 127 = .ok (.iadd, 1) := by decide +kernel
theorem d_Mo_cut_128 : decode b_Mo_cut 128 = .ok (.istore 5, 2) := by decide +kernel
theorem d_Mo_cut_130 : decode b_Mo_cut 130 = .ok (.iinc 6 1, 3) := by decide +kernel
theorem d_Mo_cut_133 : decode b_Mo_cut 133 = .ok (.goto (-71), 3) := by decide +kernel
theorem d_Mo_cut_136 : decode b_Mo_cut 136 = .ok (.iload_n 2, 1) := by decide +kernel
theorem d_Mo_cut_137 : decode b_Mo_cut 137 = .ok (.iload 5, 2) := by decide +kernel
theorem d_Mo_cut_139 : decode b_Mo_cut 139 = .ok (.isub, 1) := by decide +kernel
theorem d_Mo_cut_140 : decode b_Mo_cut 140 = .ok (.istore 6, 2) := by decide +kernel
theorem d_Mo_cut_142 : decode b_Mo_cut 142 = .ok (.iload 6, 2) := by decide +kernel
theorem d_Mo_cut_144 : decode b_Mo_cut 144 = .ok (.ifCond .lt 62, 3) := by decide +kernel
theorem d_Mo_cut_147 : decode b_Mo_cut 147 = .ok (.iload 6, 2) := by decide +kernel
theorem d_Mo_cut_149 : decode b_Mo_cut 149 = .ok (.aload_n 0, 1) := by decide +kernel
theorem d_Mo_cut_150 : decode b_Mo_cut 150 = .ok (.getfield 16, 3) := by decide +kernel
theorem d_Mo_cut_153 : decode b_Mo_cut 153 = .ok (.iload 4, 2) := by decide +kernel
theorem d_Mo_cut_155 : decode b_Mo_cut 155 = .ok (.iaload, 1) := by decide +kernel
theorem d_Mo_cut_156 : decode b_Mo_cut 156 = .ok (.invokestatic 205, 3) := by decide +kernel
theorem d_Mo_cut_159 : decode b_Mo_cut 159 = .ok (.if_icmp .ge 47, 3) := by decide +kernel
theorem d_Mo_cut_162 : decode b_Mo_cut 162 = .ok (.aload_n 0, 1) := by decide +kernel
theorem d_Mo_cut_163 : decode b_Mo_cut 163 = .ok (.iconst 0, 1) := by decide +kernel
theorem d_Mo_cut_164 : decode b_Mo_cut 164 = .ok (.putfield 55, 3) := by decide +kernel
theorem d_Mo_cut_167 : decode b_Mo_cut 167 = .ok (.aload_n 0, 1) := by decide +kernel
theorem d_Mo_cut_168 : decode b_Mo_cut 168 = .ok (.getfield 16, 3) := by decide +kernel
theorem d_Mo_cut_171 : decode b_Mo_cut 171 = .ok (.iload 4, 2) := by decide +kernel
theorem d_Mo_cut_173 : decode b_Mo_cut 173 = .ok (.iaload, 1) := by decide +kernel
theorem d_Mo_cut_174 : decode b_Mo_cut 174 = .ok (.invokestatic 202, 3) := by decide +kernel
theorem d_Mo_cut_177 : decode b_Mo_cut 177 = .ok (.istore 7, 2) := by decide +kernel
theorem d_Mo_cut_179 : decode b_Mo_cut 179 = .ok (.iload_n 3, 1) := by decide +kernel
theorem d_Mo_cut_180 : decode b_Mo_cut 180 = .ok (.ifCond .eq 8, 3) := by decide +kernel
theorem d_Mo_cut_183 : decode b_Mo_cut 183 = .ok (.iload 7, 2) := by decide +kernel
theorem d_Mo_cut_185 : decode b_Mo_cut 185 = .ok (.goto 20, 3) := by decide +kernel
theorem d_Mo_cut_188 : decode b_Mo_cut 188 = .ok (.aload_n 0, 1) := by decide +kernel
theorem d_Mo_cut_189 : decode b_Mo_cut 189 = .ok (.iload 4, 2) := by decide +kernel
theorem d_Mo_cut_191 : decode b_Mo_cut 191 = .ok (.invokevirtual 112, 3) := by decide +kernel
theorem d_Mo_cut_194 : decode b_Mo_cut 194 = .ok (.iload 6, 2) := by decide +kernel
theorem d_Mo_cut_196 : decode b_Mo_cut 196 = .ok (.i2l, 1) := by decide +kernel
theorem d_Mo_cut_197 : decode b_Mo_cut 197 = .ok (.iload 7, 2) := by decide +kernel
theorem d_Mo_cut_199 : decode b_Mo_cut 199 = .ok (.invokestatic 87, 3) := by decide +kernel
theorem d_Mo_cut_202 : decode b_Mo_cut 202 = .ok (.lmul, 1) := by decide +kernel
theorem d_Mo_cut_203 : decode b_Mo_cut 203 = .ok (.ladd, 1) := by decide +kernel
theorem d_Mo_cut_204 : decode b_Mo_cut 204 = .ok (.l2i, 1) := by decide +kernel
theorem d_Mo_cut_205 : decode b_Mo_cut 205 = .ok (.ireturn, 1) := by decide +kernel
theorem d_Mo_cut_206 : decode b_Mo_cut 206 = .ok (.iinc 4 1, 3) := by decide +kernel
theorem d_Mo_cut_209 : decode b_Mo_cut 209 = .ok (.goto (-186), 3) := by decide +kernel
theorem d_Mo_cut_212 : decode b_Mo_cut 212 = .ok (.iconst 0, 1) := by decide +kernel
theorem d_Mo_cut_213 : decode b_Mo_cut 213 = .ok (.ireturn, 1) := by decide +kernel
theorem d_Mo_log_0 : decode b_Mo_log 0 = .ok (.aload_n 0, 1) := by decide +kernel
theorem d_Mo_log_1 : decode b_Mo_log 1 = .ok (.iload_n 1, 1) := by decide +kernel
theorem d_Mo_log_2 : decode b_Mo_log 2 = .ok (.iconst 0, 1) := by decide +kernel
theorem d_Mo_log_3 : decode b_Mo_log 3 = .ok (.aload_n 0, 1) := by decide +kernel
theorem d_Mo_log_4 : decode b_Mo_log 4 = .ok (.getfield 144, 3) := by decide +kernel
theorem d_Mo_log_7 : decode b_Mo_log 7 = .ok (.iconst 1, 1) := by decide +kernel
theorem d_Mo_log_8 : decode b_Mo_log 8 = .ok (.isub, 1) := by decide +kernel
theorem d_Mo_log_9 : decode b_Mo_log 9 = .ok (.invokestatic 102, 3) := by decide +kernel
theorem d_Mo_log_12 : decode b_Mo_log 12 = .ok (.ifCond .ne 7, 3) := by decide +kernel
theorem d_Mo_log_15 : decode b_Mo_log 15 = .ok (.iconst 1, 1) := by decide +kernel
theorem d_Mo_log_16 : decode b_Mo_log 16 = .ok (.goto 17, 3) := by decide +kernel
theorem d_Mo_log_19 : decode b_Mo_log 19 = .ok (.iload_n 2, 1) := by decide +kernel
theorem d_Mo_log_20 : decode b_Mo_log 20 = .ok (.iconst 0, 1) := by decide +kernel
theorem d_Mo_log_21 : decode b_Mo_log 21 = .ok (.iconst 3, 1) := by decide +kernel
theorem d_Mo_log_22 : decode b_Mo_log 22 = .ok (.invokestatic 102, 3) := by decide +kernel
theorem d_Mo_log_25 : decode b_Mo_log 25 = .ok (.ifCond .eq 7, 3) := by decide +kernel
theorem d_Mo_log_28 : decode b_Mo_log 28 = .ok (.iconst 0, 1) := by decide +kernel
theorem d_Mo_log_29 : decode b_Mo_log 29 = .ok (.goto 4, 3) := by decide +kernel
theorem d_Mo_log_32 : decode b_Mo_log 32 = .ok (.iconst 2, 1) := by decide +kernel
theorem d_Mo_log_33 : decode b_Mo_log 33 = .ok (.putfield 55, 3) := by decide +kernel
theorem d_Mo_log_36 : decode b_Mo_log 36 = .ok (.aload_n 0, 1) := by decide +kernel
theorem d_Mo_log_37 : decode b_Mo_log 37 = .ok (.getfield 55, 3) := by decide +kernel
theorem d_Mo_log_40 : decode b_Mo_log 40 = .ok (.ifCond .le 7, 3) := by decide +kernel
theorem d_Mo_log_43 : decode b_Mo_log 43 = .ok (.iconst 0, 1) := by decide +kernel
theorem d_Mo_log_44 : decode b_Mo_log 44 = .ok (.goto 50, 3) := by decide +kernel
theorem d_Mo_log_47 : decode b_Mo_log 47 = .ok (.iload_n 2, 1) := by decide +kernel
theorem d_Mo_log_48 : decode b_Mo_log 48 = .ok (.ifCond .ne 12, 3) := by decide +kernel
theorem d_Mo_log_51 : decode b_Mo_log 51 = .ok (.aload_n 0, 1) := by decide +kernel
theorem d_Mo_log_52 : decode b_Mo_log 52 = .ok (.getfield 43, 3) := by decide +kernel
theorem d_Mo_log_55 : decode b_Mo_log 55 = .ok (.iload_n 1, 1) := by decide +kernel
theorem d_Mo_log_56 : decode b_Mo_log 56 = .ok (.iaload, 1) := by decide +kernel
theorem d_Mo_log_57 : decode b_Mo_log 57 = .ok (.goto 37, 3) := by decide +kernel
theorem d_Mo_log_60 : decode b_Mo_log 60 = .ok (.iload_n 2, 1) := by decide +kernel
theorem d_Mo_log_61 : decode b_Mo_log 61 = .ok (.iconst 1, 1) := by decide +kernel
theorem d_Mo_log_62 : decode b_Mo_log 62 = .ok (.if_icmp .ne 12, 3) := by decide +kernel
theorem d_Mo_log_65 : decode b_Mo_log 65 = .ok (.aload_n 0, 1) := by decide +kernel
theorem d_Mo_log_66 : decode b_Mo_log 66 = .ok (.getfield 46, 3) := by decide +kernel
theorem d_Mo_log_69 : decode b_Mo_log 69 = .ok (.iload_n 1, 1) := by decide +kernel
theorem d_Mo_log_70 : decode b_Mo_log 70 = .ok (.iaload, 1) := by decide +kernel
theorem d_Mo_log_71 : decode b_Mo_log 71 = .ok (.goto 23, 3) := by decide +kernel
theorem d_Mo_log_74 : decode b_Mo_log 74 = .ok (.iload_n 2, 1) := by decide +kernel
theorem d_Mo_log_75 : decode b_Mo_log 75 = .ok (.iconst 2, 1) := by decide +kernel
theorem d_Mo_log_76 : decode b_Mo_log 76 = .ok (.if_icmp .ne 12, 3) := by decide +kernel
theorem d_Mo_log_79 : decode b_Mo_log 79 = .ok (.aload_n 0, 1) := by decide +kernel
theorem d_Mo_log_80 : decode b_Mo_log 80 = .ok (.getfield 49, 3) := by decide +kernel
theorem d_Mo_log_83 : decode b_Mo_log 83 = .ok (.iload_n 1, 1) := by decide +kernel
theorem d_Mo_log_84 : decode b_Mo_log 84 = .ok (.iaload, 1) := by decide +kernel
theorem d_Mo_log_85 : decode b_Mo_log 85 = .ok (.goto 9, 3) := by decide +kernel
theorem d_Mo_log_88 : decode b_Mo_log 88 = .ok (.aload_n 0, 1) := by decide +kernel
theorem d_Mo_log_89 : decode b_Mo_log 89 = .ok (.getfield 52, 3) := by decide +kernel
theorem d_Mo_log_92 : decode b_Mo_log 92 = .ok (.iload_n 1, 1) := by decide +kernel
theorem d_Mo_log_93 : decode b_Mo_log 93 = .ok (.iaload, 1) := by decide +kernel
theorem d_Mo_log_94 : decode b_Mo_log 94 = .ok (.ireturn, 1) := by decide +kernel
theorem d_Mo_again_0 : decode b_Mo_again 0 = .ok (.aload_n 0, 1) := by decide +kernel
theorem d_Mo_again_1 : decode b_Mo_again 1 = .ok (.getfield 46, 3) := by decide +kernel
theorem d_Mo_again_4 : decode b_Mo_again 4 = .ok (.iload_n 1, 1) := by decide +kernel
theorem d_Mo_again_5 : decode b_Mo_again 5 = .ok (.iaload, 1) := by decide +kernel
theorem d_Mo_again_6 : decode b_Mo_again 6 = .ok (.istore_n 2, 1) := by decide +kernel
theorem d_Mo_again_7 : decode b_Mo_again 7 = .ok (.aload_n 0, 1) := by decide +kernel
theorem d_Mo_again_8 : decode b_Mo_again 8 = .ok (.getfield 49, 3) := by decide +kernel
theorem d_Mo_again_11 : decode b_Mo_again 11 = .ok (.iload_n 1, 1) := by decide +kernel
theorem d_Mo_again_12 : decode b_Mo_again 12 = .ok (.iaload, 1) := by decide +kernel
theorem d_Mo_again_13 : decode b_Mo_again 13 = .ok (.istore_n 3, 1) := by decide +kernel
theorem d_Mo_again_14 : decode b_Mo_again 14 = .ok (.sipush 200, 3) := by decide +kernel
theorem d_Mo_again_17 : decode b_Mo_again 17 = .ok (.iload_n 2, 1) := by decide +kernel
theorem d_Mo_again_18 : decode b_Mo_again 18 = .ok (.iadd, 1) := by decide +kernel
theorem d_Mo_again_19 : decode b_Mo_again 19 = .ok (.istore 4, 2) := by decide +kernel
theorem d_Mo_again_21 : decode b_Mo_again 21 = .ok (.aload_n 0, 1) := by decide +kernel
theorem d_Mo_again_22 : decode b_Mo_again 22 = .ok (.getfield 43, 3) := by decide +kernel
theorem d_Mo_again_25 : decode b_Mo_again 25 = .ok (.iload_n 1, 1) := by decide +kernel
theorem d_Mo_again_26 : decode b_Mo_again 26 = .ok (.iaload, 1) := by decide +kernel
theorem d_Mo_again_27 : decode b_Mo_again 27 = .ok (.tableswitch 242 1 10 #[53, 74, 126, 154, 165, 177, 187, 207, 218, 230], 53) := by decide +kernel
theorem d_Mo_again_80 : decode b_Mo_again 80 = .ok (.aload_n 0, 1) := by decide +kernel
theorem d_Mo_again_81 : decode b_Mo_again 81 = .ok (.sipush 200, 3) := by decide +kernel
theorem d_Mo_again_84 : decode b_Mo_again 84 = .ok (.iload_n 2, 1) := by decide +kernel
theorem d_Mo_again_85 : decode b_Mo_again 85 = .ok (.iload_n 3, 1) := by decide +kernel
theorem d_Mo_again_86 : decode b_Mo_again 86 = .ok (.iconst (-1), 1) := by decide +kernel
theorem d_Mo_again_87 : decode b_Mo_again 87 = .ok (.aload_n 0, 1) := by decide +kernel
theorem d_Mo_again_88 : decode b_Mo_again 88 = .ok (.getfield 52, 3) := by decide +kernel
theorem d_Mo_again_91 : decode b_Mo_again 91 = .ok (.iload_n 1, 1) := by decide +kernel
theorem d_Mo_again_92 : decode b_Mo_again 92 = .ok (.iaload, 1) := by decide +kernel
theorem d_Mo_again_93 : decode b_Mo_again 93 = .ok (.iconst 1, 1) := by decide +kernel
theorem d_Mo_again_94 : decode b_Mo_again 94 = .ok (.invokevirtual 159, 3) := by decide +kernel
theorem d_Mo_again_97 : decode b_Mo_again 97 = .ok (.pop, 1) := by decide +kernel
theorem d_Mo_again_98 : decode b_Mo_again 98 = .ok (.goto 178, 3) := by decide +kernel
theorem d_Mo_again_101 : decode b_Mo_again 101 = .ok (.aload_n 0, 1) := by decide +kernel
theorem d_Mo_again_102 : decode b_Mo_again 102 = .ok (.iload 4, 2) := by decide +kernel
theorem d_Mo_again_104 : decode b_Mo_again 104 = .ok (.iload_n 3, 1) := by decide +kernel
theorem d_Mo_again_105 : decode b_Mo_again 105 = .ok (.aload_n 0, 1) := by decide +kernel
theorem d_Mo_again_106 : decode b_Mo_again 106 = .ok (.getfield 52, 3) := by decide +kernel
theorem d_Mo_again_109 : decode b_Mo_again 109 = .ok (.iload_n 1, 1) := by decide +kernel
theorem d_Mo_again_110 : decode b_Mo_again 110 = .ok (.iaload, 1) := by decide +kernel
theorem d_Mo_again_111 : decode b_Mo_again 111 = .ok (.iconst 1, 1) := by decide +kernel
theorem d_Mo_again_112 : decode b_Mo_again 112 = .ok (.if_icmp .ne 7, 3) := by decide +kernel
theorem d_Mo_again_115 : decode b_Mo_again 115 = .ok (.iconst 1, 1) := by decide +kernel
theorem d_Mo_again_116 : decode b_Mo_again 116 = .ok (.goto 4, 3) := by decide +kernel
theorem d_Mo_again_119 : decode b_Mo_again 119 = .ok (.iconst 0, 1) := by decide +kernel
theorem d_Mo_again_120 : decode b_Mo_again 120 = .ok (.invokevirtual 133, 3) := by decide +kernel
theorem d_Mo_again_123 : decode b_Mo_again 123 = .ok (.ifCond .eq 153, 3) := by decide +kernel
theorem d_Mo_again_126 : decode b_Mo_again 126 = .ok (.aload_n 0, 1) := by decide +kernel
theorem d_Mo_again_127 : decode b_Mo_again 127 = .ok (.sipush 200, 3) := by decide +kernel
theorem d_Mo_again_130 : decode b_Mo_again 130 = .ok (.aload_n 0, 1) := by decide +kernel
theorem d_Mo_again_131 : decode b_Mo_again 131 = .ok (.getfield 95, 3) := by decide +kernel
theorem d_Mo_again_134 : decode b_Mo_again 134 = .ok (.l2i, 1) := by decide +kernel
theorem d_Mo_again_135 : decode b_Mo_again 135 = .ok (.iload_n 3, 1) := by decide +kernel
theorem d_Mo_again_136 : decode b_Mo_again 136 = .ok (.iload 4, 2) := by decide +kernel
theorem d_Mo_again_138 : decode b_Mo_again 138 = .ok (.aload_n 0, 1) := by decide +kernel
theorem d_Mo_again_139 : decode b_Mo_again 139 = .ok (.getfield 25, 3) := by decide +kernel
theorem d_Mo_again_142 : decode b_Mo_again 142 = .ok (.iload 4, 2) := by decide +kernel
theorem d_Mo_again_144 : decode b_Mo_again 144 = .ok (.iaload, 1) := by decide +kernel
theorem d_Mo_again_145 : decode b_Mo_again 145 = .ok (.iconst 1, 1) := by decide +kernel
theorem d_Mo_again_146 : decode b_Mo_again 146 = .ok (.invokevirtual 159, 3) := by decide +kernel
theorem d_Mo_again_149 : decode b_Mo_again 149 = .ok (.pop, 1) := by decide +kernel
theorem d_Mo_again_150 : decode b_Mo_again 150 = .ok (.goto 126, 3) := by decide +kernel
theorem d_Mo_again_153 : decode b_Mo_again 153 = .ok (.aload_n 0, 1) := by decide +kernel
theorem d_Mo_again_154 : decode b_Mo_again 154 = .ok (.sipush 200, 3) := by decide +kernel
theorem d_Mo_again_157 : decode b_Mo_again 157 = .ok (.iload_n 3, 1) := by decide +kernel
theorem d_Mo_again_158 : decode b_Mo_again 158 = .ok (.aload_n 0, 1) := by decide +kernel
theorem d_Mo_again_159 : decode b_Mo_again 159 = .ok (.getfield 52, 3) := by decide +kernel
theorem d_Mo_again_162 : decode b_Mo_again 162 = .ok (.iload_n 1, 1) := by decide +kernel
theorem d_Mo_again_163 : decode b_Mo_again 163 = .ok (.iaload, 1) := by decide +kernel
theorem d_Mo_again_164 : decode b_Mo_again 164 = .ok (.iload 4, 2) := by decide +kernel
theorem d_Mo_again_166 : decode b_Mo_again 166 = .ok (.aload_n 0, 1) := by decide +kernel
theorem d_Mo_again_167 : decode b_Mo_again 167 = .ok (.getfield 25, 3) := by decide +kernel
theorem d_Mo_again_170 : decode b_Mo_again 170 = .ok (.iload 4, 2) := by decide +kernel
theorem d_Mo_again_172 : decode b_Mo_again 172 = .ok (.iaload, 1) := by decide +kernel
theorem d_Mo_again_173 : decode b_Mo_again 173 = .ok (.iconst 2, 1) := by decide +kernel
theorem d_Mo_again_174 : decode b_Mo_again 174 = .ok (.invokevirtual 159, 3) := by decide +kernel
theorem d_Mo_again_177 : decode b_Mo_again 177 = .ok (.pop, 1) := by decide +kernel
theorem d_Mo_again_178 : decode b_Mo_again 178 = .ok (.goto 98, 3) := by decide +kernel
theorem d_Mo_again_181 : decode b_Mo_again 181 = .ok (.aload_n 0, 1) := by decide +kernel
theorem d_Mo_again_182 : decode b_Mo_again 182 = .ok (.getfield 28, 3) := by decide +kernel
theorem d_Mo_again_185 : decode b_Mo_again 185 = .ok (.iload 4, 2) := by decide +kernel
theorem d_Mo_again_187 : decode b_Mo_again 187 = .ok (.iconst 1, 1) := by decide +kernel
theorem d_Mo_again_188 : decode b_Mo_again 188 = .ok (.iastore, 1) := by decide +kernel
theorem d_Mo_again_189 : decode b_Mo_again 189 = .ok (.goto 87, 3) := by decide +kernel
theorem d_Mo_again_192 : decode b_Mo_again 192 = .ok (.aload_n 0, 1) := by decide +kernel
theorem d_Mo_again_193 : decode b_Mo_again 193 = .ok (.sipush 200, 3) := by decide +kernel
theorem d_Mo_again_196 : decode b_Mo_again 196 = .ok (.iload_n 2, 1) := by decide +kernel
theorem d_Mo_again_197 : decode b_Mo_again 197 = .ok (.invokevirtual 173, 3) := by decide +kernel
theorem d_Mo_again_200 : decode b_Mo_again 200 = .ok (.pop, 1) := by decide +kernel
theorem d_Mo_again_201 : decode b_Mo_again 201 = .ok (.goto 75, 3) := by decide +kernel
theorem d_Mo_again_204 : decode b_Mo_again 204 = .ok (.aload_n 0, 1) := by decide +kernel
theorem d_Mo_again_205 : decode b_Mo_again 205 = .ok (.iload 4, 2) := by decide +kernel
theorem d_Mo_again_207 : decode b_Mo_again 207 = .ok (.invokevirtual 179, 3) := by decide +kernel
theorem d_Mo_again_210 : decode b_Mo_again 210 = .ok (.pop, 1) := by decide +kernel
theorem d_Mo_again_211 : decode b_Mo_again 211 = .ok (.goto 65, 3) := by decide +kernel
theorem d_Mo_again_214 : decode b_Mo_again 214 = .ok (.aload_n 0, 1) := by decide +kernel
theorem d_Mo_again_215 : decode b_Mo_again 215 = .ok (.iload 4, 2) := by decide +kernel
theorem d_Mo_again_217 : decode b_Mo_again 217 = .ok (.iload_n 3, 1) := by decide +kernel
theorem d_Mo_again_218 : decode b_Mo_again 218 = .ok (.iconst 1, 1) := by decide +kernel
theorem d_Mo_again_219 : decode b_Mo_again 219 = .ok (.if_icmp .ne 7, 3) := by decide +kernel
theorem d_Mo_again_222 : decode b_Mo_again 222 = .ok (.iconst 1, 1) := by decide +kernel
theorem d_Mo_again_223 : decode b_Mo_again 223 = .ok (.goto 4, 3) := by decide +kernel
theorem d_Mo_again_226 : decode b_Mo_again 226 = .ok (.iconst 0, 1) := by decide +kernel
theorem d_Mo_again_227 : decode b_Mo_again 227 = .ok (.invokevirtual 185, 3) := by decide +kernel
theorem d_Mo_again_230 : decode b_Mo_again 230 = .ok (.pop, 1) := by decide +kernel
theorem d_Mo_again_231 : decode b_Mo_again 231 = .ok (.goto 45, 3) := by decide +kernel
theorem d_Mo_again_234 : decode b_Mo_again 234 = .ok (.aload_n 0, 1) := by decide +kernel
theorem d_Mo_again_235 : decode b_Mo_again 235 = .ok (.iload 4, 2) := by decide +kernel
theorem d_Mo_again_237 : decode b_Mo_again 237 = .ok (.iload_n 3, 1) := by decide +kernel
theorem d_Mo_again_238 : decode b_Mo_again 238 = .ok (.invokevirtual 189, 3) := by decide +kernel
theorem d_Mo_again_241 : decode b_Mo_again 241 = .ok (.pop, 1) := by decide +kernel
theorem d_Mo_again_242 : decode b_Mo_again 242 = .ok (.goto 34, 3) := by decide +kernel
theorem d_Mo_again_245 : decode b_Mo_again 245 = .ok (.aload_n 0, 1) := by decide +kernel
theorem d_Mo_again_246 : decode b_Mo_again 246 = .ok (.getfield 40, 3) := by decide +kernel
theorem d_Mo_again_249 : decode b_Mo_again 249 = .ok (.iconst 4, 1) := by decide +kernel
theorem d_Mo_again_250 : decode b_Mo_again 250 = .ok (.iload_n 2, 1) := by decide +kernel
theorem d_Mo_again_251 : decode b_Mo_again 251 = .ok (.iadd, 1) := by decide +kernel
theorem d_Mo_again_252 : decode b_Mo_again 252 = .ok (.iload_n 3, 1) := by decide +kernel
theorem d_Mo_again_253 : decode b_Mo_again 253 = .ok (.iastore, 1) := by decide +kernel
theorem d_Mo_again_254 : decode b_Mo_again 254 = .ok (.goto 22, 3) := by decide +kernel
theorem d_Mo_again_257 : decode b_Mo_again 257 = .ok (.aload_n 0, 1) := by decide +kernel
theorem d_Mo_again_258 : decode b_Mo_again 258 = .ok (.sipush 200, 3) := by decide +kernel
theorem d_Mo_again_261 : decode b_Mo_again 261 = .ok (.iload_n 2, 1) := by decide +kernel
theorem d_Mo_again_262 : decode b_Mo_again 262 = .ok (.invokevirtual 193, 3) := by decide +kernel
theorem d_Mo_again_265 : decode b_Mo_again 265 = .ok (.pop, 1) := by decide +kernel
theorem d_Mo_again_266 : decode b_Mo_again 266 = .ok (.goto 10, 3) := by decide +kernel
theorem d_Mo_again_269 : decode b_Mo_again 269 = .ok (.aload_n 0, 1) := by decide +kernel
theorem d_Mo_again_270 : decode b_Mo_again 270 = .ok (.getfield 37, 3) := by decide +kernel
theorem d_Mo_again_273 : decode b_Mo_again 273 = .ok (.iconst 1, 1) := by decide +kernel
theorem d_Mo_again_274 : decode b_Mo_again 274 = .ok (.iload_n 2, 1) := by decide +kernel
theorem d_Mo_again_275 : decode b_Mo_again 275 = .ok (.iastore, 1) := by decide +kernel
theorem d_Mo_again_276 : decode b_Mo_again 276 = .ok (.return_, 1) := by decide +kernel
theorem d_Mo_replay_0 : decode b_Mo_replay 0 = .ok (.aload_n 0, 1) := by decide +kernel
theorem d_Mo_replay_1 : decode b_Mo_replay 1 = .ok (.iload_n 1, 1) := by decide +kernel
theorem d_Mo_replay_2 : decode b_Mo_replay 2 = .ok (.iconst 0, 1) := by decide +kernel
theorem d_Mo_replay_3 : decode b_Mo_replay 3 = .ok (.aload_n 0, 1) := by decide +kernel
theorem d_Mo_replay_4 : decode b_Mo_replay 4 = .ok (.getfield 144, 3) := by decide +kernel
theorem d_Mo_replay_7 : decode b_Mo_replay 7 = .ok (.invokestatic 102, 3) := by decide +kernel
theorem d_Mo_replay_10 : decode b_Mo_replay 10 = .ok (.ifCond .eq 7, 3) := by decide +kernel
theorem d_Mo_replay_13 : decode b_Mo_replay 13 = .ok (.iconst 0, 1) := by decide +kernel
theorem d_Mo_replay_14 : decode b_Mo_replay 14 = .ok (.goto 4, 3) := by decide +kernel
theorem d_Mo_replay_17 : decode b_Mo_replay 17 = .ok (.iconst 1, 1) := by decide +kernel
theorem d_Mo_replay_18 : decode b_Mo_replay 18 = .ok (.putfield 55, 3) := by decide +kernel
theorem d_Mo_replay_21 : decode b_Mo_replay 21 = .ok (.aload_n 0, 1) := by decide +kernel
theorem d_Mo_replay_22 : decode b_Mo_replay 22 = .ok (.getfield 55, 3) := by decide +kernel
theorem d_Mo_replay_25 : decode b_Mo_replay 25 = .ok (.ifCond .le 5, 3) := by decide +kernel
theorem d_Mo_replay_28 : decode b_Mo_replay 28 = .ok (.iconst 0, 1) := by decide +kernel
theorem d_Mo_replay_29 : decode b_Mo_replay 29 = .ok (.ireturn, 1) := by decide +kernel
theorem d_Mo_replay_30 : decode b_Mo_replay 30 = .ok (.aload_n 0, 1) := by decide +kernel
theorem d_Mo_replay_31 : decode b_Mo_replay 31 = .ok (.getfield 7, 3) := by decide +kernel
theorem d_Mo_replay_34 : decode b_Mo_replay 34 = .ok (.iconst 1, 1) := by decide +kernel
theorem d_Mo_replay_35 : decode b_Mo_replay 35 = .ok (.iconst 0, 1) := by decide +kernel
theorem d_Mo_replay_36 : decode b_Mo_replay 36 = .ok (.iastore, 1) := by decide +kernel
theorem d_Mo_replay_37 : decode b_Mo_replay 37 = .ok (.aload_n 0, 1) := by decide +kernel
theorem d_Mo_replay_38 : decode b_Mo_replay 38 = .ok (.getfield 34, 3) := by decide +kernel
theorem d_Mo_replay_41 : decode b_Mo_replay 41 = .ok (.iconst 1, 1) := by decide +kernel
theorem d_Mo_replay_42 : decode b_Mo_replay 42 = .ok (.iconst 0, 1) := by decide +kernel
theorem d_Mo_replay_43 : decode b_Mo_replay 43 = .ok (.iastore, 1) := by decide +kernel
theorem d_Mo_replay_44 : decode b_Mo_replay 44 = .ok (.aload_n 0, 1) := by decide +kernel
theorem d_Mo_replay_45 : decode b_Mo_replay 45 = .ok (.getfield 37, 3) := by decide +kernel
theorem d_Mo_replay_48 : decode b_Mo_replay 48 = .ok (.iconst 1, 1) := by decide +kernel
theorem d_Mo_replay_49 : decode b_Mo_replay 49 = .ok (.iconst 0, 1) := by decide +kernel
theorem d_Mo_replay_50 : decode b_Mo_replay 50 = .ok (.iastore, 1) := by decide +kernel
theorem d_Mo_replay_51 : decode b_Mo_replay 51 = .ok (.iconst 4, 1) := by decide +kernel
theorem d_Mo_replay_52 : decode b_Mo_replay 52 = .ok (.istore_n 2, 1) := by decide +kernel
theorem d_Mo_replay_53 : decode b_Mo_replay 53 = .ok (.iload_n 2, 1) := by decide +kernel
theorem d_Mo_replay_54 : decode b_Mo_replay 54 = .ok (.bipush 8, 2) := by decide +kernel
theorem d_Mo_replay_56 : decode b_Mo_replay 56 = .ok (.if_icmp .ge 16, 3) := by decide +kernel
theorem d_Mo_replay_59 : decode b_Mo_replay 59 = .ok (.aload_n 0, 1) := by decide +kernel
theorem d_Mo_replay_60 : decode b_Mo_replay 60 = .ok (.getfield 40, 3) := by decide +kernel
theorem d_Mo_replay_63 : decode b_Mo_replay 63 = .ok (.iload_n 2, 1) := by decide +kernel
theorem d_Mo_replay_64 : decode b_Mo_replay 64 = .ok (.iconst 0, 1) := by decide +kernel
theorem d_Mo_replay_65 : decode b_Mo_replay 65 = .ok (.iastore, 1) := by decide +kernel
theorem d_Mo_replay_66 : decode b_Mo_replay 66 = .ok (.iinc 2 1, 3) := by decide +kernel
theorem d_Mo_replay_69 : decode b_Mo_replay 69 = .ok (.goto (-16), 3) := by decide +kernel
theorem d_Mo_replay_72 : decode b_Mo_replay 72 = .ok (.iconst 0, 1) := by decide +kernel
theorem d_Mo_replay_73 : decode b_Mo_replay 73 = .ok (.istore_n 2, 1) := by decide +kernel
theorem d_Mo_replay_74 : decode b_Mo_replay 74 = .ok (.iload_n 2, 1) := by decide +kernel
theorem d_Mo_replay_75 : decode b_Mo_replay 75 = .ok (.iload_n 1, 1) := by decide +kernel
theorem d_Mo_replay_76 : decode b_Mo_replay 76 = .ok (.if_icmp .ge 14, 3) := by decide +kernel
theorem d_Mo_replay_79 : decode b_Mo_replay 79 = .ok (.aload_n 0, 1) := by decide +kernel
theorem d_Mo_replay_80 : decode b_Mo_replay 80 = .ok (.iload_n 2, 1) := by decide +kernel
theorem d_Mo_replay_81 : decode b_Mo_replay 81 = .ok (.invokevirtual 208, 3) := by decide +kernel
theorem d_Mo_replay_84 : decode b_Mo_replay 84 = .ok (.iinc 2 1, 3) := by decide +kernel
theorem d_Mo_replay_87 : decode b_Mo_replay 87 = .ok (.goto (-13), 3) := by decide +kernel
theorem d_Mo_replay_90 : decode b_Mo_replay 90 = .ok (.aload_n 0, 1) := by decide +kernel
theorem d_Mo_replay_91 : decode b_Mo_replay 91 = .ok (.getfield 7, 3) := by decide +kernel
theorem d_Mo_replay_94 : decode b_Mo_replay 94 = .ok (.iconst 1, 1) := by decide +kernel
theorem d_Mo_replay_95 : decode b_Mo_replay 95 = .ok (.iaload, 1) := by decide +kernel
theorem d_Mo_replay_96 : decode b_Mo_replay 96 = .ok (.ireturn, 1) := by decide +kernel
theorem d_Mo_same_0 : decode b_Mo_same 0 = .ok (.aload_n 0, 1) := by decide +kernel
theorem d_Mo_same_1 : decode b_Mo_same 1 = .ok (.iconst 0, 1) := by decide +kernel
theorem d_Mo_same_2 : decode b_Mo_same 2 = .ok (.putfield 55, 3) := by decide +kernel
theorem d_Mo_same_5 : decode b_Mo_same 5 = .ok (.aload_n 0, 1) := by decide +kernel
theorem d_Mo_same_6 : decode b_Mo_same 6 = .ok (.getfield 7, 3) := by decide +kernel
theorem d_Mo_same_9 : decode b_Mo_same 9 = .ok (.iconst 0, 1) := by decide +kernel
theorem d_Mo_same_10 : decode b_Mo_same 10 = .ok (.iaload, 1) := by decide +kernel
theorem d_Mo_same_11 : decode b_Mo_same 11 = .ok (.aload_n 0, 1) := by decide +kernel
theorem d_Mo_same_12 : decode b_Mo_same 12 = .ok (.getfield 7, 3) := by decide +kernel
theorem d_Mo_same_15 : decode b_Mo_same 15 = .ok (.iconst 1, 1) := by decide +kernel
theorem d_Mo_same_16 : decode b_Mo_same 16 = .ok (.iaload, 1) := by decide +kernel
theorem d_Mo_same_17 : decode b_Mo_same 17 = .ok (.if_icmp .ne 37, 3) := by decide +kernel
theorem d_Mo_same_20 : decode b_Mo_same 20 = .ok (.aload_n 0, 1) := by decide +kernel
theorem d_Mo_same_21 : decode b_Mo_same 21 = .ok (.getfield 34, 3) := by decide +kernel
theorem d_Mo_same_24 : decode b_Mo_same 24 = .ok (.iconst 0, 1) := by decide +kernel
theorem d_Mo_same_25 : decode b_Mo_same 25 = .ok (.iaload, 1) := by decide +kernel
theorem d_Mo_same_26 : decode b_Mo_same 26 = .ok (.aload_n 0, 1) := by decide +kernel
theorem d_Mo_same_27 : decode b_Mo_same 27 = .ok (.getfield 34, 3) := by decide +kernel
theorem d_Mo_same_30 : decode b_Mo_same 30 = .ok (.iconst 1, 1) := by decide +kernel
theorem d_Mo_same_31 : decode b_Mo_same 31 = .ok (.iaload, 1) := by decide +kernel
theorem d_Mo_same_32 : decode b_Mo_same 32 = .ok (.if_icmp .ne 22, 3) := by decide +kernel
theorem d_Mo_same_35 : decode b_Mo_same 35 = .ok (.aload_n 0, 1) := by decide +kernel
theorem d_Mo_same_36 : decode b_Mo_same 36 = .ok (.getfield 37, 3) := by decide +kernel
theorem d_Mo_same_39 : decode b_Mo_same 39 = .ok (.iconst 0, 1) := by decide +kernel
theorem d_Mo_same_40 : decode b_Mo_same 40 = .ok (.iaload, 1) := by decide +kernel
theorem d_Mo_same_41 : decode b_Mo_same 41 = .ok (.aload_n 0, 1) := by decide +kernel
theorem d_Mo_same_42 : decode b_Mo_same 42 = .ok (.getfield 37, 3) := by decide +kernel
theorem d_Mo_same_45 : decode b_Mo_same 45 = .ok (.iconst 1, 1) := by decide +kernel
theorem d_Mo_same_46 : decode b_Mo_same 46 = .ok (.iaload, 1) := by decide +kernel
theorem d_Mo_same_47 : decode b_Mo_same 47 = .ok (.if_icmp .ne 7, 3) := by decide +kernel
theorem d_Mo_same_50 : decode b_Mo_same 50 = .ok (.iconst 1, 1) := by decide +kernel
theorem d_Mo_same_51 : decode b_Mo_same 51 = .ok (.goto 4, 3) := by decide +kernel
theorem d_Mo_same_54 : decode b_Mo_same 54 = .ok (.iconst 0, 1) := by decide +kernel
theorem d_Mo_same_55 : decode b_Mo_same 55 = .ok (.istore_n 1, 1) := by decide +kernel
theorem d_Mo_same_56 : decode b_Mo_same 56 = .ok (.iconst 0, 1) := by decide +kernel
theorem d_Mo_same_57 : decode b_Mo_same 57 = .ok (.istore_n 2, 1) := by decide +kernel
theorem d_Mo_same_58 : decode b_Mo_same 58 = .ok (.iload_n 2, 1) := by decide +kernel
theorem d_Mo_same_59 : decode b_Mo_same 59 = .ok (.iconst 4, 1) := by decide +kernel
theorem d_Mo_same_60 : decode b_Mo_same 60 = .ok (.if_icmp .ge 36, 3) := by decide +kernel
theorem d_Mo_same_63 : decode b_Mo_same 63 = .ok (.iload_n 1, 1) := by decide +kernel
theorem d_Mo_same_64 : decode b_Mo_same 64 = .ok (.ifCond .eq 24, 3) := by decide +kernel
theorem d_Mo_same_67 : decode b_Mo_same 67 = .ok (.aload_n 0, 1) := by decide +kernel
theorem d_Mo_same_68 : decode b_Mo_same 68 = .ok (.getfield 40, 3) := by decide +kernel
theorem d_Mo_same_71 : decode b_Mo_same 71 = .ok (.iload_n 2, 1) := by decide +kernel
theorem d_Mo_same_72 : decode b_Mo_same 72 = .ok (.iaload, 1) := by decide +kernel
theorem d_Mo_same_73 : decode b_Mo_same 73 = .ok (.aload_n 0, 1) := by decide +kernel
theorem d_Mo_same_74 : decode b_Mo_same 74 = .ok (.getfield 40, 3) := by decide +kernel
theorem d_Mo_same_77 : decode b_Mo_same 77 = .ok (.iconst 4, 1) := by decide +kernel
theorem d_Mo_same_78 : decode b_Mo_same 78 = .ok (.iload_n 2, 1) := by decide +kernel
theorem d_Mo_same_79 : decode b_Mo_same 79 = .ok (.iadd, 1) := by decide +kernel
theorem d_Mo_same_80 : decode b_Mo_same 80 = .ok (.iaload, 1) := by decide +kernel
theorem d_Mo_same_81 : decode b_Mo_same 81 = .ok (.if_icmp .ne 7, 3) := by decide +kernel
theorem d_Mo_same_84 : decode b_Mo_same 84 = .ok (.iconst 1, 1) := by decide +kernel
theorem d_Mo_same_85 : decode b_Mo_same 85 = .ok (.goto 4, 3) := by decide +kernel
theorem d_Mo_same_88 : decode b_Mo_same 88 = .ok (.iconst 0, 1) := by decide +kernel
theorem d_Mo_same_89 : decode b_Mo_same 89 = .ok (.istore_n 1, 1) := by decide +kernel
theorem d_Mo_same_90 : decode b_Mo_same 90 = .ok (.iinc 2 1, 3) := by decide +kernel
theorem d_Mo_same_93 : decode b_Mo_same 93 = .ok (.goto (-35), 3) := by decide +kernel
theorem d_Mo_same_96 : decode b_Mo_same 96 = .ok (.iconst 0, 1) := by decide +kernel
theorem d_Mo_same_97 : decode b_Mo_same 97 = .ok (.istore_n 2, 1) := by decide +kernel
theorem d_Mo_same_98 : decode b_Mo_same 98 = .ok (.iload_n 2, 1) := by decide +kernel
theorem d_Mo_same_99 : decode b_Mo_same 99 = .ok (.aload_n 0, 1) := by decide +kernel
theorem d_Mo_same_100 : decode b_Mo_same 100 = .ok (.getfield 7, 3) := by decide +kernel
theorem d_Mo_same_103 : decode b_Mo_same 103 = .ok (.iconst 0, 1) := by decide +kernel
theorem d_Mo_same_104 : decode b_Mo_same 104 = .ok (.iaload, 1) := by decide +kernel
theorem d_Mo_same_105 : decode b_Mo_same 105 = .ok (.if_icmp .ge 56, 3) := by decide +kernel
theorem d_Mo_same_108 : decode b_Mo_same 108 = .ok (.iload_n 1, 1) := by decide +kernel
theorem d_Mo_same_109 : decode b_Mo_same 109 = .ok (.ifCond .eq 52, 3) := by decide +kernel
theorem d_Mo_same_112 : decode b_Mo_same 112 = .ok (.iconst 0, 1) := by decide +kernel
theorem d_Mo_same_113 : decode b_Mo_same 113 = .ok (.istore_n 3, 1) := by decide +kernel
theorem d_Mo_same_114 : decode b_Mo_same 114 = .ok (.iload_n 3, 1) := by decide +kernel
theorem d_Mo_same_115 : decode b_Mo_same 115 = .ok (.bipush 7, 2) := by decide +kernel
theorem d_Mo_same_117 : decode b_Mo_same 117 = .ok (.if_icmp .ge 38, 3) := by decide +kernel
theorem d_Mo_same_120 : decode b_Mo_same 120 = .ok (.iload_n 1, 1) := by decide +kernel
theorem d_Mo_same_121 : decode b_Mo_same 121 = .ok (.ifCond .eq 26, 3) := by decide +kernel
theorem d_Mo_same_124 : decode b_Mo_same 124 = .ok (.aload_n 0, 1) := by decide +kernel
theorem d_Mo_same_125 : decode b_Mo_same 125 = .ok (.iload_n 2, 1) := by decide +kernel
theorem d_Mo_same_126 : decode b_Mo_same 126 = .ok (.iload_n 3, 1) := by decide +kernel
theorem d_Mo_same_127 : decode b_Mo_same 127 = .ok (.invokevirtual 196, 3) := by decide +kernel
theorem d_Mo_same_130 : decode b_Mo_same 130 = .ok (.aload_n 0, 1) := by decide +kernel
theorem d_Mo_same_131 : decode b_Mo_same 131 = .ok (.sipush 200, 3) := by decide +kernel
theorem d_Mo_same_134 : decode b_Mo_same 134 = .ok (.iload_n 2, 1) := by decide +kernel
theorem d_Mo_same_135 : decode b_Mo_same 135 = .ok (.iadd, 1) := by decide +kernel
theorem d_Mo_same_136 : decode b_Mo_same 136 = .ok (.iload_n 3, 1) := by decide +kernel
theorem d_Mo_same_137 : decode b_Mo_same 137 = .ok (.invokevirtual 196, 3) := by decide +kernel
theorem d_Mo_same_140 : decode b_Mo_same 140 = .ok (.if_icmp .ne 7, 3) := by decide +kernel
theorem d_Mo_same_143 : decode b_Mo_same 143 = .ok (.iconst 1, 1) := by decide +kernel
theorem d_Mo_same_144 : decode b_Mo_same 144 = .ok (.goto 4, 3) := by decide +kernel
theorem d_Mo_same_147 : decode b_Mo_same 147 = .ok (.iconst 0, 1) := by decide +kernel
theorem d_Mo_same_148 : decode b_Mo_same 148 = .ok (.istore_n 1, 1) := by decide +kernel
theorem d_Mo_same_149 : decode b_Mo_same 149 = .ok (.iinc 3 1, 3) := by decide +kernel
theorem d_Mo_same_152 : decode b_Mo_same 152 = .ok (.goto (-38), 3) := by decide +kernel
theorem d_Mo_same_155 : decode b_Mo_same 155 = .ok (.iinc 2 1, 3) := by decide +kernel
theorem d_Mo_same_158 : decode b_Mo_same 158 = .ok (.goto (-60), 3) := by decide +kernel
theorem d_Mo_same_161 : decode b_Mo_same 161 = .ok (.iload_n 1, 1) := by decide +kernel
theorem d_Mo_same_162 : decode b_Mo_same 162 = .ok (.ireturn, 1) := by decide +kernel
