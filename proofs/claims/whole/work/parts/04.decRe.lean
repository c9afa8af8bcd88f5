theorem d_BW_init_0 : decode b_BW_init 0 = .ok (.aload_n 0, 1) := by decide +kernel
theorem d_BW_init_1 : decode b_BW_init 1 = .ok (.invokespecial 3, 3) := by decide +kernel
theorem d_BW_init_4 : decode b_BW_init 4 = .ok (.aload_n 0, 1) := by decide +kernel
theorem d_BW_init_5 : decode b_BW_init 5 = .ok (.aload_n 1, 1) := by decide +kernel
theorem d_BW_init_6 : decode b_BW_init 6 = .ok (.putfield 9, 3) := by decide +kernel
theorem d_BW_init_9 : decode b_BW_init 9 = .ok (.aload_n 0, 1) := by decide +kernel
theorem d_BW_init_10 : decode b_BW_init 10 = .ok (.lconst 0, 1) := by decide +kernel
theorem d_BW_init_11 : decode b_BW_init 11 = .ok (.putfield 15, 3) := by decide +kernel
theorem d_BW_init_14 : decode b_BW_init 14 = .ok (.aload_n 0, 1) := by decide +kernel
theorem d_BW_init_15 : decode b_BW_init 15 = .ok (.lconst 0, 1) := by decide +kernel
theorem d_BW_init_16 : decode b_BW_init 16 = .ok (.putfield 19, 3) := by decide +kernel
theorem d_BW_init_19 : decode b_BW_init 19 = .ok (.aload_n 0, 1) := by decide +kernel
theorem d_BW_init_20 : decode b_BW_init 20 = .ok (.iconst (-1), 1) := by decide +kernel
theorem d_BW_init_21 : decode b_BW_init 21 = .ok (.putfield 22, 3) := by decide +kernel
theorem d_BW_init_24 : decode b_BW_init 24 = .ok (.aload_n 0, 1) := by decide +kernel
theorem d_BW_init_25 : decode b_BW_init 25 = .ok (.lconst 0, 1) := by decide +kernel
theorem d_BW_init_26 : decode b_BW_init 26 = .ok (.putfield 26, 3) := by decide +kernel
theorem d_BW_init_29 : decode b_BW_init 29 = .ok (.aload_n 0, 1) := by decide +kernel
theorem d_BW_init_30 : decode b_BW_init 30 = .ok (.iconst 0, 1) := by decide +kernel
theorem d_BW_init_31 : decode b_BW_init 31 = .ok (.putfield 29, 3) := by decide +kernel
theorem d_BW_init_34 : decode b_BW_init 34 = .ok (.return_, 1) := by decide +kernel
theorem d_BW_begin_0 : decode b_BW_begin 0 = .ok (.aload_n 0, 1) := by decide +kernel
theorem d_BW_begin_1 : decode b_BW_begin 1 = .ok (.aload_n 0, 1) := by decide +kernel
theorem d_BW_begin_2 : decode b_BW_begin 2 = .ok (.getfield 9, 3) := by decide +kernel
theorem d_BW_begin_5 : decode b_BW_begin 5 = .ok (.iload_n 1, 1) := by decide +kernel
theorem d_BW_begin_6 : decode b_BW_begin 6 = .ok (.invokevirtual 32, 3) := by decide +kernel
theorem d_BW_begin_9 : decode b_BW_begin 9 = .ok (.putfield 15, 3) := by decide +kernel
theorem d_BW_begin_12 : decode b_BW_begin 12 = .ok (.aload_n 0, 1) := by decide +kernel
theorem d_BW_begin_13 : decode b_BW_begin 13 = .ok (.aload_n 0, 1) := by decide +kernel
theorem d_BW_begin_14 : decode b_BW_begin 14 = .ok (.getfield 15, 3) := by decide +kernel
theorem d_BW_begin_17 : decode b_BW_begin 17 = .ok (.aload_n 0, 1) := by decide +kernel
theorem d_BW_begin_18 : decode b_BW_begin 18 = .ok (.getfield 9, 3) := by decide +kernel
theorem d_BW_begin_21 : decode b_BW_begin 21 = .ok (.iload_n 1, 1) := by decide +kernel
theorem d_BW_begin_22 : decode b_BW_begin 22 = .ok (.invokevirtual 37, 3) := by decide +kernel
theorem d_BW_begin_25 : decode b_BW_begin 25 = .ok (.ladd, 1) := by decide +kernel
theorem d_BW_begin_26 : decode b_BW_begin 26 = .ok (.putfield 19, 3) := by decide +kernel
theorem d_BW_begin_29 : decode b_BW_begin 29 = .ok (.aload_n 0, 1) := by decide +kernel
theorem d_BW_begin_30 : decode b_BW_begin 30 = .ok (.aload_n 0, 1) := by decide +kernel
theorem d_BW_begin_31 : decode b_BW_begin 31 = .ok (.getfield 9, 3) := by decide +kernel
theorem d_BW_begin_34 : decode b_BW_begin 34 = .ok (.getfield 40, 3) := by decide +kernel
theorem d_BW_begin_37 : decode b_BW_begin 37 = .ok (.iload_n 1, 1) := by decide +kernel
theorem d_BW_begin_38 : decode b_BW_begin 38 = .ok (.iaload, 1) := by decide +kernel
theorem d_BW_begin_39 : decode b_BW_begin 39 = .ok (.putfield 22, 3) := by decide +kernel
theorem d_BW_begin_42 : decode b_BW_begin 42 = .ok (.return_, 1) := by decide +kernel
theorem d_BW_step_0 : decode b_BW_step 0 = .ok (.iconst 0, 1) := by decide +kernel
theorem d_BW_step_1 : decode b_BW_step 1 = .ok (.istore_n 1, 1) := by decide +kernel
theorem d_BW_step_2 : decode b_BW_step 2 = .ok (.iload_n 1, 1) := by decide +kernel
theorem d_BW_step_3 : decode b_BW_step 3 = .ok (.sipush 200, 3) := by decide +kernel
theorem d_BW_step_6 : decode b_BW_step 6 = .ok (.if_icmp .ge 72, 3) := by decide +kernel
theorem d_BW_step_9 : decode b_BW_step 9 = .ok (.aload_n 0, 1) := by decide +kernel
theorem d_BW_step_10 : decode b_BW_step 10 = .ok (.getfield 22, 3) := by decide +kernel
theorem d_BW_step_13 : decode b_BW_step 13 = .ok (.iconst (-1), 1) := by decide +kernel
theorem d_BW_step_14 : decode b_BW_step 14 = .ok (.if_icmp .eq 64, 3) := by decide +kernel
theorem d_BW_step_17 : decode b_BW_step 17 = .ok (.aload_n 0, 1) := by decide +kernel
theorem d_BW_step_18 : decode b_BW_step 18 = .ok (.getfield 9, 3) := by decide +kernel
theorem d_BW_step_21 : decode b_BW_step 21 = .ok (.aload_n 0, 1) := by decide +kernel
theorem d_BW_step_22 : decode b_BW_step 22 = .ok (.getfield 22, 3) := by decide +kernel
theorem d_BW_step_25 : decode b_BW_step 25 = .ok (.invokevirtual 32, 3) := by decide +kernel
theorem d_BW_step_28 : decode b_BW_step 28 = .ok (.aload_n 0, 1) := by decide +kernel
theorem d_BW_step_29 : decode b_BW_step 29 = .ok (.getfield 15, 3) := by decide +kernel
theorem d_BW_step_32 : decode b_BW_step 32 = .ok (.lcmp, 1) := by decide +kernel
theorem d_BW_step_33 : decode b_BW_step 33 = .ok (.ifCond .ne 45, 3) := by decide +kernel
theorem d_BW_step_36 : decode b_BW_step 36 = .ok (.aload_n 0, 1) := by decide +kernel
theorem d_BW_step_37 : decode b_BW_step 37 = .ok (.dup, 1) := by decide +kernel
theorem d_BW_step_38 : decode b_BW_step 38 = .ok (.getfield 15, 3) := by decide +kernel
theorem d_BW_step_41 : decode b_BW_step 41 = .ok (.aload_n 0, 1) := by decide +kernel
theorem d_BW_step_42 : decode b_BW_step 42 = .ok (.getfield 9, 3) := by decide +kernel
theorem d_BW_step_45 : decode b_BW_step 45 = .ok (.aload_n 0, 1) := by decide +kernel
theorem d_BW_step_46 : decode b_BW_step 46 = .ok (.getfield 22, 3) := by decide +kernel
theorem d_BW_step_49 : decode b_BW_step 49 = .ok (.invokevirtual 37, 3) := by decide +kernel
theorem d_BW_step_52 : decode b_BW_step 52 = .ok (.ladd, 1) := by decide +kernel
theorem d_BW_step_53 : decode b_BW_step 53 = .ok (.putfield 15, 3) := by decide +kernel
theorem d_BW_step_56 : decode b_BW_step 56 = .ok (.aload_n 0, 1) := by decide +kernel
theorem d_BW_step_57 : decode b_BW_step 57 = .ok (.aload_n 0, 1) := by decide +kernel
theorem d_BW_step_58 : decode b_BW_step 58 = .ok (.getfield 9, 3) := by decide +kernel
theorem d_BW_step_61 : decode b_BW_step 61 = .ok (.getfield 44, 3) := by decide +kernel
theorem d_BW_step_64 : decode b_BW_step 64 = .ok (.aload_n 0, 1) := by decide +kernel
theorem d_BW_step_65 : decode b_BW_step 65 = .ok (.getfield 22, 3) := by decide +kernel
theorem d_BW_step_68 : decode b_BW_step 68 = .ok (.iaload, 1) := by decide +kernel
theorem d_BW_step_69 : decode b_BW_step 69 = .ok (.putfield 22, 3) := by decide +kernel
theorem d_BW_step_72 : decode b_BW_step 72 = .ok (.iinc 1 1, 3) := by decide +kernel
theorem d_BW_step_75 : decode b_BW_step 75 = .ok (.goto (-73), 3) := by decide +kernel
theorem d_BW_step_78 : decode b_BW_step 78 = .ok (.aload_n 0, 1) := by decide +kernel
theorem d_BW_step_79 : decode b_BW_step 79 = .ok (.getfield 15, 3) := by decide +kernel
theorem d_BW_step_82 : decode b_BW_step 82 = .ok (.aload_n 0, 1) := by decide +kernel
theorem d_BW_step_83 : decode b_BW_step 83 = .ok (.getfield 19, 3) := by decide +kernel
theorem d_BW_step_86 : decode b_BW_step 86 = .ok (.lcmp, 1) := by decide +kernel
theorem d_BW_step_87 : decode b_BW_step 87 = .ok (.ifCond .lt 5, 3) := by decide +kernel
theorem d_BW_step_90 : decode b_BW_step 90 = .ok (.iconst 0, 1) := by decide +kernel
theorem d_BW_step_91 : decode b_BW_step 91 = .ok (.ireturn, 1) := by decide +kernel
theorem d_BW_step_92 : decode b_BW_step 92 = .ok (.aload_n 0, 1) := by decide +kernel
theorem d_BW_step_93 : decode b_BW_step 93 = .ok (.getfield 22, 3) := by decide +kernel
theorem d_BW_step_96 : decode b_BW_step 96 = .ok (.iconst (-1), 1) := by decide +kernel
theorem d_BW_step_97 : decode b_BW_step 97 = .ok (.if_icmp .ne 10, 3) := by decide +kernel
theorem d_BW_step_100 : decode b_BW_step 100 = .ok (.aload_n 0, 1) := by decide +kernel
theorem d_BW_step_101 : decode b_BW_step 101 = .ok (.getfield 19, 3) := by decide +kernel
theorem d_BW_step_104 : decode b_BW_step 104 = .ok (.goto 14, 3) := by decide +kernel
theorem d_BW_step_107 : decode b_BW_step 107 = .ok (.aload_n 0, 1) := by decide +kernel
theorem d_BW_step_108 : decode b_BW_step 108 = .ok (.getfield 9, 3) := by decide +kernel
theorem d_BW_step_111 : decode b_BW_step 111 = .ok (.aload_n 0, 1) := by decide +kernel
theorem d_BW_step_112 : decode b_BW_step 112 = .ok (.getfield 22, 3) := by decide +kernel
theorem d_BW_step_115 : decode b_BW_step 115 = .ok (.invokevirtual 32, 3) := by decide +kernel
theorem d_BW_step_118 : decode b_BW_step 118 = .ok (.lstore_n 1, 1) := by decide +kernel
theorem d_BW_step_119 : decode b_BW_step 119 = .ok (.bipush 32, 2) := by decide +kernel
theorem d_BW_step_121 : decode b_BW_step 121 = .ok (.aload_n 0, 1) := by decide +kernel
theorem d_BW_step_122 : decode b_BW_step 122 = .ok (.getfield 15, 3) := by decide +kernel
theorem d_BW_step_125 : decode b_BW_step 125 = .ok (.invokestatic 47, 3) := by decide +kernel
theorem d_BW_step_128 : decode b_BW_step 128 = .ok (.isub, 1) := by decide +kernel
theorem d_BW_step_129 : decode b_BW_step 129 = .ok (.istore_n 3, 1) := by decide +kernel
theorem d_BW_step_130 : decode b_BW_step 130 = .ok (.lload_n 1, 1) := by decide +kernel
theorem d_BW_step_131 : decode b_BW_step 131 = .ok (.aload_n 0, 1) := by decide +kernel
theorem d_BW_step_132 : decode b_BW_step 132 = .ok (.getfield 15, 3) := by decide +kernel
theorem d_BW_step_135 : decode b_BW_step 135 = .ok (.lsub, 1) := by decide +kernel
theorem d_BW_step_136 : decode b_BW_step 136 = .ok (.invokestatic 53, 3) := by decide +kernel
theorem d_BW_step_139 : decode b_BW_step 139 = .ok (.bipush 31, 2) := by decide +kernel
theorem d_BW_step_141 : decode b_BW_step 141 = .ok (.isub, 1) := by decide +kernel
theorem d_BW_step_142 : decode b_BW_step 142 = .ok (.istore 4, 2) := by decide +kernel
theorem d_BW_step_144 : decode b_BW_step 144 = .ok (.aload_n 0, 1) := by decide +kernel
theorem d_BW_step_145 : decode b_BW_step 145 = .ok (.aload_n 0, 1) := by decide +kernel
theorem d_BW_step_146 : decode b_BW_step 146 = .ok (.getfield 15, 3) := by decide +kernel
theorem d_BW_step_149 : decode b_BW_step 149 = .ok (.putfield 26, 3) := by decide +kernel
theorem d_BW_step_152 : decode b_BW_step 152 = .ok (.aload_n 0, 1) := by decide +kernel
theorem d_BW_step_153 : decode b_BW_step 153 = .ok (.iload_n 3, 1) := by decide +kernel
theorem d_BW_step_154 : decode b_BW_step 154 = .ok (.iload 4, 2) := by decide +kernel
theorem d_BW_step_156 : decode b_BW_step 156 = .ok (.invokestatic 56, 3) := by decide +kernel
theorem d_BW_step_159 : decode b_BW_step 159 = .ok (.putfield 29, 3) := by decide +kernel
theorem d_BW_step_162 : decode b_BW_step 162 = .ok (.aload_n 0, 1) := by decide +kernel
theorem d_BW_step_163 : decode b_BW_step 163 = .ok (.dup, 1) := by decide +kernel
theorem d_BW_step_164 : decode b_BW_step 164 = .ok (.getfield 15, 3) := by decide +kernel
theorem d_BW_step_167 : decode b_BW_step 167 = .ok (.aload_n 0, 1) := by decide +kernel
theorem d_BW_step_168 : decode b_BW_step 168 = .ok (.getfield 29, 3) := by decide +kernel
theorem d_BW_step_171 : decode b_BW_step 171 = .ok (.invokestatic 62, 3) := by decide +kernel
theorem d_BW_step_174 : decode b_BW_step 174 = .ok (.ladd, 1) := by decide +kernel
theorem d_BW_step_175 : decode b_BW_step 175 = .ok (.putfield 15, 3) := by decide +kernel
theorem d_BW_step_178 : decode b_BW_step 178 = .ok (.iconst 1, 1) := by decide +kernel
theorem d_BW_step_179 : decode b_BW_step 179 = .ok (.ireturn, 1) := by decide +kernel
theorem d_BW_goTo_0 : decode b_BW_goTo 0 = .ok (.aload_n 0, 1) := by decide +kernel
theorem d_BW_goTo_1 : decode b_BW_goTo 1 = .ok (.iload_n 1, 1) := by decide +kernel
theorem d_BW_goTo_2 : decode b_BW_goTo 2 = .ok (.invokevirtual 65, 3) := by decide +kernel
theorem d_BW_goTo_5 : decode b_BW_goTo 5 = .ok (.iconst 0, 1) := by decide +kernel
theorem d_BW_goTo_6 : decode b_BW_goTo 6 = .ok (.istore_n 3, 1) := by decide +kernel
theorem d_BW_goTo_7 : decode b_BW_goTo 7 = .ok (.iload_n 3, 1) := by decide +kernel
theorem d_BW_goTo_8 : decode b_BW_goTo 8 = .ok (.ldc 69, 2) := by decide +kernel
theorem d_BW_goTo_10 : decode b_BW_goTo 10 = .ok (.if_icmp .ge 23, 3) := by decide +kernel
theorem d_BW_goTo_13 : decode b_BW_goTo 13 = .ok (.aload_n 0, 1) := by decide +kernel
theorem d_BW_goTo_14 : decode b_BW_goTo 14 = .ok (.invokevirtual 70, 3) := by decide +kernel
theorem d_BW_goTo_17 : decode b_BW_goTo 17 = .ok (.ifCond .eq 16, 3) := by decide +kernel
theorem d_BW_goTo_20 : decode b_BW_goTo 20 = .ok (.iload_n 3, 1) := by decide +kernel
theorem d_BW_goTo_21 : decode b_BW_goTo 21 = .ok (.iload_n 2, 1) := by decide +kernel
theorem d_BW_goTo_22 : decode b_BW_goTo 22 = .ok (.if_icmp .ne 5, 3) := by decide +kernel
theorem d_BW_goTo_25 : decode b_BW_goTo 25 = .ok (.iconst 1, 1) := by decide +kernel
theorem d_BW_goTo_26 : decode b_BW_goTo 26 = .ok (.ireturn, 1) := by decide +kernel
theorem d_BW_goTo_27 : decode b_BW_goTo 27 = .ok (.iinc 3 1, 3) := by decide +kernel
theorem d_BW_goTo_30 : decode b_BW_goTo 30 = .ok (.goto (-23), 3) := by decide +kernel
theorem d_BW_goTo_33 : decode b_BW_goTo 33 = .ok (.iconst 0, 1) := by decide +kernel
theorem d_BW_goTo_34 : decode b_BW_goTo 34 = .ok (.ireturn, 1) := by decide +kernel
theorem d_Jn_init_0 : decode b_Jn_init 0 = .ok (.aload_n 0, 1) := by decide +kernel
theorem d_Jn_init_1 : decode b_Jn_init 1 = .ok (.invokespecial 3, 3) := by decide +kernel
theorem d_Jn_init_4 : decode b_Jn_init 4 = .ok (.aload_n 0, 1) := by decide +kernel
theorem d_Jn_init_5 : decode b_Jn_init 5 = .ok (.sipush 1200, 3) := by decide +kernel
theorem d_Jn_init_8 : decode b_Jn_init 8 = .ok (.newarray .int, 2) := by decide +kernel
theorem d_Jn_init_10 : decode b_Jn_init 10 = .ok (.putfield 9, 3) := by decide +kernel
theorem d_Jn_init_13 : decode b_Jn_init 13 = .ok (.aload_n 0, 1) := by decide +kernel
theorem d_Jn_init_14 : decode b_Jn_init 14 = .ok (.iconst 0, 1) := by decide +kernel
theorem d_Jn_init_15 : decode b_Jn_init 15 = .ok (.putfield 15, 3) := by decide +kernel
theorem d_Jn_init_18 : decode b_Jn_init 18 = .ok (.return_, 1) := by decide +kernel
theorem d_Jn_isFull_0 : decode b_Jn_isFull 0 = .ok (.aload_n 0, 1) := by decide +kernel
theorem d_Jn_isFull_1 : decode b_Jn_isFull 1 = .ok (.getfield 15, 3) := by decide +kernel
theorem d_Jn_isFull_4 : decode b_Jn_isFull 4 = .ok (.sipush 300, 3) := by decide +kernel
theorem d_Jn_isFull_7 : decode b_Jn_isFull 7 = .ok (.if_icmp .lt 7, 3) := by decide +kernel
theorem d_Jn_isFull_10 : decode b_Jn_isFull 10 = .ok (.iconst 1, 1) := by decide +kernel
theorem d_Jn_isFull_11 : decode b_Jn_isFull 11 = .ok (.goto 4, 3) := by decide +kernel
theorem d_Jn_isFull_14 : decode b_Jn_isFull 14 = .ok (.iconst 0, 1) := by decide +kernel
theorem d_Jn_isFull_15 : decode b_Jn_isFull 15 = .ok (.ireturn, 1) := by decide +kernel
theorem d_Jn_write_0 : decode b_Jn_write 0 = .ok (.aload_n 0, 1) := by decide +kernel
theorem d_Jn_write_1 : decode b_Jn_write 1 = .ok (.getfield 15, 3) := by decide +kernel
theorem d_Jn_write_4 : decode b_Jn_write 4 = .ok (.iconst 4, 1) := by decide +kernel
theorem d_Jn_write_5 : decode b_Jn_write 5 = .ok (.imul, 1) := by decide +kernel
theorem d_Jn_write_6 : decode b_Jn_write 6 = .ok (.istore 5, 2) := by decide +kernel
theorem d_Jn_write_8 : decode b_Jn_write 8 = .ok (.aload_n 0, 1) := by decide +kernel
theorem d_Jn_write_9 : decode b_Jn_write 9 = .ok (.getfield 9, 3) := by decide +kernel
theorem d_Jn_write_12 : decode b_Jn_write 12 = .ok (.iload 5, 2) := by decide +kernel
theorem d_Jn_write_14 : decode b_Jn_write 14 = .ok (.iload_n 1, 1) := by decide +kernel
theorem d_Jn_write_15 : decode b_Jn_write 15 = .ok (.iastore, 1) := by decide +kernel
theorem d_Jn_write_16 : decode b_Jn_write 16 = .ok (.aload_n 0, 1) := by decide +kernel
theorem d_Jn_write_17 : decode b_Jn_write 17 = .ok (.getfield 9, 3) := by decide +kernel
theorem d_Jn_write_20 : decode b_Jn_write 20 = .ok (.iload 5, 2) := by decide +kernel
theorem d_Jn_write_22 : decode b_Jn_write 22 = .ok (.iconst 1, 1) := by decide +kernel
theorem d_Jn_write_23 : decode b_Jn_write 23 = .ok (.iadd, 1) := by decide +kernel
theorem d_Jn_write_24 : decode b_Jn_write 24 = .ok (.iload_n 2, 1) := by decide +kernel
theorem d_Jn_write_25 : decode b_Jn_write 25 = .ok (.iastore, 1) := by decide +kernel
theorem d_Jn_write_26 : decode b_Jn_write 26 = .ok (.aload_n 0, 1) := by decide +kernel
theorem d_Jn_write_27 : decode b_Jn_write 27 = .ok (.getfield 9, 3) := by decide +kernel
theorem d_Jn_write_30 : decode b_Jn_write 30 = .ok (.iload 5, 2) := by decide +kernel
theorem d_Jn_write_32 : decode b_Jn_write 32 = .ok (.iconst 2, 1) := by decide +kernel
theorem d_Jn_write_33 : decode b_Jn_write 33 = .ok (.iadd, 1) := by decide +kernel
theorem d_Jn_write_34 : decode b_Jn_write 34 = .ok (.iload_n 3, 1) := by decide +kernel
theorem d_Jn_write_35 : decode b_Jn_write 35 = .ok (.iastore, 1) := by decide +kernel
theorem d_Jn_write_36 : decode b_Jn_write 36 = .ok (.aload_n 0, 1) := by decide +kernel
theorem d_Jn_write_37 : decode b_Jn_write 37 = .ok (.getfield 9, 3) := by decide +kernel
theorem d_Jn_write_40 : decode b_Jn_write 40 = .ok (.iload 5, 2) := by decide +kernel
theorem d_Jn_write_42 : decode b_Jn_write 42 = .ok (.iconst 3, 1) := by decide +kernel
theorem d_Jn_write_43 : decode b_Jn_write 43 = .ok (.iadd, 1) := by decide +kernel
theorem d_Jn_write_44 : decode b_Jn_write 44 = .ok (.iload 4, 2) := by decide +kernel
theorem d_Jn_write_46 : decode b_Jn_write 46 = .ok (.iastore, 1) := by decide +kernel
theorem d_Jn_write_47 : decode b_Jn_write 47 = .ok (.aload_n 0, 1) := by decide +kernel
theorem d_Jn_write_48 : decode b_Jn_write 48 = .ok (.dup, 1) := by decide +kernel
theorem d_Jn_write_49 : decode b_Jn_write 49 = .ok (.getfield 15, 3) := by decide +kernel
theorem d_Jn_write_52 : decode b_Jn_write 52 = .ok (.iconst 1, 1) := by decide +kernel
theorem d_Jn_write_53 : decode b_Jn_write 53 = .ok (.iadd, 1) := by decide +kernel
theorem d_Jn_write_54 : decode b_Jn_write 54 = .ok (.putfield 15, 3) := by decide +kernel
theorem d_Jn_write_57 : decode b_Jn_write 57 = .ok (.return_, 1) := by decide +kernel
theorem d_Jn_part_0 : decode b_Jn_part 0 = .ok (.aload_n 0, 1) := by decide +kernel
theorem d_Jn_part_1 : decode b_Jn_part 1 = .ok (.getfield 9, 3) := by decide +kernel
theorem d_Jn_part_4 : decode b_Jn_part 4 = .ok (.iload_n 1, 1) := by decide +kernel
theorem d_Jn_part_5 : decode b_Jn_part 5 = .ok (.iconst 4, 1) := by decide +kernel
theorem d_Jn_part_6 : decode b_Jn_part 6 = .ok (.imul, 1) := by decide +kernel
theorem d_Jn_part_7 : decode b_Jn_part 7 = .ok (.iload_n 2, 1) := by decide +kernel
theorem d_Jn_part_8 : decode b_Jn_part 8 = .ok (.iadd, 1) := by decide +kernel
theorem d_Jn_part_9 : decode b_Jn_part 9 = .ok (.iaload, 1) := by decide +kernel
theorem d_Jn_part_10 : decode b_Jn_part 10 = .ok (.ireturn, 1) := by decide +kernel
theorem d_Re_init_0 : decode b_Re_init 0 = .ok (.aload_n 0, 1) := by decide +kernel
theorem d_Re_init_1 : decode b_Re_init 1 = .ok (.invokespecial 3, 3) := by decide +kernel
theorem d_Re_init_4 : decode b_Re_init 4 = .ok (.aload_n 0, 1) := by decide +kernel
theorem d_Re_init_5 : decode b_Re_init 5 = .ok (.sipush 200, 3) := by decide +kernel
theorem d_Re_init_8 : decode b_Re_init 8 = .ok (.newarray .int, 2) := by decide +kernel
theorem d_Re_init_10 : decode b_Re_init 10 = .ok (.putfield 9, 3) := by decide +kernel
theorem d_Re_init_13 : decode b_Re_init 13 = .ok (.aload_n 0, 1) := by decide +kernel
theorem d_Re_init_14 : decode b_Re_init 14 = .ok (.sipush 200, 3) := by decide +kernel
theorem d_Re_init_17 : decode b_Re_init 17 = .ok (.newarray .int, 2) := by decide +kernel
theorem d_Re_init_19 : decode b_Re_init 19 = .ok (.putfield 15, 3) := by decide +kernel
theorem d_Re_init_22 : decode b_Re_init 22 = .ok (.aload_n 0, 1) := by decide +kernel
theorem d_Re_init_23 : decode b_Re_init 23 = .ok (.sipush 200, 3) := by decide +kernel
theorem d_Re_init_26 : decode b_Re_init 26 = .ok (.newarray .int, 2) := by decide +kernel
theorem d_Re_init_28 : decode b_Re_init 28 = .ok (.putfield 18, 3) := by decide +kernel
theorem d_Re_init_31 : decode b_Re_init 31 = .ok (.aload_n 0, 1) := by decide +kernel
theorem d_Re_init_32 : decode b_Re_init 32 = .ok (.sipush 200, 3) := by decide +kernel
theorem d_Re_init_35 : decode b_Re_init 35 = .ok (.newarray .int, 2) := by decide +kernel
theorem d_Re_init_37 : decode b_Re_init 37 = .ok (.putfield 21, 3) := by decide +kernel
theorem d_Re_init_40 : decode b_Re_init 40 = .ok (.aload_n 0, 1) := by decide +kernel
theorem d_Re_init_41 : decode b_Re_init 41 = .ok (.sipush 200, 3) := by decide +kernel
theorem d_Re_init_44 : decode b_Re_init 44 = .ok (.newarray .int, 2) := by decide +kernel
theorem d_Re_init_46 : decode b_Re_init 46 = .ok (.putfield 24, 3) := by decide +kernel
theorem d_Re_init_49 : decode b_Re_init 49 = .ok (.aload_n 0, 1) := by decide +kernel
theorem d_Re_init_50 : decode b_Re_init 50 = .ok (.sipush 200, 3) := by decide +kernel
theorem d_Re_init_53 : decode b_Re_init 53 = .ok (.newarray .int, 2) := by decide +kernel
theorem d_Re_init_55 : decode b_Re_init 55 = .ok (.putfield 27, 3) := by decide +kernel
theorem d_Re_init_58 : decode b_Re_init 58 = .ok (.aload_n 0, 1) := by decide +kernel
theorem d_Re_init_59 : decode b_Re_init 59 = .ok (.sipush 200, 3) := by decide +kernel
theorem d_Re_init_62 : decode b_Re_init 62 = .ok (.newarray .int, 2) := by decide +kernel
theorem d_Re_init_64 : decode b_Re_init 64 = .ok (.putfield 30, 3) := by decide +kernel
theorem d_Re_init_67 : decode b_Re_init 67 = .ok (.aload_n 0, 1) := by decide +kernel
theorem d_Re_init_68 : decode b_Re_init 68 = .ok (.sipush 200, 3) := by decide +kernel
theorem d_Re_init_71 : decode b_Re_init 71 = .ok (.newarray .int, 2) := by decide +kernel
theorem d_Re_init_73 : decode b_Re_init 73 = .ok (.putfield 33, 3) := by decide +kernel
theorem d_Re_init_76 : decode b_Re_init 76 = .ok (.aload_n 0, 1) := by decide +kernel
theorem d_Re_init_77 : decode b_Re_init 77 = .ok (.sipush 200, 3) := by decide +kernel
theorem d_Re_init_80 : decode b_Re_init 80 = .ok (.newarray .int, 2) := by decide +kernel
theorem d_Re_init_82 : decode b_Re_init 82 = .ok (.putfield 36, 3) := by decide +kernel
theorem d_Re_init_85 : decode b_Re_init 85 = .ok (.aload_n 0, 1) := by decide +kernel
theorem d_Re_init_86 : decode b_Re_init 86 = .ok (.iconst 0, 1) := by decide +kernel
theorem d_Re_init_87 : decode b_Re_init 87 = .ok (.putfield 39, 3) := by decide +kernel
theorem d_Re_init_90 : decode b_Re_init 90 = .ok (.return_, 1) := by decide +kernel
theorem d_Re_areFull_0 : decode b_Re_areFull 0 = .ok (.aload_n 0, 1) := by decide +kernel
theorem d_Re_areFull_1 : decode b_Re_areFull 1 = .ok (.getfield 39, 3) := by decide +kernel
theorem d_Re_areFull_4 : decode b_Re_areFull 4 = .ok (.sipush 200, 3) := by decide +kernel
theorem d_Re_areFull_7 : decode b_Re_areFull 7 = .ok (.if_icmp .lt 7, 3) := by decide +kernel
theorem d_Re_areFull_10 : decode b_Re_areFull 10 = .ok (.iconst 1, 1) := by decide +kernel
theorem d_Re_areFull_11 : decode b_Re_areFull 11 = .ok (.goto 4, 3) := by decide +kernel
theorem d_Re_areFull_14 : decode b_Re_areFull 14 = .ok (.iconst 0, 1) := by decide +kernel
theorem d_Re_areFull_15 : decode b_Re_areFull 15 = .ok (.ireturn, 1) := by decide +kernel
theorem d_Re_has_0 : decode b_Re_has 0 = .ok (.iload_n 1, 1) := by decide +kernel
theorem d_Re_has_1 : decode b_Re_has 1 = .ok (.ifCond .lt 15, 3) := by decide +kernel
theorem d_Re_has_4 : decode b_Re_has 4 = .ok (.iload_n 1, 1) := by decide +kernel
theorem d_Re_has_5 : decode b_Re_has 5 = .ok (.aload_n 0, 1) := by decide +kernel
theorem d_Re_has_6 : decode b_Re_has 6 = .ok (.getfield 39, 3) := by decide +kernel
theorem d_Re_has_9 : decode b_Re_has 9 = .ok (.if_icmp .ge 7, 3) := by decide +kernel
theorem d_Re_has_12 : decode b_Re_has 12 = .ok (.iconst 1, 1) := by decide +kernel
theorem d_Re_has_13 : decode b_Re_has 13 = .ok (.goto 4, 3) := by decide +kernel
theorem d_Re_has_16 : decode b_Re_has 16 = .ok (.iconst 0, 1) := by decide +kernel
theorem d_Re_has_17 : decode b_Re_has 17 = .ok (.ireturn, 1) := by decide +kernel
theorem d_Re_isGiven_0 : decode b_Re_isGiven 0 = .ok (.aload_n 0, 1) := by decide +kernel
theorem d_Re_isGiven_1 : decode b_Re_isGiven 1 = .ok (.iload_n 1, 1) := by decide +kernel
theorem d_Re_isGiven_2 : decode b_Re_isGiven 2 = .ok (.invokevirtual 43, 3) := by decide +kernel
theorem d_Re_isGiven_5 : decode b_Re_isGiven 5 = .ok (.ifCond .eq 17, 3) := by decide +kernel
theorem d_Re_isGiven_8 : decode b_Re_isGiven 8 = .ok (.aload_n 0, 1) := by decide +kernel
theorem d_Re_isGiven_9 : decode b_Re_isGiven 9 = .ok (.getfield 27, 3) := by decide +kernel
theorem d_Re_isGiven_12 : decode b_Re_isGiven 12 = .ok (.iload_n 1, 1) := by decide +kernel
theorem d_Re_isGiven_13 : decode b_Re_isGiven 13 = .ok (.iaload, 1) := by decide +kernel
theorem d_Re_isGiven_14 : decode b_Re_isGiven 14 = .ok (.iconst 1, 1) := by decide +kernel
theorem d_Re_isGiven_15 : decode b_Re_isGiven 15 = .ok (.if_icmp .ne 7, 3) := by decide +kernel
theorem d_Re_isGiven_18 : decode b_Re_isGiven 18 = .ok (.iconst 1, 1) := by decide +kernel
theorem d_Re_isGiven_19 : decode b_Re_isGiven 19 = .ok (.goto 4, 3) := by decide +kernel
theorem d_Re_isGiven_22 : decode b_Re_isGiven 22 = .ok (.iconst 0, 1) := by decide +kernel
theorem d_Re_isGiven_23 : decode b_Re_isGiven 23 = .ok (.ireturn, 1) := by decide +kernel
theorem d_Re_isLive_0 : decode b_Re_isLive 0 = .ok (.aload_n 0, 1) := by decide +kernel
theorem d_Re_isLive_1 : decode b_Re_isLive 1 = .ok (.getfield 27, 3) := by decide +kernel
theorem d_Re_isLive_4 : decode b_Re_isLive 4 = .ok (.iload_n 1, 1) := by decide +kernel
theorem d_Re_isLive_5 : decode b_Re_isLive 5 = .ok (.iaload, 1) := by decide +kernel
theorem d_Re_isLive_6 : decode b_Re_isLive 6 = .ok (.iconst 4, 1) := by decide +kernel
theorem d_Re_isLive_7 : decode b_Re_isLive 7 = .ok (.if_icmp .eq 7, 3) := by decide +kernel
theorem d_Re_isLive_10 : decode b_Re_isLive 10 = .ok (.iconst 1, 1) := by decide +kernel
theorem d_Re_isLive_11 : decode b_Re_isLive 11 = .ok (.goto 4, 3) := by decide +kernel
theorem d_Re_isLive_14 : decode b_Re_isLive 14 = .ok (.iconst 0, 1) := by decide +kernel
theorem d_Re_isLive_15 : decode b_Re_isLive 15 = .ok (.ireturn, 1) := by decide +kernel
theorem d_Re_isTop_0 : decode b_Re_isTop 0 = .ok (.aload_n 0, 1) := by decide +kernel
theorem d_Re_isTop_1 : decode b_Re_isTop 1 = .ok (.getfield 18, 3) := by decide +kernel
theorem d_Re_isTop_4 : decode b_Re_isTop 4 = .ok (.iload_n 1, 1) := by decide +kernel
theorem d_Re_isTop_5 : decode b_Re_isTop 5 = .ok (.iaload, 1) := by decide +kernel
theorem d_Re_isTop_6 : decode b_Re_isTop 6 = .ok (.iconst (-1), 1) := by decide +kernel
theorem d_Re_isTop_7 : decode b_Re_isTop 7 = .ok (.if_icmp .ne 7, 3) := by decide +kernel
theorem d_Re_isTop_10 : decode b_Re_isTop 10 = .ok (.iconst 1, 1) := by decide +kernel
theorem d_Re_isTop_11 : decode b_Re_isTop 11 = .ok (.goto 4, 3) := by decide +kernel
theorem d_Re_isTop_14 : decode b_Re_isTop 14 = .ok (.iconst 0, 1) := by decide +kernel
theorem d_Re_isTop_15 : decode b_Re_isTop 15 = .ok (.ireturn, 1) := by decide +kernel
theorem d_Re_start_0 : decode b_Re_start 0 = .ok (.aload_n 0, 1) := by decide +kernel
theorem d_Re_start_1 : decode b_Re_start 1 = .ok (.getfield 9, 3) := by decide +kernel
theorem d_Re_start_4 : decode b_Re_start 4 = .ok (.iload_n 1, 1) := by decide +kernel
theorem d_Re_start_5 : decode b_Re_start 5 = .ok (.iaload, 1) := by decide +kernel
theorem d_Re_start_6 : decode b_Re_start 6 = .ok (.invokestatic 47, 3) := by decide +kernel
theorem d_Re_start_9 : decode b_Re_start 9 = .ok (.lreturn, 1) := by decide +kernel
theorem d_Re_size_0 : decode b_Re_size 0 = .ok (.aload_n 0, 1) := by decide +kernel
theorem d_Re_size_1 : decode b_Re_size 1 = .ok (.getfield 15, 3) := by decide +kernel
theorem d_Re_size_4 : decode b_Re_size 4 = .ok (.iload_n 1, 1) := by decide +kernel
theorem d_Re_size_5 : decode b_Re_size 5 = .ok (.iaload, 1) := by decide +kernel
theorem d_Re_size_6 : decode b_Re_size 6 = .ok (.invokestatic 51, 3) := by decide +kernel
theorem d_Re_size_9 : decode b_Re_size 9 = .ok (.lreturn, 1) := by decide +kernel
theorem d_Re_fact_0 : decode b_Re_fact 0 = .ok (.iload_n 2, 1) := by decide +kernel
theorem d_Re_fact_1 : decode b_Re_fact 1 = .ok (.tableswitch 81 0 5 #[39, 46, 53, 60, 67, 74], 39) := by decide +kernel
theorem d_Re_fact_40 : decode b_Re_fact 40 = .ok (.aload_n 0, 1) := by decide +kernel
theorem d_Re_fact_41 : decode b_Re_fact 41 = .ok (.getfield 9, 3) := by decide +kernel
theorem d_Re_fact_44 : decode b_Re_fact 44 = .ok (.iload_n 1, 1) := by decide +kernel
theorem d_Re_fact_45 : decode b_Re_fact 45 = .ok (.iaload, 1) := by decide +kernel
theorem d_Re_fact_46 : decode b_Re_fact 46 = .ok (.ireturn, 1) := by decide +kernel
theorem d_Re_fact_47 : decode b_Re_fact 47 = .ok (.aload_n 0, 1) := by decide +kernel
theorem d_Re_fact_48 : decode b_Re_fact 48 = .ok (.getfield 15, 3) := by decide +kernel
theorem d_Re_fact_51 : decode b_Re_fact 51 = .ok (.iload_n 1, 1) := by decide +kernel
theorem d_Re_fact_52 : decode b_Re_fact 52 = .ok (.iaload, 1) := by decide +kernel
theorem d_Re_fact_53 : decode b_Re_fact 53 = .ok (.ireturn, 1) := by decide +kernel
theorem d_Re_fact_54 : decode b_Re_fact 54 = .ok (.aload_n 0, 1) := by decide +kernel
theorem d_Re_fact_55 : decode b_Re_fact 55 = .ok (.getfield 18, 3) := by decide +kernel
theorem d_Re_fact_58 : decode b_Re_fact 58 = .ok (.iload_n 1, 1) := by decide +kernel
theorem d_Re_fact_59 : decode b_Re_fact 59 = .ok (.iaload, 1) := by decide +kernel
theorem d_Re_fact_60 : decode b_Re_fact 60 = .ok (.ireturn, 1) := by decide +kernel
theorem d_Re_fact_61 : decode b_Re_fact 61 = .ok (.aload_n 0, 1) := by decide +kernel
theorem d_Re_fact_62 : decode b_Re_fact 62 = .ok (.getfield 21, 3) := by decide +kernel
theorem d_Re_fact_65 : decode b_Re_fact 65 = .ok (.iload_n 1, 1) := by decide +kernel
theorem d_Re_fact_66 : decode b_Re_fact 66 = .ok (.iaload, 1) := by decide +kernel
theorem d_Re_fact_67 : decode b_Re_fact 67 = .ok (.ireturn, 1) := by decide +kernel
theorem d_Re_fact_68 : decode b_Re_fact 68 = .ok (.aload_n 0, 1) := by decide +kernel
theorem d_Re_fact_69 : decode b_Re_fact 69 = .ok (.getfield 24, 3) := by decide +kernel
theorem d_Re_fact_72 : decode b_Re_fact 72 = .ok (.iload_n 1, 1) := by decide +kernel
theorem d_Re_fact_73 : decode b_Re_fact 73 = .ok (.iaload, 1) := by decide +kernel
theorem d_Re_fact_74 : decode b_Re_fact 74 = .ok (.ireturn, 1) := by decide +kernel
theorem d_Re_fact_75 : decode b_Re_fact 75 = .ok (.aload_n 0, 1) := by decide +kernel
theorem d_Re_fact_76 : decode b_Re_fact 76 = .ok (.getfield 27, 3) := by decide +kernel
theorem d_Re_fact_79 : decode b_Re_fact 79 = .ok (.iload_n 1, 1) := by decide +kernel
theorem d_Re_fact_80 : decode b_Re_fact 80 = .ok (.iaload, 1) := by decide +kernel
theorem d_Re_fact_81 : decode b_Re_fact 81 = .ok (.ireturn, 1) := by decide +kernel
theorem d_Re_fact_82 : decode b_Re_fact 82 = .ok (.aload_n 0, 1) := by decide +kernel
theorem d_Re_fact_83 : decode b_Re_fact 83 = .ok (.getfield 30, 3) := by decide +kernel
theorem d_Re_fact_86 : decode b_Re_fact 86 = .ok (.iload_n 1, 1) := by decide +kernel
theorem d_Re_fact_87 : decode b_Re_fact 87 = .ok (.iaload, 1) := by decide +kernel
theorem d_Re_fact_88 : decode b_Re_fact 88 = .ok (.ireturn, 1) := by decide +kernel
theorem d_Re_addTop_0 : decode b_Re_addTop 0 = .ok (.aload_n 0, 1) := by decide +kernel
theorem d_Re_addTop_1 : decode b_Re_addTop 1 = .ok (.iload_n 1, 1) := by decide +kernel
theorem d_Re_addTop_2 : decode b_Re_addTop 2 = .ok (.iload_n 2, 1) := by decide +kernel
theorem d_Re_addTop_3 : decode b_Re_addTop 3 = .ok (.iconst 1, 1) := by decide +kernel
theorem d_Re_addTop_4 : decode b_Re_addTop 4 = .ok (.invokevirtual 54, 3) := by decide +kernel
theorem d_Re_addTop_7 : decode b_Re_addTop 7 = .ok (.istore 4, 2) := by decide +kernel
theorem d_Re_addTop_9 : decode b_Re_addTop 9 = .ok (.aload_n 0, 1) := by decide +kernel
theorem d_Re_addTop_10 : decode b_Re_addTop 10 = .ok (.getfield 18, 3) := by decide +kernel
theorem d_Re_addTop_13 : decode b_Re_addTop 13 = .ok (.iload 4, 2) := by decide +kernel
theorem d_Re_addTop_15 : decode b_Re_addTop 15 = .ok (.iconst (-1), 1) := by decide +kernel
theorem d_Re_addTop_16 : decode b_Re_addTop 16 = .ok (.iastore, 1) := by decide +kernel
theorem d_Re_addTop_17 : decode b_Re_addTop 17 = .ok (.aload_n 0, 1) := by decide +kernel
theorem d_Re_addTop_18 : decode b_Re_addTop 18 = .ok (.getfield 21, 3) := by decide +kernel
theorem d_Re_addTop_21 : decode b_Re_addTop 21 = .ok (.iload 4, 2) := by decide +kernel
theorem d_Re_addTop_23 : decode b_Re_addTop 23 = .ok (.iconst 0, 1) := by decide +kernel
theorem d_Re_addTop_24 : decode b_Re_addTop 24 = .ok (.iastore, 1) := by decide +kernel
theorem d_Re_addTop_25 : decode b_Re_addTop 25 = .ok (.aload_n 0, 1) := by decide +kernel
theorem d_Re_addTop_26 : decode b_Re_addTop 26 = .ok (.getfield 24, 3) := by decide +kernel
theorem d_Re_addTop_29 : decode b_Re_addTop 29 = .ok (.iload 4, 2) := by decide +kernel
theorem d_Re_addTop_31 : decode b_Re_addTop 31 = .ok (.iload_n 3, 1) := by decide +kernel
theorem d_Re_addTop_32 : decode b_Re_addTop 32 = .ok (.iastore, 1) := by decide +kernel
theorem d_Re_addTop_33 : decode b_Re_addTop 33 = .ok (.iload 4, 2) := by decide +kernel
theorem d_Re_addTop_35 : decode b_Re_addTop 35 = .ok (.ireturn, 1) := by decide +kernel
theorem d_Re_addBelow_0 : decode b_Re_addBelow 0 = .ok (.aload_n 0, 1) := by decide +kernel
theorem d_Re_addBelow_1 : decode b_Re_addBelow 1 = .ok (.iload_n 2, 1) := by decide +kernel
theorem d_Re_addBelow_2 : decode b_Re_addBelow 2 = .ok (.iload_n 3, 1) := by decide +kernel
theorem d_Re_addBelow_3 : decode b_Re_addBelow 3 = .ok (.iload 4, 2) := by decide +kernel
theorem d_Re_addBelow_5 : decode b_Re_addBelow 5 = .ok (.invokevirtual 54, 3) := by decide +kernel
theorem d_Re_addBelow_8 : decode b_Re_addBelow 8 = .ok (.istore 5, 2) := by decide +kernel
theorem d_Re_addBelow_10 : decode b_Re_addBelow 10 = .ok (.aload_n 0, 1) := by decide +kernel
theorem d_Re_addBelow_11 : decode b_Re_addBelow 11 = .ok (.getfield 18, 3) := by decide +kernel
theorem d_Re_addBelow_14 : decode b_Re_addBelow 14 = .ok (.iload 5, 2) := by decide +kernel
theorem d_Re_addBelow_16 : decode b_Re_addBelow 16 = .ok (.iload_n 1, 1) := by decide +kernel
theorem d_Re_addBelow_17 : decode b_Re_addBelow 17 = .ok (.iastore, 1) := by decide +kernel
theorem d_Re_addBelow_18 : decode b_Re_addBelow 18 = .ok (.aload_n 0, 1) := by decide +kernel
theorem d_Re_addBelow_19 : decode b_Re_addBelow 19 = .ok (.getfield 21, 3) := by decide +kernel
theorem d_Re_addBelow_22 : decode b_Re_addBelow 22 = .ok (.iload 5, 2) := by decide +kernel
theorem d_Re_addBelow_24 : decode b_Re_addBelow 24 = .ok (.aload_n 0, 1) := by decide +kernel
theorem d_Re_addBelow_25 : decode b_Re_addBelow 25 = .ok (.getfield 21, 3) := by decide +kernel
theorem d_Re_addBelow_28 : decode b_Re_addBelow 28 = .ok (.iload_n 1, 1) := by decide +kernel
theorem d_Re_addBelow_29 : decode b_Re_addBelow 29 = .ok (.iaload, 1) := by decide +kernel
theorem d_Re_addBelow_30 : decode b_Re_addBelow 30 = .ok (.iconst 1, 1) := by decide +kernel
theorem d_Re_addBelow_31 : decode b_Re_addBelow 31 = .ok (.iadd, 1) := by decide +kernel
theorem d_Re_addBelow_32 : decode b_Re_addBelow 32 = .ok (.iastore, 1) := by decide +kernel
theorem d_Re_addBelow_33 : decode b_Re_addBelow 33 = .ok (.aload_n 0, 1) := by decide +kernel
theorem d_Re_addBelow_34 : decode b_Re_addBelow 34 = .ok (.getfield 24, 3) := by decide +kernel
theorem d_Re_addBelow_37 : decode b_Re_addBelow 37 = .ok (.iload 5, 2) := by decide +kernel
theorem d_Re_addBelow_39 : decode b_Re_addBelow 39 = .ok (.aload_n 0, 1) := by decide +kernel
theorem d_Re_addBelow_40 : decode b_Re_addBelow 40 = .ok (.getfield 24, 3) := by decide +kernel
theorem d_Re_addBelow_43 : decode b_Re_addBelow 43 = .ok (.iload_n 1, 1) := by decide +kernel
theorem d_Re_addBelow_44 : decode b_Re_addBelow 44 = .ok (.iaload, 1) := by decide +kernel
theorem d_Re_addBelow_45 : decode b_Re_addBelow 45 = .ok (.iastore, 1) := by decide +kernel
theorem d_Re_addBelow_46 : decode b_Re_addBelow 46 = .ok (.aload_n 0, 1) := by decide +kernel
theorem d_Re_addBelow_47 : decode b_Re_addBelow 47 = .ok (.iload 5, 2) := by decide +kernel
theorem d_Re_addBelow_49 : decode b_Re_addBelow 49 = .ok (.invokevirtual 58, 3) := by decide +kernel
theorem d_Re_addBelow_52 : decode b_Re_addBelow 52 = .ok (.iload 5, 2) := by decide +kernel
theorem d_Re_addBelow_54 : decode b_Re_addBelow 54 = .ok (.ireturn, 1) := by decide +kernel
theorem d_Re_addRow_0 : decode b_Re_addRow 0 = .ok (.aload_n 0, 1) := by decide +kernel
theorem d_Re_addRow_1 : decode b_Re_addRow 1 = .ok (.getfield 39, 3) := by decide +kernel
theorem d_Re_addRow_4 : decode b_Re_addRow 4 = .ok (.istore 4, 2) := by decide +kernel
theorem d_Re_addRow_6 : decode b_Re_addRow 6 = .ok (.aload_n 0, 1) := by decide +kernel
theorem d_Re_addRow_7 : decode b_Re_addRow 7 = .ok (.getfield 9, 3) := by decide +kernel
theorem d_Re_addRow_10 : decode b_Re_addRow 10 = .ok (.iload 4, 2) := by decide +kernel
theorem d_Re_addRow_12 : decode b_Re_addRow 12 = .ok (.iload_n 1, 1) := by decide +kernel
theorem d_Re_addRow_13 : decode b_Re_addRow 13 = .ok (.iastore, 1) := by decide +kernel
theorem d_Re_addRow_14 : decode b_Re_addRow 14 = .ok (.aload_n 0, 1) := by decide +kernel
theorem d_Re_addRow_15 : decode b_Re_addRow 15 = .ok (.getfield 15, 3) := by decide +kernel
theorem d_Re_addRow_18 : decode b_Re_addRow 18 = .ok (.iload 4, 2) := by decide +kernel
theorem d_Re_addRow_20 : decode b_Re_addRow 20 = .ok (.iload_n 2, 1) := by decide +kernel
theorem d_Re_addRow_21 : decode b_Re_addRow 21 = .ok (.iastore, 1) := by decide +kernel
theorem d_Re_addRow_22 : decode b_Re_addRow 22 = .ok (.aload_n 0, 1) := by decide +kernel
theorem d_Re_addRow_23 : decode b_Re_addRow 23 = .ok (.getfield 27, 3) := by decide +kernel
theorem d_Re_addRow_26 : decode b_Re_addRow 26 = .ok (.iload 4, 2) := by decide +kernel
theorem d_Re_addRow_28 : decode b_Re_addRow 28 = .ok (.iload_n 3, 1) := by decide +kernel
theorem d_Re_addRow_29 : decode b_Re_addRow 29 = .ok (.iastore, 1) := by decide +kernel
theorem d_Re_addRow_30 : decode b_Re_addRow 30 = .ok (.aload_n 0, 1) := by decide +kernel
theorem d_Re_addRow_31 : decode b_Re_addRow 31 = .ok (.getfield 30, 3) := by decide +kernel
theorem d_Re_addRow_34 : decode b_Re_addRow 34 = .ok (.iload 4, 2) := by decide +kernel
theorem d_Re_addRow_36 : decode b_Re_addRow 36 = .ok (.iconst 0, 1) := by decide +kernel
theorem d_Re_addRow_37 : decode b_Re_addRow 37 = .ok (.iastore, 1) := by decide +kernel
theorem d_Re_addRow_38 : decode b_Re_addRow 38 = .ok (.aload_n 0, 1) := by decide +kernel
theorem d_Re_addRow_39 : decode b_Re_addRow 39 = .ok (.getfield 33, 3) := by decide +kernel
theorem d_Re_addRow_42 : decode b_Re_addRow 42 = .ok (.iload 4, 2) := by decide +kernel
theorem d_Re_addRow_44 : decode b_Re_addRow 44 = .ok (.iconst (-1), 1) := by decide +kernel
theorem d_Re_addRow_45 : decode b_Re_addRow 45 = .ok (.iastore, 1) := by decide +kernel
theorem d_Re_addRow_46 : decode b_Re_addRow 46 = .ok (.aload_n 0, 1) := by decide +kernel
theorem d_Re_addRow_47 : decode b_Re_addRow 47 = .ok (.getfield 36, 3) := by decide +kernel
theorem d_Re_addRow_50 : decode b_Re_addRow 50 = .ok (.iload 4, 2) := by decide +kernel
theorem d_Re_addRow_52 : decode b_Re_addRow 52 = .ok (.iconst (-1), 1) := by decide +kernel
theorem d_Re_addRow_53 : decode b_Re_addRow 53 = .ok (.iastore, 1) := by decide +kernel
theorem d_Re_addRow_54 : decode b_Re_addRow 54 = .ok (.aload_n 0, 1) := by decide +kernel
theorem d_Re_addRow_55 : decode b_Re_addRow 55 = .ok (.dup, 1) := by decide +kernel
theorem d_Re_addRow_56 : decode b_Re_addRow 56 = .ok (.getfield 39, 3) := by decide +kernel
theorem d_Re_addRow_59 : decode b_Re_addRow 59 = .ok (.iconst 1, 1) := by decide +kernel
theorem d_Re_addRow_60 : decode b_Re_addRow 60 = .ok (.iadd, 1) := by decide +kernel
theorem d_Re_addRow_61 : decode b_Re_addRow 61 = .ok (.putfield 39, 3) := by decide +kernel
theorem d_Re_addRow_64 : decode b_Re_addRow 64 = .ok (.iload 4, 2) := by decide +kernel
theorem d_Re_addRow_66 : decode b_Re_addRow 66 = .ok (.ireturn, 1) := by decide +kernel
theorem d_Re_markReturned_0 : decode b_Re_markReturned 0 = .ok (.aload_n 0, 1) := by decide +kernel
theorem d_Re_markReturned_1 : decode b_Re_markReturned 1 = .ok (.getfield 27, 3) := by decide +kernel
theorem d_Re_markReturned_4 : decode b_Re_markReturned 4 = .ok (.iload_n 1, 1) := by decide +kernel
theorem d_Re_markReturned_5 : decode b_Re_markReturned 5 = .ok (.iconst 4, 1) := by decide +kernel
theorem d_Re_markReturned_6 : decode b_Re_markReturned 6 = .ok (.iastore, 1) := by decide +kernel
theorem d_Re_markReturned_7 : decode b_Re_markReturned 7 = .ok (.aload_n 0, 1) := by decide +kernel
theorem d_Re_markReturned_8 : decode b_Re_markReturned 8 = .ok (.iload_n 1, 1) := by decide +kernel
theorem d_Re_markReturned_9 : decode b_Re_markReturned 9 = .ok (.invokevirtual 62, 3) := by decide +kernel
theorem d_Re_markReturned_12 : decode b_Re_markReturned 12 = .ok (.ifCond .ne 8, 3) := by decide +kernel
theorem d_Re_markReturned_15 : decode b_Re_markReturned 15 = .ok (.aload_n 0, 1) := by decide +kernel
theorem d_Re_markReturned_16 : decode b_Re_markReturned 16 = .ok (.iload_n 1, 1) := by decide +kernel
theorem d_Re_markReturned_17 : decode b_Re_markReturned 17 = .ok (.invokevirtual 65, 3) := by decide +kernel
theorem d_Re_markReturned_20 : decode b_Re_markReturned 20 = .ok (.return_, 1) := by decide +kernel
theorem d_Re_chain_0 : decode b_Re_chain 0 = .ok (.iconst (-1), 1) := by decide +kernel
theorem d_Re_chain_1 : decode b_Re_chain 1 = .ok (.istore_n 2, 1) := by decide +kernel
theorem d_Re_chain_2 : decode b_Re_chain 2 = .ok (.aload_n 0, 1) := by decide +kernel
theorem d_Re_chain_3 : decode b_Re_chain 3 = .ok (.getfield 33, 3) := by decide +kernel
theorem d_Re_chain_6 : decode b_Re_chain 6 = .ok (.aload_n 0, 1) := by decide +kernel
theorem d_Re_chain_7 : decode b_Re_chain 7 = .ok (.getfield 18, 3) := by decide +kernel
theorem d_Re_chain_10 : decode b_Re_chain 10 = .ok (.iload_n 1, 1) := by decide +kernel
theorem d_Re_chain_11 : decode b_Re_chain 11 = .ok (.iaload, 1) := by decide +kernel
theorem d_Re_chain_12 : decode b_Re_chain 12 = .ok (.iaload, 1) := by decide +kernel
theorem d_Re_chain_13 : decode b_Re_chain 13 = .ok (.istore_n 3, 1) := by decide +kernel
theorem d_Re_chain_14 : decode b_Re_chain 14 = .ok (.iconst 0, 1) := by decide +kernel
theorem d_Re_chain_15 : decode b_Re_chain 15 = .ok (.istore 4, 2) := by decide +kernel
theorem d_Re_chain_17 : decode b_Re_chain 17 = .ok (.iload 4, 2) := by decide +kernel
theorem d_Re_chain_19 : decode b_Re_chain 19 = .ok (.sipush 200, 3) := by decide +kernel
theorem d_Re_chain_22 : decode b_Re_chain 22 = .ok (.if_icmp .ge 37, 3) := by decide +kernel
theorem d_Re_chain_25 : decode b_Re_chain 25 = .ok (.iload_n 3, 1) := by decide +kernel
theorem d_Re_chain_26 : decode b_Re_chain 26 = .ok (.iconst (-1), 1) := by decide +kernel
theorem d_Re_chain_27 : decode b_Re_chain 27 = .ok (.if_icmp .eq 32, 3) := by decide +kernel
theorem d_Re_chain_30 : decode b_Re_chain 30 = .ok (.aload_n 0, 1) := by decide +kernel
theorem d_Re_chain_31 : decode b_Re_chain 31 = .ok (.iload_n 3, 1) := by decide +kernel
theorem d_Re_chain_32 : decode b_Re_chain 32 = .ok (.invokevirtual 68, 3) := by decide +kernel
theorem d_Re_chain_35 : decode b_Re_chain 35 = .ok (.aload_n 0, 1) := by decide +kernel
theorem d_Re_chain_36 : decode b_Re_chain 36 = .ok (.iload_n 1, 1) := by decide +kernel
theorem d_Re_chain_37 : decode b_Re_chain 37 = .ok (.invokevirtual 68, 3) := by decide +kernel
theorem d_Re_chain_40 : decode b_Re_chain 40 = .ok (.lcmp, 1) := by decide +kernel
theorem d_Re_chain_41 : decode b_Re_chain 41 = .ok (.ifCond .ge 18, 3) := by decide +kernel
theorem d_Re_chain_44 : decode b_Re_chain 44 = .ok (.iload_n 3, 1) := by decide +kernel
theorem d_Re_chain_45 : decode b_Re_chain 45 = .ok (.istore_n 2, 1) := by decide +kernel
theorem d_Re_chain_46 : decode b_Re_chain 46 = .ok (.aload_n 0, 1) := by decide +kernel
theorem d_Re_chain_47 : decode b_Re_chain 47 = .ok (.getfield 36, 3) := by decide +kernel
theorem d_Re_chain_50 : decode b_Re_chain 50 = .ok (.iload_n 3, 1) := by decide +kernel
theorem d_Re_chain_51 : decode b_Re_chain 51 = .ok (.iaload, 1) := by decide +kernel
theorem d_Re_chain_52 : decode b_Re_chain 52 = .ok (.istore_n 3, 1) := by decide +kernel
theorem d_Re_chain_53 : decode b_Re_chain 53 = .ok (.iinc 4 1, 3) := by decide +kernel
theorem d_Re_chain_56 : decode b_Re_chain 56 = .ok (.goto (-39), 3) := by decide +kernel
theorem d_Re_chain_59 : decode b_Re_chain 59 = .ok (.aload_n 0, 1) := by decide +kernel
theorem d_Re_chain_60 : decode b_Re_chain 60 = .ok (.getfield 36, 3) := by decide +kernel
theorem d_Re_chain_63 : decode b_Re_chain 63 = .ok (.iload_n 1, 1) := by decide +kernel
theorem d_Re_chain_64 : decode b_Re_chain 64 = .ok (.iload_n 3, 1) := by decide +kernel
theorem d_Re_chain_65 : decode b_Re_chain 65 = .ok (.iastore, 1) := by decide +kernel
theorem d_Re_chain_66 : decode b_Re_chain 66 = .ok (.aload_n 0, 1) := by decide +kernel
theorem d_Re_chain_67 : decode b_Re_chain 67 = .ok (.iload_n 2, 1) := by decide +kernel
theorem d_Re_chain_68 : decode b_Re_chain 68 = .ok (.aload_n 0, 1) := by decide +kernel
theorem d_Re_chain_69 : decode b_Re_chain 69 = .ok (.getfield 18, 3) := by decide +kernel
theorem d_Re_chain_72 : decode b_Re_chain 72 = .ok (.iload_n 1, 1) := by decide +kernel
theorem d_Re_chain_73 : decode b_Re_chain 73 = .ok (.iaload, 1) := by decide +kernel
theorem d_Re_chain_74 : decode b_Re_chain 74 = .ok (.iload_n 1, 1) := by decide +kernel
theorem d_Re_chain_75 : decode b_Re_chain 75 = .ok (.invokevirtual 71, 3) := by decide +kernel
theorem d_Re_chain_78 : decode b_Re_chain 78 = .ok (.return_, 1) := by decide +kernel
theorem d_Re_unchain_0 : decode b_Re_unchain 0 = .ok (.iconst (-1), 1) := by decide +kernel
theorem d_Re_unchain_1 : decode b_Re_unchain 1 = .ok (.istore_n 2, 1) := by decide +kernel
theorem d_Re_unchain_2 : decode b_Re_unchain 2 = .ok (.aload_n 0, 1) := by decide +kernel
theorem d_Re_unchain_3 : decode b_Re_unchain 3 = .ok (.getfield 33, 3) := by decide +kernel
theorem d_Re_unchain_6 : decode b_Re_unchain 6 = .ok (.aload_n 0, 1) := by decide +kernel
theorem d_Re_unchain_7 : decode b_Re_unchain 7 = .ok (.getfield 18, 3) := by decide +kernel
theorem d_Re_unchain_10 : decode b_Re_unchain 10 = .ok (.iload_n 1, 1) := by decide +kernel
theorem d_Re_unchain_11 : decode b_Re_unchain 11 = .ok (.iaload, 1) := by decide +kernel
theorem d_Re_unchain_12 : decode b_Re_unchain 12 = .ok (.iaload, 1) := by decide +kernel
theorem d_Re_unchain_13 : decode b_Re_unchain 13 = .ok (.istore_n 3, 1) := by decide +kernel
theorem d_Re_unchain_14 : decode b_Re_unchain 14 = .ok (.iconst 0, 1) := by decide +kernel
theorem d_Re_unchain_15 : decode b_Re_unchain 15 = .ok (.istore 4, 2) := by decide +kernel
theorem d_Re_unchain_17 : decode b_Re_unchain 17 = .ok (.iload 4, 2) := by decide +kernel
theorem d_Re_unchain_19 : decode b_Re_unchain 19 = .ok (.sipush 200, 3) := by decide +kernel
theorem d_Re_unchain_22 : decode b_Re_unchain 22 = .ok (.if_icmp .ge 28, 3) := by decide +kernel
theorem d_Re_unchain_25 : decode b_Re_unchain 25 = .ok (.iload_n 3, 1) := by decide +kernel
theorem d_Re_unchain_26 : decode b_Re_unchain 26 = .ok (.iconst (-1), 1) := by decide +kernel
theorem d_Re_unchain_27 : decode b_Re_unchain 27 = .ok (.if_icmp .eq 23, 3) := by decide +kernel
theorem d_Re_unchain_30 : decode b_Re_unchain 30 = .ok (.iload_n 3, 1) := by decide +kernel
theorem d_Re_unchain_31 : decode b_Re_unchain 31 = .ok (.iload_n 1, 1) := by decide +kernel
theorem d_Re_unchain_32 : decode b_Re_unchain 32 = .ok (.if_icmp .eq 18, 3) := by decide +kernel
theorem d_Re_unchain_35 : decode b_Re_unchain 35 = .ok (.iload_n 3, 1) := by decide +kernel
theorem d_Re_unchain_36 : decode b_Re_unchain 36 = .ok (.istore_n 2, 1) := by decide +kernel
theorem d_Re_unchain_37 : decode b_Re_unchain 37 = .ok (.aload_n 0, 1) := by decide +kernel
theorem d_Re_unchain_38 : decode b_Re_unchain 38 = .ok (.getfield 36, 3) := by decide +kernel
theorem d_Re_unchain_41 : decode b_Re_unchain 41 = .ok (.iload_n 3, 1) := by decide +kernel
theorem d_Re_unchain_42 : decode b_Re_unchain 42 = .ok (.iaload, 1) := by decide +kernel
theorem d_Re_unchain_43 : decode b_Re_unchain 43 = .ok (.istore_n 3, 1) := by decide +kernel
theorem d_Re_unchain_44 : decode b_Re_unchain 44 = .ok (.iinc 4 1, 3) := by decide +kernel
theorem d_Re_unchain_47 : decode b_Re_unchain 47 = .ok (.goto (-30), 3) := by decide +kernel
theorem d_Re_unchain_50 : decode b_Re_unchain 50 = .ok (.aload_n 0, 1) := by decide +kernel
theorem d_Re_unchain_51 : decode b_Re_unchain 51 = .ok (.iload_n 2, 1) := by decide +kernel
theorem d_Re_unchain_52 : decode b_Re_unchain 52 = .ok (.aload_n 0, 1) := by decide +kernel
theorem d_Re_unchain_53 : decode b_Re_unchain 53 = .ok (.getfield 18, 3) := by decide +kernel
theorem d_Re_unchain_56 : decode b_Re_unchain 56 = .ok (.iload_n 1, 1) := by decide +kernel
theorem d_Re_unchain_57 : decode b_Re_unchain 57 = .ok (.iaload, 1) := by decide +kernel
theorem d_Re_unchain_58 : decode b_Re_unchain 58 = .ok (.aload_n 0, 1) := by decide +kernel
theorem d_Re_unchain_59 : decode b_Re_unchain 59 = .ok (.getfield 36, 3) := by decide +kernel
theorem d_Re_unchain_62 : decode b_Re_unchain 62 = .ok (.iload_n 1, 1) := by decide +kernel
theorem d_Re_unchain_63 : decode b_Re_unchain 63 = .ok (.iaload, 1) := by decide +kernel
theorem d_Re_unchain_64 : decode b_Re_unchain 64 = .ok (.invokevirtual 71, 3) := by decide +kernel
theorem d_Re_unchain_67 : decode b_Re_unchain 67 = .ok (.return_, 1) := by decide +kernel
theorem d_Re_putBehind_0 : decode b_Re_putBehind 0 = .ok (.iload_n 1, 1) := by decide +kernel
theorem d_Re_putBehind_1 : decode b_Re_putBehind 1 = .ok (.iconst (-1), 1) := by decide +kernel
theorem d_Re_putBehind_2 : decode b_Re_putBehind 2 = .ok (.if_icmp .ne 13, 3) := by decide +kernel
theorem d_Re_putBehind_5 : decode b_Re_putBehind 5 = .ok (.aload_n 0, 1) := by decide +kernel
theorem d_Re_putBehind_6 : decode b_Re_putBehind 6 = .ok (.getfield 33, 3) := by decide +kernel
theorem d_Re_putBehind_9 : decode b_Re_putBehind 9 = .ok (.iload_n 2, 1) := by decide +kernel
theorem d_Re_putBehind_10 : decode b_Re_putBehind 10 = .ok (.iload_n 3, 1) := by decide +kernel
theorem d_Re_putBehind_11 : decode b_Re_putBehind 11 = .ok (.iastore, 1) := by decide +kernel
theorem d_Re_putBehind_12 : decode b_Re_putBehind 12 = .ok (.goto 10, 3) := by decide +kernel
theorem d_Re_putBehind_15 : decode b_Re_putBehind 15 = .ok (.aload_n 0, 1) := by decide +kernel
theorem d_Re_putBehind_16 : decode b_Re_putBehind 16 = .ok (.getfield 36, 3) := by decide +kernel
theorem d_Re_putBehind_19 : decode b_Re_putBehind 19 = .ok (.iload_n 1, 1) := by decide +kernel
theorem d_Re_putBehind_20 : decode b_Re_putBehind 20 = .ok (.iload_n 3, 1) := by decide +kernel
theorem d_Re_putBehind_21 : decode b_Re_putBehind 21 = .ok (.iastore, 1) := by decide +kernel
theorem d_Re_putBehind_22 : decode b_Re_putBehind 22 = .ok (.return_, 1) := by decide +kernel
theorem d_Re_meets_0 : decode b_Re_meets 0 = .ok (.iload_n 2, 1) := by decide +kernel
theorem d_Re_meets_1 : decode b_Re_meets 1 = .ok (.invokestatic 47, 3) := by decide +kernel
theorem d_Re_meets_4 : decode b_Re_meets 4 = .ok (.lstore 4, 2) := by decide +kernel
theorem d_Re_meets_6 : decode b_Re_meets 6 = .ok (.aload_n 0, 1) := by decide +kernel
theorem d_Re_meets_7 : decode b_Re_meets 7 = .ok (.iload_n 1, 1) := by decide +kernel
theorem d_Re_meets_8 : decode b_Re_meets 8 = .ok (.invokevirtual 68, 3) := by decide +kernel
theorem d_Re_meets_11 : decode b_Re_meets 11 = .ok (.lload 4, 2) := by decide +kernel
theorem d_Re_meets_13 : decode b_Re_meets 13 = .ok (.iload_n 3, 1) := by decide +kernel
theorem d_Re_meets_14 : decode b_Re_meets 14 = .ok (.invokestatic 51, 3) := by decide +kernel
theorem d_Re_meets_17 : decode b_Re_meets 17 = .ok (.ladd, 1) := by decide +kernel
theorem d_Re_meets_18 : decode b_Re_meets 18 = .ok (.lcmp, 1) := by decide +kernel
theorem d_Re_meets_19 : decode b_Re_meets 19 = .ok (.ifCond .ge 24, 3) := by decide +kernel
theorem d_Re_meets_22 : decode b_Re_meets 22 = .ok (.lload 4, 2) := by decide +kernel
theorem d_Re_meets_24 : decode b_Re_meets 24 = .ok (.aload_n 0, 1) := by decide +kernel
theorem d_Re_meets_25 : decode b_Re_meets 25 = .ok (.iload_n 1, 1) := by decide +kernel
theorem d_Re_meets_26 : decode b_Re_meets 26 = .ok (.invokevirtual 68, 3) := by decide +kernel
theorem d_Re_meets_29 : decode b_Re_meets 29 = .ok (.aload_n 0, 1) := by decide +kernel
theorem d_Re_meets_30 : decode b_Re_meets 30 = .ok (.iload_n 1, 1) := by decide +kernel
theorem d_Re_meets_31 : decode b_Re_meets 31 = .ok (.invokevirtual 75, 3) := by decide +kernel
theorem d_Re_meets_34 : decode b_Re_meets 34 = .ok (.ladd, 1) := by decide +kernel
theorem d_Re_meets_35 : decode b_Re_meets 35 = .ok (.lcmp, 1) := by decide +kernel
theorem d_Re_meets_36 : decode b_Re_meets 36 = .ok (.ifCond .ge 7, 3) := by decide +kernel
theorem d_Re_meets_39 : decode b_Re_meets 39 = .ok (.iconst 1, 1) := by decide +kernel
theorem d_Re_meets_40 : decode b_Re_meets 40 = .ok (.goto 4, 3) := by decide +kernel
theorem d_Re_meets_43 : decode b_Re_meets 43 = .ok (.iconst 0, 1) := by decide +kernel
theorem d_Re_meets_44 : decode b_Re_meets 44 = .ok (.ireturn, 1) := by decide +kernel
theorem d_Re_isFree_0 : decode b_Re_isFree 0 = .ok (.aload_n 0, 1) := by decide +kernel
theorem d_Re_isFree_1 : decode b_Re_isFree 1 = .ok (.getfield 33, 3) := by decide +kernel
theorem d_Re_isFree_4 : decode b_Re_isFree 4 = .ok (.iload_n 1, 1) := by decide +kernel
theorem d_Re_isFree_5 : decode b_Re_isFree 5 = .ok (.iaload, 1) := by decide +kernel
theorem d_Re_isFree_6 : decode b_Re_isFree 6 = .ok (.istore 4, 2) := by decide +kernel
theorem d_Re_isFree_8 : decode b_Re_isFree 8 = .ok (.iconst 0, 1) := by decide +kernel
theorem d_Re_isFree_9 : decode b_Re_isFree 9 = .ok (.istore 5, 2) := by decide +kernel
theorem d_Re_isFree_11 : decode b_Re_isFree 11 = .ok (.iload 5, 2) := by decide +kernel
theorem d_Re_isFree_13 : decode b_Re_isFree 13 = .ok (.sipush 200, 3) := by decide +kernel
theorem d_Re_isFree_16 : decode b_Re_isFree 16 = .ok (.if_icmp .ge 37, 3) := by decide +kernel
theorem d_Re_isFree_19 : decode b_Re_isFree 19 = .ok (.iload 4, 2) := by decide +kernel
theorem d_Re_isFree_21 : decode b_Re_isFree 21 = .ok (.iconst (-1), 1) := by decide +kernel
theorem d_Re_isFree_22 : decode b_Re_isFree 22 = .ok (.if_icmp .eq 31, 3) := by decide +kernel
theorem d_Re_isFree_25 : decode b_Re_isFree 25 = .ok (.aload_n 0, 1) := by decide +kernel
theorem d_Re_isFree_26 : decode b_Re_isFree 26 = .ok (.iload 4, 2) := by decide +kernel
theorem d_Re_isFree_28 : decode b_Re_isFree 28 = .ok (.iload_n 2, 1) := by decide +kernel
theorem d_Re_isFree_29 : decode b_Re_isFree 29 = .ok (.iload_n 3, 1) := by decide +kernel
theorem d_Re_isFree_30 : decode b_Re_isFree 30 = .ok (.invokevirtual 78, 3) := by decide +kernel
theorem d_Re_isFree_33 : decode b_Re_isFree 33 = .ok (.ifCond .eq 5, 3) := by decide +kernel
theorem d_Re_isFree_36 : decode b_Re_isFree 36 = .ok (.iconst 0, 1) := by decide +kernel
theorem d_Re_isFree_37 : decode b_Re_isFree 37 = .ok (.ireturn, 1) := by decide +kernel
theorem d_Re_isFree_38 : decode b_Re_isFree 38 = .ok (.aload_n 0, 1) := by decide +kernel
theorem d_Re_isFree_39 : decode b_Re_isFree 39 = .ok (.getfield 36, 3) := by decide +kernel
theorem d_Re_isFree_42 : decode b_Re_isFree 42 = .ok (.iload 4, 2) := by decide +kernel
theorem d_Re_isFree_44 : decode b_Re_isFree 44 = .ok (.iaload, 1) := by decide +kernel
theorem d_Re_isFree_45 : decode b_Re_isFree 45 = .ok (.istore 4, 2) := by decide +kernel
theorem d_Re_isFree_47 : decode b_Re_isFree 47 = .ok (.iinc 5 1, 3) := by decide +kernel
theorem d_Re_isFree_50 : decode b_Re_isFree 50 = .ok (.goto (-39), 3) := by decide +kernel
theorem d_Re_isFree_53 : decode b_Re_isFree 53 = .ok (.iconst 1, 1) := by decide +kernel
theorem d_Re_isFree_54 : decode b_Re_isFree 54 = .ok (.ireturn, 1) := by decide +kernel
theorem d_Re_usedBelow_0 : decode b_Re_usedBelow 0 = .ok (.lconst 0, 1) := by decide +kernel
theorem d_Re_usedBelow_1 : decode b_Re_usedBelow 1 = .ok (.lstore_n 2, 1) := by decide +kernel
theorem d_Re_usedBelow_2 : decode b_Re_usedBelow 2 = .ok (.aload_n 0, 1) := by decide +kernel
theorem d_Re_usedBelow_3 : decode b_Re_usedBelow 3 = .ok (.getfield 33, 3) := by decide +kernel
theorem d_Re_usedBelow_6 : decode b_Re_usedBelow 6 = .ok (.iload_n 1, 1) := by decide +kernel
theorem d_Re_usedBelow_7 : decode b_Re_usedBelow 7 = .ok (.iaload, 1) := by decide +kernel
theorem d_Re_usedBelow_8 : decode b_Re_usedBelow 8 = .ok (.istore 4, 2) := by decide +kernel
theorem d_Re_usedBelow_10 : decode b_Re_usedBelow 10 = .ok (.iconst 0, 1) := by decide +kernel
theorem d_Re_usedBelow_11 : decode b_Re_usedBelow 11 = .ok (.istore 5, 2) := by decide +kernel
theorem d_Re_usedBelow_13 : decode b_Re_usedBelow 13 = .ok (.iload 5, 2) := by decide +kernel
theorem d_Re_usedBelow_15 : decode b_Re_usedBelow 15 = .ok (.sipush 200, 3) := by decide +kernel
theorem d_Re_usedBelow_18 : decode b_Re_usedBelow 18 = .ok (.if_icmp .ge 33, 3) := by decide +kernel
theorem d_Re_usedBelow_21 : decode b_Re_usedBelow 21 = .ok (.iload 4, 2) := by decide +kernel
theorem d_Re_usedBelow_23 : decode b_Re_usedBelow 23 = .ok (.iconst (-1), 1) := by decide +kernel
theorem d_Re_usedBelow_24 : decode b_Re_usedBelow 24 = .ok (.if_icmp .eq 27, 3) := by decide +kernel
theorem d_Re_usedBelow_27 : decode b_Re_usedBelow 27 = .ok (.lload_n 2, 1) := by decide +kernel
theorem d_Re_usedBelow_28 : decode b_Re_usedBelow 28 = .ok (.aload_n 0, 1) := by decide +kernel
theorem d_Re_usedBelow_29 : decode b_Re_usedBelow 29 = .ok (.iload 4, 2) := by decide +kernel
theorem d_Re_usedBelow_31 : decode b_Re_usedBelow 31 = .ok (.invokevirtual 75, 3) := by decide +kernel
theorem d_Re_usedBelow_34 : decode b_Re_usedBelow 34 = .ok (.ladd, 1) := by decide +kernel
theorem d_Re_usedBelow_35 : decode b_Re_usedBelow 35 = .ok (.lstore_n 2, 1) := by decide +kernel
theorem d_Re_usedBelow_36 : decode b_Re_usedBelow 36 = .ok (.aload_n 0, 1) := by decide +kernel
theorem d_Re_usedBelow_37 : decode b_Re_usedBelow 37 = .ok (.getfield 36, 3) := by decide +kernel
theorem d_Re_usedBelow_40 : decode b_Re_usedBelow 40 = .ok (.iload 4, 2) := by decide +kernel
theorem d_Re_usedBelow_42 : decode b_Re_usedBelow 42 = .ok (.iaload, 1) := by decide +kernel
theorem d_Re_usedBelow_43 : decode b_Re_usedBelow 43 = .ok (.istore 4, 2) := by decide +kernel
theorem d_Re_usedBelow_45 : decode b_Re_usedBelow 45 = .ok (.iinc 5 1, 3) := by decide +kernel
theorem d_Re_usedBelow_48 : decode b_Re_usedBelow 48 = .ok (.goto (-35), 3) := by decide +kernel
theorem d_Re_usedBelow_51 : decode b_Re_usedBelow 51 = .ok (.lload_n 2, 1) := by decide +kernel
theorem d_Re_usedBelow_52 : decode b_Re_usedBelow 52 = .ok (.lreturn, 1) := by decide +kernel
theorem d_Re_givenWith_0 : decode b_Re_givenWith 0 = .ok (.iconst 0, 1) := by decide +kernel
theorem d_Re_givenWith_1 : decode b_Re_givenWith 1 = .ok (.istore_n 3, 1) := by decide +kernel
theorem d_Re_givenWith_2 : decode b_Re_givenWith 2 = .ok (.iload_n 3, 1) := by decide +kernel
theorem d_Re_givenWith_3 : decode b_Re_givenWith 3 = .ok (.aload_n 0, 1) := by decide +kernel
theorem d_Re_givenWith_4 : decode b_Re_givenWith 4 = .ok (.getfield 39, 3) := by decide +kernel
theorem d_Re_givenWith_7 : decode b_Re_givenWith 7 = .ok (.if_icmp .ge 42, 3) := by decide +kernel
theorem d_Re_givenWith_10 : decode b_Re_givenWith 10 = .ok (.aload_n 0, 1) := by decide +kernel
theorem d_Re_givenWith_11 : decode b_Re_givenWith 11 = .ok (.getfield 27, 3) := by decide +kernel
theorem d_Re_givenWith_14 : decode b_Re_givenWith 14 = .ok (.iload_n 3, 1) := by decide +kernel
theorem d_Re_givenWith_15 : decode b_Re_givenWith 15 = .ok (.iaload, 1) := by decide +kernel
theorem d_Re_givenWith_16 : decode b_Re_givenWith 16 = .ok (.iconst 1, 1) := by decide +kernel
theorem d_Re_givenWith_17 : decode b_Re_givenWith 17 = .ok (.if_icmp .ne 26, 3) := by decide +kernel
theorem d_Re_givenWith_20 : decode b_Re_givenWith 20 = .ok (.aload_n 0, 1) := by decide +kernel
theorem d_Re_givenWith_21 : decode b_Re_givenWith 21 = .ok (.getfield 21, 3) := by decide +kernel
theorem d_Re_givenWith_24 : decode b_Re_givenWith 24 = .ok (.iload_n 3, 1) := by decide +kernel
theorem d_Re_givenWith_25 : decode b_Re_givenWith 25 = .ok (.iaload, 1) := by decide +kernel
theorem d_Re_givenWith_26 : decode b_Re_givenWith 26 = .ok (.iload_n 2, 1) := by decide +kernel
theorem d_Re_givenWith_27 : decode b_Re_givenWith 27 = .ok (.if_icmp .ne 16, 3) := by decide +kernel
theorem d_Re_givenWith_30 : decode b_Re_givenWith 30 = .ok (.aload_n 0, 1) := by decide +kernel
theorem d_Re_givenWith_31 : decode b_Re_givenWith 31 = .ok (.iload_n 3, 1) := by decide +kernel
theorem d_Re_givenWith_32 : decode b_Re_givenWith 32 = .ok (.iload_n 1, 1) := by decide +kernel
theorem d_Re_givenWith_33 : decode b_Re_givenWith 33 = .ok (.bipush 32, 2) := by decide +kernel
theorem d_Re_givenWith_35 : decode b_Re_givenWith 35 = .ok (.invokevirtual 78, 3) := by decide +kernel
theorem d_Re_givenWith_38 : decode b_Re_givenWith 38 = .ok (.ifCond .eq 5, 3) := by decide +kernel
theorem d_Re_givenWith_41 : decode b_Re_givenWith 41 = .ok (.iload_n 3, 1) := by decide +kernel
theorem d_Re_givenWith_42 : decode b_Re_givenWith 42 = .ok (.ireturn, 1) := by decide +kernel
theorem d_Re_givenWith_43 : decode b_Re_givenWith 43 = .ok (.iinc 3 1, 3) := by decide +kernel
theorem d_Re_givenWith_46 : decode b_Re_givenWith 46 = .ok (.goto (-44), 3) := by decide +kernel
theorem d_Re_givenWith_49 : decode b_Re_givenWith 49 = .ok (.iconst (-1), 1) := by decide +kernel
theorem d_Re_givenWith_50 : decode b_Re_givenWith 50 = .ok (.ireturn, 1) := by decide +kernel
theorem d_Re_isAtOrBelow_0 : decode b_Re_isAtOrBelow 0 = .ok (.iload_n 1, 1) := by decide +kernel
theorem d_Re_isAtOrBelow_1 : decode b_Re_isAtOrBelow 1 = .ok (.istore_n 3, 1) := by decide +kernel
theorem d_Re_isAtOrBelow_2 : decode b_Re_isAtOrBelow 2 = .ok (.iconst 0, 1) := by decide +kernel
theorem d_Re_isAtOrBelow_3 : decode b_Re_isAtOrBelow 3 = .ok (.istore 4, 2) := by decide +kernel
theorem d_Re_isAtOrBelow_5 : decode b_Re_isAtOrBelow 5 = .ok (.iload 4, 2) := by decide +kernel
theorem d_Re_isAtOrBelow_7 : decode b_Re_isAtOrBelow 7 = .ok (.iconst 4, 1) := by decide +kernel
theorem d_Re_isAtOrBelow_8 : decode b_Re_isAtOrBelow 8 = .ok (.if_icmp .gt 28, 3) := by decide +kernel
theorem d_Re_isAtOrBelow_11 : decode b_Re_isAtOrBelow 11 = .ok (.iload_n 3, 1) := by decide +kernel
theorem d_Re_isAtOrBelow_12 : decode b_Re_isAtOrBelow 12 = .ok (.iconst (-1), 1) := by decide +kernel
theorem d_Re_isAtOrBelow_13 : decode b_Re_isAtOrBelow 13 = .ok (.if_icmp .eq 23, 3) := by decide +kernel
theorem d_Re_isAtOrBelow_16 : decode b_Re_isAtOrBelow 16 = .ok (.iload_n 3, 1) := by decide +kernel
theorem d_Re_isAtOrBelow_17 : decode b_Re_isAtOrBelow 17 = .ok (.iload_n 2, 1) := by decide +kernel
theorem d_Re_isAtOrBelow_18 : decode b_Re_isAtOrBelow 18 = .ok (.if_icmp .ne 5, 3) := by decide +kernel
theorem d_Re_isAtOrBelow_21 : decode b_Re_isAtOrBelow 21 = .ok (.iconst 1, 1) := by decide +kernel
theorem d_Re_isAtOrBelow_22 : decode b_Re_isAtOrBelow 22 = .ok (.ireturn, 1) := by decide +kernel
theorem d_Re_isAtOrBelow_23 : decode b_Re_isAtOrBelow 23 = .ok (.aload_n 0, 1) := by decide +kernel
theorem d_Re_isAtOrBelow_24 : decode b_Re_isAtOrBelow 24 = .ok (.getfield 18, 3) := by decide +kernel
theorem d_Re_isAtOrBelow_27 : decode b_Re_isAtOrBelow 27 = .ok (.iload_n 3, 1) := by decide +kernel
theorem d_Re_isAtOrBelow_28 : decode b_Re_isAtOrBelow 28 = .ok (.iaload, 1) := by decide +kernel
theorem d_Re_isAtOrBelow_29 : decode b_Re_isAtOrBelow 29 = .ok (.istore_n 3, 1) := by decide +kernel
theorem d_Re_isAtOrBelow_30 : decode b_Re_isAtOrBelow 30 = .ok (.iinc 4 1, 3) := by decide +kernel
theorem d_Re_isAtOrBelow_33 : decode b_Re_isAtOrBelow 33 = .ok (.goto (-28), 3) := by decide +kernel
theorem d_Re_isAtOrBelow_36 : decode b_Re_isAtOrBelow 36 = .ok (.iconst 0, 1) := by decide +kernel
theorem d_Re_isAtOrBelow_37 : decode b_Re_isAtOrBelow 37 = .ok (.ireturn, 1) := by decide +kernel
theorem d_Re_cutsOf_0 : decode b_Re_cutsOf 0 = .ok (.aload_n 0, 1) := by decide +kernel
theorem d_Re_cutsOf_1 : decode b_Re_cutsOf 1 = .ok (.getfield 27, 3) := by decide +kernel
theorem d_Re_cutsOf_4 : decode b_Re_cutsOf 4 = .ok (.iload_n 1, 1) := by decide +kernel
theorem d_Re_cutsOf_5 : decode b_Re_cutsOf 5 = .ok (.iaload, 1) := by decide +kernel
theorem d_Re_cutsOf_6 : decode b_Re_cutsOf 6 = .ok (.iconst 1, 1) := by decide +kernel
theorem d_Re_cutsOf_7 : decode b_Re_cutsOf 7 = .ok (.if_icmp .ne 24, 3) := by decide +kernel
theorem d_Re_cutsOf_10 : decode b_Re_cutsOf 10 = .ok (.iconst 1, 1) := by decide +kernel
theorem d_Re_cutsOf_11 : decode b_Re_cutsOf 11 = .ok (.aload_n 0, 1) := by decide +kernel
theorem d_Re_cutsOf_12 : decode b_Re_cutsOf 12 = .ok (.getfield 15, 3) := by decide +kernel
theorem d_Re_cutsOf_15 : decode b_Re_cutsOf 15 = .ok (.iload_n 1, 1) := by decide +kernel
theorem d_Re_cutsOf_16 : decode b_Re_cutsOf 16 = .ok (.iaload, 1) := by decide +kernel
theorem d_Re_cutsOf_17 : decode b_Re_cutsOf 17 = .ok (.invokestatic 82, 3) := by decide +kernel
theorem d_Re_cutsOf_20 : decode b_Re_cutsOf 20 = .ok (.aload_n 0, 1) := by decide +kernel
theorem d_Re_cutsOf_21 : decode b_Re_cutsOf 21 = .ok (.getfield 15, 3) := by decide +kernel
theorem d_Re_cutsOf_24 : decode b_Re_cutsOf 24 = .ok (.iload_n 1, 1) := by decide +kernel
theorem d_Re_cutsOf_25 : decode b_Re_cutsOf 25 = .ok (.iaload, 1) := by decide +kernel
theorem d_Re_cutsOf_26 : decode b_Re_cutsOf 26 = .ok (.isub, 1) := by decide +kernel
theorem d_Re_cutsOf_27 : decode b_Re_cutsOf 27 = .ok (.ishl, 1) := by decide +kernel
theorem d_Re_cutsOf_28 : decode b_Re_cutsOf 28 = .ok (.goto 4, 3) := by decide +kernel
theorem d_Re_cutsOf_31 : decode b_Re_cutsOf 31 = .ok (.iconst 0, 1) := by decide +kernel
theorem d_Re_cutsOf_32 : decode b_Re_cutsOf 32 = .ok (.ireturn, 1) := by decide +kernel
theorem d_Re_countCuts_0 : decode b_Re_countCuts 0 = .ok (.iconst 0, 1) := by decide +kernel
theorem d_Re_countCuts_1 : decode b_Re_countCuts 1 = .ok (.istore_n 2, 1) := by decide +kernel
theorem d_Re_countCuts_2 : decode b_Re_countCuts 2 = .ok (.aload_n 0, 1) := by decide +kernel
theorem d_Re_countCuts_3 : decode b_Re_countCuts 3 = .ok (.getfield 33, 3) := by decide +kernel
theorem d_Re_countCuts_6 : decode b_Re_countCuts 6 = .ok (.iload_n 1, 1) := by decide +kernel
theorem d_Re_countCuts_7 : decode b_Re_countCuts 7 = .ok (.iaload, 1) := by decide +kernel
theorem d_Re_countCuts_8 : decode b_Re_countCuts 8 = .ok (.istore_n 3, 1) := by decide +kernel
theorem d_Re_countCuts_9 : decode b_Re_countCuts 9 = .ok (.iconst 0, 1) := by decide +kernel
theorem d_Re_countCuts_10 : decode b_Re_countCuts 10 = .ok (.istore 4, 2) := by decide +kernel
theorem d_Re_countCuts_12 : decode b_Re_countCuts 12 = .ok (.iload 4, 2) := by decide +kernel
theorem d_Re_countCuts_14 : decode b_Re_countCuts 14 = .ok (.sipush 200, 3) := by decide +kernel
theorem d_Re_countCuts_17 : decode b_Re_countCuts 17 = .ok (.if_icmp .ge 29, 3) := by decide +kernel
theorem d_Re_countCuts_20 : decode b_Re_countCuts 20 = .ok (.iload_n 3, 1) := by decide +kernel
theorem d_Re_countCuts_21 : decode b_Re_countCuts 21 = .ok (.iconst (-1), 1) := by decide +kernel
theorem d_Re_countCuts_22 : decode b_Re_countCuts 22 = .ok (.if_icmp .eq 24, 3) := by decide +kernel
theorem d_Re_countCuts_25 : decode b_Re_countCuts 25 = .ok (.iload_n 2, 1) := by decide +kernel
theorem d_Re_countCuts_26 : decode b_Re_countCuts 26 = .ok (.aload_n 0, 1) := by decide +kernel
theorem d_Re_countCuts_27 : decode b_Re_countCuts 27 = .ok (.iload_n 3, 1) := by decide +kernel
theorem d_Re_countCuts_28 : decode b_Re_countCuts 28 = .ok (.invokevirtual 86, 3) := by decide +kernel
theorem d_Re_countCuts_31 : decode b_Re_countCuts 31 = .ok (.iadd, 1) := by decide +kernel
theorem d_Re_countCuts_32 : decode b_Re_countCuts 32 = .ok (.istore_n 2, 1) := by decide +kernel
theorem d_Re_countCuts_33 : decode b_Re_countCuts 33 = .ok (.aload_n 0, 1) := by decide +kernel
theorem d_Re_countCuts_34 : decode b_Re_countCuts 34 = .ok (.getfield 36, 3) := by decide +kernel
theorem d_Re_countCuts_37 : decode b_Re_countCuts 37 = .ok (.iload_n 3, 1) := by decide +kernel
theorem d_Re_countCuts_38 : decode b_Re_countCuts 38 = .ok (.iaload, 1) := by decide +kernel
theorem d_Re_countCuts_39 : decode b_Re_countCuts 39 = .ok (.istore_n 3, 1) := by decide +kernel
theorem d_Re_countCuts_40 : decode b_Re_countCuts 40 = .ok (.iinc 4 1, 3) := by decide +kernel
theorem d_Re_countCuts_43 : decode b_Re_countCuts 43 = .ok (.goto (-31), 3) := by decide +kernel
theorem d_Re_countCuts_46 : decode b_Re_countCuts 46 = .ok (.iload_n 2, 1) := by decide +kernel
theorem d_Re_countCuts_47 : decode b_Re_countCuts 47 = .ok (.ireturn, 1) := by decide +kernel
theorem d_Re_cutAt_0 : decode b_Re_cutAt 0 = .ok (.iload_n 2, 1) := by decide +kernel
theorem d_Re_cutAt_1 : decode b_Re_cutAt 1 = .ok (.istore 4, 2) := by decide +kernel
theorem d_Re_cutAt_3 : decode b_Re_cutAt 3 = .ok (.aload_n 0, 1) := by decide +kernel
theorem d_Re_cutAt_4 : decode b_Re_cutAt 4 = .ok (.getfield 33, 3) := by decide +kernel
theorem d_Re_cutAt_7 : decode b_Re_cutAt 7 = .ok (.iload_n 1, 1) := by decide +kernel
theorem d_Re_cutAt_8 : decode b_Re_cutAt 8 = .ok (.iaload, 1) := by decide +kernel
theorem d_Re_cutAt_9 : decode b_Re_cutAt 9 = .ok (.istore 5, 2) := by decide +kernel
theorem d_Re_cutAt_11 : decode b_Re_cutAt 11 = .ok (.iconst 0, 1) := by decide +kernel
theorem d_Re_cutAt_12 : decode b_Re_cutAt 12 = .ok (.istore 6, 2) := by decide +kernel
theorem d_Re_cutAt_14 : decode b_Re_cutAt 14 = .ok (.iload 6, 2) := by decide +kernel
theorem d_Re_cutAt_16 : decode b_Re_cutAt 16 = .ok (.sipush 200, 3) := by decide +kernel
theorem d_Re_cutAt_19 : decode b_Re_cutAt 19 = .ok (.if_icmp .ge 85, 3) := by decide +kernel
theorem d_Re_cutAt_22 : decode b_Re_cutAt 22 = .ok (.iload 5, 2) := by decide +kernel
theorem d_Re_cutAt_24 : decode b_Re_cutAt 24 = .ok (.iconst (-1), 1) := by decide +kernel
theorem d_Re_cutAt_25 : decode b_Re_cutAt 25 = .ok (.if_icmp .eq 79, 3) := by decide +kernel
theorem d_Re_cutAt_28 : decode b_Re_cutAt 28 = .ok (.iload 4, 2) := by decide +kernel
theorem d_Re_cutAt_30 : decode b_Re_cutAt 30 = .ok (.aload_n 0, 1) := by decide +kernel
theorem d_Re_cutAt_31 : decode b_Re_cutAt 31 = .ok (.iload 5, 2) := by decide +kernel
theorem d_Re_cutAt_33 : decode b_Re_cutAt 33 = .ok (.invokevirtual 86, 3) := by decide +kernel
theorem d_Re_cutAt_36 : decode b_Re_cutAt 36 = .ok (.if_icmp .ge 42, 3) := by decide +kernel
theorem d_Re_cutAt_39 : decode b_Re_cutAt 39 = .ok (.aload_n 0, 1) := by decide +kernel
theorem d_Re_cutAt_40 : decode b_Re_cutAt 40 = .ok (.getfield 15, 3) := by decide +kernel
theorem d_Re_cutAt_43 : decode b_Re_cutAt 43 = .ok (.iload 5, 2) := by decide +kernel
theorem d_Re_cutAt_45 : decode b_Re_cutAt 45 = .ok (.iaload, 1) := by decide +kernel
theorem d_Re_cutAt_46 : decode b_Re_cutAt 46 = .ok (.invokestatic 82, 3) := by decide +kernel
theorem d_Re_cutAt_49 : decode b_Re_cutAt 49 = .ok (.istore 7, 2) := by decide +kernel
theorem d_Re_cutAt_51 : decode b_Re_cutAt 51 = .ok (.iload_n 3, 1) := by decide +kernel
theorem d_Re_cutAt_52 : decode b_Re_cutAt 52 = .ok (.ifCond .eq 8, 3) := by decide +kernel
theorem d_Re_cutAt_55 : decode b_Re_cutAt 55 = .ok (.iload 7, 2) := by decide +kernel
theorem d_Re_cutAt_57 : decode b_Re_cutAt 57 = .ok (.goto 20, 3) := by decide +kernel
theorem d_Re_cutAt_60 : decode b_Re_cutAt 60 = .ok (.aload_n 0, 1) := by decide +kernel
theorem d_Re_cutAt_61 : decode b_Re_cutAt 61 = .ok (.iload 5, 2) := by decide +kernel
theorem d_Re_cutAt_63 : decode b_Re_cutAt 63 = .ok (.invokevirtual 68, 3) := by decide +kernel
theorem d_Re_cutAt_66 : decode b_Re_cutAt 66 = .ok (.iload 4, 2) := by decide +kernel
theorem d_Re_cutAt_68 : decode b_Re_cutAt 68 = .ok (.i2l, 1) := by decide +kernel
theorem d_Re_cutAt_69 : decode b_Re_cutAt 69 = .ok (.iload 7, 2) := by decide +kernel
theorem d_Re_cutAt_71 : decode b_Re_cutAt 71 = .ok (.invokestatic 51, 3) := by decide +kernel
theorem d_Re_cutAt_74 : decode b_Re_cutAt 74 = .ok (.lmul, 1) := by decide +kernel
theorem d_Re_cutAt_75 : decode b_Re_cutAt 75 = .ok (.ladd, 1) := by decide +kernel
theorem d_Re_cutAt_76 : decode b_Re_cutAt 76 = .ok (.l2i, 1) := by decide +kernel
theorem d_Re_cutAt_77 : decode b_Re_cutAt 77 = .ok (.ireturn, 1) := by decide +kernel
theorem d_Re_cutAt_78 : decode b_Re_cutAt 78 = .ok (.iload 4, 2) := by decide +kernel
theorem d_Re_cutAt_80 : decode b_Re_cutAt 80 = .ok (.aload_n 0, 1) := by decide +kernel
theorem d_Re_cutAt_81 : decode b_Re_cutAt 81 = .ok (.iload 5, 2) := by decide +kernel
theorem d_Re_cutAt_83 : decode b_Re_cutAt 83 = .ok (.invokevirtual 86, 3) := by decide +kernel
theorem d_Re_cutAt_86 : decode b_Re_cutAt 86 = .ok (.isub, 1) := by decide +kernel
theorem d_Re_cutAt_87 : decode b_Re_cutAt 87 = .ok (.istore 4, 2) := by decide +kernel
theorem d_Re_cutAt_89 : decode b_Re_cutAt 89 = .ok (.aload_n 0, 1) := by decide +kernel
theorem d_Re_cutAt_90 : decode b_Re_cutAt 90 = .ok (.getfield 36, 3) := by decide +kernel
theorem d_Re_cutAt_93 : decode b_Re_cutAt 93 = .ok (.iload 5, 2) := by decide +kernel
theorem d_Re_cutAt_95 : decode b_Re_cutAt 95 = .ok (.iaload, 1) := by decide +kernel
theorem d_Re_cutAt_96 : decode b_Re_cutAt 96 = .ok (.istore 5, 2) := by decide +kernel
theorem d_Re_cutAt_98 : decode b_Re_cutAt 98 = .ok (.iinc 6 1, 3) := by decide +kernel
theorem d_Re_cutAt_101 : decode b_Re_cutAt 101 = .ok (.goto (-87), 3) := by decide +kernel
theorem d_Re_cutAt_104 : decode b_Re_cutAt 104 = .ok (.iconst (-1), 1) := by decide +kernel
theorem d_Re_cutAt_105 : decode b_Re_cutAt 105 = .ok (.ireturn, 1) := by decide +kernel
theorem d_Re_areLike_0 : decode b_Re_areLike 0 = .ok (.aload_n 0, 1) := by decide +kernel
theorem d_Re_areLike_1 : decode b_Re_areLike 1 = .ok (.getfield 39, 3) := by decide +kernel
theorem d_Re_areLike_4 : decode b_Re_areLike 4 = .ok (.aload_n 1, 1) := by decide +kernel
theorem d_Re_areLike_5 : decode b_Re_areLike 5 = .ok (.getfield 39, 3) := by decide +kernel
theorem d_Re_areLike_8 : decode b_Re_areLike 8 = .ok (.if_icmp .eq 5, 3) := by decide +kernel
theorem d_Re_areLike_11 : decode b_Re_areLike 11 = .ok (.iconst 0, 1) := by decide +kernel
theorem d_Re_areLike_12 : decode b_Re_areLike 12 = .ok (.ireturn, 1) := by decide +kernel
theorem d_Re_areLike_13 : decode b_Re_areLike 13 = .ok (.iconst 0, 1) := by decide +kernel
theorem d_Re_areLike_14 : decode b_Re_areLike 14 = .ok (.istore_n 2, 1) := by decide +kernel
theorem d_Re_areLike_15 : decode b_Re_areLike 15 = .ok (.iload_n 2, 1) := by decide +kernel
theorem d_Re_areLike_16 : decode b_Re_areLike 16 = .ok (.aload_n 0, 1) := by decide +kernel
theorem d_Re_areLike_17 : decode b_Re_areLike 17 = .ok (.getfield 39, 3) := by decide +kernel
theorem d_Re_areLike_20 : decode b_Re_areLike 20 = .ok (.if_icmp .ge 40, 3) := by decide +kernel
theorem d_Re_areLike_23 : decode b_Re_areLike 23 = .ok (.iconst 0, 1) := by decide +kernel
theorem d_Re_areLike_24 : decode b_Re_areLike 24 = .ok (.istore_n 3, 1) := by decide +kernel
theorem d_Re_areLike_25 : decode b_Re_areLike 25 = .ok (.iload_n 3, 1) := by decide +kernel
theorem d_Re_areLike_26 : decode b_Re_areLike 26 = .ok (.bipush 7, 2) := by decide +kernel
theorem d_Re_areLike_28 : decode b_Re_areLike 28 = .ok (.if_icmp .ge 26, 3) := by decide +kernel
theorem d_Re_areLike_31 : decode b_Re_areLike 31 = .ok (.aload_n 0, 1) := by decide +kernel
theorem d_Re_areLike_32 : decode b_Re_areLike 32 = .ok (.iload_n 2, 1) := by decide +kernel
theorem d_Re_areLike_33 : decode b_Re_areLike 33 = .ok (.iload_n 3, 1) := by decide +kernel
theorem d_Re_areLike_34 : decode b_Re_areLike 34 = .ok (.invokevirtual 89, 3) := by decide +kernel
theorem d_Re_areLike_37 : decode b_Re_areLike 37 = .ok (.aload_n 1, 1) := by decide +kernel
theorem d_Re_areLike_38 : decode b_Re_areLike 38 = .ok (.iload_n 2, 1) := by decide +kernel
theorem d_Re_areLike_39 : decode b_Re_areLike 39 = .ok (.iload_n 3, 1) := by decide +kernel
theorem d_Re_areLike_40 : decode b_Re_areLike 40 = .ok (.invokevirtual 89, 3) := by decide +kernel
theorem d_Re_areLike_43 : decode b_Re_areLike 43 = .ok (.if_icmp .eq 5, 3) := by decide +kernel
theorem d_Re_areLike_46 : decode b_Re_areLike 46 = .ok (.iconst 0, 1) := by decide +kernel
theorem d_Re_areLike_47 : decode b_Re_areLike 47 = .ok (.ireturn, 1) := by decide +kernel
theorem d_Re_areLike_48 : decode b_Re_areLike 48 = .ok (.iinc 3 1, 3) := by decide +kernel
theorem d_Re_areLike_51 : decode b_Re_areLike 51 = .ok (.goto (-26), 3) := by decide +kernel
theorem d_Re_areLike_54 : decode b_Re_areLike 54 = .ok (.iinc 2 1, 3) := by decide +kernel
theorem d_Re_areLike_57 : decode b_Re_areLike 57 = .ok (.goto (-42), 3) := by decide +kernel
theorem d_Re_areLike_60 : decode b_Re_areLike 60 = .ok (.iconst 1, 1) := by decide +kernel
theorem d_Re_areLike_61 : decode b_Re_areLike 61 = .ok (.ireturn, 1) := by decide +kernel
