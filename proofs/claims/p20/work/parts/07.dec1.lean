theorem d_U_init_0 : decode b_U_init 0 = .ok (.aload_n 0, 1) := by decide +kernel
theorem d_U_init_1 : decode b_U_init 1 = .ok (.invokespecial 3, 3) := by decide +kernel
theorem d_U_init_4 : decode b_U_init 4 = .ok (.aload_n 0, 1) := by decide +kernel
theorem d_U_init_5 : decode b_U_init 5 = .ok (.bipush 8, 2) := by decide +kernel
theorem d_U_init_7 : decode b_U_init 7 = .ok (.newarray .int, 2) := by decide +kernel
theorem d_U_init_9 : decode b_U_init 9 = .ok (.putfield 9, 3) := by decide +kernel
theorem d_U_init_12 : decode b_U_init 12 = .ok (.aload_n 0, 1) := by decide +kernel
theorem d_U_init_13 : decode b_U_init 13 = .ok (.iload_n 1, 1) := by decide +kernel
theorem d_U_init_14 : decode b_U_init 14 = .ok (.putfield 15, 3) := by decide +kernel
theorem d_U_init_17 : decode b_U_init 17 = .ok (.return_, 1) := by decide +kernel
theorem d_U_start_0 : decode b_U_start 0 = .ok (.aload_n 0, 1) := by decide +kernel
theorem d_U_start_1 : decode b_U_start 1 = .ok (.invokevirtual 19, 3) := by decide +kernel
theorem d_U_start_4 : decode b_U_start 4 = .ok (.aload_n 0, 1) := by decide +kernel
theorem d_U_start_5 : decode b_U_start 5 = .ok (.aload_n 0, 1) := by decide +kernel
theorem d_U_start_6 : decode b_U_start 6 = .ok (.aload_n 1, 1) := by decide +kernel
theorem d_U_start_7 : decode b_U_start 7 = .ok (.aload_n 2, 1) := by decide +kernel
theorem d_U_start_8 : decode b_U_start 8 = .ok (.invokevirtual 25, 3) := by decide +kernel
theorem d_U_start_11 : decode b_U_start 11 = .ok (.putfield 22, 3) := by decide +kernel
theorem d_U_start_14 : decode b_U_start 14 = .ok (.return_, 1) := by decide +kernel
theorem d_U_clear_0 : decode b_U_clear 0 = .ok (.aload_n 0, 1) := by decide +kernel
theorem d_U_clear_1 : decode b_U_clear 1 = .ok (.iconst 0, 1) := by decide +kernel
theorem d_U_clear_2 : decode b_U_clear 2 = .ok (.putfield 32, 3) := by decide +kernel
theorem d_U_clear_5 : decode b_U_clear 5 = .ok (.aload_n 0, 1) := by decide +kernel
theorem d_U_clear_6 : decode b_U_clear 6 = .ok (.iconst 0, 1) := by decide +kernel
theorem d_U_clear_7 : decode b_U_clear 7 = .ok (.putfield 35, 3) := by decide +kernel
theorem d_U_clear_10 : decode b_U_clear 10 = .ok (.aload_n 0, 1) := by decide +kernel
theorem d_U_clear_11 : decode b_U_clear 11 = .ok (.iconst 0, 1) := by decide +kernel
theorem d_U_clear_12 : decode b_U_clear 12 = .ok (.putfield 38, 3) := by decide +kernel
theorem d_U_clear_15 : decode b_U_clear 15 = .ok (.aload_n 0, 1) := by decide +kernel
theorem d_U_clear_16 : decode b_U_clear 16 = .ok (.iconst 0, 1) := by decide +kernel
theorem d_U_clear_17 : decode b_U_clear 17 = .ok (.putfield 29, 3) := by decide +kernel
theorem d_U_clear_20 : decode b_U_clear 20 = .ok (.return_, 1) := by decide +kernel
theorem d_U_outcomeOf_0 : decode b_U_outcomeOf 0 = .ok (.aload_n 0, 1) := by decide +kernel
theorem d_U_outcomeOf_1 : decode b_U_outcomeOf 1 = .ok (.getfield 15, 3) := by decide +kernel
theorem d_U_outcomeOf_4 : decode b_U_outcomeOf 4 = .ok (.istore_n 3, 1) := by decide +kernel
theorem d_U_outcomeOf_5 : decode b_U_outcomeOf 5 = .ok (.iload_n 3, 1) := by decide +kernel
theorem d_U_outcomeOf_6 : decode b_U_outcomeOf 6 = .ok (.ifCond .le 75, 3) := by decide +kernel
theorem d_U_outcomeOf_9 : decode b_U_outcomeOf 9 = .ok (.aload_n 0, 1) := by decide +kernel
theorem d_U_outcomeOf_10 : decode b_U_outcomeOf 10 = .ok (.getfield 35, 3) := by decide +kernel
theorem d_U_outcomeOf_13 : decode b_U_outcomeOf 13 = .ok (.ifCond .lt 14, 3) := by decide +kernel
theorem d_U_outcomeOf_16 : decode b_U_outcomeOf 16 = .ok (.aload_n 0, 1) := by decide +kernel
theorem d_U_outcomeOf_17 : decode b_U_outcomeOf 17 = .ok (.getfield 35, 3) := by decide +kernel
theorem d_U_outcomeOf_20 : decode b_U_outcomeOf 20 = .ok (.aload_n 1, 1) := by decide +kernel
theorem d_U_outcomeOf_21 : decode b_U_outcomeOf 21 = .ok (.getfield 41, 3) := by decide +kernel
theorem d_U_outcomeOf_24 : decode b_U_outcomeOf 24 = .ok (.if_icmp .lt 5, 3) := by decide +kernel
theorem d_U_outcomeOf_27 : decode b_U_outcomeOf 27 = .ok (.iconst 4, 1) := by decide +kernel
theorem d_U_outcomeOf_28 : decode b_U_outcomeOf 28 = .ok (.ireturn, 1) := by decide +kernel
theorem d_U_outcomeOf_29 : decode b_U_outcomeOf 29 = .ok (.aload_n 0, 1) := by decide +kernel
theorem d_U_outcomeOf_30 : decode b_U_outcomeOf 30 = .ok (.dup, 1) := by decide +kernel
theorem d_U_outcomeOf_31 : decode b_U_outcomeOf 31 = .ok (.getfield 38, 3) := by decide +kernel
theorem d_U_outcomeOf_34 : decode b_U_outcomeOf 34 = .ok (.iconst 1, 1) := by decide +kernel
theorem d_U_outcomeOf_35 : decode b_U_outcomeOf 35 = .ok (.iadd, 1) := by decide +kernel
theorem d_U_outcomeOf_36 : decode b_U_outcomeOf 36 = .ok (.putfield 38, 3) := by decide +kernel
theorem d_U_outcomeOf_39 : decode b_U_outcomeOf 39 = .ok (.aload_n 0, 1) := by decide +kernel
theorem d_U_outcomeOf_40 : decode b_U_outcomeOf 40 = .ok (.getfield 35, 3) := by decide +kernel
theorem d_U_outcomeOf_43 : decode b_U_outcomeOf 43 = .ok (.istore 4, 2) := by decide +kernel
theorem d_U_outcomeOf_45 : decode b_U_outcomeOf 45 = .ok (.aload_n 0, 1) := by decide +kernel
theorem d_U_outcomeOf_46 : decode b_U_outcomeOf 46 = .ok (.dup, 1) := by decide +kernel
theorem d_U_outcomeOf_47 : decode b_U_outcomeOf 47 = .ok (.getfield 35, 3) := by decide +kernel
theorem d_U_outcomeOf_50 : decode b_U_outcomeOf 50 = .ok (.iconst 1, 1) := by decide +kernel
theorem d_U_outcomeOf_51 : decode b_U_outcomeOf 51 = .ok (.iadd, 1) := by decide +kernel
theorem d_U_outcomeOf_52 : decode b_U_outcomeOf 52 = .ok (.putfield 35, 3) := by decide +kernel
theorem d_U_outcomeOf_55 : decode b_U_outcomeOf 55 = .ok (.aload_n 0, 1) := by decide +kernel
theorem d_U_outcomeOf_56 : decode b_U_outcomeOf 56 = .ok (.aload_n 1, 1) := by decide +kernel
theorem d_U_outcomeOf_57 : decode b_U_outcomeOf 57 = .ok (.iload 4, 2) := by decide +kernel
theorem d_U_outcomeOf_59 : decode b_U_outcomeOf 59 = .ok (.aload_n 2, 1) := by decide +kernel
theorem d_U_outcomeOf_60 : decode b_U_outcomeOf 60 = .ok (.invokevirtual 46, 3) := by decide +kernel
theorem d_U_outcomeOf_63 : decode b_U_outcomeOf 63 = .ok (.istore 5, 2) := by decide +kernel
theorem d_U_outcomeOf_65 : decode b_U_outcomeOf 65 = .ok (.iload 5, 2) := by decide +kernel
theorem d_U_outcomeOf_67 : decode b_U_outcomeOf 67 = .ok (.bipush 7, 2) := by decide +kernel
theorem d_U_outcomeOf_69 : decode b_U_outcomeOf 69 = .ok (.if_icmp .eq 6, 3) := by decide +kernel
theorem d_U_outcomeOf_72 : decode b_U_outcomeOf 72 = .ok (.iload 5, 2) := by decide +kernel
theorem d_U_outcomeOf_74 : decode b_U_outcomeOf 74 = .ok (.ireturn, 1) := by decide +kernel
theorem d_U_outcomeOf_75 : decode b_U_outcomeOf 75 = .ok (.iinc 3 (-1), 3) := by decide +kernel
theorem d_U_outcomeOf_78 : decode b_U_outcomeOf 78 = .ok (.goto (-73), 3) := by decide +kernel
theorem d_U_outcomeOf_81 : decode b_U_outcomeOf 81 = .ok (.iconst 1, 1) := by decide +kernel
theorem d_U_outcomeOf_82 : decode b_U_outcomeOf 82 = .ok (.ireturn, 1) := by decide +kernel
theorem d_U_step_0 : decode b_U_step 0 = .ok (.aload_n 1, 1) := by decide +kernel
theorem d_U_step_1 : decode b_U_step 1 = .ok (.getfield 50, 3) := by decide +kernel
theorem d_U_step_4 : decode b_U_step 4 = .ok (.iload_n 2, 1) := by decide +kernel
theorem d_U_step_5 : decode b_U_step 5 = .ok (.iaload, 1) := by decide +kernel
theorem d_U_step_6 : decode b_U_step 6 = .ok (.istore 4, 2) := by decide +kernel
theorem d_U_step_8 : decode b_U_step 8 = .ok (.aload_n 1, 1) := by decide +kernel
theorem d_U_step_9 : decode b_U_step 9 = .ok (.getfield 53, 3) := by decide +kernel
theorem d_U_step_12 : decode b_U_step 12 = .ok (.iload_n 2, 1) := by decide +kernel
theorem d_U_step_13 : decode b_U_step 13 = .ok (.iaload, 1) := by decide +kernel
theorem d_U_step_14 : decode b_U_step 14 = .ok (.istore 5, 2) := by decide +kernel
theorem d_U_step_16 : decode b_U_step 16 = .ok (.aload_n 0, 1) := by decide +kernel
theorem d_U_step_17 : decode b_U_step 17 = .ok (.getfield 32, 3) := by decide +kernel
theorem d_U_step_20 : decode b_U_step 20 = .ok (.iload 4, 2) := by decide +kernel
theorem d_U_step_22 : decode b_U_step 22 = .ok (.invokestatic 56, 3) := by decide +kernel
theorem d_U_step_25 : decode b_U_step 25 = .ok (.if_icmp .ge 5, 3) := by decide +kernel
theorem d_U_step_28 : decode b_U_step 28 = .ok (.iconst 3, 1) := by decide +kernel
theorem d_U_step_29 : decode b_U_step 29 = .ok (.ireturn, 1) := by decide +kernel
theorem d_U_step_30 : decode b_U_step 30 = .ok (.iload 4, 2) := by decide +kernel
theorem d_U_step_32 : decode b_U_step 32 = .ok (.tableswitch 135 0 10 #[60, 68, 135, 135, 135, 135, 135, 81, 108, 124, 98], 60) := by decide +kernel
theorem d_U_step_92 : decode b_U_step 92 = .ok (.aload_n 0, 1) := by decide +kernel
theorem d_U_step_93 : decode b_U_step 93 = .ok (.iload 5, 2) := by decide +kernel
theorem d_U_step_95 : decode b_U_step 95 = .ok (.i2l, 1) := by decide +kernel
theorem d_U_step_96 : decode b_U_step 96 = .ok (.invokevirtual 60, 3) := by decide +kernel
theorem d_U_step_99 : decode b_U_step 99 = .ok (.ireturn, 1) := by decide +kernel
theorem d_U_step_100 : decode b_U_step 100 = .ok (.aload_n 0, 1) := by decide +kernel
theorem d_U_step_101 : decode b_U_step 101 = .ok (.aload_n 3, 1) := by decide +kernel
theorem d_U_step_102 : decode b_U_step 102 = .ok (.getfield 64, 3) := by decide +kernel
theorem d_U_step_105 : decode b_U_step 105 = .ok (.iload 5, 2) := by decide +kernel
theorem d_U_step_107 : decode b_U_step 107 = .ok (.iaload, 1) := by decide +kernel
theorem d_U_step_108 : decode b_U_step 108 = .ok (.i2l, 1) := by decide +kernel
theorem d_U_step_109 : decode b_U_step 109 = .ok (.invokevirtual 60, 3) := by decide +kernel
theorem d_U_step_112 : decode b_U_step 112 = .ok (.ireturn, 1) := by decide +kernel
theorem d_U_step_113 : decode b_U_step 113 = .ok (.aload_n 0, 1) := by decide +kernel
theorem d_U_step_114 : decode b_U_step 114 = .ok (.aload_n 0, 1) := by decide +kernel
theorem d_U_step_115 : decode b_U_step 115 = .ok (.getfield 9, 3) := by decide +kernel
theorem d_U_step_118 : decode b_U_step 118 = .ok (.aload_n 0, 1) := by decide +kernel
theorem d_U_step_119 : decode b_U_step 119 = .ok (.getfield 32, 3) := by decide +kernel
theorem d_U_step_122 : decode b_U_step 122 = .ok (.iconst 1, 1) := by decide +kernel
theorem d_U_step_123 : decode b_U_step 123 = .ok (.isub, 1) := by decide +kernel
theorem d_U_step_124 : decode b_U_step 124 = .ok (.iaload, 1) := by decide +kernel
theorem d_U_step_125 : decode b_U_step 125 = .ok (.i2l, 1) := by decide +kernel
theorem d_U_step_126 : decode b_U_step 126 = .ok (.invokevirtual 60, 3) := by decide +kernel
theorem d_U_step_129 : decode b_U_step 129 = .ok (.ireturn, 1) := by decide +kernel
theorem d_U_step_130 : decode b_U_step 130 = .ok (.aload_n 0, 1) := by decide +kernel
theorem d_U_step_131 : decode b_U_step 131 = .ok (.aload_n 1, 1) := by decide +kernel
theorem d_U_step_132 : decode b_U_step 132 = .ok (.getfield 69, 3) := by decide +kernel
theorem d_U_step_135 : decode b_U_step 135 = .ok (.i2l, 1) := by decide +kernel
theorem d_U_step_136 : decode b_U_step 136 = .ok (.invokevirtual 60, 3) := by decide +kernel
theorem d_U_step_139 : decode b_U_step 139 = .ok (.ireturn, 1) := by decide +kernel
theorem d_U_step_140 : decode b_U_step 140 = .ok (.aload_n 0, 1) := by decide +kernel
theorem d_U_step_141 : decode b_U_step 141 = .ok (.invokevirtual 72, 3) := by decide +kernel
theorem d_U_step_144 : decode b_U_step 144 = .ok (.ifCond .ne 9, 3) := by decide +kernel
theorem d_U_step_147 : decode b_U_step 147 = .ok (.aload_n 0, 1) := by decide +kernel
theorem d_U_step_148 : decode b_U_step 148 = .ok (.iload 5, 2) := by decide +kernel
theorem d_U_step_150 : decode b_U_step 150 = .ok (.putfield 35, 3) := by decide +kernel
theorem d_U_step_153 : decode b_U_step 153 = .ok (.bipush 7, 2) := by decide +kernel
theorem d_U_step_155 : decode b_U_step 155 = .ok (.ireturn, 1) := by decide +kernel
theorem d_U_step_156 : decode b_U_step 156 = .ok (.aload_n 0, 1) := by decide +kernel
theorem d_U_step_157 : decode b_U_step 157 = .ok (.aload_n 0, 1) := by decide +kernel
theorem d_U_step_158 : decode b_U_step 158 = .ok (.invokevirtual 72, 3) := by decide +kernel
theorem d_U_step_161 : decode b_U_step 161 = .ok (.putfield 29, 3) := by decide +kernel
theorem d_U_step_164 : decode b_U_step 164 = .ok (.bipush 6, 2) := by decide +kernel
theorem d_U_step_166 : decode b_U_step 166 = .ok (.ireturn, 1) := by decide +kernel
theorem d_U_step_167 : decode b_U_step 167 = .ok (.aload_n 0, 1) := by decide +kernel
theorem d_U_step_168 : decode b_U_step 168 = .ok (.iload 4, 2) := by decide +kernel
theorem d_U_step_170 : decode b_U_step 170 = .ok (.invokevirtual 76, 3) := by decide +kernel
theorem d_U_step_173 : decode b_U_step 173 = .ok (.ireturn, 1) := by decide +kernel
theorem d_U_needed_0 : decode b_U_needed 0 = .ok (.iload_n 0, 1) := by decide +kernel
theorem d_U_needed_1 : decode b_U_needed 1 = .ok (.tableswitch 63 0 10 #[59, 59, 63, 63, 63, 63, 63, 61, 61, 61, 59], 59) := by decide +kernel
theorem d_U_needed_60 : decode b_U_needed 60 = .ok (.iconst 0, 1) := by decide +kernel
theorem d_U_needed_61 : decode b_U_needed 61 = .ok (.ireturn, 1) := by decide +kernel
theorem d_U_needed_62 : decode b_U_needed 62 = .ok (.iconst 1, 1) := by decide +kernel
theorem d_U_needed_63 : decode b_U_needed 63 = .ok (.ireturn, 1) := by decide +kernel
theorem d_U_needed_64 : decode b_U_needed 64 = .ok (.iconst 2, 1) := by decide +kernel
theorem d_U_needed_65 : decode b_U_needed 65 = .ok (.ireturn, 1) := by decide +kernel
theorem d_U_put_0 : decode b_U_put 0 = .ok (.lload_n 1, 1) := by decide +kernel
theorem d_U_put_1 : decode b_U_put 1 = .ok (.ldc2_w 79, 3) := by decide +kernel
theorem d_U_put_4 : decode b_U_put 4 = .ok (.lcmp, 1) := by decide +kernel
theorem d_U_put_5 : decode b_U_put 5 = .ok (.ifCond .lt 11, 3) := by decide +kernel
theorem d_U_put_8 : decode b_U_put 8 = .ok (.lload_n 1, 1) := by decide +kernel
theorem d_U_put_9 : decode b_U_put 9 = .ok (.ldc2_w 81, 3) := by decide +kernel
theorem d_U_put_12 : decode b_U_put 12 = .ok (.lcmp, 1) := by decide +kernel
theorem d_U_put_13 : decode b_U_put 13 = .ok (.ifCond .le 5, 3) := by decide +kernel
theorem d_U_put_16 : decode b_U_put 16 = .ok (.iconst 5, 1) := by decide +kernel
theorem d_U_put_17 : decode b_U_put 17 = .ok (.ireturn, 1) := by decide +kernel
theorem d_U_put_18 : decode b_U_put 18 = .ok (.aload_n 0, 1) := by decide +kernel
theorem d_U_put_19 : decode b_U_put 19 = .ok (.getfield 32, 3) := by decide +kernel
theorem d_U_put_22 : decode b_U_put 22 = .ok (.bipush 8, 2) := by decide +kernel
theorem d_U_put_24 : decode b_U_put 24 = .ok (.if_icmp .lt 5, 3) := by decide +kernel
theorem d_U_put_27 : decode b_U_put 27 = .ok (.iconst 3, 1) := by decide +kernel
theorem d_U_put_28 : decode b_U_put 28 = .ok (.ireturn, 1) := by decide +kernel
theorem d_U_put_29 : decode b_U_put 29 = .ok (.aload_n 0, 1) := by decide +kernel
theorem d_U_put_30 : decode b_U_put 30 = .ok (.getfield 9, 3) := by decide +kernel
theorem d_U_put_33 : decode b_U_put 33 = .ok (.aload_n 0, 1) := by decide +kernel
theorem d_U_put_34 : decode b_U_put 34 = .ok (.getfield 32, 3) := by decide +kernel
theorem d_U_put_37 : decode b_U_put 37 = .ok (.lload_n 1, 1) := by decide +kernel
theorem d_U_put_38 : decode b_U_put 38 = .ok (.l2i, 1) := by decide +kernel
theorem d_U_put_39 : decode b_U_put 39 = .ok (.iastore, 1) := by decide +kernel
theorem d_U_put_40 : decode b_U_put 40 = .ok (.aload_n 0, 1) := by decide +kernel
theorem d_U_put_41 : decode b_U_put 41 = .ok (.dup, 1) := by decide +kernel
theorem d_U_put_42 : decode b_U_put 42 = .ok (.getfield 32, 3) := by decide +kernel
theorem d_U_put_45 : decode b_U_put 45 = .ok (.iconst 1, 1) := by decide +kernel
theorem d_U_put_46 : decode b_U_put 46 = .ok (.iadd, 1) := by decide +kernel
theorem d_U_put_47 : decode b_U_put 47 = .ok (.putfield 32, 3) := by decide +kernel
theorem d_U_put_50 : decode b_U_put 50 = .ok (.bipush 7, 2) := by decide +kernel
theorem d_U_put_52 : decode b_U_put 52 = .ok (.ireturn, 1) := by decide +kernel
theorem d_U_take_0 : decode b_U_take 0 = .ok (.aload_n 0, 1) := by decide +kernel
theorem d_U_take_1 : decode b_U_take 1 = .ok (.getfield 32, 3) := by decide +kernel
theorem d_U_take_4 : decode b_U_take 4 = .ok (.ifCond .gt 5, 3) := by decide +kernel
theorem d_U_take_7 : decode b_U_take 7 = .ok (.iconst 0, 1) := by decide +kernel
theorem d_U_take_8 : decode b_U_take 8 = .ok (.ireturn, 1) := by decide +kernel
theorem d_U_take_9 : decode b_U_take 9 = .ok (.aload_n 0, 1) := by decide +kernel
theorem d_U_take_10 : decode b_U_take 10 = .ok (.dup, 1) := by decide +kernel
theorem d_U_take_11 : decode b_U_take 11 = .ok (.getfield 32, 3) := by decide +kernel
theorem d_U_take_14 : decode b_U_take 14 = .ok (.iconst 1, 1) := by decide +kernel
theorem d_U_take_15 : decode b_U_take 15 = .ok (.isub, 1) := by decide +kernel
theorem d_U_take_16 : decode b_U_take 16 = .ok (.putfield 32, 3) := by decide +kernel
theorem d_U_take_19 : decode b_U_take 19 = .ok (.aload_n 0, 1) := by decide +kernel
theorem d_U_take_20 : decode b_U_take 20 = .ok (.getfield 9, 3) := by decide +kernel
theorem d_U_take_23 : decode b_U_take 23 = .ok (.aload_n 0, 1) := by decide +kernel
theorem d_U_take_24 : decode b_U_take 24 = .ok (.getfield 32, 3) := by decide +kernel
theorem d_U_take_27 : decode b_U_take 27 = .ok (.iaload, 1) := by decide +kernel
theorem d_U_take_28 : decode b_U_take 28 = .ok (.ireturn, 1) := by decide +kernel
theorem d_U_join_0 : decode b_U_join 0 = .ok (.aload_n 0, 1) := by decide +kernel
theorem d_U_join_1 : decode b_U_join 1 = .ok (.invokevirtual 72, 3) := by decide +kernel
theorem d_U_join_4 : decode b_U_join 4 = .ok (.i2l, 1) := by decide +kernel
theorem d_U_join_5 : decode b_U_join 5 = .ok (.lstore_n 2, 1) := by decide +kernel
theorem d_U_join_6 : decode b_U_join 6 = .ok (.aload_n 0, 1) := by decide +kernel
theorem d_U_join_7 : decode b_U_join 7 = .ok (.invokevirtual 72, 3) := by decide +kernel
theorem d_U_join_10 : decode b_U_join 10 = .ok (.i2l, 1) := by decide +kernel
theorem d_U_join_11 : decode b_U_join 11 = .ok (.lstore 4, 2) := by decide +kernel
theorem d_U_join_13 : decode b_U_join 13 = .ok (.iload_n 1, 1) := by decide +kernel
theorem d_U_join_14 : decode b_U_join 14 = .ok (.tableswitch 80 2 6 #[34, 43, 52, 61, 80], 34) := by decide +kernel
theorem d_U_join_48 : decode b_U_join 48 = .ok (.aload_n 0, 1) := by decide +kernel
theorem d_U_join_49 : decode b_U_join 49 = .ok (.lload 4, 2) := by decide +kernel
theorem d_U_join_51 : decode b_U_join 51 = .ok (.lload_n 2, 1) := by decide +kernel
theorem d_U_join_52 : decode b_U_join 52 = .ok (.ladd, 1) := by decide +kernel
theorem d_U_join_53 : decode b_U_join 53 = .ok (.invokevirtual 60, 3) := by decide +kernel
theorem d_U_join_56 : decode b_U_join 56 = .ok (.ireturn, 1) := by decide +kernel
theorem d_U_join_57 : decode b_U_join 57 = .ok (.aload_n 0, 1) := by decide +kernel
theorem d_U_join_58 : decode b_U_join 58 = .ok (.lload 4, 2) := by decide +kernel
theorem d_U_join_60 : decode b_U_join 60 = .ok (.lload_n 2, 1) := by decide +kernel
theorem d_U_join_61 : decode b_U_join 61 = .ok (.lsub, 1) := by decide +kernel
theorem d_U_join_62 : decode b_U_join 62 = .ok (.invokevirtual 60, 3) := by decide +kernel
theorem d_U_join_65 : decode b_U_join 65 = .ok (.ireturn, 1) := by decide +kernel
theorem d_U_join_66 : decode b_U_join 66 = .ok (.aload_n 0, 1) := by decide +kernel
theorem d_U_join_67 : decode b_U_join 67 = .ok (.lload 4, 2) := by decide +kernel
theorem d_U_join_69 : decode b_U_join 69 = .ok (.lload_n 2, 1) := by decide +kernel
theorem d_U_join_70 : decode b_U_join 70 = .ok (.lmul, 1) := by decide +kernel
theorem d_U_join_71 : decode b_U_join 71 = .ok (.invokevirtual 60, 3) := by decide +kernel
theorem d_U_join_74 : decode b_U_join 74 = .ok (.ireturn, 1) := by decide +kernel
theorem d_U_join_75 : decode b_U_join 75 = .ok (.lload_n 2, 1) := by decide +kernel
theorem d_U_join_76 : decode b_U_join 76 = .ok (.lconst 0, 1) := by decide +kernel
theorem d_U_join_77 : decode b_U_join 77 = .ok (.lcmp, 1) := by decide +kernel
theorem d_U_join_78 : decode b_U_join 78 = .ok (.ifCond .ne 7, 3) := by decide +kernel
theorem d_U_join_81 : decode b_U_join 81 = .ok (.iconst 2, 1) := by decide +kernel
theorem d_U_join_82 : decode b_U_join 82 = .ok (.goto 11, 3) := by decide +kernel
theorem d_U_join_85 : decode b_U_join 85 = .ok (.aload_n 0, 1) := by decide +kernel
theorem d_U_join_86 : decode b_U_join 86 = .ok (.lload 4, 2) := by decide +kernel
theorem d_U_join_88 : decode b_U_join 88 = .ok (.lload_n 2, 1) := by decide +kernel
theorem d_U_join_89 : decode b_U_join 89 = .ok (.ldiv, 1) := by decide +kernel
theorem d_U_join_90 : decode b_U_join 90 = .ok (.invokevirtual 60, 3) := by decide +kernel
theorem d_U_join_93 : decode b_U_join 93 = .ok (.ireturn, 1) := by decide +kernel
theorem d_U_join_94 : decode b_U_join 94 = .ok (.aload_n 0, 1) := by decide +kernel
theorem d_U_join_95 : decode b_U_join 95 = .ok (.lload 4, 2) := by decide +kernel
theorem d_U_join_97 : decode b_U_join 97 = .ok (.lload_n 2, 1) := by decide +kernel
theorem d_U_join_98 : decode b_U_join 98 = .ok (.lcmp, 1) := by decide +kernel
theorem d_U_join_99 : decode b_U_join 99 = .ok (.ifCond .ge 7, 3) := by decide +kernel
theorem d_U_join_102 : decode b_U_join 102 = .ok (.lconst 1, 1) := by decide +kernel
theorem d_U_join_103 : decode b_U_join 103 = .ok (.goto 4, 3) := by decide +kernel
theorem d_U_join_106 : decode b_U_join 106 = .ok (.lconst 0, 1) := by decide +kernel
theorem d_U_join_107 : decode b_U_join 107 = .ok (.invokevirtual 60, 3) := by decide +kernel
theorem d_U_join_110 : decode b_U_join 110 = .ok (.ireturn, 1) := by decide +kernel
theorem d_U_startNothing_0 : decode b_U_startNothing 0 = .ok (.aload_n 0, 1) := by decide +kernel
theorem d_U_startNothing_1 : decode b_U_startNothing 1 = .ok (.invokevirtual 19, 3) := by decide +kernel
theorem d_U_startNothing_4 : decode b_U_startNothing 4 = .ok (.aload_n 0, 1) := by decide +kernel
theorem d_U_startNothing_5 : decode b_U_startNothing 5 = .ok (.iconst 0, 1) := by decide +kernel
theorem d_U_startNothing_6 : decode b_U_startNothing 6 = .ok (.putfield 22, 3) := by decide +kernel
theorem d_U_startNothing_9 : decode b_U_startNothing 9 = .ok (.return_, 1) := by decide +kernel
theorem d_U_endedLike_0 : decode b_U_endedLike 0 = .ok (.aload_n 0, 1) := by decide +kernel
theorem d_U_endedLike_1 : decode b_U_endedLike 1 = .ok (.getfield 22, 3) := by decide +kernel
theorem d_U_endedLike_4 : decode b_U_endedLike 4 = .ok (.aload_n 1, 1) := by decide +kernel
theorem d_U_endedLike_5 : decode b_U_endedLike 5 = .ok (.getfield 22, 3) := by decide +kernel
theorem d_U_endedLike_8 : decode b_U_endedLike 8 = .ok (.if_icmp .ne 18, 3) := by decide +kernel
theorem d_U_endedLike_11 : decode b_U_endedLike 11 = .ok (.aload_n 0, 1) := by decide +kernel
theorem d_U_endedLike_12 : decode b_U_endedLike 12 = .ok (.getfield 29, 3) := by decide +kernel
theorem d_U_endedLike_15 : decode b_U_endedLike 15 = .ok (.aload_n 1, 1) := by decide +kernel
theorem d_U_endedLike_16 : decode b_U_endedLike 16 = .ok (.getfield 29, 3) := by decide +kernel
theorem d_U_endedLike_19 : decode b_U_endedLike 19 = .ok (.if_icmp .ne 7, 3) := by decide +kernel
theorem d_U_endedLike_22 : decode b_U_endedLike 22 = .ok (.iconst 1, 1) := by decide +kernel
theorem d_U_endedLike_23 : decode b_U_endedLike 23 = .ok (.goto 4, 3) := by decide +kernel
theorem d_U_endedLike_26 : decode b_U_endedLike 26 = .ok (.iconst 0, 1) := by decide +kernel
theorem d_U_endedLike_27 : decode b_U_endedLike 27 = .ok (.ireturn, 1) := by decide +kernel
theorem d_E_init_0 : decode b_E_init 0 = .ok (.aload_n 0, 1) := by decide +kernel
theorem d_E_init_1 : decode b_E_init 1 = .ok (.invokespecial 3, 3) := by decide +kernel
theorem d_E_init_4 : decode b_E_init 4 = .ok (.aload_n 0, 1) := by decide +kernel
theorem d_E_init_5 : decode b_E_init 5 = .ok (.bipush 16, 2) := by decide +kernel
theorem d_E_init_7 : decode b_E_init 7 = .ok (.newarray .int, 2) := by decide +kernel
theorem d_E_init_9 : decode b_E_init 9 = .ok (.putfield 9, 3) := by decide +kernel
theorem d_E_init_12 : decode b_E_init 12 = .ok (.aload_n 0, 1) := by decide +kernel
theorem d_E_init_13 : decode b_E_init 13 = .ok (.bipush 16, 2) := by decide +kernel
theorem d_E_init_15 : decode b_E_init 15 = .ok (.newarray .int, 2) := by decide +kernel
theorem d_E_init_17 : decode b_E_init 17 = .ok (.putfield 15, 3) := by decide +kernel
theorem d_E_init_20 : decode b_E_init 20 = .ok (.aload_n 0, 1) := by decide +kernel
theorem d_E_init_21 : decode b_E_init 21 = .ok (.iload_n 1, 1) := by decide +kernel
theorem d_E_init_22 : decode b_E_init 22 = .ok (.putfield 18, 3) := by decide +kernel
theorem d_E_init_25 : decode b_E_init 25 = .ok (.aload_n 0, 1) := by decide +kernel
theorem d_E_init_26 : decode b_E_init 26 = .ok (.iload_n 2, 1) := by decide +kernel
theorem d_E_init_27 : decode b_E_init 27 = .ok (.putfield 22, 3) := by decide +kernel
theorem d_E_init_30 : decode b_E_init 30 = .ok (.aload_n 0, 1) := by decide +kernel
theorem d_E_init_31 : decode b_E_init 31 = .ok (.iload_n 3, 1) := by decide +kernel
theorem d_E_init_32 : decode b_E_init 32 = .ok (.putfield 25, 3) := by decide +kernel
theorem d_E_init_35 : decode b_E_init 35 = .ok (.return_, 1) := by decide +kernel
theorem d_E_append_0 : decode b_E_append 0 = .ok (.aload_n 0, 1) := by decide +kernel
theorem d_E_append_1 : decode b_E_append 1 = .ok (.getfield 28, 3) := by decide +kernel
theorem d_E_append_4 : decode b_E_append 4 = .ok (.bipush 16, 2) := by decide +kernel
theorem d_E_append_6 : decode b_E_append 6 = .ok (.if_icmp .ge 33, 3) := by decide +kernel
theorem d_E_append_9 : decode b_E_append 9 = .ok (.aload_n 0, 1) := by decide +kernel
theorem d_E_append_10 : decode b_E_append 10 = .ok (.getfield 9, 3) := by decide +kernel
theorem d_E_append_13 : decode b_E_append 13 = .ok (.aload_n 0, 1) := by decide +kernel
theorem d_E_append_14 : decode b_E_append 14 = .ok (.getfield 28, 3) := by decide +kernel
theorem d_E_append_17 : decode b_E_append 17 = .ok (.iload_n 1, 1) := by decide +kernel
theorem d_E_append_18 : decode b_E_append 18 = .ok (.iastore, 1) := by decide +kernel
theorem d_E_append_19 : decode b_E_append 19 = .ok (.aload_n 0, 1) := by decide +kernel
theorem d_E_append_20 : decode b_E_append 20 = .ok (.getfield 15, 3) := by decide +kernel
theorem d_E_append_23 : decode b_E_append 23 = .ok (.aload_n 0, 1) := by decide +kernel
theorem d_E_append_24 : decode b_E_append 24 = .ok (.getfield 28, 3) := by decide +kernel
theorem d_E_append_27 : decode b_E_append 27 = .ok (.iload_n 2, 1) := by decide +kernel
theorem d_E_append_28 : decode b_E_append 28 = .ok (.iastore, 1) := by decide +kernel
theorem d_E_append_29 : decode b_E_append 29 = .ok (.aload_n 0, 1) := by decide +kernel
theorem d_E_append_30 : decode b_E_append 30 = .ok (.dup, 1) := by decide +kernel
theorem d_E_append_31 : decode b_E_append 31 = .ok (.getfield 28, 3) := by decide +kernel
theorem d_E_append_34 : decode b_E_append 34 = .ok (.iconst 1, 1) := by decide +kernel
theorem d_E_append_35 : decode b_E_append 35 = .ok (.iadd, 1) := by decide +kernel
theorem d_E_append_36 : decode b_E_append 36 = .ok (.putfield 28, 3) := by decide +kernel
theorem d_E_append_39 : decode b_E_append 39 = .ok (.return_, 1) := by decide +kernel
theorem d_E_countsFor_0 : decode b_E_countsFor 0 = .ok (.aload_n 0, 1) := by decide +kernel
theorem d_E_countsFor_1 : decode b_E_countsFor 1 = .ok (.getfield 31, 3) := by decide +kernel
theorem d_E_countsFor_4 : decode b_E_countsFor 4 = .ok (.ifCond .eq 31, 3) := by decide +kernel
theorem d_E_countsFor_7 : decode b_E_countsFor 7 = .ok (.aload_n 0, 1) := by decide +kernel
theorem d_E_countsFor_8 : decode b_E_countsFor 8 = .ok (.getfield 18, 3) := by decide +kernel
theorem d_E_countsFor_11 : decode b_E_countsFor 11 = .ok (.iload_n 1, 1) := by decide +kernel
theorem d_E_countsFor_12 : decode b_E_countsFor 12 = .ok (.if_icmp .ne 23, 3) := by decide +kernel
theorem d_E_countsFor_15 : decode b_E_countsFor 15 = .ok (.aload_n 0, 1) := by decide +kernel
theorem d_E_countsFor_16 : decode b_E_countsFor 16 = .ok (.getfield 22, 3) := by decide +kernel
theorem d_E_countsFor_19 : decode b_E_countsFor 19 = .ok (.iload_n 2, 1) := by decide +kernel
theorem d_E_countsFor_20 : decode b_E_countsFor 20 = .ok (.if_icmp .ne 15, 3) := by decide +kernel
theorem d_E_countsFor_23 : decode b_E_countsFor 23 = .ok (.aload_n 0, 1) := by decide +kernel
theorem d_E_countsFor_24 : decode b_E_countsFor 24 = .ok (.getfield 25, 3) := by decide +kernel
theorem d_E_countsFor_27 : decode b_E_countsFor 27 = .ok (.iload_n 3, 1) := by decide +kernel
theorem d_E_countsFor_28 : decode b_E_countsFor 28 = .ok (.if_icmp .gt 7, 3) := by decide +kernel
theorem d_E_countsFor_31 : decode b_E_countsFor 31 = .ok (.iconst 1, 1) := by decide +kernel
theorem d_E_countsFor_32 : decode b_E_countsFor 32 = .ok (.goto 4, 3) := by decide +kernel
theorem d_E_countsFor_35 : decode b_E_countsFor 35 = .ok (.iconst 0, 1) := by decide +kernel
theorem d_E_countsFor_36 : decode b_E_countsFor 36 = .ok (.ireturn, 1) := by decide +kernel
theorem d_E_noteQuestion_0 : decode b_E_noteQuestion 0 = .ok (.aload_n 0, 1) := by decide +kernel
theorem d_E_noteQuestion_1 : decode b_E_noteQuestion 1 = .ok (.dup, 1) := by decide +kernel
theorem d_E_noteQuestion_2 : decode b_E_noteQuestion 2 = .ok (.getfield 35, 3) := by decide +kernel
theorem d_E_noteQuestion_5 : decode b_E_noteQuestion 5 = .ok (.iconst 1, 1) := by decide +kernel
theorem d_E_noteQuestion_6 : decode b_E_noteQuestion 6 = .ok (.iadd, 1) := by decide +kernel
theorem d_E_noteQuestion_7 : decode b_E_noteQuestion 7 = .ok (.putfield 35, 3) := by decide +kernel
theorem d_E_noteQuestion_10 : decode b_E_noteQuestion 10 = .ok (.aload_n 0, 1) := by decide +kernel
theorem d_E_noteQuestion_11 : decode b_E_noteQuestion 11 = .ok (.dup, 1) := by decide +kernel
theorem d_E_noteQuestion_12 : decode b_E_noteQuestion 12 = .ok (.getfield 38, 3) := by decide +kernel
theorem d_E_noteQuestion_15 : decode b_E_noteQuestion 15 = .ok (.aload_n 1, 1) := by decide +kernel
theorem d_E_noteQuestion_16 : decode b_E_noteQuestion 16 = .ok (.getfield 41, 3) := by decide +kernel
theorem d_E_noteQuestion_19 : decode b_E_noteQuestion 19 = .ok (.iadd, 1) := by decide +kernel
theorem d_E_noteQuestion_20 : decode b_E_noteQuestion 20 = .ok (.putfield 38, 3) := by decide +kernel
theorem d_E_noteQuestion_23 : decode b_E_noteQuestion 23 = .ok (.aload_n 1, 1) := by decide +kernel
theorem d_E_noteQuestion_24 : decode b_E_noteQuestion 24 = .ok (.getfield 46, 3) := by decide +kernel
theorem d_E_noteQuestion_27 : decode b_E_noteQuestion 27 = .ok (.bipush 6, 2) := by decide +kernel
theorem d_E_noteQuestion_29 : decode b_E_noteQuestion 29 = .ok (.if_icmp .eq 13, 3) := by decide +kernel
theorem d_E_noteQuestion_32 : decode b_E_noteQuestion 32 = .ok (.aload_n 0, 1) := by decide +kernel
theorem d_E_noteQuestion_33 : decode b_E_noteQuestion 33 = .ok (.dup, 1) := by decide +kernel
theorem d_E_noteQuestion_34 : decode b_E_noteQuestion 34 = .ok (.getfield 49, 3) := by decide +kernel
theorem d_E_noteQuestion_37 : decode b_E_noteQuestion 37 = .ok (.iconst 1, 1) := by decide +kernel
theorem d_E_noteQuestion_38 : decode b_E_noteQuestion 38 = .ok (.iadd, 1) := by decide +kernel
theorem d_E_noteQuestion_39 : decode b_E_noteQuestion 39 = .ok (.putfield 49, 3) := by decide +kernel
theorem d_E_noteQuestion_42 : decode b_E_noteQuestion 42 = .ok (.return_, 1) := by decide +kernel
theorem d_E_hasCodeOf_0 : decode b_E_hasCodeOf 0 = .ok (.aload_n 0, 1) := by decide +kernel
theorem d_E_hasCodeOf_1 : decode b_E_hasCodeOf 1 = .ok (.getfield 28, 3) := by decide +kernel
theorem d_E_hasCodeOf_4 : decode b_E_hasCodeOf 4 = .ok (.aload_n 1, 1) := by decide +kernel
theorem d_E_hasCodeOf_5 : decode b_E_hasCodeOf 5 = .ok (.getfield 28, 3) := by decide +kernel
theorem d_E_hasCodeOf_8 : decode b_E_hasCodeOf 8 = .ok (.if_icmp .eq 5, 3) := by decide +kernel
theorem d_E_hasCodeOf_11 : decode b_E_hasCodeOf 11 = .ok (.iconst 0, 1) := by decide +kernel
theorem d_E_hasCodeOf_12 : decode b_E_hasCodeOf 12 = .ok (.ireturn, 1) := by decide +kernel
theorem d_E_hasCodeOf_13 : decode b_E_hasCodeOf 13 = .ok (.iconst 0, 1) := by decide +kernel
theorem d_E_hasCodeOf_14 : decode b_E_hasCodeOf 14 = .ok (.istore_n 2, 1) := by decide +kernel
theorem d_E_hasCodeOf_15 : decode b_E_hasCodeOf 15 = .ok (.iload_n 2, 1) := by decide +kernel
theorem d_E_hasCodeOf_16 : decode b_E_hasCodeOf 16 = .ok (.aload_n 0, 1) := by decide +kernel
theorem d_E_hasCodeOf_17 : decode b_E_hasCodeOf 17 = .ok (.getfield 28, 3) := by decide +kernel
theorem d_E_hasCodeOf_20 : decode b_E_hasCodeOf 20 = .ok (.if_icmp .ge 41, 3) := by decide +kernel
theorem d_E_hasCodeOf_23 : decode b_E_hasCodeOf 23 = .ok (.aload_n 0, 1) := by decide +kernel
theorem d_E_hasCodeOf_24 : decode b_E_hasCodeOf 24 = .ok (.getfield 9, 3) := by decide +kernel
theorem d_E_hasCodeOf_27 : decode b_E_hasCodeOf 27 = .ok (.iload_n 2, 1) := by decide +kernel
theorem d_E_hasCodeOf_28 : decode b_E_hasCodeOf 28 = .ok (.iaload, 1) := by decide +kernel
theorem d_E_hasCodeOf_29 : decode b_E_hasCodeOf 29 = .ok (.aload_n 1, 1) := by decide +kernel
theorem d_E_hasCodeOf_30 : decode b_E_hasCodeOf 30 = .ok (.getfield 9, 3) := by decide +kernel
theorem d_E_hasCodeOf_33 : decode b_E_hasCodeOf 33 = .ok (.iload_n 2, 1) := by decide +kernel
theorem d_E_hasCodeOf_34 : decode b_E_hasCodeOf 34 = .ok (.iaload, 1) := by decide +kernel
theorem d_E_hasCodeOf_35 : decode b_E_hasCodeOf 35 = .ok (.if_icmp .ne 18, 3) := by decide +kernel
theorem d_E_hasCodeOf_38 : decode b_E_hasCodeOf 38 = .ok (.aload_n 0, 1) := by decide +kernel
theorem d_E_hasCodeOf_39 : decode b_E_hasCodeOf 39 = .ok (.getfield 15, 3) := by decide +kernel
theorem d_E_hasCodeOf_42 : decode b_E_hasCodeOf 42 = .ok (.iload_n 2, 1) := by decide +kernel
theorem d_E_hasCodeOf_43 : decode b_E_hasCodeOf 43 = .ok (.iaload, 1) := by decide +kernel
theorem d_E_hasCodeOf_44 : decode b_E_hasCodeOf 44 = .ok (.aload_n 1, 1) := by decide +kernel
theorem d_E_hasCodeOf_45 : decode b_E_hasCodeOf 45 = .ok (.getfield 15, 3) := by decide +kernel
theorem d_E_hasCodeOf_48 : decode b_E_hasCodeOf 48 = .ok (.iload_n 2, 1) := by decide +kernel
theorem d_E_hasCodeOf_49 : decode b_E_hasCodeOf 49 = .ok (.iaload, 1) := by decide +kernel
theorem d_E_hasCodeOf_50 : decode b_E_hasCodeOf 50 = .ok (.if_icmp .eq 5, 3) := by decide +kernel
theorem d_E_hasCodeOf_53 : decode b_E_hasCodeOf 53 = .ok (.iconst 0, 1) := by decide +kernel
theorem d_E_hasCodeOf_54 : decode b_E_hasCodeOf 54 = .ok (.ireturn, 1) := by decide +kernel
theorem d_E_hasCodeOf_55 : decode b_E_hasCodeOf 55 = .ok (.iinc 2 1, 3) := by decide +kernel
theorem d_E_hasCodeOf_58 : decode b_E_hasCodeOf 58 = .ok (.goto (-43), 3) := by decide +kernel
theorem d_E_hasCodeOf_61 : decode b_E_hasCodeOf 61 = .ok (.iconst 1, 1) := by decide +kernel
theorem d_E_hasCodeOf_62 : decode b_E_hasCodeOf 62 = .ok (.ireturn, 1) := by decide +kernel
theorem d_E_tell_0 : decode b_E_tell 0 = .ok (.iload_n 1, 1) := by decide +kernel
theorem d_E_tell_1 : decode b_E_tell 1 = .ok (.tableswitch 86 0 6 #[43, 48, 53, 58, 63, 76, 81], 43) := by decide +kernel
theorem d_E_tell_44 : decode b_E_tell 44 = .ok (.aload_n 0, 1) := by decide +kernel
theorem d_E_tell_45 : decode b_E_tell 45 = .ok (.getfield 18, 3) := by decide +kernel
theorem d_E_tell_48 : decode b_E_tell 48 = .ok (.ireturn, 1) := by decide +kernel
theorem d_E_tell_49 : decode b_E_tell 49 = .ok (.aload_n 0, 1) := by decide +kernel
theorem d_E_tell_50 : decode b_E_tell 50 = .ok (.getfield 22, 3) := by decide +kernel
theorem d_E_tell_53 : decode b_E_tell 53 = .ok (.ireturn, 1) := by decide +kernel
theorem d_E_tell_54 : decode b_E_tell 54 = .ok (.aload_n 0, 1) := by decide +kernel
theorem d_E_tell_55 : decode b_E_tell 55 = .ok (.getfield 25, 3) := by decide +kernel
theorem d_E_tell_58 : decode b_E_tell 58 = .ok (.ireturn, 1) := by decide +kernel
theorem d_E_tell_59 : decode b_E_tell 59 = .ok (.aload_n 0, 1) := by decide +kernel
theorem d_E_tell_60 : decode b_E_tell 60 = .ok (.getfield 28, 3) := by decide +kernel
theorem d_E_tell_63 : decode b_E_tell 63 = .ok (.ireturn, 1) := by decide +kernel
theorem d_E_tell_64 : decode b_E_tell 64 = .ok (.aload_n 0, 1) := by decide +kernel
theorem d_E_tell_65 : decode b_E_tell 65 = .ok (.getfield 31, 3) := by decide +kernel
theorem d_E_tell_68 : decode b_E_tell 68 = .ok (.ifCond .eq 7, 3) := by decide +kernel
theorem d_E_tell_71 : decode b_E_tell 71 = .ok (.iconst 1, 1) := by decide +kernel
theorem d_E_tell_72 : decode b_E_tell 72 = .ok (.goto 4, 3) := by decide +kernel
theorem d_E_tell_75 : decode b_E_tell 75 = .ok (.iconst 0, 1) := by decide +kernel
theorem d_E_tell_76 : decode b_E_tell 76 = .ok (.ireturn, 1) := by decide +kernel
theorem d_E_tell_77 : decode b_E_tell 77 = .ok (.aload_n 0, 1) := by decide +kernel
theorem d_E_tell_78 : decode b_E_tell 78 = .ok (.getfield 35, 3) := by decide +kernel
theorem d_E_tell_81 : decode b_E_tell 81 = .ok (.ireturn, 1) := by decide +kernel
theorem d_E_tell_82 : decode b_E_tell 82 = .ok (.aload_n 0, 1) := by decide +kernel
theorem d_E_tell_83 : decode b_E_tell 83 = .ok (.getfield 38, 3) := by decide +kernel
theorem d_E_tell_86 : decode b_E_tell 86 = .ok (.ireturn, 1) := by decide +kernel
theorem d_E_tell_87 : decode b_E_tell 87 = .ok (.aload_n 0, 1) := by decide +kernel
theorem d_E_tell_88 : decode b_E_tell 88 = .ok (.getfield 49, 3) := by decide +kernel
theorem d_E_tell_91 : decode b_E_tell 91 = .ok (.ireturn, 1) := by decide +kernel
theorem d_F_init_0 : decode b_F_init 0 = .ok (.aload_n 0, 1) := by decide +kernel
theorem d_F_init_1 : decode b_F_init 1 = .ok (.invokespecial 3, 3) := by decide +kernel
theorem d_F_init_4 : decode b_F_init 4 = .ok (.aload_n 0, 1) := by decide +kernel
theorem d_F_init_5 : decode b_F_init 5 = .ok (.bipush 8, 2) := by decide +kernel
theorem d_F_init_7 : decode b_F_init 7 = .ok (.newarray .int, 2) := by decide +kernel
theorem d_F_init_9 : decode b_F_init 9 = .ok (.putfield 9, 3) := by decide +kernel
theorem d_F_init_12 : decode b_F_init 12 = .ok (.return_, 1) := by decide +kernel
theorem d_F_copy_0 : decode b_F_copy 0 = .ok (.new 10, 3) := by decide +kernel
theorem d_F_copy_3 : decode b_F_copy 3 = .ok (.dup, 1) := by decide +kernel
theorem d_F_copy_4 : decode b_F_copy 4 = .ok (.invokespecial 15, 3) := by decide +kernel
theorem d_F_copy_7 : decode b_F_copy 7 = .ok (.astore_n 1, 1) := by decide +kernel
theorem d_F_copy_8 : decode b_F_copy 8 = .ok (.aload_n 0, 1) := by decide +kernel
theorem d_F_copy_9 : decode b_F_copy 9 = .ok (.getfield 9, 3) := by decide +kernel
theorem d_F_copy_12 : decode b_F_copy 12 = .ok (.iconst 0, 1) := by decide +kernel
theorem d_F_copy_13 : decode b_F_copy 13 = .ok (.aload_n 1, 1) := by decide +kernel
theorem d_F_copy_14 : decode b_F_copy 14 = .ok (.getfield 9, 3) := by decide +kernel
theorem d_F_copy_17 : decode b_F_copy 17 = .ok (.iconst 0, 1) := by decide +kernel
theorem d_F_copy_18 : decode b_F_copy 18 = .ok (.bipush 8, 2) := by decide +kernel
theorem d_F_copy_20 : decode b_F_copy 20 = .ok (.invokestatic 16, 3) := by decide +kernel
theorem d_F_copy_23 : decode b_F_copy 23 = .ok (.aload_n 1, 1) := by decide +kernel
theorem d_F_copy_24 : decode b_F_copy 24 = .ok (.areturn, 1) := by decide +kernel
theorem d_A_init_0 : decode b_A_init 0 = .ok (.aload_n 0, 1) := by decide +kernel
theorem d_A_init_1 : decode b_A_init 1 = .ok (.invokespecial 1, 3) := by decide +kernel
theorem d_A_init_4 : decode b_A_init 4 = .ok (.aload_n 0, 1) := by decide +kernel
theorem d_A_init_5 : decode b_A_init 5 = .ok (.getstatic 39, 3) := by decide +kernel
theorem d_A_init_8 : decode b_A_init 8 = .ok (.putfield 9, 3) := by decide +kernel
theorem d_A_init_11 : decode b_A_init 11 = .ok (.return_, 1) := by decide +kernel
theorem d_AL_init_0 : decode b_AL_init 0 = .ok (.aload_n 0, 1) := by decide +kernel
theorem d_AL_init_1 : decode b_AL_init 1 = .ok (.invokespecial 1, 3) := by decide +kernel
theorem d_AL_init_4 : decode b_AL_init 4 = .ok (.aload_n 0, 1) := by decide +kernel
theorem d_AL_init_5 : decode b_AL_init 5 = .ok (.iconst 0, 1) := by decide +kernel
theorem d_AL_init_6 : decode b_AL_init 6 = .ok (.putfield 7, 3) := by decide +kernel
theorem d_AL_init_9 : decode b_AL_init 9 = .ok (.return_, 1) := by decide +kernel
theorem d_AC_init_0 : decode b_AC_init 0 = .ok (.aload_n 0, 1) := by decide +kernel
theorem d_AC_init_1 : decode b_AC_init 1 = .ok (.invokespecial 1, 3) := by decide +kernel
theorem d_AC_init_4 : decode b_AC_init 4 = .ok (.return_, 1) := by decide +kernel
theorem d_MA_min_0 : decode b_MA_min 0 = .ok (.iload_n 0, 1) := by decide +kernel
theorem d_MA_min_1 : decode b_MA_min 1 = .ok (.iload_n 1, 1) := by decide +kernel
theorem d_MA_min_2 : decode b_MA_min 2 = .ok (.if_icmp .gt 7, 3) := by decide +kernel
theorem d_MA_min_5 : decode b_MA_min 5 = .ok (.iload_n 0, 1) := by decide +kernel
theorem d_MA_min_6 : decode b_MA_min 6 = .ok (.goto 4, 3) := by decide +kernel
theorem d_MA_min_9 : decode b_MA_min 9 = .ok (.iload_n 1, 1) := by decide +kernel
theorem d_MA_min_10 : decode b_MA_min 10 = .ok (.ireturn, 1) := by decide +kernel
theorem d_MA_max_0 : decode b_MA_max 0 = .ok (.iload_n 0, 1) := by decide +kernel
theorem d_MA_max_1 : decode b_MA_max 1 = .ok (.iload_n 1, 1) := by decide +kernel
theorem d_MA_max_2 : decode b_MA_max 2 = .ok (.if_icmp .lt 7, 3) := by decide +kernel
theorem d_MA_max_5 : decode b_MA_max 5 = .ok (.iload_n 0, 1) := by decide +kernel
theorem d_MA_max_6 : decode b_MA_max 6 = .ok (.goto 4, 3) := by decide +kernel
theorem d_MA_max_9 : decode b_MA_max 9 = .ok (.iload_n 1, 1) := by decide +kernel
theorem d_MA_max_10 : decode b_MA_max 10 = .ok (.ireturn, 1) := by decide +kernel
theorem d_A_size_0 : decode b_A_size 0 = .ok (.aload_n 0, 1) := by decide +kernel
theorem d_A_size_1 : decode b_A_size 1 = .ok (.getfield 48, 3) := by decide +kernel
theorem d_A_size_4 : decode b_A_size 4 = .ok (.ireturn, 1) := by decide +kernel
theorem d_A_get_0 : decode b_A_get 0 = .ok (.iload_n 1, 1) := by decide +kernel
theorem d_A_get_1 : decode b_A_get 1 = .ok (.aload_n 0, 1) := by decide +kernel
theorem d_A_get_2 : decode b_A_get 2 = .ok (.getfield 48, 3) := by decide +kernel
theorem d_A_get_5 : decode b_A_get 5 = .ok (.invokestatic 118, 3) := by decide +kernel
theorem d_A_get_8 : decode b_A_get 8 = .ok (.pop, 1) := by decide +kernel
theorem d_A_get_9 : decode b_A_get 9 = .ok (.aload_n 0, 1) := by decide +kernel
theorem d_A_get_10 : decode b_A_get 10 = .ok (.iload_n 1, 1) := by decide +kernel
theorem d_A_get_11 : decode b_A_get 11 = .ok (.invokevirtual 123, 3) := by decide +kernel
theorem d_A_get_14 : decode b_A_get 14 = .ok (.areturn, 1) := by decide +kernel
theorem d_OB_checkIndex_0 : decode b_OB_checkIndex 0 = .ok (.iload_n 0, 1) := by decide +kernel
theorem d_OB_checkIndex_1 : decode b_OB_checkIndex 1 = .ok (.iload_n 1, 1) := by decide +kernel
theorem d_OB_checkIndex_2 : decode b_OB_checkIndex 2 = .ok (.aconst_null, 1) := by decide +kernel
theorem d_OB_checkIndex_3 : decode b_OB_checkIndex 3 = .ok (.invokestatic 105, 3) := by decide +kernel
theorem d_OB_checkIndex_6 : decode b_OB_checkIndex 6 = .ok (.ireturn, 1) := by decide +kernel
theorem d_PC_checkIndex_0 : decode b_PC_checkIndex 0 = .ok (.iload_n 0, 1) := by decide +kernel
theorem d_PC_checkIndex_1 : decode b_PC_checkIndex 1 = .ok (.ifCond .lt 8, 3) := by decide +kernel
theorem d_PC_checkIndex_4 : decode b_PC_checkIndex 4 = .ok (.iload_n 0, 1) := by decide +kernel
theorem d_PC_checkIndex_5 : decode b_PC_checkIndex 5 = .ok (.iload_n 1, 1) := by decide +kernel
theorem d_PC_checkIndex_6 : decode b_PC_checkIndex 6 = .ok (.if_icmp .lt 10, 3) := by decide +kernel
theorem d_PC_checkIndex_16 : decode b_PC_checkIndex 16 = .ok (.iload_n 0, 1) := by decide +kernel
theorem d_PC_checkIndex_17 : decode b_PC_checkIndex 17 = .ok (.ireturn, 1) := by decide +kernel
theorem d_A_elementData_0 : decode b_A_elementData 0 = .ok (.aload_n 0, 1) := by decide +kernel
theorem d_A_elementData_1 : decode b_A_elementData 1 = .ok (.getfield 9, 3) := by decide +kernel
theorem d_A_elementData_4 : decode b_A_elementData 4 = .ok (.iload_n 1, 1) := by decide +kernel
theorem d_A_elementData_5 : decode b_A_elementData 5 = .ok (.aaload, 1) := by decide +kernel
theorem d_A_elementData_6 : decode b_A_elementData 6 = .ok (.areturn, 1) := by decide +kernel
theorem d_A_add_0 : decode b_A_add 0 = .ok (.aload_n 0, 1) := by decide +kernel
theorem d_A_add_1 : decode b_A_add 1 = .ok (.dup, 1) := by decide +kernel
theorem d_A_add_2 : decode b_A_add 2 = .ok (.getfield 63, 3) := by decide +kernel
theorem d_A_add_5 : decode b_A_add 5 = .ok (.iconst 1, 1) := by decide +kernel
theorem d_A_add_6 : decode b_A_add 6 = .ok (.iadd, 1) := by decide +kernel
theorem d_A_add_7 : decode b_A_add 7 = .ok (.putfield 63, 3) := by decide +kernel
theorem d_A_add_10 : decode b_A_add 10 = .ok (.aload_n 0, 1) := by decide +kernel
theorem d_A_add_11 : decode b_A_add 11 = .ok (.aload_n 1, 1) := by decide +kernel
theorem d_A_add_12 : decode b_A_add 12 = .ok (.aload_n 0, 1) := by decide +kernel
theorem d_A_add_13 : decode b_A_add 13 = .ok (.getfield 9, 3) := by decide +kernel
theorem d_A_add_16 : decode b_A_add 16 = .ok (.aload_n 0, 1) := by decide +kernel
theorem d_A_add_17 : decode b_A_add 17 = .ok (.getfield 48, 3) := by decide +kernel
theorem d_A_add_20 : decode b_A_add 20 = .ok (.invokevirtual 131, 3) := by decide +kernel
theorem d_A_add_23 : decode b_A_add 23 = .ok (.iconst 1, 1) := by decide +kernel
theorem d_A_add_24 : decode b_A_add 24 = .ok (.ireturn, 1) := by decide +kernel
theorem d_A_add2_0 : decode b_A_add2 0 = .ok (.iload_n 3, 1) := by decide +kernel
theorem d_A_add2_1 : decode b_A_add2 1 = .ok (.aload_n 2, 1) := by decide +kernel
theorem d_A_add2_2 : decode b_A_add2 2 = .ok (.arraylength, 1) := by decide +kernel
theorem d_A_add2_3 : decode b_A_add2 3 = .ok (.if_icmp .ne 8, 3) := by decide +kernel
theorem d_A_add2_6 : decode b_A_add2 6 = .ok (.aload_n 0, 1) := by decide +kernel
theorem d_A_add2_7 : decode b_A_add2 7 = .ok (.invokevirtual 129, 3) := by decide +kernel
theorem d_A_add2_10 : decode b_A_add2 10 = .ok (.astore_n 2, 1) := by decide +kernel
theorem d_A_add2_11 : decode b_A_add2 11 = .ok (.aload_n 2, 1) := by decide +kernel
theorem d_A_add2_12 : decode b_A_add2 12 = .ok (.iload_n 3, 1) := by decide +kernel
theorem d_A_add2_13 : decode b_A_add2 13 = .ok (.aload_n 1, 1) := by decide +kernel
theorem d_A_add2_14 : decode b_A_add2 14 = .ok (.aastore, 1) := by decide +kernel
theorem d_A_add2_15 : decode b_A_add2 15 = .ok (.aload_n 0, 1) := by decide +kernel
theorem d_A_add2_16 : decode b_A_add2 16 = .ok (.iload_n 3, 1) := by decide +kernel
theorem d_A_add2_17 : decode b_A_add2 17 = .ok (.iconst 1, 1) := by decide +kernel
theorem d_A_add2_18 : decode b_A_add2 18 = .ok (.iadd, 1) := by decide +kernel
theorem d_A_add2_19 : decode b_A_add2 19 = .ok (.putfield 48, 3) := by decide +kernel
theorem d_A_add2_22 : decode b_A_add2 22 = .ok (.return_, 1) := by decide +kernel
theorem d_A_grow_0 : decode b_A_grow 0 = .ok (.aload_n 0, 1) := by decide +kernel
theorem d_A_grow_1 : decode b_A_grow 1 = .ok (.aload_n 0, 1) := by decide +kernel
theorem d_A_grow_2 : decode b_A_grow 2 = .ok (.getfield 48, 3) := by decide +kernel
theorem d_A_grow_5 : decode b_A_grow 5 = .ok (.iconst 1, 1) := by decide +kernel
theorem d_A_grow_6 : decode b_A_grow 6 = .ok (.iadd, 1) := by decide +kernel
theorem d_A_grow_7 : decode b_A_grow 7 = .ok (.invokevirtual 69, 3) := by decide +kernel
theorem d_A_grow_10 : decode b_A_grow 10 = .ok (.areturn, 1) := by decide +kernel
theorem d_A_grow2_0 : decode b_A_grow2 0 = .ok (.aload_n 0, 1) := by decide +kernel
theorem d_A_grow2_1 : decode b_A_grow2 1 = .ok (.getfield 9, 3) := by decide +kernel
theorem d_A_grow2_4 : decode b_A_grow2 4 = .ok (.arraylength, 1) := by decide +kernel
theorem d_A_grow2_5 : decode b_A_grow2 5 = .ok (.istore_n 2, 1) := by decide +kernel
theorem d_A_grow2_6 : decode b_A_grow2 6 = .ok (.iload_n 2, 1) := by decide +kernel
theorem d_A_grow2_7 : decode b_A_grow2 7 = .ok (.ifCond .gt 13, 3) := by decide +kernel
theorem d_A_grow2_10 : decode b_A_grow2 10 = .ok (.aload_n 0, 1) := by decide +kernel
theorem d_A_grow2_11 : decode b_A_grow2 11 = .ok (.getfield 9, 3) := by decide +kernel
theorem d_A_grow2_14 : decode b_A_grow2 14 = .ok (.getstatic 39, 3) := by decide +kernel
theorem d_A_grow2_17 : decode b_A_grow2 17 = .ok (.if_acmp .eq 28, 3) := by decide +kernel
theorem d_A_grow2_20 : decode b_A_grow2 20 = .ok (.iload_n 2, 1) := by decide +kernel
theorem d_A_grow2_21 : decode b_A_grow2 21 = .ok (.iload_n 1, 1) := by decide +kernel
theorem d_A_grow2_22 : decode b_A_grow2 22 = .ok (.iload_n 2, 1) := by decide +kernel
theorem d_A_grow2_23 : decode b_A_grow2 23 = .ok (.isub, 1) := by decide +kernel
theorem d_A_grow2_24 : decode b_A_grow2 24 = .ok (.iload_n 2, 1) := by decide +kernel
theorem d_A_grow2_25 : decode b_A_grow2 25 = .ok (.iconst 1, 1) := by decide +kernel
theorem d_A_grow2_26 : decode b_A_grow2 26 = .ok (.ishr, 1) := by decide +kernel
theorem d_A_grow2_27 : decode b_A_grow2 27 = .ok (.invokestatic 73, 3) := by decide +kernel
theorem d_A_grow2_30 : decode b_A_grow2 30 = .ok (.istore_n 3, 1) := by decide +kernel
theorem d_A_grow2_31 : decode b_A_grow2 31 = .ok (.aload_n 0, 1) := by decide +kernel
theorem d_A_grow2_32 : decode b_A_grow2 32 = .ok (.aload_n 0, 1) := by decide +kernel
theorem d_A_grow2_33 : decode b_A_grow2 33 = .ok (.getfield 9, 3) := by decide +kernel
theorem d_A_grow2_36 : decode b_A_grow2 36 = .ok (.iload_n 3, 1) := by decide +kernel
theorem d_A_grow2_37 : decode b_A_grow2 37 = .ok (.invokestatic 66, 3) := by decide +kernel
theorem d_A_grow2_40 : decode b_A_grow2 40 = .ok (.dup_x1, 1) := by decide +kernel
theorem d_A_grow2_41 : decode b_A_grow2 41 = .ok (.putfield 9, 3) := by decide +kernel
theorem d_A_grow2_44 : decode b_A_grow2 44 = .ok (.areturn, 1) := by decide +kernel
theorem d_A_grow2_45 : decode b_A_grow2 45 = .ok (.aload_n 0, 1) := by decide +kernel
theorem d_A_grow2_46 : decode b_A_grow2 46 = .ok (.bipush 10, 2) := by decide +kernel
theorem d_A_grow2_48 : decode b_A_grow2 48 = .ok (.iload_n 1, 1) := by decide +kernel
theorem d_A_grow2_49 : decode b_A_grow2 49 = .ok (.invokestatic 79, 3) := by decide +kernel
theorem d_A_grow2_52 : decode b_A_grow2 52 = .ok (.anewarray 7, 3) := by decide +kernel
theorem d_A_grow2_55 : decode b_A_grow2 55 = .ok (.dup_x1, 1) := by decide +kernel
theorem d_A_grow2_56 : decode b_A_grow2 56 = .ok (.putfield 9, 3) := by decide +kernel
theorem d_A_grow2_59 : decode b_A_grow2 59 = .ok (.areturn, 1) := by decide +kernel
theorem d_AS_newLength_0 : decode b_AS_newLength 0 = .ok (.iload_n 0, 1) := by decide +kernel
theorem d_AS_newLength_1 : decode b_AS_newLength 1 = .ok (.iload_n 1, 1) := by decide +kernel
theorem d_AS_newLength_2 : decode b_AS_newLength 2 = .ok (.iload_n 2, 1) := by decide +kernel
theorem d_AS_newLength_3 : decode b_AS_newLength 3 = .ok (.invokestatic 194, 3) := by decide +kernel
theorem d_AS_newLength_6 : decode b_AS_newLength 6 = .ok (.iadd, 1) := by decide +kernel
theorem d_AS_newLength_7 : decode b_AS_newLength 7 = .ok (.istore_n 3, 1) := by decide +kernel
theorem d_AS_newLength_8 : decode b_AS_newLength 8 = .ok (.iconst 0, 1) := by decide +kernel
theorem d_AS_newLength_9 : decode b_AS_newLength 9 = .ok (.iload_n 3, 1) := by decide +kernel
theorem d_AS_newLength_10 : decode b_AS_newLength 10 = .ok (.if_icmp .ge 11, 3) := by decide +kernel
theorem d_AS_newLength_13 : decode b_AS_newLength 13 = .ok (.iload_n 3, 1) := by decide +kernel
theorem d_AS_newLength_14 : decode b_AS_newLength 14 = .ok (.ldc 200, 2) := by decide +kernel
theorem d_AS_newLength_16 : decode b_AS_newLength 16 = .ok (.if_icmp .gt 5, 3) := by decide +kernel
theorem d_AS_newLength_19 : decode b_AS_newLength 19 = .ok (.iload_n 3, 1) := by decide +kernel
theorem d_AS_newLength_20 : decode b_AS_newLength 20 = .ok (.ireturn, 1) := by decide +kernel
theorem d_AR_copyOf_0 : decode b_AR_copyOf 0 = .ok (.aload_n 0, 1) := by decide +kernel
theorem d_AR_copyOf_1 : decode b_AR_copyOf 1 = .ok (.iload_n 1, 1) := by decide +kernel
theorem d_AR_copyOf_2 : decode b_AR_copyOf 2 = .ok (.aload_n 0, 1) := by decide +kernel
theorem d_AR_copyOf_3 : decode b_AR_copyOf 3 = .ok (.invokevirtual 86, 3) := by decide +kernel
theorem d_AR_copyOf_6 : decode b_AR_copyOf 6 = .ok (.invokestatic 300, 3) := by decide +kernel
theorem d_AR_copyOf_9 : decode b_AR_copyOf 9 = .ok (.areturn, 1) := by decide +kernel
theorem d_AR_copyOf2_0 : decode b_AR_copyOf2 0 = .ok (.aload_n 2, 1) := by decide +kernel
theorem d_AR_copyOf2_1 : decode b_AR_copyOf2 1 = .ok (.ldc 110, 2) := by decide +kernel
theorem d_AR_copyOf2_3 : decode b_AR_copyOf2 3 = .ok (.if_acmp .ne 10, 3) := by decide +kernel
theorem d_AR_copyOf2_6 : decode b_AR_copyOf2 6 = .ok (.iload_n 1, 1) := by decide +kernel
theorem d_AR_copyOf2_7 : decode b_AR_copyOf2 7 = .ok (.anewarray 2, 3) := by decide +kernel
theorem d_AR_copyOf2_10 : decode b_AR_copyOf2 10 = .ok (.goto 14, 3) := by decide +kernel
theorem d_AR_copyOf2_24 : decode b_AR_copyOf2 24 = .ok (.astore_n 3, 1) := by decide +kernel
theorem d_AR_copyOf2_25 : decode b_AR_copyOf2 25 = .ok (.aload_n 0, 1) := by decide +kernel
theorem d_AR_copyOf2_26 : decode b_AR_copyOf2 26 = .ok (.iconst 0, 1) := by decide +kernel
theorem d_AR_copyOf2_27 : decode b_AR_copyOf2 27 = .ok (.aload_n 3, 1) := by decide +kernel
theorem d_AR_copyOf2_28 : decode b_AR_copyOf2 28 = .ok (.iconst 0, 1) := by decide +kernel
theorem d_AR_copyOf2_29 : decode b_AR_copyOf2 29 = .ok (.aload_n 0, 1) := by decide +kernel
theorem d_AR_copyOf2_30 : decode b_AR_copyOf2 30 = .ok (.arraylength, 1) := by decide +kernel
theorem d_AR_copyOf2_31 : decode b_AR_copyOf2 31 = .ok (.iload_n 1, 1) := by decide +kernel
theorem d_AR_copyOf2_32 : decode b_AR_copyOf2 32 = .ok (.invokestatic 304, 3) := by decide +kernel
theorem d_AR_copyOf2_35 : decode b_AR_copyOf2 35 = .ok (.invokestatic 150, 3) := by decide +kernel
theorem d_AR_copyOf2_38 : decode b_AR_copyOf2 38 = .ok (.aload_n 3, 1) := by decide +kernel
theorem d_AR_copyOf2_39 : decode b_AR_copyOf2 39 = .ok (.areturn, 1) := by decide +kernel
