theorem d_M_init_0 : decode b_M_init 0 = .ok (.aload_n 0, 1) := by decide +kernel
theorem d_M_init_1 : decode b_M_init 1 = .ok (.invokespecial 1, 3) := by decide +kernel
theorem d_M_init_4 : decode b_M_init 4 = .ok (.aload_n 0, 1) := by decide +kernel
theorem d_M_init_5 : decode b_M_init 5 = .ok (.iconst (-1), 1) := by decide +kernel
theorem d_M_init_6 : decode b_M_init 6 = .ok (.putfield 9, 3) := by decide +kernel
theorem d_M_init_9 : decode b_M_init 9 = .ok (.aload_n 0, 1) := by decide +kernel
theorem d_M_init_10 : decode b_M_init 10 = .ok (.bipush 24, 2) := by decide +kernel
theorem d_M_init_12 : decode b_M_init 12 = .ok (.newarray .int, 2) := by decide +kernel
theorem d_M_init_14 : decode b_M_init 14 = .ok (.putfield 13, 3) := by decide +kernel
theorem d_M_init_17 : decode b_M_init 17 = .ok (.aload_n 0, 1) := by decide +kernel
theorem d_M_init_18 : decode b_M_init 18 = .ok (.bipush 24, 2) := by decide +kernel
theorem d_M_init_20 : decode b_M_init 20 = .ok (.newarray .int, 2) := by decide +kernel
theorem d_M_init_22 : decode b_M_init 22 = .ok (.putfield 17, 3) := by decide +kernel
theorem d_M_init_25 : decode b_M_init 25 = .ok (.aload_n 0, 1) := by decide +kernel
theorem d_M_init_26 : decode b_M_init 26 = .ok (.bipush 24, 2) := by decide +kernel
theorem d_M_init_28 : decode b_M_init 28 = .ok (.newarray .int, 2) := by decide +kernel
theorem d_M_init_30 : decode b_M_init 30 = .ok (.putfield 20, 3) := by decide +kernel
theorem d_M_init_33 : decode b_M_init 33 = .ok (.aload_n 0, 1) := by decide +kernel
theorem d_M_init_34 : decode b_M_init 34 = .ok (.bipush 24, 2) := by decide +kernel
theorem d_M_init_36 : decode b_M_init 36 = .ok (.newarray .boolean, 2) := by decide +kernel
theorem d_M_init_38 : decode b_M_init 38 = .ok (.putfield 23, 3) := by decide +kernel
theorem d_M_init_41 : decode b_M_init 41 = .ok (.aload_n 0, 1) := by decide +kernel
theorem d_M_init_42 : decode b_M_init 42 = .ok (.bipush 24, 2) := by decide +kernel
theorem d_M_init_44 : decode b_M_init 44 = .ok (.newarray .int, 2) := by decide +kernel
theorem d_M_init_46 : decode b_M_init 46 = .ok (.putfield 27, 3) := by decide +kernel
theorem d_M_init_49 : decode b_M_init 49 = .ok (.aload_n 0, 1) := by decide +kernel
theorem d_M_init_50 : decode b_M_init 50 = .ok (.bipush 24, 2) := by decide +kernel
theorem d_M_init_52 : decode b_M_init 52 = .ok (.newarray .int, 2) := by decide +kernel
theorem d_M_init_54 : decode b_M_init 54 = .ok (.putfield 30, 3) := by decide +kernel
theorem d_M_init_57 : decode b_M_init 57 = .ok (.aload_n 0, 1) := by decide +kernel
theorem d_M_init_58 : decode b_M_init 58 = .ok (.bipush 24, 2) := by decide +kernel
theorem d_M_init_60 : decode b_M_init 60 = .ok (.newarray .int, 2) := by decide +kernel
theorem d_M_init_62 : decode b_M_init 62 = .ok (.putfield 33, 3) := by decide +kernel
theorem d_M_init_65 : decode b_M_init 65 = .ok (.aload_n 0, 1) := by decide +kernel
theorem d_M_init_66 : decode b_M_init 66 = .ok (.bipush 24, 2) := by decide +kernel
theorem d_M_init_68 : decode b_M_init 68 = .ok (.newarray .int, 2) := by decide +kernel
theorem d_M_init_70 : decode b_M_init 70 = .ok (.putfield 36, 3) := by decide +kernel
theorem d_M_init_73 : decode b_M_init 73 = .ok (.aload_n 0, 1) := by decide +kernel
theorem d_M_init_74 : decode b_M_init 74 = .ok (.sipush 384, 3) := by decide +kernel
theorem d_M_init_77 : decode b_M_init 77 = .ok (.newarray .int, 2) := by decide +kernel
theorem d_M_init_79 : decode b_M_init 79 = .ok (.putfield 39, 3) := by decide +kernel
theorem d_M_init_82 : decode b_M_init 82 = .ok (.aload_n 0, 1) := by decide +kernel
theorem d_M_init_83 : decode b_M_init 83 = .ok (.sipush 384, 3) := by decide +kernel
theorem d_M_init_86 : decode b_M_init 86 = .ok (.newarray .int, 2) := by decide +kernel
theorem d_M_init_88 : decode b_M_init 88 = .ok (.putfield 42, 3) := by decide +kernel
theorem d_M_init_91 : decode b_M_init 91 = .ok (.aload_n 0, 1) := by decide +kernel
theorem d_M_init_92 : decode b_M_init 92 = .ok (.bipush 8, 2) := by decide +kernel
theorem d_M_init_94 : decode b_M_init 94 = .ok (.newarray .int, 2) := by decide +kernel
theorem d_M_init_96 : decode b_M_init 96 = .ok (.putfield 45, 3) := by decide +kernel
theorem d_M_init_99 : decode b_M_init 99 = .ok (.aload_n 0, 1) := by decide +kernel
theorem d_M_init_100 : decode b_M_init 100 = .ok (.bipush 64, 2) := by decide +kernel
theorem d_M_init_102 : decode b_M_init 102 = .ok (.newarray .int, 2) := by decide +kernel
theorem d_M_init_104 : decode b_M_init 104 = .ok (.putfield 48, 3) := by decide +kernel
theorem d_M_init_107 : decode b_M_init 107 = .ok (.aload_n 0, 1) := by decide +kernel
theorem d_M_init_108 : decode b_M_init 108 = .ok (.iconst 3, 1) := by decide +kernel
theorem d_M_init_109 : decode b_M_init 109 = .ok (.newarray .int, 2) := by decide +kernel
theorem d_M_init_111 : decode b_M_init 111 = .ok (.putfield 51, 3) := by decide +kernel
theorem d_M_init_114 : decode b_M_init 114 = .ok (.aload_n 0, 1) := by decide +kernel
theorem d_M_init_115 : decode b_M_init 115 = .ok (.bipush 36, 2) := by decide +kernel
theorem d_M_init_117 : decode b_M_init 117 = .ok (.newarray .int, 2) := by decide +kernel
theorem d_M_init_119 : decode b_M_init 119 = .ok (.putfield 54, 3) := by decide +kernel
theorem d_M_init_122 : decode b_M_init 122 = .ok (.aload_n 0, 1) := by decide +kernel
theorem d_M_init_123 : decode b_M_init 123 = .ok (.bipush 18, 2) := by decide +kernel
theorem d_M_init_125 : decode b_M_init 125 = .ok (.newarray .int, 2) := by decide +kernel
theorem d_M_init_127 : decode b_M_init 127 = .ok (.dup, 1) := by decide +kernel
theorem d_M_init_128 : decode b_M_init 128 = .ok (.iconst 0, 1) := by decide +kernel
theorem d_M_init_129 : decode b_M_init 129 = .ok (.iconst (-1), 1) := by decide +kernel
theorem d_M_init_130 : decode b_M_init 130 = .ok (.iastore, 1) := by decide +kernel
theorem d_M_init_131 : decode b_M_init 131 = .ok (.dup, 1) := by decide +kernel
theorem d_M_init_132 : decode b_M_init 132 = .ok (.iconst 1, 1) := by decide +kernel
theorem d_M_init_133 : decode b_M_init 133 = .ok (.iconst (-1), 1) := by decide +kernel
theorem d_M_init_134 : decode b_M_init 134 = .ok (.iastore, 1) := by decide +kernel
theorem d_M_init_135 : decode b_M_init 135 = .ok (.dup, 1) := by decide +kernel
theorem d_M_init_136 : decode b_M_init 136 = .ok (.iconst 2, 1) := by decide +kernel
theorem d_M_init_137 : decode b_M_init 137 = .ok (.iconst (-1), 1) := by decide +kernel
theorem d_M_init_138 : decode b_M_init 138 = .ok (.iastore, 1) := by decide +kernel
theorem d_M_init_139 : decode b_M_init 139 = .ok (.dup, 1) := by decide +kernel
theorem d_M_init_140 : decode b_M_init 140 = .ok (.iconst 3, 1) := by decide +kernel
theorem d_M_init_141 : decode b_M_init 141 = .ok (.iconst (-1), 1) := by decide +kernel
theorem d_M_init_142 : decode b_M_init 142 = .ok (.iastore, 1) := by decide +kernel
theorem d_M_init_143 : decode b_M_init 143 = .ok (.dup, 1) := by decide +kernel
theorem d_M_init_144 : decode b_M_init 144 = .ok (.iconst 4, 1) := by decide +kernel
theorem d_M_init_145 : decode b_M_init 145 = .ok (.iconst (-1), 1) := by decide +kernel
theorem d_M_init_146 : decode b_M_init 146 = .ok (.iastore, 1) := by decide +kernel
theorem d_M_init_147 : decode b_M_init 147 = .ok (.dup, 1) := by decide +kernel
theorem d_M_init_148 : decode b_M_init 148 = .ok (.iconst 5, 1) := by decide +kernel
theorem d_M_init_149 : decode b_M_init 149 = .ok (.iconst (-1), 1) := by decide +kernel
theorem d_M_init_150 : decode b_M_init 150 = .ok (.iastore, 1) := by decide +kernel
theorem d_M_init_151 : decode b_M_init 151 = .ok (.dup, 1) := by decide +kernel
theorem d_M_init_152 : decode b_M_init 152 = .ok (.bipush 6, 2) := by decide +kernel
theorem d_M_init_154 : decode b_M_init 154 = .ok (.iconst (-1), 1) := by decide +kernel
theorem d_M_init_155 : decode b_M_init 155 = .ok (.iastore, 1) := by decide +kernel
theorem d_M_init_156 : decode b_M_init 156 = .ok (.dup, 1) := by decide +kernel
theorem d_M_init_157 : decode b_M_init 157 = .ok (.bipush 7, 2) := by decide +kernel
theorem d_M_init_159 : decode b_M_init 159 = .ok (.iconst (-1), 1) := by decide +kernel
theorem d_M_init_160 : decode b_M_init 160 = .ok (.iastore, 1) := by decide +kernel
theorem d_M_init_161 : decode b_M_init 161 = .ok (.dup, 1) := by decide +kernel
theorem d_M_init_162 : decode b_M_init 162 = .ok (.bipush 8, 2) := by decide +kernel
theorem d_M_init_164 : decode b_M_init 164 = .ok (.iconst (-1), 1) := by decide +kernel
theorem d_M_init_165 : decode b_M_init 165 = .ok (.iastore, 1) := by decide +kernel
theorem d_M_init_166 : decode b_M_init 166 = .ok (.dup, 1) := by decide +kernel
theorem d_M_init_167 : decode b_M_init 167 = .ok (.bipush 9, 2) := by decide +kernel
theorem d_M_init_169 : decode b_M_init 169 = .ok (.iconst (-1), 1) := by decide +kernel
theorem d_M_init_170 : decode b_M_init 170 = .ok (.iastore, 1) := by decide +kernel
theorem d_M_init_171 : decode b_M_init 171 = .ok (.dup, 1) := by decide +kernel
theorem d_M_init_172 : decode b_M_init 172 = .ok (.bipush 10, 2) := by decide +kernel
theorem d_M_init_174 : decode b_M_init 174 = .ok (.iconst (-1), 1) := by decide +kernel
theorem d_M_init_175 : decode b_M_init 175 = .ok (.iastore, 1) := by decide +kernel
theorem d_M_init_176 : decode b_M_init 176 = .ok (.dup, 1) := by decide +kernel
theorem d_M_init_177 : decode b_M_init 177 = .ok (.bipush 11, 2) := by decide +kernel
theorem d_M_init_179 : decode b_M_init 179 = .ok (.iconst (-1), 1) := by decide +kernel
theorem d_M_init_180 : decode b_M_init 180 = .ok (.iastore, 1) := by decide +kernel
theorem d_M_init_181 : decode b_M_init 181 = .ok (.dup, 1) := by decide +kernel
theorem d_M_init_182 : decode b_M_init 182 = .ok (.bipush 12, 2) := by decide +kernel
theorem d_M_init_184 : decode b_M_init 184 = .ok (.iconst (-1), 1) := by decide +kernel
theorem d_M_init_185 : decode b_M_init 185 = .ok (.iastore, 1) := by decide +kernel
theorem d_M_init_186 : decode b_M_init 186 = .ok (.dup, 1) := by decide +kernel
theorem d_M_init_187 : decode b_M_init 187 = .ok (.bipush 13, 2) := by decide +kernel
theorem d_M_init_189 : decode b_M_init 189 = .ok (.iconst (-1), 1) := by decide +kernel
theorem d_M_init_190 : decode b_M_init 190 = .ok (.iastore, 1) := by decide +kernel
theorem d_M_init_191 : decode b_M_init 191 = .ok (.dup, 1) := by decide +kernel
theorem d_M_init_192 : decode b_M_init 192 = .ok (.bipush 14, 2) := by decide +kernel
theorem d_M_init_194 : decode b_M_init 194 = .ok (.iconst (-1), 1) := by decide +kernel
theorem d_M_init_195 : decode b_M_init 195 = .ok (.iastore, 1) := by decide +kernel
theorem d_M_init_196 : decode b_M_init 196 = .ok (.dup, 1) := by decide +kernel
theorem d_M_init_197 : decode b_M_init 197 = .ok (.bipush 15, 2) := by decide +kernel
theorem d_M_init_199 : decode b_M_init 199 = .ok (.iconst (-1), 1) := by decide +kernel
theorem d_M_init_200 : decode b_M_init 200 = .ok (.iastore, 1) := by decide +kernel
theorem d_M_init_201 : decode b_M_init 201 = .ok (.dup, 1) := by decide +kernel
theorem d_M_init_202 : decode b_M_init 202 = .ok (.bipush 16, 2) := by decide +kernel
theorem d_M_init_204 : decode b_M_init 204 = .ok (.iconst (-1), 1) := by decide +kernel
theorem d_M_init_205 : decode b_M_init 205 = .ok (.iastore, 1) := by decide +kernel
theorem d_M_init_206 : decode b_M_init 206 = .ok (.dup, 1) := by decide +kernel
theorem d_M_init_207 : decode b_M_init 207 = .ok (.bipush 17, 2) := by decide +kernel
theorem d_M_init_209 : decode b_M_init 209 = .ok (.iconst (-1), 1) := by decide +kernel
theorem d_M_init_210 : decode b_M_init 210 = .ok (.iastore, 1) := by decide +kernel
theorem d_M_init_211 : decode b_M_init 211 = .ok (.putfield 57, 3) := by decide +kernel
theorem d_M_init_214 : decode b_M_init 214 = .ok (.aload_n 0, 1) := by decide +kernel
theorem d_M_init_215 : decode b_M_init 215 = .ok (.bipush 18, 2) := by decide +kernel
theorem d_M_init_217 : decode b_M_init 217 = .ok (.newarray .int, 2) := by decide +kernel
theorem d_M_init_219 : decode b_M_init 219 = .ok (.putfield 60, 3) := by decide +kernel
theorem d_M_init_222 : decode b_M_init 222 = .ok (.aload_n 0, 1) := by decide +kernel
theorem d_M_init_223 : decode b_M_init 223 = .ok (.bipush 8, 2) := by decide +kernel
theorem d_M_init_225 : decode b_M_init 225 = .ok (.newarray .long, 2) := by decide +kernel
theorem d_M_init_227 : decode b_M_init 227 = .ok (.putfield 63, 3) := by decide +kernel
theorem d_M_init_230 : decode b_M_init 230 = .ok (.aload_n 0, 1) := by decide +kernel
theorem d_M_init_231 : decode b_M_init 231 = .ok (.bipush 8, 2) := by decide +kernel
theorem d_M_init_233 : decode b_M_init 233 = .ok (.newarray .int, 2) := by decide +kernel
theorem d_M_init_235 : decode b_M_init 235 = .ok (.putfield 67, 3) := by decide +kernel
theorem d_M_init_238 : decode b_M_init 238 = .ok (.aload_n 0, 1) := by decide +kernel
theorem d_M_init_239 : decode b_M_init 239 = .ok (.iload_n 1, 1) := by decide +kernel
theorem d_M_init_240 : decode b_M_init 240 = .ok (.ifCond .ge 7, 3) := by decide +kernel
theorem d_M_init_243 : decode b_M_init 243 = .ok (.iconst 0, 1) := by decide +kernel
theorem d_M_init_244 : decode b_M_init 244 = .ok (.goto 17, 3) := by decide +kernel
theorem d_M_init_247 : decode b_M_init 247 = .ok (.iload_n 1, 1) := by decide +kernel
theorem d_M_init_248 : decode b_M_init 248 = .ok (.sipush 1000, 3) := by decide +kernel
theorem d_M_init_251 : decode b_M_init 251 = .ok (.if_icmp .le 9, 3) := by decide +kernel
theorem d_M_init_254 : decode b_M_init 254 = .ok (.sipush 1000, 3) := by decide +kernel
theorem d_M_init_257 : decode b_M_init 257 = .ok (.goto 4, 3) := by decide +kernel
theorem d_M_init_260 : decode b_M_init 260 = .ok (.iload_n 1, 1) := by decide +kernel
theorem d_M_init_261 : decode b_M_init 261 = .ok (.putfield 70, 3) := by decide +kernel
theorem d_M_init_264 : decode b_M_init 264 = .ok (.return_, 1) := by decide +kernel
theorem d_M_today_0 : decode b_M_today 0 = .ok (.aload_n 0, 1) := by decide +kernel
theorem d_M_today_1 : decode b_M_today 1 = .ok (.iload_n 1, 1) := by decide +kernel
theorem d_M_today_2 : decode b_M_today 2 = .ok (.iconst 0, 1) := by decide +kernel
theorem d_M_today_3 : decode b_M_today 3 = .ok (.sipush 1000, 3) := by decide +kernel
theorem d_M_today_6 : decode b_M_today 6 = .ok (.invokestatic 79, 3) := by decide +kernel
theorem d_M_today_9 : decode b_M_today 9 = .ok (.ifCond .eq 15, 3) := by decide +kernel
theorem d_M_today_12 : decode b_M_today 12 = .ok (.iload_n 1, 1) := by decide +kernel
theorem d_M_today_13 : decode b_M_today 13 = .ok (.aload_n 0, 1) := by decide +kernel
theorem d_M_today_14 : decode b_M_today 14 = .ok (.getfield 83, 3) := by decide +kernel
theorem d_M_today_17 : decode b_M_today 17 = .ok (.if_icmp .lt 7, 3) := by decide +kernel
theorem d_M_today_20 : decode b_M_today 20 = .ok (.iconst 0, 1) := by decide +kernel
theorem d_M_today_21 : decode b_M_today 21 = .ok (.goto 4, 3) := by decide +kernel
theorem d_M_today_24 : decode b_M_today 24 = .ok (.iconst 1, 1) := by decide +kernel
theorem d_M_today_25 : decode b_M_today 25 = .ok (.putfield 73, 3) := by decide +kernel
theorem d_M_today_28 : decode b_M_today 28 = .ok (.aload_n 0, 1) := by decide +kernel
theorem d_M_today_29 : decode b_M_today 29 = .ok (.getfield 73, 3) := by decide +kernel
theorem d_M_today_32 : decode b_M_today 32 = .ok (.ifCond .eq 4, 3) := by decide +kernel
theorem d_M_today_35 : decode b_M_today 35 = .ok (.return_, 1) := by decide +kernel
theorem d_M_today_36 : decode b_M_today 36 = .ok (.aload_n 0, 1) := by decide +kernel
theorem d_M_today_37 : decode b_M_today 37 = .ok (.iload_n 1, 1) := by decide +kernel
theorem d_M_today_38 : decode b_M_today 38 = .ok (.putfield 83, 3) := by decide +kernel
theorem d_M_today_41 : decode b_M_today 41 = .ok (.aload_n 0, 1) := by decide +kernel
theorem d_M_today_42 : decode b_M_today 42 = .ok (.iconst (-1), 1) := by decide +kernel
theorem d_M_today_43 : decode b_M_today 43 = .ok (.putfield 9, 3) := by decide +kernel
theorem d_M_today_46 : decode b_M_today 46 = .ok (.return_, 1) := by decide +kernel
theorem d_M_within_0 : decode b_M_within 0 = .ok (.iload_n 0, 1) := by decide +kernel
theorem d_M_within_1 : decode b_M_within 1 = .ok (.iload_n 1, 1) := by decide +kernel
theorem d_M_within_2 : decode b_M_within 2 = .ok (.if_icmp .lt 12, 3) := by decide +kernel
theorem d_M_within_5 : decode b_M_within 5 = .ok (.iload_n 0, 1) := by decide +kernel
theorem d_M_within_6 : decode b_M_within 6 = .ok (.iload_n 2, 1) := by decide +kernel
theorem d_M_within_7 : decode b_M_within 7 = .ok (.if_icmp .gt 7, 3) := by decide +kernel
theorem d_M_within_10 : decode b_M_within 10 = .ok (.iconst 1, 1) := by decide +kernel
theorem d_M_within_11 : decode b_M_within 11 = .ok (.goto 4, 3) := by decide +kernel
theorem d_M_within_14 : decode b_M_within 14 = .ok (.iconst 0, 1) := by decide +kernel
theorem d_M_within_15 : decode b_M_within 15 = .ok (.ireturn, 1) := by decide +kernel
theorem d_M_rule_0 : decode b_M_rule 0 = .ok (.aload_n 0, 1) := by decide +kernel
theorem d_M_rule_1 : decode b_M_rule 1 = .ok (.iload_n 1, 1) := by decide +kernel
theorem d_M_rule_2 : decode b_M_rule 2 = .ok (.iload_n 2, 1) := by decide +kernel
theorem d_M_rule_3 : decode b_M_rule 3 = .ok (.invokestatic 86, 3) := by decide +kernel
theorem d_M_rule_6 : decode b_M_rule 6 = .ok (.ifCond .eq 14, 3) := by decide +kernel
theorem d_M_rule_9 : decode b_M_rule 9 = .ok (.iload_n 3, 1) := by decide +kernel
theorem d_M_rule_10 : decode b_M_rule 10 = .ok (.iconst 0, 1) := by decide +kernel
theorem d_M_rule_11 : decode b_M_rule 11 = .ok (.sipush 1000, 3) := by decide +kernel
theorem d_M_rule_14 : decode b_M_rule 14 = .ok (.invokestatic 79, 3) := by decide +kernel
theorem d_M_rule_17 : decode b_M_rule 17 = .ok (.ifCond .ne 7, 3) := by decide +kernel
theorem d_M_rule_20 : decode b_M_rule 20 = .ok (.iconst 1, 1) := by decide +kernel
theorem d_M_rule_21 : decode b_M_rule 21 = .ok (.goto 17, 3) := by decide +kernel
theorem d_M_rule_24 : decode b_M_rule 24 = .ok (.aload_n 0, 1) := by decide +kernel
theorem d_M_rule_25 : decode b_M_rule 25 = .ok (.getfield 76, 3) := by decide +kernel
theorem d_M_rule_28 : decode b_M_rule 28 = .ok (.bipush 24, 2) := by decide +kernel
theorem d_M_rule_30 : decode b_M_rule 30 = .ok (.if_icmp .ne 7, 3) := by decide +kernel
theorem d_M_rule_33 : decode b_M_rule 33 = .ok (.iconst 2, 1) := by decide +kernel
theorem d_M_rule_34 : decode b_M_rule 34 = .ok (.goto 4, 3) := by decide +kernel
theorem d_M_rule_37 : decode b_M_rule 37 = .ok (.iconst 0, 1) := by decide +kernel
theorem d_M_rule_38 : decode b_M_rule 38 = .ok (.putfield 73, 3) := by decide +kernel
theorem d_M_rule_41 : decode b_M_rule 41 = .ok (.aload_n 0, 1) := by decide +kernel
theorem d_M_rule_42 : decode b_M_rule 42 = .ok (.getfield 73, 3) := by decide +kernel
theorem d_M_rule_45 : decode b_M_rule 45 = .ok (.ifCond .eq 5, 3) := by decide +kernel
theorem d_M_rule_48 : decode b_M_rule 48 = .ok (.iconst 0, 1) := by decide +kernel
theorem d_M_rule_49 : decode b_M_rule 49 = .ok (.ireturn, 1) := by decide +kernel
theorem d_M_rule_50 : decode b_M_rule 50 = .ok (.aload_n 0, 1) := by decide +kernel
theorem d_M_rule_51 : decode b_M_rule 51 = .ok (.getfield 13, 3) := by decide +kernel
theorem d_M_rule_54 : decode b_M_rule 54 = .ok (.aload_n 0, 1) := by decide +kernel
theorem d_M_rule_55 : decode b_M_rule 55 = .ok (.getfield 76, 3) := by decide +kernel
theorem d_M_rule_58 : decode b_M_rule 58 = .ok (.iload_n 1, 1) := by decide +kernel
theorem d_M_rule_59 : decode b_M_rule 59 = .ok (.iastore, 1) := by decide +kernel
theorem d_M_rule_60 : decode b_M_rule 60 = .ok (.aload_n 0, 1) := by decide +kernel
theorem d_M_rule_61 : decode b_M_rule 61 = .ok (.getfield 17, 3) := by decide +kernel
theorem d_M_rule_64 : decode b_M_rule 64 = .ok (.aload_n 0, 1) := by decide +kernel
theorem d_M_rule_65 : decode b_M_rule 65 = .ok (.getfield 76, 3) := by decide +kernel
theorem d_M_rule_68 : decode b_M_rule 68 = .ok (.iload_n 2, 1) := by decide +kernel
theorem d_M_rule_69 : decode b_M_rule 69 = .ok (.iastore, 1) := by decide +kernel
theorem d_M_rule_70 : decode b_M_rule 70 = .ok (.aload_n 0, 1) := by decide +kernel
theorem d_M_rule_71 : decode b_M_rule 71 = .ok (.getfield 20, 3) := by decide +kernel
theorem d_M_rule_74 : decode b_M_rule 74 = .ok (.aload_n 0, 1) := by decide +kernel
theorem d_M_rule_75 : decode b_M_rule 75 = .ok (.getfield 76, 3) := by decide +kernel
theorem d_M_rule_78 : decode b_M_rule 78 = .ok (.iload_n 3, 1) := by decide +kernel
theorem d_M_rule_79 : decode b_M_rule 79 = .ok (.iastore, 1) := by decide +kernel
theorem d_M_rule_80 : decode b_M_rule 80 = .ok (.aload_n 0, 1) := by decide +kernel
theorem d_M_rule_81 : decode b_M_rule 81 = .ok (.dup, 1) := by decide +kernel
theorem d_M_rule_82 : decode b_M_rule 82 = .ok (.getfield 76, 3) := by decide +kernel
theorem d_M_rule_85 : decode b_M_rule 85 = .ok (.iconst 1, 1) := by decide +kernel
theorem d_M_rule_86 : decode b_M_rule 86 = .ok (.iadd, 1) := by decide +kernel
theorem d_M_rule_87 : decode b_M_rule 87 = .ok (.putfield 76, 3) := by decide +kernel
theorem d_M_rule_90 : decode b_M_rule 90 = .ok (.aload_n 0, 1) := by decide +kernel
theorem d_M_rule_91 : decode b_M_rule 91 = .ok (.getfield 76, 3) := by decide +kernel
theorem d_M_rule_94 : decode b_M_rule 94 = .ok (.iconst 1, 1) := by decide +kernel
theorem d_M_rule_95 : decode b_M_rule 95 = .ok (.isub, 1) := by decide +kernel
theorem d_M_rule_96 : decode b_M_rule 96 = .ok (.ireturn, 1) := by decide +kernel
theorem d_M_isPlace_0 : decode b_M_isPlace 0 = .ok (.iload_n 0, 1) := by decide +kernel
theorem d_M_isPlace_1 : decode b_M_isPlace 1 = .ok (.iconst 0, 1) := by decide +kernel
theorem d_M_isPlace_2 : decode b_M_isPlace 2 = .ok (.iconst 5, 1) := by decide +kernel
theorem d_M_isPlace_3 : decode b_M_isPlace 3 = .ok (.invokestatic 79, 3) := by decide +kernel
theorem d_M_isPlace_6 : decode b_M_isPlace 6 = .ok (.ifCond .eq 16, 3) := by decide +kernel
theorem d_M_isPlace_9 : decode b_M_isPlace 9 = .ok (.iload_n 1, 1) := by decide +kernel
theorem d_M_isPlace_10 : decode b_M_isPlace 10 = .ok (.iconst 0, 1) := by decide +kernel
theorem d_M_isPlace_11 : decode b_M_isPlace 11 = .ok (.iconst 2, 1) := by decide +kernel
theorem d_M_isPlace_12 : decode b_M_isPlace 12 = .ok (.invokestatic 79, 3) := by decide +kernel
theorem d_M_isPlace_15 : decode b_M_isPlace 15 = .ok (.ifCond .eq 7, 3) := by decide +kernel
theorem d_M_isPlace_18 : decode b_M_isPlace 18 = .ok (.iconst 1, 1) := by decide +kernel
theorem d_M_isPlace_19 : decode b_M_isPlace 19 = .ok (.goto 4, 3) := by decide +kernel
theorem d_M_isPlace_22 : decode b_M_isPlace 22 = .ok (.iconst 0, 1) := by decide +kernel
theorem d_M_isPlace_23 : decode b_M_isPlace 23 = .ok (.ireturn, 1) := by decide +kernel
theorem d_M_op_0 : decode b_M_op 0 = .ok (.aload_n 0, 1) := by decide +kernel
theorem d_M_op_1 : decode b_M_op 1 = .ok (.aload_n 0, 1) := by decide +kernel
theorem d_M_op_2 : decode b_M_op 2 = .ok (.iload_n 1, 1) := by decide +kernel
theorem d_M_op_3 : decode b_M_op 3 = .ok (.invokevirtual 90, 3) := by decide +kernel
theorem d_M_op_6 : decode b_M_op 6 = .ok (.ifCond .ne 7, 3) := by decide +kernel
theorem d_M_op_9 : decode b_M_op 9 = .ok (.iconst 1, 1) := by decide +kernel
theorem d_M_op_10 : decode b_M_op 10 = .ok (.goto 54, 3) := by decide +kernel
theorem d_M_op_13 : decode b_M_op 13 = .ok (.iload_n 2, 1) := by decide +kernel
theorem d_M_op_14 : decode b_M_op 14 = .ok (.iconst 0, 1) := by decide +kernel
theorem d_M_op_15 : decode b_M_op 15 = .ok (.bipush 10, 2) := by decide +kernel
theorem d_M_op_17 : decode b_M_op 17 = .ok (.invokestatic 79, 3) := by decide +kernel
theorem d_M_op_20 : decode b_M_op 20 = .ok (.ifCond .eq 11, 3) := by decide +kernel
theorem d_M_op_23 : decode b_M_op 23 = .ok (.iload_n 2, 1) := by decide +kernel
theorem d_M_op_24 : decode b_M_op 24 = .ok (.iload_n 3, 1) := by decide +kernel
theorem d_M_op_25 : decode b_M_op 25 = .ok (.invokestatic 94, 3) := by decide +kernel
theorem d_M_op_28 : decode b_M_op 28 = .ok (.ifCond .ne 7, 3) := by decide +kernel
theorem d_M_op_31 : decode b_M_op 31 = .ok (.iconst 2, 1) := by decide +kernel
theorem d_M_op_32 : decode b_M_op 32 = .ok (.goto 32, 3) := by decide +kernel
theorem d_M_op_35 : decode b_M_op 35 = .ok (.aload_n 0, 1) := by decide +kernel
theorem d_M_op_36 : decode b_M_op 36 = .ok (.getfield 23, 3) := by decide +kernel
theorem d_M_op_39 : decode b_M_op 39 = .ok (.iload_n 1, 1) := by decide +kernel
theorem d_M_op_40 : decode b_M_op 40 = .ok (.baload, 1) := by decide +kernel
theorem d_M_op_41 : decode b_M_op 41 = .ok (.ifCond .eq 7, 3) := by decide +kernel
theorem d_M_op_44 : decode b_M_op 44 = .ok (.iconst 3, 1) := by decide +kernel
theorem d_M_op_45 : decode b_M_op 45 = .ok (.goto 19, 3) := by decide +kernel
theorem d_M_op_48 : decode b_M_op 48 = .ok (.aload_n 0, 1) := by decide +kernel
theorem d_M_op_49 : decode b_M_op 49 = .ok (.getfield 36, 3) := by decide +kernel
theorem d_M_op_52 : decode b_M_op 52 = .ok (.iload_n 1, 1) := by decide +kernel
theorem d_M_op_53 : decode b_M_op 53 = .ok (.iaload, 1) := by decide +kernel
theorem d_M_op_54 : decode b_M_op 54 = .ok (.bipush 16, 2) := by decide +kernel
theorem d_M_op_56 : decode b_M_op 56 = .ok (.if_icmp .ne 7, 3) := by decide +kernel
theorem d_M_op_59 : decode b_M_op 59 = .ok (.iconst 4, 1) := by decide +kernel
theorem d_M_op_60 : decode b_M_op 60 = .ok (.goto 4, 3) := by decide +kernel
theorem d_M_op_63 : decode b_M_op 63 = .ok (.iconst 0, 1) := by decide +kernel
theorem d_M_op_64 : decode b_M_op 64 = .ok (.putfield 73, 3) := by decide +kernel
theorem d_M_op_67 : decode b_M_op 67 = .ok (.aload_n 0, 1) := by decide +kernel
theorem d_M_op_68 : decode b_M_op 68 = .ok (.getfield 73, 3) := by decide +kernel
theorem d_M_op_71 : decode b_M_op 71 = .ok (.ifCond .eq 5, 3) := by decide +kernel
theorem d_M_op_74 : decode b_M_op 74 = .ok (.iconst 0, 1) := by decide +kernel
theorem d_M_op_75 : decode b_M_op 75 = .ok (.ireturn, 1) := by decide +kernel
theorem d_M_op_76 : decode b_M_op 76 = .ok (.aload_n 0, 1) := by decide +kernel
theorem d_M_op_77 : decode b_M_op 77 = .ok (.getfield 39, 3) := by decide +kernel
theorem d_M_op_80 : decode b_M_op 80 = .ok (.bipush 16, 2) := by decide +kernel
theorem d_M_op_82 : decode b_M_op 82 = .ok (.iload_n 1, 1) := by decide +kernel
theorem d_M_op_83 : decode b_M_op 83 = .ok (.imul, 1) := by decide +kernel
theorem d_M_op_84 : decode b_M_op 84 = .ok (.aload_n 0, 1) := by decide +kernel
theorem d_M_op_85 : decode b_M_op 85 = .ok (.getfield 36, 3) := by decide +kernel
theorem d_M_op_88 : decode b_M_op 88 = .ok (.iload_n 1, 1) := by decide +kernel
theorem d_M_op_89 : decode b_M_op 89 = .ok (.iaload, 1) := by decide +kernel
theorem d_M_op_90 : decode b_M_op 90 = .ok (.iadd, 1) := by decide +kernel
theorem d_M_op_91 : decode b_M_op 91 = .ok (.iload_n 2, 1) := by decide +kernel
theorem d_M_op_92 : decode b_M_op 92 = .ok (.iastore, 1) := by decide +kernel
theorem d_M_op_93 : decode b_M_op 93 = .ok (.aload_n 0, 1) := by decide +kernel
theorem d_M_op_94 : decode b_M_op 94 = .ok (.getfield 42, 3) := by decide +kernel
theorem d_M_op_97 : decode b_M_op 97 = .ok (.bipush 16, 2) := by decide +kernel
theorem d_M_op_99 : decode b_M_op 99 = .ok (.iload_n 1, 1) := by decide +kernel
theorem d_M_op_100 : decode b_M_op 100 = .ok (.imul, 1) := by decide +kernel
theorem d_M_op_101 : decode b_M_op 101 = .ok (.aload_n 0, 1) := by decide +kernel
theorem d_M_op_102 : decode b_M_op 102 = .ok (.getfield 36, 3) := by decide +kernel
theorem d_M_op_105 : decode b_M_op 105 = .ok (.iload_n 1, 1) := by decide +kernel
theorem d_M_op_106 : decode b_M_op 106 = .ok (.iaload, 1) := by decide +kernel
theorem d_M_op_107 : decode b_M_op 107 = .ok (.iadd, 1) := by decide +kernel
theorem d_M_op_108 : decode b_M_op 108 = .ok (.iload_n 3, 1) := by decide +kernel
theorem d_M_op_109 : decode b_M_op 109 = .ok (.iastore, 1) := by decide +kernel
theorem d_M_op_110 : decode b_M_op 110 = .ok (.aload_n 0, 1) := by decide +kernel
theorem d_M_op_111 : decode b_M_op 111 = .ok (.getfield 36, 3) := by decide +kernel
theorem d_M_op_114 : decode b_M_op 114 = .ok (.iload_n 1, 1) := by decide +kernel
theorem d_M_op_115 : decode b_M_op 115 = .ok (.dup2, 1) := by decide +kernel
theorem d_M_op_116 : decode b_M_op 116 = .ok (.iaload, 1) := by decide +kernel
theorem d_M_op_117 : decode b_M_op 117 = .ok (.iconst 1, 1) := by decide +kernel
theorem d_M_op_118 : decode b_M_op 118 = .ok (.iadd, 1) := by decide +kernel
theorem d_M_op_119 : decode b_M_op 119 = .ok (.iastore, 1) := by decide +kernel
theorem d_M_op_120 : decode b_M_op 120 = .ok (.aload_n 0, 1) := by decide +kernel
theorem d_M_op_121 : decode b_M_op 121 = .ok (.getfield 36, 3) := by decide +kernel
theorem d_M_op_124 : decode b_M_op 124 = .ok (.iload_n 1, 1) := by decide +kernel
theorem d_M_op_125 : decode b_M_op 125 = .ok (.iaload, 1) := by decide +kernel
theorem d_M_op_126 : decode b_M_op 126 = .ok (.ireturn, 1) := by decide +kernel
theorem d_M_isEdition_0 : decode b_M_isEdition 0 = .ok (.iload_n 1, 1) := by decide +kernel
theorem d_M_isEdition_1 : decode b_M_isEdition 1 = .ok (.iconst 0, 1) := by decide +kernel
theorem d_M_isEdition_2 : decode b_M_isEdition 2 = .ok (.aload_n 0, 1) := by decide +kernel
theorem d_M_isEdition_3 : decode b_M_isEdition 3 = .ok (.getfield 76, 3) := by decide +kernel
theorem d_M_isEdition_6 : decode b_M_isEdition 6 = .ok (.iconst 1, 1) := by decide +kernel
theorem d_M_isEdition_7 : decode b_M_isEdition 7 = .ok (.isub, 1) := by decide +kernel
theorem d_M_isEdition_8 : decode b_M_isEdition 8 = .ok (.invokestatic 79, 3) := by decide +kernel
theorem d_M_isEdition_11 : decode b_M_isEdition 11 = .ok (.ireturn, 1) := by decide +kernel
theorem d_M_isConstant_0 : decode b_M_isConstant 0 = .ok (.iload_n 0, 1) := by decide +kernel
theorem d_M_isConstant_1 : decode b_M_isConstant 1 = .ok (.ifCond .ne 14, 3) := by decide +kernel
theorem d_M_isConstant_4 : decode b_M_isConstant 4 = .ok (.iload_n 1, 1) := by decide +kernel
theorem d_M_isConstant_5 : decode b_M_isConstant 5 = .ok (.sipush (-10000), 3) := by decide +kernel
theorem d_M_isConstant_8 : decode b_M_isConstant 8 = .ok (.sipush 10000, 3) := by decide +kernel
theorem d_M_isConstant_11 : decode b_M_isConstant 11 = .ok (.invokestatic 79, 3) := by decide +kernel
theorem d_M_isConstant_14 : decode b_M_isConstant 14 = .ok (.ireturn, 1) := by decide +kernel
theorem d_M_isConstant_15 : decode b_M_isConstant 15 = .ok (.iload_n 0, 1) := by decide +kernel
theorem d_M_isConstant_16 : decode b_M_isConstant 16 = .ok (.iconst 1, 1) := by decide +kernel
theorem d_M_isConstant_17 : decode b_M_isConstant 17 = .ok (.if_icmp .ne 13, 3) := by decide +kernel
theorem d_M_isConstant_20 : decode b_M_isConstant 20 = .ok (.iload_n 1, 1) := by decide +kernel
theorem d_M_isConstant_21 : decode b_M_isConstant 21 = .ok (.iconst 0, 1) := by decide +kernel
theorem d_M_isConstant_22 : decode b_M_isConstant 22 = .ok (.bipush 7, 2) := by decide +kernel
theorem d_M_isConstant_24 : decode b_M_isConstant 24 = .ok (.invokestatic 79, 3) := by decide +kernel
theorem d_M_isConstant_27 : decode b_M_isConstant 27 = .ok (.goto 28, 3) := by decide +kernel
theorem d_M_isConstant_30 : decode b_M_isConstant 30 = .ok (.iload_n 0, 1) := by decide +kernel
theorem d_M_isConstant_31 : decode b_M_isConstant 31 = .ok (.bipush 8, 2) := by decide +kernel
theorem d_M_isConstant_33 : decode b_M_isConstant 33 = .ok (.if_icmp .ne 13, 3) := by decide +kernel
theorem d_M_isConstant_36 : decode b_M_isConstant 36 = .ok (.iload_n 1, 1) := by decide +kernel
theorem d_M_isConstant_37 : decode b_M_isConstant 37 = .ok (.iconst 0, 1) := by decide +kernel
theorem d_M_isConstant_38 : decode b_M_isConstant 38 = .ok (.bipush 15, 2) := by decide +kernel
theorem d_M_isConstant_40 : decode b_M_isConstant 40 = .ok (.invokestatic 79, 3) := by decide +kernel
theorem d_M_isConstant_43 : decode b_M_isConstant 43 = .ok (.goto 12, 3) := by decide +kernel
theorem d_M_isConstant_46 : decode b_M_isConstant 46 = .ok (.iload_n 1, 1) := by decide +kernel
theorem d_M_isConstant_47 : decode b_M_isConstant 47 = .ok (.ifCond .ne 7, 3) := by decide +kernel
theorem d_M_isConstant_50 : decode b_M_isConstant 50 = .ok (.iconst 1, 1) := by decide +kernel
theorem d_M_isConstant_51 : decode b_M_isConstant 51 = .ok (.goto 4, 3) := by decide +kernel
theorem d_M_isConstant_54 : decode b_M_isConstant 54 = .ok (.iconst 0, 1) := by decide +kernel
theorem d_M_isConstant_55 : decode b_M_isConstant 55 = .ok (.ireturn, 1) := by decide +kernel
theorem d_M_make_0 : decode b_M_make 0 = .ok (.aload_n 0, 1) := by decide +kernel
theorem d_M_make_1 : decode b_M_make 1 = .ok (.aload_n 0, 1) := by decide +kernel
theorem d_M_make_2 : decode b_M_make 2 = .ok (.iload_n 1, 1) := by decide +kernel
theorem d_M_make_3 : decode b_M_make 3 = .ok (.invokevirtual 90, 3) := by decide +kernel
theorem d_M_make_6 : decode b_M_make 6 = .ok (.ifCond .ne 7, 3) := by decide +kernel
theorem d_M_make_9 : decode b_M_make 9 = .ok (.iconst 1, 1) := by decide +kernel
theorem d_M_make_10 : decode b_M_make 10 = .ok (.goto 17, 3) := by decide +kernel
theorem d_M_make_13 : decode b_M_make 13 = .ok (.aload_n 0, 1) := by decide +kernel
theorem d_M_make_14 : decode b_M_make 14 = .ok (.getfield 23, 3) := by decide +kernel
theorem d_M_make_17 : decode b_M_make 17 = .ok (.iload_n 1, 1) := by decide +kernel
theorem d_M_make_18 : decode b_M_make 18 = .ok (.baload, 1) := by decide +kernel
theorem d_M_make_19 : decode b_M_make 19 = .ok (.ifCond .eq 7, 3) := by decide +kernel
theorem d_M_make_22 : decode b_M_make 22 = .ok (.iconst 2, 1) := by decide +kernel
theorem d_M_make_23 : decode b_M_make 23 = .ok (.goto 4, 3) := by decide +kernel
theorem d_M_make_26 : decode b_M_make 26 = .ok (.iconst 0, 1) := by decide +kernel
theorem d_M_make_27 : decode b_M_make 27 = .ok (.putfield 73, 3) := by decide +kernel
theorem d_M_make_30 : decode b_M_make 30 = .ok (.aload_n 0, 1) := by decide +kernel
theorem d_M_make_31 : decode b_M_make 31 = .ok (.getfield 73, 3) := by decide +kernel
theorem d_M_make_34 : decode b_M_make 34 = .ok (.ifCond .eq 5, 3) := by decide +kernel
theorem d_M_make_37 : decode b_M_make 37 = .ok (.iconst 0, 1) := by decide +kernel
theorem d_M_make_38 : decode b_M_make 38 = .ok (.ireturn, 1) := by decide +kernel
theorem d_M_make_39 : decode b_M_make 39 = .ok (.aload_n 0, 1) := by decide +kernel
theorem d_M_make_40 : decode b_M_make 40 = .ok (.iconst (-1), 1) := by decide +kernel
theorem d_M_make_41 : decode b_M_make 41 = .ok (.putfield 9, 3) := by decide +kernel
theorem d_M_make_44 : decode b_M_make 44 = .ok (.aload_n 0, 1) := by decide +kernel
theorem d_M_make_45 : decode b_M_make 45 = .ok (.invokevirtual 125, 3) := by decide +kernel
theorem d_M_make_48 : decode b_M_make 48 = .ok (.aload_n 0, 1) := by decide +kernel
theorem d_M_make_49 : decode b_M_make 49 = .ok (.iload_n 1, 1) := by decide +kernel
theorem d_M_make_50 : decode b_M_make 50 = .ok (.invokevirtual 128, 3) := by decide +kernel
theorem d_M_make_53 : decode b_M_make 53 = .ok (.istore_n 2, 1) := by decide +kernel
theorem d_M_make_54 : decode b_M_make 54 = .ok (.aload_n 0, 1) := by decide +kernel
theorem d_M_make_55 : decode b_M_make 55 = .ok (.getfield 23, 3) := by decide +kernel
theorem d_M_make_58 : decode b_M_make 58 = .ok (.iload_n 1, 1) := by decide +kernel
theorem d_M_make_59 : decode b_M_make 59 = .ok (.iload_n 2, 1) := by decide +kernel
theorem d_M_make_60 : decode b_M_make 60 = .ok (.ifCond .ne 7, 3) := by decide +kernel
theorem d_M_make_63 : decode b_M_make 63 = .ok (.iconst 1, 1) := by decide +kernel
theorem d_M_make_64 : decode b_M_make 64 = .ok (.goto 4, 3) := by decide +kernel
theorem d_M_make_67 : decode b_M_make 67 = .ok (.iconst 0, 1) := by decide +kernel
theorem d_M_make_68 : decode b_M_make 68 = .ok (.bastore, 1) := by decide +kernel
theorem d_M_make_69 : decode b_M_make 69 = .ok (.iload_n 2, 1) := by decide +kernel
theorem d_M_make_70 : decode b_M_make 70 = .ok (.ineg, 1) := by decide +kernel
theorem d_M_make_71 : decode b_M_make 71 = .ok (.ireturn, 1) := by decide +kernel
theorem d_M_giveFacts_0 : decode b_M_giveFacts 0 = .ok (.iconst 0, 1) := by decide +kernel
theorem d_M_giveFacts_1 : decode b_M_giveFacts 1 = .ok (.istore_n 1, 1) := by decide +kernel
theorem d_M_giveFacts_2 : decode b_M_giveFacts 2 = .ok (.iload_n 1, 1) := by decide +kernel
theorem d_M_giveFacts_3 : decode b_M_giveFacts 3 = .ok (.bipush 8, 2) := by decide +kernel
theorem d_M_giveFacts_5 : decode b_M_giveFacts 5 = .ok (.if_icmp .ge 21, 3) := by decide +kernel
theorem d_M_giveFacts_8 : decode b_M_giveFacts 8 = .ok (.aload_n 0, 1) := by decide +kernel
theorem d_M_giveFacts_9 : decode b_M_giveFacts 9 = .ok (.getfield 67, 3) := by decide +kernel
theorem d_M_giveFacts_12 : decode b_M_giveFacts 12 = .ok (.iload_n 1, 1) := by decide +kernel
theorem d_M_giveFacts_13 : decode b_M_giveFacts 13 = .ok (.aload_n 0, 1) := by decide +kernel
theorem d_M_giveFacts_14 : decode b_M_giveFacts 14 = .ok (.getfield 45, 3) := by decide +kernel
theorem d_M_giveFacts_17 : decode b_M_giveFacts 17 = .ok (.iload_n 1, 1) := by decide +kernel
theorem d_M_giveFacts_18 : decode b_M_giveFacts 18 = .ok (.iaload, 1) := by decide +kernel
theorem d_M_giveFacts_19 : decode b_M_giveFacts 19 = .ok (.iastore, 1) := by decide +kernel
theorem d_M_giveFacts_20 : decode b_M_giveFacts 20 = .ok (.iinc 1 1, 3) := by decide +kernel
theorem d_M_giveFacts_23 : decode b_M_giveFacts 23 = .ok (.goto (-21), 3) := by decide +kernel
theorem d_M_giveFacts_26 : decode b_M_giveFacts 26 = .ok (.return_, 1) := by decide +kernel
theorem d_M_run_0 : decode b_M_run 0 = .ok (.aload_n 0, 1) := by decide +kernel
theorem d_M_run_1 : decode b_M_run 1 = .ok (.iconst 0, 1) := by decide +kernel
theorem d_M_run_2 : decode b_M_run 2 = .ok (.putfield 103, 3) := by decide +kernel
theorem d_M_run_5 : decode b_M_run 5 = .ok (.aload_n 0, 1) := by decide +kernel
theorem d_M_run_6 : decode b_M_run 6 = .ok (.iconst 0, 1) := by decide +kernel
theorem d_M_run_7 : decode b_M_run 7 = .ok (.putfield 97, 3) := by decide +kernel
theorem d_M_run_10 : decode b_M_run 10 = .ok (.aload_n 0, 1) := by decide +kernel
theorem d_M_run_11 : decode b_M_run 11 = .ok (.iconst 0, 1) := by decide +kernel
theorem d_M_run_12 : decode b_M_run 12 = .ok (.putfield 100, 3) := by decide +kernel
theorem d_M_run_15 : decode b_M_run 15 = .ok (.iconst 0, 1) := by decide +kernel
theorem d_M_run_16 : decode b_M_run 16 = .ok (.istore_n 2, 1) := by decide +kernel
theorem d_M_run_17 : decode b_M_run 17 = .ok (.iload_n 2, 1) := by decide +kernel
theorem d_M_run_18 : decode b_M_run 18 = .ok (.ifCond .ne 12, 3) := by decide +kernel
theorem d_M_run_21 : decode b_M_run 21 = .ok (.aload_n 0, 1) := by decide +kernel
theorem d_M_run_22 : decode b_M_run 22 = .ok (.iload_n 1, 1) := by decide +kernel
theorem d_M_run_23 : decode b_M_run 23 = .ok (.invokevirtual 122, 3) := by decide +kernel
theorem d_M_run_26 : decode b_M_run 26 = .ok (.istore_n 2, 1) := by decide +kernel
theorem d_M_run_27 : decode b_M_run 27 = .ok (.goto (-10), 3) := by decide +kernel
theorem d_M_run_30 : decode b_M_run 30 = .ok (.iload_n 2, 1) := by decide +kernel
theorem d_M_run_31 : decode b_M_run 31 = .ok (.iconst (-1), 1) := by decide +kernel
theorem d_M_run_32 : decode b_M_run 32 = .ok (.if_icmp .ne 7, 3) := by decide +kernel
theorem d_M_run_35 : decode b_M_run 35 = .ok (.iconst 0, 1) := by decide +kernel
theorem d_M_run_36 : decode b_M_run 36 = .ok (.goto 4, 3) := by decide +kernel
theorem d_M_run_39 : decode b_M_run 39 = .ok (.iload_n 2, 1) := by decide +kernel
theorem d_M_run_40 : decode b_M_run 40 = .ok (.ireturn, 1) := by decide +kernel
theorem d_M_step_0 : decode b_M_step 0 = .ok (.aload_n 0, 1) := by decide +kernel
theorem d_M_step_1 : decode b_M_step 1 = .ok (.getfield 97, 3) := by decide +kernel
theorem d_M_step_4 : decode b_M_step 4 = .ok (.aload_n 0, 1) := by decide +kernel
theorem d_M_step_5 : decode b_M_step 5 = .ok (.getfield 70, 3) := by decide +kernel
theorem d_M_step_8 : decode b_M_step 8 = .ok (.if_icmp .ne 5, 3) := by decide +kernel
theorem d_M_step_11 : decode b_M_step 11 = .ok (.iconst 1, 1) := by decide +kernel
theorem d_M_step_12 : decode b_M_step 12 = .ok (.ireturn, 1) := by decide +kernel
theorem d_M_step_13 : decode b_M_step 13 = .ok (.aload_n 0, 1) := by decide +kernel
theorem d_M_step_14 : decode b_M_step 14 = .ok (.getfield 100, 3) := by decide +kernel
theorem d_M_step_17 : decode b_M_step 17 = .ok (.aload_n 0, 1) := by decide +kernel
theorem d_M_step_18 : decode b_M_step 18 = .ok (.getfield 36, 3) := by decide +kernel
theorem d_M_step_21 : decode b_M_step 21 = .ok (.iload_n 1, 1) := by decide +kernel
theorem d_M_step_22 : decode b_M_step 22 = .ok (.iaload, 1) := by decide +kernel
theorem d_M_step_23 : decode b_M_step 23 = .ok (.if_icmp .lt 5, 3) := by decide +kernel
theorem d_M_step_26 : decode b_M_step 26 = .ok (.iconst 4, 1) := by decide +kernel
theorem d_M_step_27 : decode b_M_step 27 = .ok (.ireturn, 1) := by decide +kernel
theorem d_M_step_28 : decode b_M_step 28 = .ok (.aload_n 0, 1) := by decide +kernel
theorem d_M_step_29 : decode b_M_step 29 = .ok (.getfield 39, 3) := by decide +kernel
theorem d_M_step_32 : decode b_M_step 32 = .ok (.bipush 16, 2) := by decide +kernel
theorem d_M_step_34 : decode b_M_step 34 = .ok (.iload_n 1, 1) := by decide +kernel
theorem d_M_step_35 : decode b_M_step 35 = .ok (.imul, 1) := by decide +kernel
theorem d_M_step_36 : decode b_M_step 36 = .ok (.aload_n 0, 1) := by decide +kernel
theorem d_M_step_37 : decode b_M_step 37 = .ok (.getfield 100, 3) := by decide +kernel
theorem d_M_step_40 : decode b_M_step 40 = .ok (.iadd, 1) := by decide +kernel
theorem d_M_step_41 : decode b_M_step 41 = .ok (.iaload, 1) := by decide +kernel
theorem d_M_step_42 : decode b_M_step 42 = .ok (.istore_n 2, 1) := by decide +kernel
theorem d_M_step_43 : decode b_M_step 43 = .ok (.aload_n 0, 1) := by decide +kernel
theorem d_M_step_44 : decode b_M_step 44 = .ok (.getfield 42, 3) := by decide +kernel
theorem d_M_step_47 : decode b_M_step 47 = .ok (.bipush 16, 2) := by decide +kernel
theorem d_M_step_49 : decode b_M_step 49 = .ok (.iload_n 1, 1) := by decide +kernel
theorem d_M_step_50 : decode b_M_step 50 = .ok (.imul, 1) := by decide +kernel
theorem d_M_step_51 : decode b_M_step 51 = .ok (.aload_n 0, 1) := by decide +kernel
theorem d_M_step_52 : decode b_M_step 52 = .ok (.getfield 100, 3) := by decide +kernel
theorem d_M_step_55 : decode b_M_step 55 = .ok (.iadd, 1) := by decide +kernel
theorem d_M_step_56 : decode b_M_step 56 = .ok (.iaload, 1) := by decide +kernel
theorem d_M_step_57 : decode b_M_step 57 = .ok (.istore_n 3, 1) := by decide +kernel
theorem d_M_step_58 : decode b_M_step 58 = .ok (.aload_n 0, 1) := by decide +kernel
theorem d_M_step_59 : decode b_M_step 59 = .ok (.dup, 1) := by decide +kernel
theorem d_M_step_60 : decode b_M_step 60 = .ok (.getfield 97, 3) := by decide +kernel
theorem d_M_step_63 : decode b_M_step 63 = .ok (.iconst 1, 1) := by decide +kernel
theorem d_M_step_64 : decode b_M_step 64 = .ok (.iadd, 1) := by decide +kernel
theorem d_M_step_65 : decode b_M_step 65 = .ok (.putfield 97, 3) := by decide +kernel
theorem d_M_step_68 : decode b_M_step 68 = .ok (.aload_n 0, 1) := by decide +kernel
theorem d_M_step_69 : decode b_M_step 69 = .ok (.dup, 1) := by decide +kernel
theorem d_M_step_70 : decode b_M_step 70 = .ok (.getfield 100, 3) := by decide +kernel
theorem d_M_step_73 : decode b_M_step 73 = .ok (.iconst 1, 1) := by decide +kernel
theorem d_M_step_74 : decode b_M_step 74 = .ok (.iadd, 1) := by decide +kernel
theorem d_M_step_75 : decode b_M_step 75 = .ok (.putfield 100, 3) := by decide +kernel
theorem d_M_step_78 : decode b_M_step 78 = .ok (.aload_n 0, 1) := by decide +kernel
theorem d_M_step_79 : decode b_M_step 79 = .ok (.getfield 103, 3) := by decide +kernel
theorem d_M_step_82 : decode b_M_step 82 = .ok (.iload_n 2, 1) := by decide +kernel
theorem d_M_step_83 : decode b_M_step 83 = .ok (.invokestatic 106, 3) := by decide +kernel
theorem d_M_step_86 : decode b_M_step 86 = .ok (.if_icmp .ge 5, 3) := by decide +kernel
theorem d_M_step_89 : decode b_M_step 89 = .ok (.iconst 3, 1) := by decide +kernel
theorem d_M_step_90 : decode b_M_step 90 = .ok (.ireturn, 1) := by decide +kernel
theorem d_M_step_91 : decode b_M_step 91 = .ok (.iload_n 2, 1) := by decide +kernel
theorem d_M_step_92 : decode b_M_step 92 = .ok (.invokestatic 106, 3) := by decide +kernel
theorem d_M_step_95 : decode b_M_step 95 = .ok (.ifCond .le 17, 3) := by decide +kernel
theorem d_M_step_98 : decode b_M_step 98 = .ok (.aload_n 0, 1) := by decide +kernel
theorem d_M_step_99 : decode b_M_step 99 = .ok (.getfield 63, 3) := by decide +kernel
theorem d_M_step_102 : decode b_M_step 102 = .ok (.aload_n 0, 1) := by decide +kernel
theorem d_M_step_103 : decode b_M_step 103 = .ok (.getfield 103, 3) := by decide +kernel
theorem d_M_step_106 : decode b_M_step 106 = .ok (.iconst 1, 1) := by decide +kernel
theorem d_M_step_107 : decode b_M_step 107 = .ok (.isub, 1) := by decide +kernel
theorem d_M_step_108 : decode b_M_step 108 = .ok (.laload, 1) := by decide +kernel
theorem d_M_step_109 : decode b_M_step 109 = .ok (.goto 4, 3) := by decide +kernel
theorem d_M_step_112 : decode b_M_step 112 = .ok (.lconst 0, 1) := by decide +kernel
theorem d_M_step_113 : decode b_M_step 113 = .ok (.lstore 4, 2) := by decide +kernel
theorem d_M_step_115 : decode b_M_step 115 = .ok (.iload_n 2, 1) := by decide +kernel
theorem d_M_step_116 : decode b_M_step 116 = .ok (.invokestatic 106, 3) := by decide +kernel
theorem d_M_step_119 : decode b_M_step 119 = .ok (.iconst 1, 1) := by decide +kernel
theorem d_M_step_120 : decode b_M_step 120 = .ok (.if_icmp .le 17, 3) := by decide +kernel
theorem d_M_step_123 : decode b_M_step 123 = .ok (.aload_n 0, 1) := by decide +kernel
theorem d_M_step_124 : decode b_M_step 124 = .ok (.getfield 63, 3) := by decide +kernel
theorem d_M_step_127 : decode b_M_step 127 = .ok (.aload_n 0, 1) := by decide +kernel
theorem d_M_step_128 : decode b_M_step 128 = .ok (.getfield 103, 3) := by decide +kernel
theorem d_M_step_131 : decode b_M_step 131 = .ok (.iconst 2, 1) := by decide +kernel
theorem d_M_step_132 : decode b_M_step 132 = .ok (.isub, 1) := by decide +kernel
theorem d_M_step_133 : decode b_M_step 133 = .ok (.laload, 1) := by decide +kernel
theorem d_M_step_134 : decode b_M_step 134 = .ok (.goto 4, 3) := by decide +kernel
theorem d_M_step_137 : decode b_M_step 137 = .ok (.lconst 0, 1) := by decide +kernel
theorem d_M_step_138 : decode b_M_step 138 = .ok (.lstore 6, 2) := by decide +kernel
theorem d_M_step_140 : decode b_M_step 140 = .ok (.iload_n 2, 1) := by decide +kernel
theorem d_M_step_141 : decode b_M_step 141 = .ok (.iconst 5, 1) := by decide +kernel
theorem d_M_step_142 : decode b_M_step 142 = .ok (.if_icmp .ne 12, 3) := by decide +kernel
theorem d_M_step_145 : decode b_M_step 145 = .ok (.lload 4, 2) := by decide +kernel
theorem d_M_step_147 : decode b_M_step 147 = .ok (.lconst 0, 1) := by decide +kernel
theorem d_M_step_148 : decode b_M_step 148 = .ok (.lcmp, 1) := by decide +kernel
theorem d_M_step_149 : decode b_M_step 149 = .ok (.ifCond .ne 5, 3) := by decide +kernel
theorem d_M_step_152 : decode b_M_step 152 = .ok (.iconst 2, 1) := by decide +kernel
theorem d_M_step_153 : decode b_M_step 153 = .ok (.ireturn, 1) := by decide +kernel
theorem d_M_step_154 : decode b_M_step 154 = .ok (.aload_n 0, 1) := by decide +kernel
theorem d_M_step_155 : decode b_M_step 155 = .ok (.dup, 1) := by decide +kernel
theorem d_M_step_156 : decode b_M_step 156 = .ok (.getfield 103, 3) := by decide +kernel
theorem d_M_step_159 : decode b_M_step 159 = .ok (.iload_n 2, 1) := by decide +kernel
theorem d_M_step_160 : decode b_M_step 160 = .ok (.bipush 7, 2) := by decide +kernel
theorem d_M_step_162 : decode b_M_step 162 = .ok (.if_icmp .ne 7, 3) := by decide +kernel
theorem d_M_step_165 : decode b_M_step 165 = .ok (.iconst 0, 1) := by decide +kernel
theorem d_M_step_166 : decode b_M_step 166 = .ok (.goto 7, 3) := by decide +kernel
theorem d_M_step_169 : decode b_M_step 169 = .ok (.iload_n 2, 1) := by decide +kernel
theorem d_M_step_170 : decode b_M_step 170 = .ok (.invokestatic 106, 3) := by decide +kernel
theorem d_M_step_173 : decode b_M_step 173 = .ok (.isub, 1) := by decide +kernel
theorem d_M_step_174 : decode b_M_step 174 = .ok (.putfield 103, 3) := by decide +kernel
theorem d_M_step_177 : decode b_M_step 177 = .ok (.iload_n 2, 1) := by decide +kernel
theorem d_M_step_178 : decode b_M_step 178 = .ok (.bipush 9, 2) := by decide +kernel
theorem d_M_step_180 : decode b_M_step 180 = .ok (.if_icmp .ne 11, 3) := by decide +kernel
theorem d_M_step_183 : decode b_M_step 183 = .ok (.aload_n 0, 1) := by decide +kernel
theorem d_M_step_184 : decode b_M_step 184 = .ok (.lload 4, 2) := by decide +kernel
theorem d_M_step_186 : decode b_M_step 186 = .ok (.putfield 110, 3) := by decide +kernel
theorem d_M_step_189 : decode b_M_step 189 = .ok (.iconst (-1), 1) := by decide +kernel
theorem d_M_step_190 : decode b_M_step 190 = .ok (.ireturn, 1) := by decide +kernel
theorem d_M_step_191 : decode b_M_step 191 = .ok (.iload_n 2, 1) := by decide +kernel
theorem d_M_step_192 : decode b_M_step 192 = .ok (.bipush 8, 2) := by decide +kernel
theorem d_M_step_194 : decode b_M_step 194 = .ok (.if_icmp .ne 17, 3) := by decide +kernel
theorem d_M_step_197 : decode b_M_step 197 = .ok (.lload 4, 2) := by decide +kernel
theorem d_M_step_199 : decode b_M_step 199 = .ok (.lconst 0, 1) := by decide +kernel
theorem d_M_step_200 : decode b_M_step 200 = .ok (.lcmp, 1) := by decide +kernel
theorem d_M_step_201 : decode b_M_step 201 = .ok (.ifCond .ne 8, 3) := by decide +kernel
theorem d_M_step_204 : decode b_M_step 204 = .ok (.aload_n 0, 1) := by decide +kernel
theorem d_M_step_205 : decode b_M_step 205 = .ok (.iload_n 3, 1) := by decide +kernel
theorem d_M_step_206 : decode b_M_step 206 = .ok (.putfield 100, 3) := by decide +kernel
theorem d_M_step_209 : decode b_M_step 209 = .ok (.iconst 0, 1) := by decide +kernel
theorem d_M_step_210 : decode b_M_step 210 = .ok (.ireturn, 1) := by decide +kernel
theorem d_M_step_211 : decode b_M_step 211 = .ok (.aload_n 0, 1) := by decide +kernel
theorem d_M_step_212 : decode b_M_step 212 = .ok (.iload_n 1, 1) := by decide +kernel
theorem d_M_step_213 : decode b_M_step 213 = .ok (.iload_n 2, 1) := by decide +kernel
theorem d_M_step_214 : decode b_M_step 214 = .ok (.iload_n 3, 1) := by decide +kernel
theorem d_M_step_215 : decode b_M_step 215 = .ok (.lload 6, 2) := by decide +kernel
theorem d_M_step_217 : decode b_M_step 217 = .ok (.lload 4, 2) := by decide +kernel
theorem d_M_step_219 : decode b_M_step 219 = .ok (.invokevirtual 114, 3) := by decide +kernel
theorem d_M_step_222 : decode b_M_step 222 = .ok (.lstore 8, 2) := by decide +kernel
theorem d_M_step_224 : decode b_M_step 224 = .ok (.lload 8, 2) := by decide +kernel
theorem d_M_step_226 : decode b_M_step 226 = .ok (.ldc2_w 118, 3) := by decide +kernel
theorem d_M_step_229 : decode b_M_step 229 = .ok (.lcmp, 1) := by decide +kernel
theorem d_M_step_230 : decode b_M_step 230 = .ok (.ifCond .lt 12, 3) := by decide +kernel
theorem d_M_step_233 : decode b_M_step 233 = .ok (.lload 8, 2) := by decide +kernel
theorem d_M_step_235 : decode b_M_step 235 = .ok (.ldc2_w 120, 3) := by decide +kernel
theorem d_M_step_238 : decode b_M_step 238 = .ok (.lcmp, 1) := by decide +kernel
theorem d_M_step_239 : decode b_M_step 239 = .ok (.ifCond .le 5, 3) := by decide +kernel
theorem d_M_step_242 : decode b_M_step 242 = .ok (.iconst 5, 1) := by decide +kernel
theorem d_M_step_243 : decode b_M_step 243 = .ok (.ireturn, 1) := by decide +kernel
theorem d_M_step_244 : decode b_M_step 244 = .ok (.aload_n 0, 1) := by decide +kernel
theorem d_M_step_245 : decode b_M_step 245 = .ok (.getfield 103, 3) := by decide +kernel
theorem d_M_step_248 : decode b_M_step 248 = .ok (.bipush 8, 2) := by decide +kernel
theorem d_M_step_250 : decode b_M_step 250 = .ok (.if_icmp .ne 5, 3) := by decide +kernel
theorem d_M_step_253 : decode b_M_step 253 = .ok (.iconst 3, 1) := by decide +kernel
theorem d_M_step_254 : decode b_M_step 254 = .ok (.ireturn, 1) := by decide +kernel
theorem d_M_step_255 : decode b_M_step 255 = .ok (.aload_n 0, 1) := by decide +kernel
theorem d_M_step_256 : decode b_M_step 256 = .ok (.getfield 63, 3) := by decide +kernel
theorem d_M_step_259 : decode b_M_step 259 = .ok (.aload_n 0, 1) := by decide +kernel
theorem d_M_step_260 : decode b_M_step 260 = .ok (.getfield 103, 3) := by decide +kernel
theorem d_M_step_263 : decode b_M_step 263 = .ok (.lload 8, 2) := by decide +kernel
theorem d_M_step_265 : decode b_M_step 265 = .ok (.lastore, 1) := by decide +kernel
theorem d_M_step_266 : decode b_M_step 266 = .ok (.aload_n 0, 1) := by decide +kernel
theorem d_M_step_267 : decode b_M_step 267 = .ok (.dup, 1) := by decide +kernel
theorem d_M_step_268 : decode b_M_step 268 = .ok (.getfield 103, 3) := by decide +kernel
theorem d_M_step_271 : decode b_M_step 271 = .ok (.iconst 1, 1) := by decide +kernel
theorem d_M_step_272 : decode b_M_step 272 = .ok (.iadd, 1) := by decide +kernel
theorem d_M_step_273 : decode b_M_step 273 = .ok (.putfield 103, 3) := by decide +kernel
theorem d_M_step_276 : decode b_M_step 276 = .ok (.iconst 0, 1) := by decide +kernel
theorem d_M_step_277 : decode b_M_step 277 = .ok (.ireturn, 1) := by decide +kernel
theorem d_M_takes_0 : decode b_M_takes 0 = .ok (.iload_n 0, 1) := by decide +kernel
theorem d_M_takes_1 : decode b_M_takes 1 = .ok (.iconst 2, 1) := by decide +kernel
theorem d_M_takes_2 : decode b_M_takes 2 = .ok (.if_icmp .lt 13, 3) := by decide +kernel
theorem d_M_takes_5 : decode b_M_takes 5 = .ok (.iload_n 0, 1) := by decide +kernel
theorem d_M_takes_6 : decode b_M_takes 6 = .ok (.bipush 6, 2) := by decide +kernel
theorem d_M_takes_8 : decode b_M_takes 8 = .ok (.if_icmp .gt 7, 3) := by decide +kernel
theorem d_M_takes_11 : decode b_M_takes 11 = .ok (.iconst 2, 1) := by decide +kernel
theorem d_M_takes_12 : decode b_M_takes 12 = .ok (.goto 20, 3) := by decide +kernel
theorem d_M_takes_15 : decode b_M_takes 15 = .ok (.iload_n 0, 1) := by decide +kernel
theorem d_M_takes_16 : decode b_M_takes 16 = .ok (.bipush 7, 2) := by decide +kernel
theorem d_M_takes_18 : decode b_M_takes 18 = .ok (.if_icmp .lt 13, 3) := by decide +kernel
theorem d_M_takes_21 : decode b_M_takes 21 = .ok (.iload_n 0, 1) := by decide +kernel
theorem d_M_takes_22 : decode b_M_takes 22 = .ok (.bipush 9, 2) := by decide +kernel
theorem d_M_takes_24 : decode b_M_takes 24 = .ok (.if_icmp .gt 7, 3) := by decide +kernel
theorem d_M_takes_27 : decode b_M_takes 27 = .ok (.iconst 1, 1) := by decide +kernel
theorem d_M_takes_28 : decode b_M_takes 28 = .ok (.goto 4, 3) := by decide +kernel
theorem d_M_takes_31 : decode b_M_takes 31 = .ok (.iconst 0, 1) := by decide +kernel
theorem d_M_takes_32 : decode b_M_takes 32 = .ok (.ireturn, 1) := by decide +kernel
theorem d_M_valueOf_0 : decode b_M_valueOf 0 = .ok (.iload_n 2, 1) := by decide +kernel
theorem d_M_valueOf_1 : decode b_M_valueOf 1 = .ok (.tableswitch 99 0 7 #[47, 50, 58, 64, 70, 76, 82, 96], 47) := by decide +kernel
theorem d_M_valueOf_48 : decode b_M_valueOf 48 = .ok (.iload_n 3, 1) := by decide +kernel
theorem d_M_valueOf_49 : decode b_M_valueOf 49 = .ok (.i2l, 1) := by decide +kernel
theorem d_M_valueOf_50 : decode b_M_valueOf 50 = .ok (.lreturn, 1) := by decide +kernel
theorem d_M_valueOf_51 : decode b_M_valueOf 51 = .ok (.aload_n 0, 1) := by decide +kernel
theorem d_M_valueOf_52 : decode b_M_valueOf 52 = .ok (.getfield 67, 3) := by decide +kernel
theorem d_M_valueOf_55 : decode b_M_valueOf 55 = .ok (.iload_n 3, 1) := by decide +kernel
theorem d_M_valueOf_56 : decode b_M_valueOf 56 = .ok (.iaload, 1) := by decide +kernel
theorem d_M_valueOf_57 : decode b_M_valueOf 57 = .ok (.i2l, 1) := by decide +kernel
theorem d_M_valueOf_58 : decode b_M_valueOf 58 = .ok (.lreturn, 1) := by decide +kernel
theorem d_M_valueOf_59 : decode b_M_valueOf 59 = .ok (.lload 4, 2) := by decide +kernel
theorem d_M_valueOf_61 : decode b_M_valueOf 61 = .ok (.lload 6, 2) := by decide +kernel
theorem d_M_valueOf_63 : decode b_M_valueOf 63 = .ok (.ladd, 1) := by decide +kernel
theorem d_M_valueOf_64 : decode b_M_valueOf 64 = .ok (.lreturn, 1) := by decide +kernel
theorem d_M_valueOf_65 : decode b_M_valueOf 65 = .ok (.lload 4, 2) := by decide +kernel
theorem d_M_valueOf_67 : decode b_M_valueOf 67 = .ok (.lload 6, 2) := by decide +kernel
theorem d_M_valueOf_69 : decode b_M_valueOf 69 = .ok (.lsub, 1) := by decide +kernel
theorem d_M_valueOf_70 : decode b_M_valueOf 70 = .ok (.lreturn, 1) := by decide +kernel
theorem d_M_valueOf_71 : decode b_M_valueOf 71 = .ok (.lload 4, 2) := by decide +kernel
theorem d_M_valueOf_73 : decode b_M_valueOf 73 = .ok (.lload 6, 2) := by decide +kernel
theorem d_M_valueOf_75 : decode b_M_valueOf 75 = .ok (.lmul, 1) := by decide +kernel
theorem d_M_valueOf_76 : decode b_M_valueOf 76 = .ok (.lreturn, 1) := by decide +kernel
theorem d_M_valueOf_77 : decode b_M_valueOf 77 = .ok (.lload 4, 2) := by decide +kernel
theorem d_M_valueOf_79 : decode b_M_valueOf 79 = .ok (.lload 6, 2) := by decide +kernel
theorem d_M_valueOf_81 : decode b_M_valueOf 81 = .ok (.ldiv, 1) := by decide +kernel
theorem d_M_valueOf_82 : decode b_M_valueOf 82 = .ok (.lreturn, 1) := by decide +kernel
theorem d_M_valueOf_83 : decode b_M_valueOf 83 = .ok (.lload 4, 2) := by decide +kernel
theorem d_M_valueOf_85 : decode b_M_valueOf 85 = .ok (.lload 6, 2) := by decide +kernel
theorem d_M_valueOf_87 : decode b_M_valueOf 87 = .ok (.lcmp, 1) := by decide +kernel
theorem d_M_valueOf_88 : decode b_M_valueOf 88 = .ok (.ifCond .ge 7, 3) := by decide +kernel
theorem d_M_valueOf_91 : decode b_M_valueOf 91 = .ok (.lconst 1, 1) := by decide +kernel
theorem d_M_valueOf_92 : decode b_M_valueOf 92 = .ok (.goto 4, 3) := by decide +kernel
theorem d_M_valueOf_95 : decode b_M_valueOf 95 = .ok (.lconst 0, 1) := by decide +kernel
theorem d_M_valueOf_96 : decode b_M_valueOf 96 = .ok (.lreturn, 1) := by decide +kernel
theorem d_M_valueOf_97 : decode b_M_valueOf 97 = .ok (.lload 6, 2) := by decide +kernel
theorem d_M_valueOf_99 : decode b_M_valueOf 99 = .ok (.lreturn, 1) := by decide +kernel
theorem d_M_valueOf_100 : decode b_M_valueOf 100 = .ok (.aload_n 0, 1) := by decide +kernel
theorem d_M_valueOf_101 : decode b_M_valueOf 101 = .ok (.getfield 27, 3) := by decide +kernel
theorem d_M_valueOf_104 : decode b_M_valueOf 104 = .ok (.iload_n 1, 1) := by decide +kernel
theorem d_M_valueOf_105 : decode b_M_valueOf 105 = .ok (.iaload, 1) := by decide +kernel
theorem d_M_valueOf_106 : decode b_M_valueOf 106 = .ok (.i2l, 1) := by decide +kernel
theorem d_M_valueOf_107 : decode b_M_valueOf 107 = .ok (.lreturn, 1) := by decide +kernel
theorem d_M_fact_0 : decode b_M_fact 0 = .ok (.aload_n 0, 1) := by decide +kernel
theorem d_M_fact_1 : decode b_M_fact 1 = .ok (.iload_n 1, 1) := by decide +kernel
theorem d_M_fact_2 : decode b_M_fact 2 = .ok (.iconst 0, 1) := by decide +kernel
theorem d_M_fact_3 : decode b_M_fact 3 = .ok (.bipush 7, 2) := by decide +kernel
theorem d_M_fact_5 : decode b_M_fact 5 = .ok (.invokestatic 79, 3) := by decide +kernel
theorem d_M_fact_8 : decode b_M_fact 8 = .ok (.ifCond .eq 20, 3) := by decide +kernel
theorem d_M_fact_11 : decode b_M_fact 11 = .ok (.iload_n 2, 1) := by decide +kernel
theorem d_M_fact_12 : decode b_M_fact 12 = .ok (.sipush (-10000), 3) := by decide +kernel
theorem d_M_fact_15 : decode b_M_fact 15 = .ok (.sipush 10000, 3) := by decide +kernel
theorem d_M_fact_18 : decode b_M_fact 18 = .ok (.invokestatic 79, 3) := by decide +kernel
theorem d_M_fact_21 : decode b_M_fact 21 = .ok (.ifCond .eq 7, 3) := by decide +kernel
theorem d_M_fact_24 : decode b_M_fact 24 = .ok (.iconst 0, 1) := by decide +kernel
theorem d_M_fact_25 : decode b_M_fact 25 = .ok (.goto 4, 3) := by decide +kernel
theorem d_M_fact_28 : decode b_M_fact 28 = .ok (.iconst 1, 1) := by decide +kernel
theorem d_M_fact_29 : decode b_M_fact 29 = .ok (.putfield 73, 3) := by decide +kernel
theorem d_M_fact_32 : decode b_M_fact 32 = .ok (.aload_n 0, 1) := by decide +kernel
theorem d_M_fact_33 : decode b_M_fact 33 = .ok (.getfield 73, 3) := by decide +kernel
theorem d_M_fact_36 : decode b_M_fact 36 = .ok (.ifCond .ne 10, 3) := by decide +kernel
theorem d_M_fact_39 : decode b_M_fact 39 = .ok (.aload_n 0, 1) := by decide +kernel
theorem d_M_fact_40 : decode b_M_fact 40 = .ok (.getfield 45, 3) := by decide +kernel
theorem d_M_fact_43 : decode b_M_fact 43 = .ok (.iload_n 1, 1) := by decide +kernel
theorem d_M_fact_44 : decode b_M_fact 44 = .ok (.iload_n 2, 1) := by decide +kernel
theorem d_M_fact_45 : decode b_M_fact 45 = .ok (.iastore, 1) := by decide +kernel
theorem d_M_fact_46 : decode b_M_fact 46 = .ok (.return_, 1) := by decide +kernel
theorem d_M_ask_0 : decode b_M_ask 0 = .ok (.aload_n 0, 1) := by decide +kernel
theorem d_M_ask_1 : decode b_M_ask 1 = .ok (.iload_n 1, 1) := by decide +kernel
theorem d_M_ask_2 : decode b_M_ask 2 = .ok (.iload_n 2, 1) := by decide +kernel
theorem d_M_ask_3 : decode b_M_ask 3 = .ok (.invokestatic 86, 3) := by decide +kernel
theorem d_M_ask_6 : decode b_M_ask 6 = .ok (.ifCond .eq 7, 3) := by decide +kernel
theorem d_M_ask_9 : decode b_M_ask 9 = .ok (.iconst 0, 1) := by decide +kernel
theorem d_M_ask_10 : decode b_M_ask 10 = .ok (.goto 4, 3) := by decide +kernel
theorem d_M_ask_13 : decode b_M_ask 13 = .ok (.iconst 1, 1) := by decide +kernel
theorem d_M_ask_14 : decode b_M_ask 14 = .ok (.putfield 73, 3) := by decide +kernel
theorem d_M_ask_17 : decode b_M_ask 17 = .ok (.aload_n 0, 1) := by decide +kernel
theorem d_M_ask_18 : decode b_M_ask 18 = .ok (.getfield 73, 3) := by decide +kernel
theorem d_M_ask_21 : decode b_M_ask 21 = .ok (.ifCond .eq 5, 3) := by decide +kernel
theorem d_M_ask_24 : decode b_M_ask 24 = .ok (.iconst 0, 1) := by decide +kernel
theorem d_M_ask_25 : decode b_M_ask 25 = .ok (.ireturn, 1) := by decide +kernel
theorem d_M_ask_26 : decode b_M_ask 26 = .ok (.aload_n 0, 1) := by decide +kernel
theorem d_M_ask_27 : decode b_M_ask 27 = .ok (.iconst (-1), 1) := by decide +kernel
theorem d_M_ask_28 : decode b_M_ask 28 = .ok (.putfield 9, 3) := by decide +kernel
theorem d_M_ask_31 : decode b_M_ask 31 = .ok (.aload_n 0, 1) := by decide +kernel
theorem d_M_ask_32 : decode b_M_ask 32 = .ok (.dup, 1) := by decide +kernel
theorem d_M_ask_33 : decode b_M_ask 33 = .ok (.getfield 131, 3) := by decide +kernel
theorem d_M_ask_36 : decode b_M_ask 36 = .ok (.iconst 1, 1) := by decide +kernel
theorem d_M_ask_37 : decode b_M_ask 37 = .ok (.iadd, 1) := by decide +kernel
theorem d_M_ask_38 : decode b_M_ask 38 = .ok (.putfield 131, 3) := by decide +kernel
theorem d_M_ask_41 : decode b_M_ask 41 = .ok (.aload_n 0, 1) := by decide +kernel
theorem d_M_ask_42 : decode b_M_ask 42 = .ok (.invokevirtual 125, 3) := by decide +kernel
theorem d_M_ask_45 : decode b_M_ask 45 = .ok (.aload_n 0, 1) := by decide +kernel
theorem d_M_ask_46 : decode b_M_ask 46 = .ok (.iload_n 1, 1) := by decide +kernel
theorem d_M_ask_47 : decode b_M_ask 47 = .ok (.iload_n 2, 1) := by decide +kernel
theorem d_M_ask_48 : decode b_M_ask 48 = .ok (.aload_n 0, 1) := by decide +kernel
theorem d_M_ask_49 : decode b_M_ask 49 = .ok (.getfield 83, 3) := by decide +kernel
theorem d_M_ask_52 : decode b_M_ask 52 = .ok (.invokevirtual 134, 3) := by decide +kernel
theorem d_M_ask_55 : decode b_M_ask 55 = .ok (.istore_n 3, 1) := by decide +kernel
theorem d_M_ask_56 : decode b_M_ask 56 = .ok (.aload_n 0, 1) := by decide +kernel
theorem d_M_ask_57 : decode b_M_ask 57 = .ok (.getfield 51, 3) := by decide +kernel
theorem d_M_ask_60 : decode b_M_ask 60 = .ok (.iload_n 2, 1) := by decide +kernel
theorem d_M_ask_61 : decode b_M_ask 61 = .ok (.iaload, 1) := by decide +kernel
theorem d_M_ask_62 : decode b_M_ask 62 = .ok (.istore 4, 2) := by decide +kernel
theorem d_M_ask_64 : decode b_M_ask 64 = .ok (.iload_n 3, 1) := by decide +kernel
theorem d_M_ask_65 : decode b_M_ask 65 = .ok (.iconst (-1), 1) := by decide +kernel
theorem d_M_ask_66 : decode b_M_ask 66 = .ok (.if_icmp .ne 19, 3) := by decide +kernel
theorem d_M_ask_69 : decode b_M_ask 69 = .ok (.aload_n 0, 1) := by decide +kernel
theorem d_M_ask_70 : decode b_M_ask 70 = .ok (.getfield 54, 3) := by decide +kernel
theorem d_M_ask_73 : decode b_M_ask 73 = .ok (.bipush 6, 2) := by decide +kernel
theorem d_M_ask_75 : decode b_M_ask 75 = .ok (.iload_n 1, 1) := by decide +kernel
theorem d_M_ask_76 : decode b_M_ask 76 = .ok (.imul, 1) := by decide +kernel
theorem d_M_ask_77 : decode b_M_ask 77 = .ok (.dup2, 1) := by decide +kernel
theorem d_M_ask_78 : decode b_M_ask 78 = .ok (.iaload, 1) := by decide +kernel
theorem d_M_ask_79 : decode b_M_ask 79 = .ok (.iconst 1, 1) := by decide +kernel
theorem d_M_ask_80 : decode b_M_ask 80 = .ok (.iadd, 1) := by decide +kernel
theorem d_M_ask_81 : decode b_M_ask 81 = .ok (.iastore, 1) := by decide +kernel
theorem d_M_ask_82 : decode b_M_ask 82 = .ok (.goto 12, 3) := by decide +kernel
theorem d_M_ask_85 : decode b_M_ask 85 = .ok (.aload_n 0, 1) := by decide +kernel
theorem d_M_ask_86 : decode b_M_ask 86 = .ok (.iload_n 1, 1) := by decide +kernel
theorem d_M_ask_87 : decode b_M_ask 87 = .ok (.iload_n 2, 1) := by decide +kernel
theorem d_M_ask_88 : decode b_M_ask 88 = .ok (.iload_n 3, 1) := by decide +kernel
theorem d_M_ask_89 : decode b_M_ask 89 = .ok (.invokevirtual 138, 3) := by decide +kernel
theorem d_M_ask_92 : decode b_M_ask 92 = .ok (.istore 4, 2) := by decide +kernel
theorem d_M_ask_94 : decode b_M_ask 94 = .ok (.aload_n 0, 1) := by decide +kernel
theorem d_M_ask_95 : decode b_M_ask 95 = .ok (.getfield 57, 3) := by decide +kernel
theorem d_M_ask_98 : decode b_M_ask 98 = .ok (.iconst 3, 1) := by decide +kernel
theorem d_M_ask_99 : decode b_M_ask 99 = .ok (.iload_n 1, 1) := by decide +kernel
theorem d_M_ask_100 : decode b_M_ask 100 = .ok (.imul, 1) := by decide +kernel
theorem d_M_ask_101 : decode b_M_ask 101 = .ok (.iload_n 2, 1) := by decide +kernel
theorem d_M_ask_102 : decode b_M_ask 102 = .ok (.iadd, 1) := by decide +kernel
theorem d_M_ask_103 : decode b_M_ask 103 = .ok (.iaload, 1) := by decide +kernel
theorem d_M_ask_104 : decode b_M_ask 104 = .ok (.istore 5, 2) := by decide +kernel
theorem d_M_ask_106 : decode b_M_ask 106 = .ok (.iload 5, 2) := by decide +kernel
theorem d_M_ask_108 : decode b_M_ask 108 = .ok (.iconst (-1), 1) := by decide +kernel
theorem d_M_ask_109 : decode b_M_ask 109 = .ok (.if_icmp .eq 37, 3) := by decide +kernel
theorem d_M_ask_112 : decode b_M_ask 112 = .ok (.aload_n 0, 1) := by decide +kernel
theorem d_M_ask_113 : decode b_M_ask 113 = .ok (.iload 5, 2) := by decide +kernel
theorem d_M_ask_115 : decode b_M_ask 115 = .ok (.invokevirtual 128, 3) := by decide +kernel
theorem d_M_ask_118 : decode b_M_ask 118 = .ok (.ifCond .ne 14, 3) := by decide +kernel
theorem d_M_ask_121 : decode b_M_ask 121 = .ok (.aload_n 0, 1) := by decide +kernel
theorem d_M_ask_122 : decode b_M_ask 122 = .ok (.getfield 110, 3) := by decide +kernel
theorem d_M_ask_125 : decode b_M_ask 125 = .ok (.iload 4, 2) := by decide +kernel
theorem d_M_ask_127 : decode b_M_ask 127 = .ok (.i2l, 1) := by decide +kernel
theorem d_M_ask_128 : decode b_M_ask 128 = .ok (.lcmp, 1) := by decide +kernel
theorem d_M_ask_129 : decode b_M_ask 129 = .ok (.ifCond .eq 17, 3) := by decide +kernel
theorem d_M_ask_132 : decode b_M_ask 132 = .ok (.aload_n 0, 1) := by decide +kernel
theorem d_M_ask_133 : decode b_M_ask 133 = .ok (.getfield 60, 3) := by decide +kernel
theorem d_M_ask_136 : decode b_M_ask 136 = .ok (.iconst 3, 1) := by decide +kernel
theorem d_M_ask_137 : decode b_M_ask 137 = .ok (.iload_n 1, 1) := by decide +kernel
theorem d_M_ask_138 : decode b_M_ask 138 = .ok (.imul, 1) := by decide +kernel
theorem d_M_ask_139 : decode b_M_ask 139 = .ok (.iload_n 2, 1) := by decide +kernel
theorem d_M_ask_140 : decode b_M_ask 140 = .ok (.iadd, 1) := by decide +kernel
theorem d_M_ask_141 : decode b_M_ask 141 = .ok (.dup2, 1) := by decide +kernel
theorem d_M_ask_142 : decode b_M_ask 142 = .ok (.iaload, 1) := by decide +kernel
theorem d_M_ask_143 : decode b_M_ask 143 = .ok (.iconst 1, 1) := by decide +kernel
theorem d_M_ask_144 : decode b_M_ask 144 = .ok (.iadd, 1) := by decide +kernel
theorem d_M_ask_145 : decode b_M_ask 145 = .ok (.iastore, 1) := by decide +kernel
theorem d_M_ask_146 : decode b_M_ask 146 = .ok (.iload_n 3, 1) := by decide +kernel
theorem d_M_ask_147 : decode b_M_ask 147 = .ok (.iconst (-1), 1) := by decide +kernel
theorem d_M_ask_148 : decode b_M_ask 148 = .ok (.if_icmp .eq 13, 3) := by decide +kernel
theorem d_M_ask_151 : decode b_M_ask 151 = .ok (.aload_n 0, 1) := by decide +kernel
theorem d_M_ask_152 : decode b_M_ask 152 = .ok (.getfield 27, 3) := by decide +kernel
theorem d_M_ask_155 : decode b_M_ask 155 = .ok (.iload_n 3, 1) := by decide +kernel
theorem d_M_ask_156 : decode b_M_ask 156 = .ok (.dup2, 1) := by decide +kernel
theorem d_M_ask_157 : decode b_M_ask 157 = .ok (.iaload, 1) := by decide +kernel
theorem d_M_ask_158 : decode b_M_ask 158 = .ok (.iconst 1, 1) := by decide +kernel
theorem d_M_ask_159 : decode b_M_ask 159 = .ok (.iadd, 1) := by decide +kernel
theorem d_M_ask_160 : decode b_M_ask 160 = .ok (.iastore, 1) := by decide +kernel
theorem d_M_ask_161 : decode b_M_ask 161 = .ok (.iload 4, 2) := by decide +kernel
theorem d_M_ask_163 : decode b_M_ask 163 = .ok (.ireturn, 1) := by decide +kernel
theorem d_M_counts_0 : decode b_M_counts 0 = .ok (.iconst (-1), 1) := by decide +kernel
theorem d_M_counts_1 : decode b_M_counts 1 = .ok (.istore 4, 2) := by decide +kernel
theorem d_M_counts_3 : decode b_M_counts 3 = .ok (.iconst 0, 1) := by decide +kernel
theorem d_M_counts_4 : decode b_M_counts 4 = .ok (.istore 5, 2) := by decide +kernel
theorem d_M_counts_6 : decode b_M_counts 6 = .ok (.iload 5, 2) := by decide +kernel
theorem d_M_counts_8 : decode b_M_counts 8 = .ok (.aload_n 0, 1) := by decide +kernel
theorem d_M_counts_9 : decode b_M_counts 9 = .ok (.getfield 76, 3) := by decide +kernel
theorem d_M_counts_12 : decode b_M_counts 12 = .ok (.if_icmp .ge 79, 3) := by decide +kernel
theorem d_M_counts_15 : decode b_M_counts 15 = .ok (.aload_n 0, 1) := by decide +kernel
theorem d_M_counts_16 : decode b_M_counts 16 = .ok (.getfield 23, 3) := by decide +kernel
theorem d_M_counts_19 : decode b_M_counts 19 = .ok (.iload 5, 2) := by decide +kernel
theorem d_M_counts_21 : decode b_M_counts 21 = .ok (.baload, 1) := by decide +kernel
theorem d_M_counts_22 : decode b_M_counts 22 = .ok (.ifCond .eq 63, 3) := by decide +kernel
theorem d_M_counts_25 : decode b_M_counts 25 = .ok (.aload_n 0, 1) := by decide +kernel
theorem d_M_counts_26 : decode b_M_counts 26 = .ok (.getfield 13, 3) := by decide +kernel
theorem d_M_counts_29 : decode b_M_counts 29 = .ok (.iload 5, 2) := by decide +kernel
theorem d_M_counts_31 : decode b_M_counts 31 = .ok (.iaload, 1) := by decide +kernel
theorem d_M_counts_32 : decode b_M_counts 32 = .ok (.iload_n 1, 1) := by decide +kernel
theorem d_M_counts_33 : decode b_M_counts 33 = .ok (.if_icmp .ne 52, 3) := by decide +kernel
theorem d_M_counts_36 : decode b_M_counts 36 = .ok (.aload_n 0, 1) := by decide +kernel
theorem d_M_counts_37 : decode b_M_counts 37 = .ok (.getfield 17, 3) := by decide +kernel
theorem d_M_counts_40 : decode b_M_counts 40 = .ok (.iload 5, 2) := by decide +kernel
theorem d_M_counts_42 : decode b_M_counts 42 = .ok (.iaload, 1) := by decide +kernel
theorem d_M_counts_43 : decode b_M_counts 43 = .ok (.iload_n 2, 1) := by decide +kernel
theorem d_M_counts_44 : decode b_M_counts 44 = .ok (.if_icmp .ne 41, 3) := by decide +kernel
theorem d_M_counts_47 : decode b_M_counts 47 = .ok (.aload_n 0, 1) := by decide +kernel
theorem d_M_counts_48 : decode b_M_counts 48 = .ok (.getfield 20, 3) := by decide +kernel
theorem d_M_counts_51 : decode b_M_counts 51 = .ok (.iload 5, 2) := by decide +kernel
theorem d_M_counts_53 : decode b_M_counts 53 = .ok (.iaload, 1) := by decide +kernel
theorem d_M_counts_54 : decode b_M_counts 54 = .ok (.iload_n 3, 1) := by decide +kernel
theorem d_M_counts_55 : decode b_M_counts 55 = .ok (.if_icmp .gt 30, 3) := by decide +kernel
theorem d_M_counts_58 : decode b_M_counts 58 = .ok (.iload 4, 2) := by decide +kernel
theorem d_M_counts_60 : decode b_M_counts 60 = .ok (.iconst (-1), 1) := by decide +kernel
theorem d_M_counts_61 : decode b_M_counts 61 = .ok (.if_icmp .eq 20, 3) := by decide +kernel
theorem d_M_counts_64 : decode b_M_counts 64 = .ok (.aload_n 0, 1) := by decide +kernel
theorem d_M_counts_65 : decode b_M_counts 65 = .ok (.getfield 20, 3) := by decide +kernel
theorem d_M_counts_68 : decode b_M_counts 68 = .ok (.iload 5, 2) := by decide +kernel
theorem d_M_counts_70 : decode b_M_counts 70 = .ok (.iaload, 1) := by decide +kernel
theorem d_M_counts_71 : decode b_M_counts 71 = .ok (.aload_n 0, 1) := by decide +kernel
theorem d_M_counts_72 : decode b_M_counts 72 = .ok (.getfield 20, 3) := by decide +kernel
theorem d_M_counts_75 : decode b_M_counts 75 = .ok (.iload 4, 2) := by decide +kernel
theorem d_M_counts_77 : decode b_M_counts 77 = .ok (.iaload, 1) := by decide +kernel
theorem d_M_counts_78 : decode b_M_counts 78 = .ok (.if_icmp .lt 7, 3) := by decide +kernel
theorem d_M_counts_81 : decode b_M_counts 81 = .ok (.iload 5, 2) := by decide +kernel
theorem d_M_counts_83 : decode b_M_counts 83 = .ok (.istore 4, 2) := by decide +kernel
theorem d_M_counts_85 : decode b_M_counts 85 = .ok (.iinc 5 1, 3) := by decide +kernel
theorem d_M_counts_88 : decode b_M_counts 88 = .ok (.goto (-82), 3) := by decide +kernel
theorem d_M_counts_91 : decode b_M_counts 91 = .ok (.iload 4, 2) := by decide +kernel
theorem d_M_counts_93 : decode b_M_counts 93 = .ok (.ireturn, 1) := by decide +kernel
theorem d_M_askedOf_0 : decode b_M_askedOf 0 = .ok (.aload_n 0, 1) := by decide +kernel
theorem d_M_askedOf_1 : decode b_M_askedOf 1 = .ok (.iload_n 3, 1) := by decide +kernel
theorem d_M_askedOf_2 : decode b_M_askedOf 2 = .ok (.invokevirtual 128, 3) := by decide +kernel
theorem d_M_askedOf_5 : decode b_M_askedOf 5 = .ok (.istore 4, 2) := by decide +kernel
theorem d_M_askedOf_7 : decode b_M_askedOf 7 = .ok (.aload_n 0, 1) := by decide +kernel
theorem d_M_askedOf_8 : decode b_M_askedOf 8 = .ok (.getfield 30, 3) := by decide +kernel
theorem d_M_askedOf_11 : decode b_M_askedOf 11 = .ok (.iload_n 3, 1) := by decide +kernel
theorem d_M_askedOf_12 : decode b_M_askedOf 12 = .ok (.dup2, 1) := by decide +kernel
theorem d_M_askedOf_13 : decode b_M_askedOf 13 = .ok (.iaload, 1) := by decide +kernel
theorem d_M_askedOf_14 : decode b_M_askedOf 14 = .ok (.aload_n 0, 1) := by decide +kernel
theorem d_M_askedOf_15 : decode b_M_askedOf 15 = .ok (.getfield 97, 3) := by decide +kernel
theorem d_M_askedOf_18 : decode b_M_askedOf 18 = .ok (.iadd, 1) := by decide +kernel
theorem d_M_askedOf_19 : decode b_M_askedOf 19 = .ok (.iastore, 1) := by decide +kernel
theorem d_M_askedOf_20 : decode b_M_askedOf 20 = .ok (.iload 4, 2) := by decide +kernel
theorem d_M_askedOf_22 : decode b_M_askedOf 22 = .ok (.ifCond .ne 9, 3) := by decide +kernel
theorem d_M_askedOf_25 : decode b_M_askedOf 25 = .ok (.aload_n 0, 1) := by decide +kernel
theorem d_M_askedOf_26 : decode b_M_askedOf 26 = .ok (.getfield 110, 3) := by decide +kernel
theorem d_M_askedOf_29 : decode b_M_askedOf 29 = .ok (.l2i, 1) := by decide +kernel
theorem d_M_askedOf_30 : decode b_M_askedOf 30 = .ok (.ireturn, 1) := by decide +kernel
theorem d_M_askedOf_31 : decode b_M_askedOf 31 = .ok (.aload_n 0, 1) := by decide +kernel
theorem d_M_askedOf_32 : decode b_M_askedOf 32 = .ok (.getfield 33, 3) := by decide +kernel
theorem d_M_askedOf_35 : decode b_M_askedOf 35 = .ok (.iload_n 3, 1) := by decide +kernel
theorem d_M_askedOf_36 : decode b_M_askedOf 36 = .ok (.dup2, 1) := by decide +kernel
theorem d_M_askedOf_37 : decode b_M_askedOf 37 = .ok (.iaload, 1) := by decide +kernel
theorem d_M_askedOf_38 : decode b_M_askedOf 38 = .ok (.iconst 1, 1) := by decide +kernel
theorem d_M_askedOf_39 : decode b_M_askedOf 39 = .ok (.iadd, 1) := by decide +kernel
theorem d_M_askedOf_40 : decode b_M_askedOf 40 = .ok (.iastore, 1) := by decide +kernel
theorem d_M_askedOf_41 : decode b_M_askedOf 41 = .ok (.aload_n 0, 1) := by decide +kernel
theorem d_M_askedOf_42 : decode b_M_askedOf 42 = .ok (.getfield 54, 3) := by decide +kernel
theorem d_M_askedOf_45 : decode b_M_askedOf 45 = .ok (.bipush 6, 2) := by decide +kernel
theorem d_M_askedOf_47 : decode b_M_askedOf 47 = .ok (.iload_n 1, 1) := by decide +kernel
theorem d_M_askedOf_48 : decode b_M_askedOf 48 = .ok (.imul, 1) := by decide +kernel
theorem d_M_askedOf_49 : decode b_M_askedOf 49 = .ok (.iload 4, 2) := by decide +kernel
theorem d_M_askedOf_51 : decode b_M_askedOf 51 = .ok (.iadd, 1) := by decide +kernel
theorem d_M_askedOf_52 : decode b_M_askedOf 52 = .ok (.dup2, 1) := by decide +kernel
theorem d_M_askedOf_53 : decode b_M_askedOf 53 = .ok (.iaload, 1) := by decide +kernel
theorem d_M_askedOf_54 : decode b_M_askedOf 54 = .ok (.iconst 1, 1) := by decide +kernel
theorem d_M_askedOf_55 : decode b_M_askedOf 55 = .ok (.iadd, 1) := by decide +kernel
theorem d_M_askedOf_56 : decode b_M_askedOf 56 = .ok (.iastore, 1) := by decide +kernel
theorem d_M_askedOf_57 : decode b_M_askedOf 57 = .ok (.aload_n 0, 1) := by decide +kernel
theorem d_M_askedOf_58 : decode b_M_askedOf 58 = .ok (.getfield 51, 3) := by decide +kernel
theorem d_M_askedOf_61 : decode b_M_askedOf 61 = .ok (.iload_n 2, 1) := by decide +kernel
theorem d_M_askedOf_62 : decode b_M_askedOf 62 = .ok (.iaload, 1) := by decide +kernel
theorem d_M_askedOf_63 : decode b_M_askedOf 63 = .ok (.ireturn, 1) := by decide +kernel
theorem d_M_fallback_0 : decode b_M_fallback 0 = .ok (.aload_n 0, 1) := by decide +kernel
theorem d_M_fallback_1 : decode b_M_fallback 1 = .ok (.iload_n 1, 1) := by decide +kernel
theorem d_M_fallback_2 : decode b_M_fallback 2 = .ok (.iconst 0, 1) := by decide +kernel
theorem d_M_fallback_3 : decode b_M_fallback 3 = .ok (.iconst 2, 1) := by decide +kernel
theorem d_M_fallback_4 : decode b_M_fallback 4 = .ok (.invokestatic 79, 3) := by decide +kernel
theorem d_M_fallback_7 : decode b_M_fallback 7 = .ok (.ifCond .eq 20, 3) := by decide +kernel
theorem d_M_fallback_10 : decode b_M_fallback 10 = .ok (.iload_n 2, 1) := by decide +kernel
theorem d_M_fallback_11 : decode b_M_fallback 11 = .ok (.sipush (-10000), 3) := by decide +kernel
theorem d_M_fallback_14 : decode b_M_fallback 14 = .ok (.sipush 10000, 3) := by decide +kernel
theorem d_M_fallback_17 : decode b_M_fallback 17 = .ok (.invokestatic 79, 3) := by decide +kernel
theorem d_M_fallback_20 : decode b_M_fallback 20 = .ok (.ifCond .eq 7, 3) := by decide +kernel
theorem d_M_fallback_23 : decode b_M_fallback 23 = .ok (.iconst 0, 1) := by decide +kernel
theorem d_M_fallback_24 : decode b_M_fallback 24 = .ok (.goto 4, 3) := by decide +kernel
theorem d_M_fallback_27 : decode b_M_fallback 27 = .ok (.iconst 1, 1) := by decide +kernel
theorem d_M_fallback_28 : decode b_M_fallback 28 = .ok (.putfield 73, 3) := by decide +kernel
theorem d_M_fallback_31 : decode b_M_fallback 31 = .ok (.aload_n 0, 1) := by decide +kernel
theorem d_M_fallback_32 : decode b_M_fallback 32 = .ok (.getfield 73, 3) := by decide +kernel
theorem d_M_fallback_35 : decode b_M_fallback 35 = .ok (.ifCond .ne 10, 3) := by decide +kernel
theorem d_M_fallback_38 : decode b_M_fallback 38 = .ok (.aload_n 0, 1) := by decide +kernel
theorem d_M_fallback_39 : decode b_M_fallback 39 = .ok (.getfield 51, 3) := by decide +kernel
theorem d_M_fallback_42 : decode b_M_fallback 42 = .ok (.iload_n 1, 1) := by decide +kernel
theorem d_M_fallback_43 : decode b_M_fallback 43 = .ok (.iload_n 2, 1) := by decide +kernel
theorem d_M_fallback_44 : decode b_M_fallback 44 = .ok (.iastore, 1) := by decide +kernel
theorem d_M_fallback_45 : decode b_M_fallback 45 = .ok (.return_, 1) := by decide +kernel
theorem d_M_edition_0 : decode b_M_edition 0 = .ok (.aload_n 0, 1) := by decide +kernel
theorem d_M_edition_1 : decode b_M_edition 1 = .ok (.iload_n 1, 1) := by decide +kernel
theorem d_M_edition_2 : decode b_M_edition 2 = .ok (.iload_n 2, 1) := by decide +kernel
theorem d_M_edition_3 : decode b_M_edition 3 = .ok (.invokestatic 86, 3) := by decide +kernel
theorem d_M_edition_6 : decode b_M_edition 6 = .ok (.ifCond .eq 18, 3) := by decide +kernel
theorem d_M_edition_9 : decode b_M_edition 9 = .ok (.iload_n 3, 1) := by decide +kernel
theorem d_M_edition_10 : decode b_M_edition 10 = .ok (.iconst 0, 1) := by decide +kernel
theorem d_M_edition_11 : decode b_M_edition 11 = .ok (.sipush 1000, 3) := by decide +kernel
theorem d_M_edition_14 : decode b_M_edition 14 = .ok (.invokestatic 79, 3) := by decide +kernel
theorem d_M_edition_17 : decode b_M_edition 17 = .ok (.ifCond .eq 7, 3) := by decide +kernel
theorem d_M_edition_20 : decode b_M_edition 20 = .ok (.iconst 0, 1) := by decide +kernel
theorem d_M_edition_21 : decode b_M_edition 21 = .ok (.goto 4, 3) := by decide +kernel
theorem d_M_edition_24 : decode b_M_edition 24 = .ok (.iconst 1, 1) := by decide +kernel
theorem d_M_edition_25 : decode b_M_edition 25 = .ok (.putfield 73, 3) := by decide +kernel
theorem d_M_edition_28 : decode b_M_edition 28 = .ok (.aload_n 0, 1) := by decide +kernel
theorem d_M_edition_29 : decode b_M_edition 29 = .ok (.getfield 73, 3) := by decide +kernel
theorem d_M_edition_32 : decode b_M_edition 32 = .ok (.ifCond .eq 7, 3) := by decide +kernel
theorem d_M_edition_35 : decode b_M_edition 35 = .ok (.iconst 0, 1) := by decide +kernel
theorem d_M_edition_36 : decode b_M_edition 36 = .ok (.goto 10, 3) := by decide +kernel
theorem d_M_edition_39 : decode b_M_edition 39 = .ok (.aload_n 0, 1) := by decide +kernel
theorem d_M_edition_40 : decode b_M_edition 40 = .ok (.iload_n 1, 1) := by decide +kernel
theorem d_M_edition_41 : decode b_M_edition 41 = .ok (.iload_n 2, 1) := by decide +kernel
theorem d_M_edition_42 : decode b_M_edition 42 = .ok (.iload_n 3, 1) := by decide +kernel
theorem d_M_edition_43 : decode b_M_edition 43 = .ok (.invokevirtual 134, 3) := by decide +kernel
theorem d_M_edition_46 : decode b_M_edition 46 = .ok (.ireturn, 1) := by decide +kernel
theorem d_M_failed_0 : decode b_M_failed 0 = .ok (.aload_n 0, 1) := by decide +kernel
theorem d_M_failed_1 : decode b_M_failed 1 = .ok (.iload_n 1, 1) := by decide +kernel
theorem d_M_failed_2 : decode b_M_failed 2 = .ok (.iconst 0, 1) := by decide +kernel
theorem d_M_failed_3 : decode b_M_failed 3 = .ok (.iconst 5, 1) := by decide +kernel
theorem d_M_failed_4 : decode b_M_failed 4 = .ok (.invokestatic 79, 3) := by decide +kernel
theorem d_M_failed_7 : decode b_M_failed 7 = .ok (.ifCond .eq 16, 3) := by decide +kernel
theorem d_M_failed_10 : decode b_M_failed 10 = .ok (.iload_n 2, 1) := by decide +kernel
theorem d_M_failed_11 : decode b_M_failed 11 = .ok (.iconst 0, 1) := by decide +kernel
theorem d_M_failed_12 : decode b_M_failed 12 = .ok (.iconst 5, 1) := by decide +kernel
theorem d_M_failed_13 : decode b_M_failed 13 = .ok (.invokestatic 79, 3) := by decide +kernel
theorem d_M_failed_16 : decode b_M_failed 16 = .ok (.ifCond .eq 7, 3) := by decide +kernel
theorem d_M_failed_19 : decode b_M_failed 19 = .ok (.iconst 0, 1) := by decide +kernel
theorem d_M_failed_20 : decode b_M_failed 20 = .ok (.goto 4, 3) := by decide +kernel
theorem d_M_failed_23 : decode b_M_failed 23 = .ok (.iconst 1, 1) := by decide +kernel
theorem d_M_failed_24 : decode b_M_failed 24 = .ok (.putfield 73, 3) := by decide +kernel
theorem d_M_failed_27 : decode b_M_failed 27 = .ok (.aload_n 0, 1) := by decide +kernel
theorem d_M_failed_28 : decode b_M_failed 28 = .ok (.getfield 73, 3) := by decide +kernel
theorem d_M_failed_31 : decode b_M_failed 31 = .ok (.ifCond .eq 7, 3) := by decide +kernel
theorem d_M_failed_34 : decode b_M_failed 34 = .ok (.iconst 0, 1) := by decide +kernel
theorem d_M_failed_35 : decode b_M_failed 35 = .ok (.goto 14, 3) := by decide +kernel
theorem d_M_failed_38 : decode b_M_failed 38 = .ok (.aload_n 0, 1) := by decide +kernel
theorem d_M_failed_39 : decode b_M_failed 39 = .ok (.getfield 54, 3) := by decide +kernel
theorem d_M_failed_42 : decode b_M_failed 42 = .ok (.bipush 6, 2) := by decide +kernel
theorem d_M_failed_44 : decode b_M_failed 44 = .ok (.iload_n 1, 1) := by decide +kernel
theorem d_M_failed_45 : decode b_M_failed 45 = .ok (.imul, 1) := by decide +kernel
theorem d_M_failed_46 : decode b_M_failed 46 = .ok (.iload_n 2, 1) := by decide +kernel
theorem d_M_failed_47 : decode b_M_failed 47 = .ok (.iadd, 1) := by decide +kernel
theorem d_M_failed_48 : decode b_M_failed 48 = .ok (.iaload, 1) := by decide +kernel
theorem d_M_failed_49 : decode b_M_failed 49 = .ok (.ireturn, 1) := by decide +kernel
theorem d_M_handle_0 : decode b_M_handle 0 = .ok (.aload_n 0, 1) := by decide +kernel
theorem d_M_handle_1 : decode b_M_handle 1 = .ok (.aload_n 0, 1) := by decide +kernel
theorem d_M_handle_2 : decode b_M_handle 2 = .ok (.iload_n 1, 1) := by decide +kernel
theorem d_M_handle_3 : decode b_M_handle 3 = .ok (.invokevirtual 90, 3) := by decide +kernel
theorem d_M_handle_6 : decode b_M_handle 6 = .ok (.ifCond .ne 7, 3) := by decide +kernel
theorem d_M_handle_9 : decode b_M_handle 9 = .ok (.iconst 1, 1) := by decide +kernel
theorem d_M_handle_10 : decode b_M_handle 10 = .ok (.goto 31, 3) := by decide +kernel
theorem d_M_handle_13 : decode b_M_handle 13 = .ok (.aload_n 0, 1) := by decide +kernel
theorem d_M_handle_14 : decode b_M_handle 14 = .ok (.getfield 23, 3) := by decide +kernel
theorem d_M_handle_17 : decode b_M_handle 17 = .ok (.iload_n 1, 1) := by decide +kernel
theorem d_M_handle_18 : decode b_M_handle 18 = .ok (.baload, 1) := by decide +kernel
theorem d_M_handle_19 : decode b_M_handle 19 = .ok (.ifCond .ne 7, 3) := by decide +kernel
theorem d_M_handle_22 : decode b_M_handle 22 = .ok (.iconst 2, 1) := by decide +kernel
theorem d_M_handle_23 : decode b_M_handle 23 = .ok (.goto 18, 3) := by decide +kernel
theorem d_M_handle_26 : decode b_M_handle 26 = .ok (.aload_n 0, 1) := by decide +kernel
theorem d_M_handle_27 : decode b_M_handle 27 = .ok (.getfield 141, 3) := by decide +kernel
theorem d_M_handle_30 : decode b_M_handle 30 = .ok (.sipush 10000, 3) := by decide +kernel
theorem d_M_handle_33 : decode b_M_handle 33 = .ok (.if_icmp .ne 7, 3) := by decide +kernel
theorem d_M_handle_36 : decode b_M_handle 36 = .ok (.iconst 3, 1) := by decide +kernel
theorem d_M_handle_37 : decode b_M_handle 37 = .ok (.goto 4, 3) := by decide +kernel
theorem d_M_handle_40 : decode b_M_handle 40 = .ok (.iconst 0, 1) := by decide +kernel
theorem d_M_handle_41 : decode b_M_handle 41 = .ok (.putfield 73, 3) := by decide +kernel
theorem d_M_handle_44 : decode b_M_handle 44 = .ok (.aload_n 0, 1) := by decide +kernel
theorem d_M_handle_45 : decode b_M_handle 45 = .ok (.getfield 73, 3) := by decide +kernel
theorem d_M_handle_48 : decode b_M_handle 48 = .ok (.ifCond .eq 5, 3) := by decide +kernel
theorem d_M_handle_51 : decode b_M_handle 51 = .ok (.iconst 0, 1) := by decide +kernel
theorem d_M_handle_52 : decode b_M_handle 52 = .ok (.ireturn, 1) := by decide +kernel
theorem d_M_handle_53 : decode b_M_handle 53 = .ok (.aload_n 0, 1) := by decide +kernel
theorem d_M_handle_54 : decode b_M_handle 54 = .ok (.dup, 1) := by decide +kernel
theorem d_M_handle_55 : decode b_M_handle 55 = .ok (.getfield 141, 3) := by decide +kernel
theorem d_M_handle_58 : decode b_M_handle 58 = .ok (.iconst 1, 1) := by decide +kernel
theorem d_M_handle_59 : decode b_M_handle 59 = .ok (.iadd, 1) := by decide +kernel
theorem d_M_handle_60 : decode b_M_handle 60 = .ok (.putfield 141, 3) := by decide +kernel
theorem d_M_handle_63 : decode b_M_handle 63 = .ok (.aload_n 0, 1) := by decide +kernel
theorem d_M_handle_64 : decode b_M_handle 64 = .ok (.iload_n 1, 1) := by decide +kernel
theorem d_M_handle_65 : decode b_M_handle 65 = .ok (.putfield 9, 3) := by decide +kernel
theorem d_M_handle_68 : decode b_M_handle 68 = .ok (.aload_n 0, 1) := by decide +kernel
theorem d_M_handle_69 : decode b_M_handle 69 = .ok (.getfield 141, 3) := by decide +kernel
theorem d_M_handle_72 : decode b_M_handle 72 = .ok (.ireturn, 1) := by decide +kernel
theorem d_M_by_0 : decode b_M_by 0 = .ok (.aload_n 0, 1) := by decide +kernel
theorem d_M_by_1 : decode b_M_by 1 = .ok (.iload_n 1, 1) := by decide +kernel
theorem d_M_by_2 : decode b_M_by 2 = .ok (.iconst 1, 1) := by decide +kernel
theorem d_M_by_3 : decode b_M_by 3 = .ok (.aload_n 0, 1) := by decide +kernel
theorem d_M_by_4 : decode b_M_by 4 = .ok (.getfield 141, 3) := by decide +kernel
theorem d_M_by_7 : decode b_M_by 7 = .ok (.invokestatic 79, 3) := by decide +kernel
theorem d_M_by_10 : decode b_M_by 10 = .ok (.ifCond .ne 7, 3) := by decide +kernel
theorem d_M_by_13 : decode b_M_by 13 = .ok (.iconst 1, 1) := by decide +kernel
theorem d_M_by_14 : decode b_M_by 14 = .ok (.goto 24, 3) := by decide +kernel
theorem d_M_by_17 : decode b_M_by 17 = .ok (.iload_n 1, 1) := by decide +kernel
theorem d_M_by_18 : decode b_M_by 18 = .ok (.aload_n 0, 1) := by decide +kernel
theorem d_M_by_19 : decode b_M_by 19 = .ok (.getfield 141, 3) := by decide +kernel
theorem d_M_by_22 : decode b_M_by 22 = .ok (.if_icmp .ne 11, 3) := by decide +kernel
theorem d_M_by_25 : decode b_M_by 25 = .ok (.aload_n 0, 1) := by decide +kernel
theorem d_M_by_26 : decode b_M_by 26 = .ok (.getfield 9, 3) := by decide +kernel
theorem d_M_by_29 : decode b_M_by 29 = .ok (.iconst (-1), 1) := by decide +kernel
theorem d_M_by_30 : decode b_M_by 30 = .ok (.if_icmp .ne 7, 3) := by decide +kernel
theorem d_M_by_33 : decode b_M_by 33 = .ok (.iconst 2, 1) := by decide +kernel
theorem d_M_by_34 : decode b_M_by 34 = .ok (.goto 4, 3) := by decide +kernel
theorem d_M_by_37 : decode b_M_by 37 = .ok (.iconst 0, 1) := by decide +kernel
theorem d_M_by_38 : decode b_M_by 38 = .ok (.putfield 73, 3) := by decide +kernel
theorem d_M_by_41 : decode b_M_by 41 = .ok (.aload_n 0, 1) := by decide +kernel
theorem d_M_by_42 : decode b_M_by 42 = .ok (.getfield 73, 3) := by decide +kernel
theorem d_M_by_45 : decode b_M_by 45 = .ok (.ifCond .eq 5, 3) := by decide +kernel
theorem d_M_by_48 : decode b_M_by 48 = .ok (.iconst 0, 1) := by decide +kernel
theorem d_M_by_49 : decode b_M_by 49 = .ok (.ireturn, 1) := by decide +kernel
theorem d_M_by_50 : decode b_M_by 50 = .ok (.aload_n 0, 1) := by decide +kernel
theorem d_M_by_51 : decode b_M_by 51 = .ok (.invokevirtual 125, 3) := by decide +kernel
theorem d_M_by_54 : decode b_M_by 54 = .ok (.aload_n 0, 1) := by decide +kernel
theorem d_M_by_55 : decode b_M_by 55 = .ok (.aload_n 0, 1) := by decide +kernel
theorem d_M_by_56 : decode b_M_by 56 = .ok (.getfield 9, 3) := by decide +kernel
theorem d_M_by_59 : decode b_M_by 59 = .ok (.invokevirtual 128, 3) := by decide +kernel
theorem d_M_by_62 : decode b_M_by 62 = .ok (.ifCond .ne 11, 3) := by decide +kernel
theorem d_M_by_65 : decode b_M_by 65 = .ok (.aload_n 0, 1) := by decide +kernel
theorem d_M_by_66 : decode b_M_by 66 = .ok (.getfield 110, 3) := by decide +kernel
theorem d_M_by_69 : decode b_M_by 69 = .ok (.l2i, 1) := by decide +kernel
theorem d_M_by_70 : decode b_M_by 70 = .ok (.goto 17, 3) := by decide +kernel
theorem d_M_by_73 : decode b_M_by 73 = .ok (.aload_n 0, 1) := by decide +kernel
theorem d_M_by_74 : decode b_M_by 74 = .ok (.getfield 51, 3) := by decide +kernel
theorem d_M_by_77 : decode b_M_by 77 = .ok (.aload_n 0, 1) := by decide +kernel
theorem d_M_by_78 : decode b_M_by 78 = .ok (.getfield 17, 3) := by decide +kernel
theorem d_M_by_81 : decode b_M_by 81 = .ok (.aload_n 0, 1) := by decide +kernel
theorem d_M_by_82 : decode b_M_by 82 = .ok (.getfield 9, 3) := by decide +kernel
theorem d_M_by_85 : decode b_M_by 85 = .ok (.iaload, 1) := by decide +kernel
theorem d_M_by_86 : decode b_M_by 86 = .ok (.iaload, 1) := by decide +kernel
theorem d_M_by_87 : decode b_M_by 87 = .ok (.ireturn, 1) := by decide +kernel
theorem d_M_keep_0 : decode b_M_keep 0 = .ok (.aload_n 0, 1) := by decide +kernel
theorem d_M_keep_1 : decode b_M_keep 1 = .ok (.aload_n 0, 1) := by decide +kernel
theorem d_M_keep_2 : decode b_M_keep 2 = .ok (.getfield 144, 3) := by decide +kernel
theorem d_M_keep_5 : decode b_M_keep 5 = .ok (.bipush 8, 2) := by decide +kernel
theorem d_M_keep_7 : decode b_M_keep 7 = .ok (.if_icmp .ne 7, 3) := by decide +kernel
theorem d_M_keep_10 : decode b_M_keep 10 = .ok (.iconst 1, 1) := by decide +kernel
theorem d_M_keep_11 : decode b_M_keep 11 = .ok (.goto 4, 3) := by decide +kernel
theorem d_M_keep_14 : decode b_M_keep 14 = .ok (.iconst 0, 1) := by decide +kernel
theorem d_M_keep_15 : decode b_M_keep 15 = .ok (.putfield 73, 3) := by decide +kernel
theorem d_M_keep_18 : decode b_M_keep 18 = .ok (.aload_n 0, 1) := by decide +kernel
theorem d_M_keep_19 : decode b_M_keep 19 = .ok (.getfield 73, 3) := by decide +kernel
theorem d_M_keep_22 : decode b_M_keep 22 = .ok (.ifCond .eq 5, 3) := by decide +kernel
theorem d_M_keep_25 : decode b_M_keep 25 = .ok (.iconst 0, 1) := by decide +kernel
theorem d_M_keep_26 : decode b_M_keep 26 = .ok (.ireturn, 1) := by decide +kernel
theorem d_M_keep_27 : decode b_M_keep 27 = .ok (.iconst 0, 1) := by decide +kernel
theorem d_M_keep_28 : decode b_M_keep 28 = .ok (.istore_n 1, 1) := by decide +kernel
theorem d_M_keep_29 : decode b_M_keep 29 = .ok (.iload_n 1, 1) := by decide +kernel
theorem d_M_keep_30 : decode b_M_keep 30 = .ok (.bipush 8, 2) := by decide +kernel
theorem d_M_keep_32 : decode b_M_keep 32 = .ok (.if_icmp .ge 29, 3) := by decide +kernel
theorem d_M_keep_35 : decode b_M_keep 35 = .ok (.aload_n 0, 1) := by decide +kernel
theorem d_M_keep_36 : decode b_M_keep 36 = .ok (.getfield 48, 3) := by decide +kernel
theorem d_M_keep_39 : decode b_M_keep 39 = .ok (.bipush 8, 2) := by decide +kernel
theorem d_M_keep_41 : decode b_M_keep 41 = .ok (.aload_n 0, 1) := by decide +kernel
theorem d_M_keep_42 : decode b_M_keep 42 = .ok (.getfield 144, 3) := by decide +kernel
theorem d_M_keep_45 : decode b_M_keep 45 = .ok (.imul, 1) := by decide +kernel
theorem d_M_keep_46 : decode b_M_keep 46 = .ok (.iload_n 1, 1) := by decide +kernel
theorem d_M_keep_47 : decode b_M_keep 47 = .ok (.iadd, 1) := by decide +kernel
theorem d_M_keep_48 : decode b_M_keep 48 = .ok (.aload_n 0, 1) := by decide +kernel
theorem d_M_keep_49 : decode b_M_keep 49 = .ok (.getfield 45, 3) := by decide +kernel
theorem d_M_keep_52 : decode b_M_keep 52 = .ok (.iload_n 1, 1) := by decide +kernel
theorem d_M_keep_53 : decode b_M_keep 53 = .ok (.iaload, 1) := by decide +kernel
theorem d_M_keep_54 : decode b_M_keep 54 = .ok (.iastore, 1) := by decide +kernel
theorem d_M_keep_55 : decode b_M_keep 55 = .ok (.iinc 1 1, 3) := by decide +kernel
theorem d_M_keep_58 : decode b_M_keep 58 = .ok (.goto (-29), 3) := by decide +kernel
theorem d_M_keep_61 : decode b_M_keep 61 = .ok (.aload_n 0, 1) := by decide +kernel
theorem d_M_keep_62 : decode b_M_keep 62 = .ok (.dup, 1) := by decide +kernel
theorem d_M_keep_63 : decode b_M_keep 63 = .ok (.getfield 144, 3) := by decide +kernel
theorem d_M_keep_66 : decode b_M_keep 66 = .ok (.iconst 1, 1) := by decide +kernel
theorem d_M_keep_67 : decode b_M_keep 67 = .ok (.iadd, 1) := by decide +kernel
theorem d_M_keep_68 : decode b_M_keep 68 = .ok (.putfield 144, 3) := by decide +kernel
theorem d_M_keep_71 : decode b_M_keep 71 = .ok (.aload_n 0, 1) := by decide +kernel
theorem d_M_keep_72 : decode b_M_keep 72 = .ok (.getfield 144, 3) := by decide +kernel
theorem d_M_keep_75 : decode b_M_keep 75 = .ok (.ireturn, 1) := by decide +kernel
theorem d_M_compare_0 : decode b_M_compare 0 = .ok (.aload_n 0, 1) := by decide +kernel
theorem d_M_compare_1 : decode b_M_compare 1 = .ok (.aload_n 0, 1) := by decide +kernel
theorem d_M_compare_2 : decode b_M_compare 2 = .ok (.iload_n 1, 1) := by decide +kernel
theorem d_M_compare_3 : decode b_M_compare 3 = .ok (.invokevirtual 90, 3) := by decide +kernel
theorem d_M_compare_6 : decode b_M_compare 6 = .ok (.ifCond .eq 15, 3) := by decide +kernel
theorem d_M_compare_9 : decode b_M_compare 9 = .ok (.aload_n 0, 1) := by decide +kernel
theorem d_M_compare_10 : decode b_M_compare 10 = .ok (.iload_n 2, 1) := by decide +kernel
theorem d_M_compare_11 : decode b_M_compare 11 = .ok (.invokevirtual 90, 3) := by decide +kernel
theorem d_M_compare_14 : decode b_M_compare 14 = .ok (.ifCond .eq 7, 3) := by decide +kernel
theorem d_M_compare_17 : decode b_M_compare 17 = .ok (.iconst 0, 1) := by decide +kernel
theorem d_M_compare_18 : decode b_M_compare 18 = .ok (.goto 4, 3) := by decide +kernel
theorem d_M_compare_21 : decode b_M_compare 21 = .ok (.iconst 1, 1) := by decide +kernel
theorem d_M_compare_22 : decode b_M_compare 22 = .ok (.putfield 73, 3) := by decide +kernel
theorem d_M_compare_25 : decode b_M_compare 25 = .ok (.aload_n 0, 1) := by decide +kernel
theorem d_M_compare_26 : decode b_M_compare 26 = .ok (.getfield 73, 3) := by decide +kernel
theorem d_M_compare_29 : decode b_M_compare 29 = .ok (.ifCond .eq 5, 3) := by decide +kernel
theorem d_M_compare_32 : decode b_M_compare 32 = .ok (.iconst 0, 1) := by decide +kernel
theorem d_M_compare_33 : decode b_M_compare 33 = .ok (.ireturn, 1) := by decide +kernel
theorem d_M_compare_34 : decode b_M_compare 34 = .ok (.iconst 0, 1) := by decide +kernel
theorem d_M_compare_35 : decode b_M_compare 35 = .ok (.istore_n 3, 1) := by decide +kernel
theorem d_M_compare_36 : decode b_M_compare 36 = .ok (.iconst 0, 1) := by decide +kernel
theorem d_M_compare_37 : decode b_M_compare 37 = .ok (.istore 4, 2) := by decide +kernel
theorem d_M_compare_39 : decode b_M_compare 39 = .ok (.iload 4, 2) := by decide +kernel
theorem d_M_compare_41 : decode b_M_compare 41 = .ok (.aload_n 0, 1) := by decide +kernel
theorem d_M_compare_42 : decode b_M_compare 42 = .ok (.getfield 144, 3) := by decide +kernel
theorem d_M_compare_45 : decode b_M_compare 45 = .ok (.if_icmp .ge 90, 3) := by decide +kernel
theorem d_M_compare_48 : decode b_M_compare 48 = .ok (.iconst 0, 1) := by decide +kernel
theorem d_M_compare_49 : decode b_M_compare 49 = .ok (.istore 5, 2) := by decide +kernel
theorem d_M_compare_51 : decode b_M_compare 51 = .ok (.iload 5, 2) := by decide +kernel
theorem d_M_compare_53 : decode b_M_compare 53 = .ok (.bipush 8, 2) := by decide +kernel
theorem d_M_compare_55 : decode b_M_compare 55 = .ok (.if_icmp .ge 29, 3) := by decide +kernel
theorem d_M_compare_58 : decode b_M_compare 58 = .ok (.aload_n 0, 1) := by decide +kernel
theorem d_M_compare_59 : decode b_M_compare 59 = .ok (.getfield 67, 3) := by decide +kernel
theorem d_M_compare_62 : decode b_M_compare 62 = .ok (.iload 5, 2) := by decide +kernel
theorem d_M_compare_64 : decode b_M_compare 64 = .ok (.aload_n 0, 1) := by decide +kernel
theorem d_M_compare_65 : decode b_M_compare 65 = .ok (.getfield 48, 3) := by decide +kernel
theorem d_M_compare_68 : decode b_M_compare 68 = .ok (.bipush 8, 2) := by decide +kernel
theorem d_M_compare_70 : decode b_M_compare 70 = .ok (.iload 4, 2) := by decide +kernel
theorem d_M_compare_72 : decode b_M_compare 72 = .ok (.imul, 1) := by decide +kernel
theorem d_M_compare_73 : decode b_M_compare 73 = .ok (.iload 5, 2) := by decide +kernel
theorem d_M_compare_75 : decode b_M_compare 75 = .ok (.iadd, 1) := by decide +kernel
theorem d_M_compare_76 : decode b_M_compare 76 = .ok (.iaload, 1) := by decide +kernel
theorem d_M_compare_77 : decode b_M_compare 77 = .ok (.iastore, 1) := by decide +kernel
theorem d_M_compare_78 : decode b_M_compare 78 = .ok (.iinc 5 1, 3) := by decide +kernel
theorem d_M_compare_81 : decode b_M_compare 81 = .ok (.goto (-30), 3) := by decide +kernel
theorem d_M_compare_84 : decode b_M_compare 84 = .ok (.aload_n 0, 1) := by decide +kernel
theorem d_M_compare_85 : decode b_M_compare 85 = .ok (.iload_n 1, 1) := by decide +kernel
theorem d_M_compare_86 : decode b_M_compare 86 = .ok (.invokevirtual 128, 3) := by decide +kernel
theorem d_M_compare_89 : decode b_M_compare 89 = .ok (.istore 5, 2) := by decide +kernel
theorem d_M_compare_91 : decode b_M_compare 91 = .ok (.aload_n 0, 1) := by decide +kernel
theorem d_M_compare_92 : decode b_M_compare 92 = .ok (.getfield 110, 3) := by decide +kernel
theorem d_M_compare_95 : decode b_M_compare 95 = .ok (.lstore 6, 2) := by decide +kernel
theorem d_M_compare_97 : decode b_M_compare 97 = .ok (.aload_n 0, 1) := by decide +kernel
theorem d_M_compare_98 : decode b_M_compare 98 = .ok (.iload_n 2, 1) := by decide +kernel
theorem d_M_compare_99 : decode b_M_compare 99 = .ok (.invokevirtual 128, 3) := by decide +kernel
theorem d_M_compare_102 : decode b_M_compare 102 = .ok (.istore 8, 2) := by decide +kernel
theorem d_M_compare_104 : decode b_M_compare 104 = .ok (.iload 5, 2) := by decide +kernel
theorem d_M_compare_106 : decode b_M_compare 106 = .ok (.iload 8, 2) := by decide +kernel
theorem d_M_compare_108 : decode b_M_compare 108 = .ok (.if_icmp .ne 18, 3) := by decide +kernel
theorem d_M_compare_111 : decode b_M_compare 111 = .ok (.iload 5, 2) := by decide +kernel
theorem d_M_compare_113 : decode b_M_compare 113 = .ok (.ifCond .ne 16, 3) := by decide +kernel
theorem d_M_compare_116 : decode b_M_compare 116 = .ok (.lload 6, 2) := by decide +kernel
theorem d_M_compare_118 : decode b_M_compare 118 = .ok (.aload_n 0, 1) := by decide +kernel
theorem d_M_compare_119 : decode b_M_compare 119 = .ok (.getfield 110, 3) := by decide +kernel
theorem d_M_compare_122 : decode b_M_compare 122 = .ok (.lcmp, 1) := by decide +kernel
theorem d_M_compare_123 : decode b_M_compare 123 = .ok (.ifCond .eq 6, 3) := by decide +kernel
theorem d_M_compare_126 : decode b_M_compare 126 = .ok (.iinc 3 1, 3) := by decide +kernel
theorem d_M_compare_129 : decode b_M_compare 129 = .ok (.iinc 4 1, 3) := by decide +kernel
theorem d_M_compare_132 : decode b_M_compare 132 = .ok (.goto (-93), 3) := by decide +kernel
theorem d_M_compare_135 : decode b_M_compare 135 = .ok (.iload_n 3, 1) := by decide +kernel
theorem d_M_compare_136 : decode b_M_compare 136 = .ok (.ireturn, 1) := by decide +kernel
theorem d_M_same_0 : decode b_M_same 0 = .ok (.aload_n 0, 1) := by decide +kernel
theorem d_M_same_1 : decode b_M_same 1 = .ok (.aload_n 0, 1) := by decide +kernel
theorem d_M_same_2 : decode b_M_same 2 = .ok (.iload_n 1, 1) := by decide +kernel
theorem d_M_same_3 : decode b_M_same 3 = .ok (.invokevirtual 90, 3) := by decide +kernel
theorem d_M_same_6 : decode b_M_same 6 = .ok (.ifCond .eq 15, 3) := by decide +kernel
theorem d_M_same_9 : decode b_M_same 9 = .ok (.aload_n 0, 1) := by decide +kernel
theorem d_M_same_10 : decode b_M_same 10 = .ok (.iload_n 2, 1) := by decide +kernel
theorem d_M_same_11 : decode b_M_same 11 = .ok (.invokevirtual 90, 3) := by decide +kernel
theorem d_M_same_14 : decode b_M_same 14 = .ok (.ifCond .eq 7, 3) := by decide +kernel
theorem d_M_same_17 : decode b_M_same 17 = .ok (.iconst 0, 1) := by decide +kernel
theorem d_M_same_18 : decode b_M_same 18 = .ok (.goto 4, 3) := by decide +kernel
theorem d_M_same_21 : decode b_M_same 21 = .ok (.iconst 1, 1) := by decide +kernel
theorem d_M_same_22 : decode b_M_same 22 = .ok (.putfield 73, 3) := by decide +kernel
theorem d_M_same_25 : decode b_M_same 25 = .ok (.aload_n 0, 1) := by decide +kernel
theorem d_M_same_26 : decode b_M_same 26 = .ok (.getfield 73, 3) := by decide +kernel
theorem d_M_same_29 : decode b_M_same 29 = .ok (.ifCond .ne 18, 3) := by decide +kernel
theorem d_M_same_32 : decode b_M_same 32 = .ok (.aload_n 0, 1) := by decide +kernel
theorem d_M_same_33 : decode b_M_same 33 = .ok (.getfield 36, 3) := by decide +kernel
theorem d_M_same_36 : decode b_M_same 36 = .ok (.iload_n 1, 1) := by decide +kernel
theorem d_M_same_37 : decode b_M_same 37 = .ok (.iaload, 1) := by decide +kernel
theorem d_M_same_38 : decode b_M_same 38 = .ok (.aload_n 0, 1) := by decide +kernel
theorem d_M_same_39 : decode b_M_same 39 = .ok (.getfield 36, 3) := by decide +kernel
theorem d_M_same_42 : decode b_M_same 42 = .ok (.iload_n 2, 1) := by decide +kernel
theorem d_M_same_43 : decode b_M_same 43 = .ok (.iaload, 1) := by decide +kernel
theorem d_M_same_44 : decode b_M_same 44 = .ok (.if_icmp .eq 5, 3) := by decide +kernel
theorem d_M_same_47 : decode b_M_same 47 = .ok (.iconst 0, 1) := by decide +kernel
theorem d_M_same_48 : decode b_M_same 48 = .ok (.ireturn, 1) := by decide +kernel
theorem d_M_same_49 : decode b_M_same 49 = .ok (.iconst 0, 1) := by decide +kernel
theorem d_M_same_50 : decode b_M_same 50 = .ok (.istore_n 3, 1) := by decide +kernel
theorem d_M_same_51 : decode b_M_same 51 = .ok (.iload_n 3, 1) := by decide +kernel
theorem d_M_same_52 : decode b_M_same 52 = .ok (.aload_n 0, 1) := by decide +kernel
theorem d_M_same_53 : decode b_M_same 53 = .ok (.getfield 36, 3) := by decide +kernel
theorem d_M_same_56 : decode b_M_same 56 = .ok (.iload_n 1, 1) := by decide +kernel
theorem d_M_same_57 : decode b_M_same 57 = .ok (.iaload, 1) := by decide +kernel
theorem d_M_same_58 : decode b_M_same 58 = .ok (.if_icmp .ge 61, 3) := by decide +kernel
theorem d_M_same_61 : decode b_M_same 61 = .ok (.aload_n 0, 1) := by decide +kernel
theorem d_M_same_62 : decode b_M_same 62 = .ok (.getfield 39, 3) := by decide +kernel
theorem d_M_same_65 : decode b_M_same 65 = .ok (.bipush 16, 2) := by decide +kernel
theorem d_M_same_67 : decode b_M_same 67 = .ok (.iload_n 1, 1) := by decide +kernel
theorem d_M_same_68 : decode b_M_same 68 = .ok (.imul, 1) := by decide +kernel
theorem d_M_same_69 : decode b_M_same 69 = .ok (.iload_n 3, 1) := by decide +kernel
theorem d_M_same_70 : decode b_M_same 70 = .ok (.iadd, 1) := by decide +kernel
theorem d_M_same_71 : decode b_M_same 71 = .ok (.iaload, 1) := by decide +kernel
theorem d_M_same_72 : decode b_M_same 72 = .ok (.aload_n 0, 1) := by decide +kernel
theorem d_M_same_73 : decode b_M_same 73 = .ok (.getfield 39, 3) := by decide +kernel
theorem d_M_same_76 : decode b_M_same 76 = .ok (.bipush 16, 2) := by decide +kernel
theorem d_M_same_78 : decode b_M_same 78 = .ok (.iload_n 2, 1) := by decide +kernel
theorem d_M_same_79 : decode b_M_same 79 = .ok (.imul, 1) := by decide +kernel
theorem d_M_same_80 : decode b_M_same 80 = .ok (.iload_n 3, 1) := by decide +kernel
theorem d_M_same_81 : decode b_M_same 81 = .ok (.iadd, 1) := by decide +kernel
theorem d_M_same_82 : decode b_M_same 82 = .ok (.iaload, 1) := by decide +kernel
theorem d_M_same_83 : decode b_M_same 83 = .ok (.if_icmp .ne 28, 3) := by decide +kernel
theorem d_M_same_86 : decode b_M_same 86 = .ok (.aload_n 0, 1) := by decide +kernel
theorem d_M_same_87 : decode b_M_same 87 = .ok (.getfield 42, 3) := by decide +kernel
theorem d_M_same_90 : decode b_M_same 90 = .ok (.bipush 16, 2) := by decide +kernel
theorem d_M_same_92 : decode b_M_same 92 = .ok (.iload_n 1, 1) := by decide +kernel
theorem d_M_same_93 : decode b_M_same 93 = .ok (.imul, 1) := by decide +kernel
theorem d_M_same_94 : decode b_M_same 94 = .ok (.iload_n 3, 1) := by decide +kernel
theorem d_M_same_95 : decode b_M_same 95 = .ok (.iadd, 1) := by decide +kernel
theorem d_M_same_96 : decode b_M_same 96 = .ok (.iaload, 1) := by decide +kernel
theorem d_M_same_97 : decode b_M_same 97 = .ok (.aload_n 0, 1) := by decide +kernel
theorem d_M_same_98 : decode b_M_same 98 = .ok (.getfield 42, 3) := by decide +kernel
theorem d_M_same_101 : decode b_M_same 101 = .ok (.bipush 16, 2) := by decide +kernel
theorem d_M_same_103 : decode b_M_same 103 = .ok (.iload_n 2, 1) := by decide +kernel
theorem d_M_same_104 : decode b_M_same 104 = .ok (.imul, 1) := by decide +kernel
theorem d_M_same_105 : decode b_M_same 105 = .ok (.iload_n 3, 1) := by decide +kernel
theorem d_M_same_106 : decode b_M_same 106 = .ok (.iadd, 1) := by decide +kernel
theorem d_M_same_107 : decode b_M_same 107 = .ok (.iaload, 1) := by decide +kernel
theorem d_M_same_108 : decode b_M_same 108 = .ok (.if_icmp .eq 5, 3) := by decide +kernel
theorem d_M_same_111 : decode b_M_same 111 = .ok (.iconst 0, 1) := by decide +kernel
theorem d_M_same_112 : decode b_M_same 112 = .ok (.ireturn, 1) := by decide +kernel
theorem d_M_same_113 : decode b_M_same 113 = .ok (.iinc 3 1, 3) := by decide +kernel
theorem d_M_same_116 : decode b_M_same 116 = .ok (.goto (-65), 3) := by decide +kernel
theorem d_M_same_119 : decode b_M_same 119 = .ok (.iconst 1, 1) := by decide +kernel
theorem d_M_same_120 : decode b_M_same 120 = .ok (.ireturn, 1) := by decide +kernel
theorem d_M_shadow_0 : decode b_M_shadow 0 = .ok (.aload_n 0, 1) := by decide +kernel
theorem d_M_shadow_1 : decode b_M_shadow 1 = .ok (.iload_n 3, 1) := by decide +kernel
theorem d_M_shadow_2 : decode b_M_shadow 2 = .ok (.iconst (-1), 1) := by decide +kernel
theorem d_M_shadow_3 : decode b_M_shadow 3 = .ok (.if_icmp .eq 15, 3) := by decide +kernel
theorem d_M_shadow_6 : decode b_M_shadow 6 = .ok (.aload_n 0, 1) := by decide +kernel
theorem d_M_shadow_7 : decode b_M_shadow 7 = .ok (.iload_n 3, 1) := by decide +kernel
theorem d_M_shadow_8 : decode b_M_shadow 8 = .ok (.invokevirtual 90, 3) := by decide +kernel
theorem d_M_shadow_11 : decode b_M_shadow 11 = .ok (.ifCond .ne 7, 3) := by decide +kernel
theorem d_M_shadow_14 : decode b_M_shadow 14 = .ok (.iconst 1, 1) := by decide +kernel
theorem d_M_shadow_15 : decode b_M_shadow 15 = .ok (.goto 16, 3) := by decide +kernel
theorem d_M_shadow_18 : decode b_M_shadow 18 = .ok (.iload_n 1, 1) := by decide +kernel
theorem d_M_shadow_19 : decode b_M_shadow 19 = .ok (.iload_n 2, 1) := by decide +kernel
theorem d_M_shadow_20 : decode b_M_shadow 20 = .ok (.invokestatic 86, 3) := by decide +kernel
theorem d_M_shadow_23 : decode b_M_shadow 23 = .ok (.ifCond .ne 7, 3) := by decide +kernel
theorem d_M_shadow_26 : decode b_M_shadow 26 = .ok (.iconst 2, 1) := by decide +kernel
theorem d_M_shadow_27 : decode b_M_shadow 27 = .ok (.goto 4, 3) := by decide +kernel
theorem d_M_shadow_30 : decode b_M_shadow 30 = .ok (.iconst 0, 1) := by decide +kernel
theorem d_M_shadow_31 : decode b_M_shadow 31 = .ok (.putfield 73, 3) := by decide +kernel
theorem d_M_shadow_34 : decode b_M_shadow 34 = .ok (.aload_n 0, 1) := by decide +kernel
theorem d_M_shadow_35 : decode b_M_shadow 35 = .ok (.getfield 73, 3) := by decide +kernel
theorem d_M_shadow_38 : decode b_M_shadow 38 = .ok (.ifCond .eq 4, 3) := by decide +kernel
theorem d_M_shadow_41 : decode b_M_shadow 41 = .ok (.return_, 1) := by decide +kernel
theorem d_M_shadow_42 : decode b_M_shadow 42 = .ok (.aload_n 0, 1) := by decide +kernel
theorem d_M_shadow_43 : decode b_M_shadow 43 = .ok (.getfield 57, 3) := by decide +kernel
theorem d_M_shadow_46 : decode b_M_shadow 46 = .ok (.iconst 3, 1) := by decide +kernel
theorem d_M_shadow_47 : decode b_M_shadow 47 = .ok (.iload_n 1, 1) := by decide +kernel
theorem d_M_shadow_48 : decode b_M_shadow 48 = .ok (.imul, 1) := by decide +kernel
theorem d_M_shadow_49 : decode b_M_shadow 49 = .ok (.iload_n 2, 1) := by decide +kernel
theorem d_M_shadow_50 : decode b_M_shadow 50 = .ok (.iadd, 1) := by decide +kernel
theorem d_M_shadow_51 : decode b_M_shadow 51 = .ok (.iload_n 3, 1) := by decide +kernel
theorem d_M_shadow_52 : decode b_M_shadow 52 = .ok (.iastore, 1) := by decide +kernel
theorem d_M_shadow_53 : decode b_M_shadow 53 = .ok (.aload_n 0, 1) := by decide +kernel
theorem d_M_shadow_54 : decode b_M_shadow 54 = .ok (.getfield 60, 3) := by decide +kernel
theorem d_M_shadow_57 : decode b_M_shadow 57 = .ok (.iconst 3, 1) := by decide +kernel
theorem d_M_shadow_58 : decode b_M_shadow 58 = .ok (.iload_n 1, 1) := by decide +kernel
theorem d_M_shadow_59 : decode b_M_shadow 59 = .ok (.imul, 1) := by decide +kernel
theorem d_M_shadow_60 : decode b_M_shadow 60 = .ok (.iload_n 2, 1) := by decide +kernel
theorem d_M_shadow_61 : decode b_M_shadow 61 = .ok (.iadd, 1) := by decide +kernel
theorem d_M_shadow_62 : decode b_M_shadow 62 = .ok (.iconst 0, 1) := by decide +kernel
theorem d_M_shadow_63 : decode b_M_shadow 63 = .ok (.iastore, 1) := by decide +kernel
theorem d_M_shadow_64 : decode b_M_shadow 64 = .ok (.return_, 1) := by decide +kernel
theorem d_M_otherwise_0 : decode b_M_otherwise 0 = .ok (.aload_n 0, 1) := by decide +kernel
theorem d_M_otherwise_1 : decode b_M_otherwise 1 = .ok (.iload_n 1, 1) := by decide +kernel
theorem d_M_otherwise_2 : decode b_M_otherwise 2 = .ok (.iload_n 2, 1) := by decide +kernel
theorem d_M_otherwise_3 : decode b_M_otherwise 3 = .ok (.invokestatic 86, 3) := by decide +kernel
theorem d_M_otherwise_6 : decode b_M_otherwise 6 = .ok (.ifCond .eq 7, 3) := by decide +kernel
theorem d_M_otherwise_9 : decode b_M_otherwise 9 = .ok (.iconst 0, 1) := by decide +kernel
theorem d_M_otherwise_10 : decode b_M_otherwise 10 = .ok (.goto 4, 3) := by decide +kernel
theorem d_M_otherwise_13 : decode b_M_otherwise 13 = .ok (.iconst 1, 1) := by decide +kernel
theorem d_M_otherwise_14 : decode b_M_otherwise 14 = .ok (.putfield 73, 3) := by decide +kernel
theorem d_M_otherwise_17 : decode b_M_otherwise 17 = .ok (.aload_n 0, 1) := by decide +kernel
theorem d_M_otherwise_18 : decode b_M_otherwise 18 = .ok (.getfield 73, 3) := by decide +kernel
theorem d_M_otherwise_21 : decode b_M_otherwise 21 = .ok (.ifCond .eq 7, 3) := by decide +kernel
theorem d_M_otherwise_24 : decode b_M_otherwise 24 = .ok (.iconst 0, 1) := by decide +kernel
theorem d_M_otherwise_25 : decode b_M_otherwise 25 = .ok (.goto 13, 3) := by decide +kernel
theorem d_M_otherwise_28 : decode b_M_otherwise 28 = .ok (.aload_n 0, 1) := by decide +kernel
theorem d_M_otherwise_29 : decode b_M_otherwise 29 = .ok (.getfield 60, 3) := by decide +kernel
theorem d_M_otherwise_32 : decode b_M_otherwise 32 = .ok (.iconst 3, 1) := by decide +kernel
theorem d_M_otherwise_33 : decode b_M_otherwise 33 = .ok (.iload_n 1, 1) := by decide +kernel
theorem d_M_otherwise_34 : decode b_M_otherwise 34 = .ok (.imul, 1) := by decide +kernel
theorem d_M_otherwise_35 : decode b_M_otherwise 35 = .ok (.iload_n 2, 1) := by decide +kernel
theorem d_M_otherwise_36 : decode b_M_otherwise 36 = .ok (.iadd, 1) := by decide +kernel
theorem d_M_otherwise_37 : decode b_M_otherwise 37 = .ok (.iaload, 1) := by decide +kernel
theorem d_M_otherwise_38 : decode b_M_otherwise 38 = .ok (.ireturn, 1) := by decide +kernel
theorem d_M_divide_0 : decode b_M_divide 0 = .ok (.aload_n 0, 1) := by decide +kernel
theorem d_M_divide_1 : decode b_M_divide 1 = .ok (.iload_n 2, 1) := by decide +kernel
theorem d_M_divide_2 : decode b_M_divide 2 = .ok (.ifCond .ne 7, 3) := by decide +kernel
theorem d_M_divide_5 : decode b_M_divide 5 = .ok (.iconst 1, 1) := by decide +kernel
theorem d_M_divide_6 : decode b_M_divide 6 = .ok (.goto 4, 3) := by decide +kernel
theorem d_M_divide_9 : decode b_M_divide 9 = .ok (.iconst 0, 1) := by decide +kernel
theorem d_M_divide_10 : decode b_M_divide 10 = .ok (.putfield 73, 3) := by decide +kernel
theorem d_M_divide_13 : decode b_M_divide 13 = .ok (.aload_n 0, 1) := by decide +kernel
theorem d_M_divide_14 : decode b_M_divide 14 = .ok (.getfield 73, 3) := by decide +kernel
theorem d_M_divide_17 : decode b_M_divide 17 = .ok (.ifCond .eq 7, 3) := by decide +kernel
theorem d_M_divide_20 : decode b_M_divide 20 = .ok (.iconst 0, 1) := by decide +kernel
theorem d_M_divide_21 : decode b_M_divide 21 = .ok (.goto 6, 3) := by decide +kernel
theorem d_M_divide_24 : decode b_M_divide 24 = .ok (.iload_n 1, 1) := by decide +kernel
theorem d_M_divide_25 : decode b_M_divide 25 = .ok (.iload_n 2, 1) := by decide +kernel
theorem d_M_divide_26 : decode b_M_divide 26 = .ok (.idiv, 1) := by decide +kernel
theorem d_M_divide_27 : decode b_M_divide 27 = .ok (.ireturn, 1) := by decide +kernel
theorem d_M_told_0 : decode b_M_told 0 = .ok (.aload_n 0, 1) := by decide +kernel
theorem d_M_told_1 : decode b_M_told 1 = .ok (.aload_n 0, 1) := by decide +kernel
theorem d_M_told_2 : decode b_M_told 2 = .ok (.iload_n 1, 1) := by decide +kernel
theorem d_M_told_3 : decode b_M_told 3 = .ok (.invokevirtual 90, 3) := by decide +kernel
theorem d_M_told_6 : decode b_M_told 6 = .ok (.ifCond .ne 7, 3) := by decide +kernel
theorem d_M_told_9 : decode b_M_told 9 = .ok (.iconst 1, 1) := by decide +kernel
theorem d_M_told_10 : decode b_M_told 10 = .ok (.goto 18, 3) := by decide +kernel
theorem d_M_told_13 : decode b_M_told 13 = .ok (.iload_n 2, 1) := by decide +kernel
theorem d_M_told_14 : decode b_M_told 14 = .ok (.iconst 0, 1) := by decide +kernel
theorem d_M_told_15 : decode b_M_told 15 = .ok (.bipush 7, 2) := by decide +kernel
theorem d_M_told_17 : decode b_M_told 17 = .ok (.invokestatic 79, 3) := by decide +kernel
theorem d_M_told_20 : decode b_M_told 20 = .ok (.ifCond .ne 7, 3) := by decide +kernel
theorem d_M_told_23 : decode b_M_told 23 = .ok (.iconst 2, 1) := by decide +kernel
theorem d_M_told_24 : decode b_M_told 24 = .ok (.goto 4, 3) := by decide +kernel
theorem d_M_told_27 : decode b_M_told 27 = .ok (.iconst 0, 1) := by decide +kernel
theorem d_M_told_28 : decode b_M_told 28 = .ok (.putfield 73, 3) := by decide +kernel
theorem d_M_told_31 : decode b_M_told 31 = .ok (.aload_n 0, 1) := by decide +kernel
theorem d_M_told_32 : decode b_M_told 32 = .ok (.getfield 73, 3) := by decide +kernel
theorem d_M_told_35 : decode b_M_told 35 = .ok (.ifCond .eq 5, 3) := by decide +kernel
theorem d_M_told_38 : decode b_M_told 38 = .ok (.iconst 0, 1) := by decide +kernel
theorem d_M_told_39 : decode b_M_told 39 = .ok (.ireturn, 1) := by decide +kernel
theorem d_M_told_40 : decode b_M_told 40 = .ok (.iload_n 2, 1) := by decide +kernel
theorem d_M_told_41 : decode b_M_told 41 = .ok (.tableswitch 100 0 6 #[43, 50, 57, 64, 71, 86, 93], 43) := by decide +kernel
theorem d_M_told_84 : decode b_M_told 84 = .ok (.aload_n 0, 1) := by decide +kernel
theorem d_M_told_85 : decode b_M_told 85 = .ok (.getfield 13, 3) := by decide +kernel
theorem d_M_told_88 : decode b_M_told 88 = .ok (.iload_n 1, 1) := by decide +kernel
theorem d_M_told_89 : decode b_M_told 89 = .ok (.iaload, 1) := by decide +kernel
theorem d_M_told_90 : decode b_M_told 90 = .ok (.ireturn, 1) := by decide +kernel
theorem d_M_told_91 : decode b_M_told 91 = .ok (.aload_n 0, 1) := by decide +kernel
theorem d_M_told_92 : decode b_M_told 92 = .ok (.getfield 17, 3) := by decide +kernel
theorem d_M_told_95 : decode b_M_told 95 = .ok (.iload_n 1, 1) := by decide +kernel
theorem d_M_told_96 : decode b_M_told 96 = .ok (.iaload, 1) := by decide +kernel
theorem d_M_told_97 : decode b_M_told 97 = .ok (.ireturn, 1) := by decide +kernel
theorem d_M_told_98 : decode b_M_told 98 = .ok (.aload_n 0, 1) := by decide +kernel
theorem d_M_told_99 : decode b_M_told 99 = .ok (.getfield 20, 3) := by decide +kernel
theorem d_M_told_102 : decode b_M_told 102 = .ok (.iload_n 1, 1) := by decide +kernel
theorem d_M_told_103 : decode b_M_told 103 = .ok (.iaload, 1) := by decide +kernel
theorem d_M_told_104 : decode b_M_told 104 = .ok (.ireturn, 1) := by decide +kernel
theorem d_M_told_105 : decode b_M_told 105 = .ok (.aload_n 0, 1) := by decide +kernel
theorem d_M_told_106 : decode b_M_told 106 = .ok (.getfield 36, 3) := by decide +kernel
theorem d_M_told_109 : decode b_M_told 109 = .ok (.iload_n 1, 1) := by decide +kernel
theorem d_M_told_110 : decode b_M_told 110 = .ok (.iaload, 1) := by decide +kernel
theorem d_M_told_111 : decode b_M_told 111 = .ok (.ireturn, 1) := by decide +kernel
theorem d_M_told_112 : decode b_M_told 112 = .ok (.aload_n 0, 1) := by decide +kernel
theorem d_M_told_113 : decode b_M_told 113 = .ok (.getfield 23, 3) := by decide +kernel
theorem d_M_told_116 : decode b_M_told 116 = .ok (.iload_n 1, 1) := by decide +kernel
theorem d_M_told_117 : decode b_M_told 117 = .ok (.baload, 1) := by decide +kernel
theorem d_M_told_118 : decode b_M_told 118 = .ok (.ifCond .eq 7, 3) := by decide +kernel
theorem d_M_told_121 : decode b_M_told 121 = .ok (.iconst 1, 1) := by decide +kernel
theorem d_M_told_122 : decode b_M_told 122 = .ok (.goto 4, 3) := by decide +kernel
theorem d_M_told_125 : decode b_M_told 125 = .ok (.iconst 0, 1) := by decide +kernel
theorem d_M_told_126 : decode b_M_told 126 = .ok (.ireturn, 1) := by decide +kernel
theorem d_M_told_127 : decode b_M_told 127 = .ok (.aload_n 0, 1) := by decide +kernel
theorem d_M_told_128 : decode b_M_told 128 = .ok (.getfield 27, 3) := by decide +kernel
theorem d_M_told_131 : decode b_M_told 131 = .ok (.iload_n 1, 1) := by decide +kernel
theorem d_M_told_132 : decode b_M_told 132 = .ok (.iaload, 1) := by decide +kernel
theorem d_M_told_133 : decode b_M_told 133 = .ok (.ireturn, 1) := by decide +kernel
theorem d_M_told_134 : decode b_M_told 134 = .ok (.aload_n 0, 1) := by decide +kernel
theorem d_M_told_135 : decode b_M_told 135 = .ok (.getfield 30, 3) := by decide +kernel
theorem d_M_told_138 : decode b_M_told 138 = .ok (.iload_n 1, 1) := by decide +kernel
theorem d_M_told_139 : decode b_M_told 139 = .ok (.iaload, 1) := by decide +kernel
theorem d_M_told_140 : decode b_M_told 140 = .ok (.ireturn, 1) := by decide +kernel
theorem d_M_told_141 : decode b_M_told 141 = .ok (.aload_n 0, 1) := by decide +kernel
theorem d_M_told_142 : decode b_M_told 142 = .ok (.getfield 33, 3) := by decide +kernel
theorem d_M_told_145 : decode b_M_told 145 = .ok (.iload_n 1, 1) := by decide +kernel
theorem d_M_told_146 : decode b_M_told 146 = .ok (.iaload, 1) := by decide +kernel
theorem d_M_told_147 : decode b_M_told 147 = .ok (.ireturn, 1) := by decide +kernel
theorem d_M_count_0 : decode b_M_count 0 = .ok (.aload_n 0, 1) := by decide +kernel
theorem d_M_count_1 : decode b_M_count 1 = .ok (.iconst 0, 1) := by decide +kernel
theorem d_M_count_2 : decode b_M_count 2 = .ok (.putfield 73, 3) := by decide +kernel
theorem d_M_count_5 : decode b_M_count 5 = .ok (.iconst 0, 1) := by decide +kernel
theorem d_M_count_6 : decode b_M_count 6 = .ok (.istore_n 2, 1) := by decide +kernel
theorem d_M_count_7 : decode b_M_count 7 = .ok (.iload_n 1, 1) := by decide +kernel
theorem d_M_count_8 : decode b_M_count 8 = .ok (.tableswitch 133 0 7 #[48, 53, 83, 88, 113, 118, 123, 128], 48) := by decide +kernel
theorem d_M_count_56 : decode b_M_count 56 = .ok (.aload_n 0, 1) := by decide +kernel
theorem d_M_count_57 : decode b_M_count 57 = .ok (.getfield 76, 3) := by decide +kernel
theorem d_M_count_60 : decode b_M_count 60 = .ok (.ireturn, 1) := by decide +kernel
theorem d_M_count_61 : decode b_M_count 61 = .ok (.iconst 0, 1) := by decide +kernel
theorem d_M_count_62 : decode b_M_count 62 = .ok (.istore_n 3, 1) := by decide +kernel
theorem d_M_count_63 : decode b_M_count 63 = .ok (.iload_n 3, 1) := by decide +kernel
theorem d_M_count_64 : decode b_M_count 64 = .ok (.aload_n 0, 1) := by decide +kernel
theorem d_M_count_65 : decode b_M_count 65 = .ok (.getfield 76, 3) := by decide +kernel
theorem d_M_count_68 : decode b_M_count 68 = .ok (.if_icmp .ge 21, 3) := by decide +kernel
theorem d_M_count_71 : decode b_M_count 71 = .ok (.aload_n 0, 1) := by decide +kernel
theorem d_M_count_72 : decode b_M_count 72 = .ok (.getfield 23, 3) := by decide +kernel
theorem d_M_count_75 : decode b_M_count 75 = .ok (.iload_n 3, 1) := by decide +kernel
theorem d_M_count_76 : decode b_M_count 76 = .ok (.baload, 1) := by decide +kernel
theorem d_M_count_77 : decode b_M_count 77 = .ok (.ifCond .eq 6, 3) := by decide +kernel
theorem d_M_count_80 : decode b_M_count 80 = .ok (.iinc 2 1, 3) := by decide +kernel
theorem d_M_count_83 : decode b_M_count 83 = .ok (.iinc 3 1, 3) := by decide +kernel
theorem d_M_count_86 : decode b_M_count 86 = .ok (.goto (-23), 3) := by decide +kernel
theorem d_M_count_89 : decode b_M_count 89 = .ok (.iload_n 2, 1) := by decide +kernel
theorem d_M_count_90 : decode b_M_count 90 = .ok (.ireturn, 1) := by decide +kernel
theorem d_M_count_91 : decode b_M_count 91 = .ok (.aload_n 0, 1) := by decide +kernel
theorem d_M_count_92 : decode b_M_count 92 = .ok (.getfield 131, 3) := by decide +kernel
theorem d_M_count_95 : decode b_M_count 95 = .ok (.ireturn, 1) := by decide +kernel
theorem d_M_count_96 : decode b_M_count 96 = .ok (.iconst 0, 1) := by decide +kernel
theorem d_M_count_97 : decode b_M_count 97 = .ok (.istore_n 3, 1) := by decide +kernel
theorem d_M_count_98 : decode b_M_count 98 = .ok (.iload_n 3, 1) := by decide +kernel
theorem d_M_count_99 : decode b_M_count 99 = .ok (.bipush 36, 2) := by decide +kernel
theorem d_M_count_101 : decode b_M_count 101 = .ok (.if_icmp .ge 18, 3) := by decide +kernel
theorem d_M_count_104 : decode b_M_count 104 = .ok (.iload_n 2, 1) := by decide +kernel
theorem d_M_count_105 : decode b_M_count 105 = .ok (.aload_n 0, 1) := by decide +kernel
theorem d_M_count_106 : decode b_M_count 106 = .ok (.getfield 54, 3) := by decide +kernel
theorem d_M_count_109 : decode b_M_count 109 = .ok (.iload_n 3, 1) := by decide +kernel
theorem d_M_count_110 : decode b_M_count 110 = .ok (.iaload, 1) := by decide +kernel
theorem d_M_count_111 : decode b_M_count 111 = .ok (.iadd, 1) := by decide +kernel
theorem d_M_count_112 : decode b_M_count 112 = .ok (.istore_n 2, 1) := by decide +kernel
theorem d_M_count_113 : decode b_M_count 113 = .ok (.iinc 3 1, 3) := by decide +kernel
theorem d_M_count_116 : decode b_M_count 116 = .ok (.goto (-18), 3) := by decide +kernel
theorem d_M_count_119 : decode b_M_count 119 = .ok (.iload_n 2, 1) := by decide +kernel
theorem d_M_count_120 : decode b_M_count 120 = .ok (.ireturn, 1) := by decide +kernel
theorem d_M_count_121 : decode b_M_count 121 = .ok (.aload_n 0, 1) := by decide +kernel
theorem d_M_count_122 : decode b_M_count 122 = .ok (.getfield 144, 3) := by decide +kernel
theorem d_M_count_125 : decode b_M_count 125 = .ok (.ireturn, 1) := by decide +kernel
theorem d_M_count_126 : decode b_M_count 126 = .ok (.aload_n 0, 1) := by decide +kernel
theorem d_M_count_127 : decode b_M_count 127 = .ok (.getfield 141, 3) := by decide +kernel
theorem d_M_count_130 : decode b_M_count 130 = .ok (.ireturn, 1) := by decide +kernel
theorem d_M_count_131 : decode b_M_count 131 = .ok (.aload_n 0, 1) := by decide +kernel
theorem d_M_count_132 : decode b_M_count 132 = .ok (.getfield 83, 3) := by decide +kernel
theorem d_M_count_135 : decode b_M_count 135 = .ok (.ireturn, 1) := by decide +kernel
theorem d_M_count_136 : decode b_M_count 136 = .ok (.aload_n 0, 1) := by decide +kernel
theorem d_M_count_137 : decode b_M_count 137 = .ok (.getfield 70, 3) := by decide +kernel
theorem d_M_count_140 : decode b_M_count 140 = .ok (.ireturn, 1) := by decide +kernel
theorem d_M_count_141 : decode b_M_count 141 = .ok (.iconst (-1), 1) := by decide +kernel
theorem d_M_count_142 : decode b_M_count 142 = .ok (.ireturn, 1) := by decide +kernel
