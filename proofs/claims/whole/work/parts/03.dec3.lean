theorem dX7_worth_143 : decode cX7_worth 143 = .ok (.iload 11, 2) := by decide +kernel
theorem dX7_worth_145 : decode cX7_worth 145 = .ok (.ifCond .lt 28, 3) := by decide +kernel
theorem dX7_worth_148 : decode cX7_worth 148 = .ok (.aload_n 0, 1) := by decide +kernel
theorem dX7_worth_149 : decode cX7_worth 149 = .ok (.aload_n 0, 1) := by decide +kernel
theorem dX7_worth_150 : decode cX7_worth 150 = .ok (.getfield 46, 3) := by decide +kernel
theorem dX7_worth_153 : decode cX7_worth 153 = .ok (.aload_n 0, 1) := by decide +kernel
theorem dX7_worth_154 : decode cX7_worth 154 = .ok (.getfield 64, 3) := by decide +kernel
theorem dX7_worth_157 : decode cX7_worth 157 = .ok (.iload 11, 2) := by decide +kernel
theorem dX7_worth_159 : decode cX7_worth 159 = .ok (.aaload, 1) := by decide +kernel
theorem dX7_worth_160 : decode cX7_worth 160 = .ok (.aload_n 0, 1) := by decide +kernel
theorem dX7_worth_161 : decode cX7_worth 161 = .ok (.getfield 11, 3) := by decide +kernel
theorem dX7_worth_164 : decode cX7_worth 164 = .ok (.iload_n 3, 1) := by decide +kernel
theorem dX7_worth_165 : decode cX7_worth 165 = .ok (.aaload, 1) := by decide +kernel
theorem dX7_worth_166 : decode cX7_worth 166 = .ok (.iload 10, 2) := by decide +kernel
theorem dX7_worth_168 : decode cX7_worth 168 = .ok (.iaload, 1) := by decide +kernel
theorem dX7_worth_169 : decode cX7_worth 169 = .ok (.iconst 0, 1) := by decide +kernel
theorem dX7_worth_170 : decode cX7_worth 170 = .ok (.invokevirtual 120, 3) := by decide +kernel
theorem dX7_worth_173 : decode cX7_worth 173 = .ok (.iinc 10 1, 3) := by decide +kernel
theorem dX7_worth_176 : decode cX7_worth 176 = .ok (.goto (-49), 3) := by decide +kernel
theorem dX7_worth_179 : decode cX7_worth 179 = .ok (.aload_n 0, 1) := by decide +kernel
theorem dX7_worth_180 : decode cX7_worth 180 = .ok (.getfield 67, 3) := by decide +kernel
theorem dX7_worth_183 : decode cX7_worth 183 = .ok (.iload 9, 2) := by decide +kernel
theorem dX7_worth_185 : decode cX7_worth 185 = .ok (.aaload, 1) := by decide +kernel
theorem dX7_worth_186 : decode cX7_worth 186 = .ok (.invokestatic 112, 3) := by decide +kernel
theorem dX7_worth_189 : decode cX7_worth 189 = .ok (.aload_n 0, 1) := by decide +kernel
theorem dX7_worth_190 : decode cX7_worth 190 = .ok (.aload_n 0, 1) := by decide +kernel
theorem dX7_worth_191 : decode cX7_worth 191 = .ok (.getfield 67, 3) := by decide +kernel
theorem dX7_worth_194 : decode cX7_worth 194 = .ok (.iload 9, 2) := by decide +kernel
theorem dX7_worth_196 : decode cX7_worth 196 = .ok (.aaload, 1) := by decide +kernel
theorem dX7_worth_197 : decode cX7_worth 197 = .ok (.aload_n 0, 1) := by decide +kernel
theorem dX7_worth_198 : decode cX7_worth 198 = .ok (.getfield 46, 3) := by decide +kernel
theorem dX7_worth_201 : decode cX7_worth 201 = .ok (.iload 4, 2) := by decide +kernel
theorem dX7_worth_203 : decode cX7_worth 203 = .ok (.iconst 0, 1) := by decide +kernel
theorem dX7_worth_204 : decode cX7_worth 204 = .ok (.invokevirtual 120, 3) := by decide +kernel
theorem dX7_worth_207 : decode cX7_worth 207 = .ok (.iinc 9 1, 3) := by decide +kernel
theorem dX7_worth_210 : decode cX7_worth 210 = .ok (.goto (-100), 3) := by decide +kernel
theorem dX7_worth_213 : decode cX7_worth 213 = .ok (.iconst 0, 1) := by decide +kernel
theorem dX7_worth_214 : decode cX7_worth 214 = .ok (.istore 9, 2) := by decide +kernel
theorem dX7_worth_216 : decode cX7_worth 216 = .ok (.iload 9, 2) := by decide +kernel
theorem dX7_worth_218 : decode cX7_worth 218 = .ok (.iload 8, 2) := by decide +kernel
theorem dX7_worth_220 : decode cX7_worth 220 = .ok (.if_icmp .gt 43, 3) := by decide +kernel
theorem dX7_worth_223 : decode cX7_worth 223 = .ok (.aload_n 0, 1) := by decide +kernel
theorem dX7_worth_224 : decode cX7_worth 224 = .ok (.iload 9, 2) := by decide +kernel
theorem dX7_worth_226 : decode cX7_worth 226 = .ok (.iload 7, 2) := by decide +kernel
theorem dX7_worth_228 : decode cX7_worth 228 = .ok (.invokevirtual 166, 3) := by decide +kernel
theorem dX7_worth_231 : decode cX7_worth 231 = .ok (.istore 10, 2) := by decide +kernel
theorem dX7_worth_233 : decode cX7_worth 233 = .ok (.aload_n 0, 1) := by decide +kernel
theorem dX7_worth_234 : decode cX7_worth 234 = .ok (.getfield 70, 3) := by decide +kernel
theorem dX7_worth_237 : decode cX7_worth 237 = .ok (.aload_n 0, 1) := by decide +kernel
theorem dX7_worth_238 : decode cX7_worth 238 = .ok (.getfield 64, 3) := by decide +kernel
theorem dX7_worth_241 : decode cX7_worth 241 = .ok (.iload 9, 2) := by decide +kernel
theorem dX7_worth_243 : decode cX7_worth 243 = .ok (.aaload, 1) := by decide +kernel
theorem dX7_worth_244 : decode cX7_worth 244 = .ok (.invokestatic 124, 3) := by decide +kernel
theorem dX7_worth_247 : decode cX7_worth 247 = .ok (.iload 9, 2) := by decide +kernel
theorem dX7_worth_249 : decode cX7_worth 249 = .ok (.iload_n 1, 1) := by decide +kernel
theorem dX7_worth_250 : decode cX7_worth 250 = .ok (.if_icmp .ne 7, 3) := by decide +kernel
theorem dX7_worth_253 : decode cX7_worth 253 = .ok (.iload 10, 2) := by decide +kernel
theorem dX7_worth_255 : decode cX7_worth 255 = .ok (.istore 6, 2) := by decide +kernel
theorem dX7_worth_257 : decode cX7_worth 257 = .ok (.iinc 9 1, 3) := by decide +kernel
theorem dX7_worth_260 : decode cX7_worth 260 = .ok (.goto (-44), 3) := by decide +kernel
theorem dX7_worth_263 : decode cX7_worth 263 = .ok (.iinc 7 1, 3) := by decide +kernel
theorem dX7_worth_266 : decode cX7_worth 266 = .ok (.goto (-177), 3) := by decide +kernel
theorem dX7_worth_269 : decode cX7_worth 269 = .ok (.aload_n 0, 1) := by decide +kernel
theorem dX7_worth_270 : decode cX7_worth 270 = .ok (.getfield 64, 3) := by decide +kernel
theorem dX7_worth_273 : decode cX7_worth 273 = .ok (.iload_n 1, 1) := by decide +kernel
theorem dX7_worth_274 : decode cX7_worth 274 = .ok (.aaload, 1) := by decide +kernel
theorem dX7_worth_275 : decode cX7_worth 275 = .ok (.aload_n 0, 1) := by decide +kernel
theorem dX7_worth_276 : decode cX7_worth 276 = .ok (.getfield 14, 3) := by decide +kernel
theorem dX7_worth_279 : decode cX7_worth 279 = .ok (.invokestatic 124, 3) := by decide +kernel
theorem dX7_worth_282 : decode cX7_worth 282 = .ok (.aload_n 0, 1) := by decide +kernel
theorem dX7_worth_283 : decode cX7_worth 283 = .ok (.iconst 2, 1) := by decide +kernel
theorem dX7_worth_284 : decode cX7_worth 284 = .ok (.iload 5, 2) := by decide +kernel
theorem dX7_worth_286 : decode cX7_worth 286 = .ok (.imul, 1) := by decide +kernel
theorem dX7_worth_287 : decode cX7_worth 287 = .ok (.putfield 143, 3) := by decide +kernel
theorem dX7_worth_290 : decode cX7_worth 290 = .ok (.iload 6, 2) := by decide +kernel
theorem dX7_worth_292 : decode cX7_worth 292 = .ok (.ireturn, 1) := by decide +kernel
theorem dX7_pair_0 : decode cX7_pair 0 = .ok (.iload_n 1, 1) := by decide +kernel
theorem dX7_pair_1 : decode cX7_pair 1 = .ok (.bipush 43, 2) := by decide +kernel
theorem dX7_pair_3 : decode cX7_pair 3 = .ok (.imul, 1) := by decide +kernel
theorem dX7_pair_4 : decode cX7_pair 4 = .ok (.iload_n 2, 1) := by decide +kernel
theorem dX7_pair_5 : decode cX7_pair 5 = .ok (.iadd, 1) := by decide +kernel
theorem dX7_pair_6 : decode cX7_pair 6 = .ok (.bipush 43, 2) := by decide +kernel
theorem dX7_pair_8 : decode cX7_pair 8 = .ok (.imul, 1) := by decide +kernel
theorem dX7_pair_9 : decode cX7_pair 9 = .ok (.iload_n 3, 1) := by decide +kernel
theorem dX7_pair_10 : decode cX7_pair 10 = .ok (.iadd, 1) := by decide +kernel
theorem dX7_pair_11 : decode cX7_pair 11 = .ok (.istore 4, 2) := by decide +kernel
theorem dX7_pair_13 : decode cX7_pair 13 = .ok (.aload_n 0, 1) := by decide +kernel
theorem dX7_pair_14 : decode cX7_pair 14 = .ok (.getfield 77, 3) := by decide +kernel
theorem dX7_pair_17 : decode cX7_pair 17 = .ok (.iload 4, 2) := by decide +kernel
theorem dX7_pair_19 : decode cX7_pair 19 = .ok (.aaload, 1) := by decide +kernel
theorem dX7_pair_20 : decode cX7_pair 20 = .ok (.ifnonnull 14, 3) := by decide +kernel
theorem dX7_pair_23 : decode cX7_pair 23 = .ok (.aload_n 0, 1) := by decide +kernel
theorem dX7_pair_24 : decode cX7_pair 24 = .ok (.getfield 77, 3) := by decide +kernel
theorem dX7_pair_27 : decode cX7_pair 27 = .ok (.iload 4, 2) := by decide +kernel
theorem dX7_pair_29 : decode cX7_pair 29 = .ok (.bipush 72, 2) := by decide +kernel
theorem dX7_pair_31 : decode cX7_pair 31 = .ok (.newarray .int, 2) := by decide +kernel
theorem dX7_pair_33 : decode cX7_pair 33 = .ok (.aastore, 1) := by decide +kernel
theorem dX7_pair_34 : decode cX7_pair 34 = .ok (.aload_n 0, 1) := by decide +kernel
theorem dX7_pair_35 : decode cX7_pair 35 = .ok (.getfield 77, 3) := by decide +kernel
theorem dX7_pair_38 : decode cX7_pair 38 = .ok (.iload 4, 2) := by decide +kernel
theorem dX7_pair_40 : decode cX7_pair 40 = .ok (.aaload, 1) := by decide +kernel
theorem dX7_pair_41 : decode cX7_pair 41 = .ok (.areturn, 1) := by decide +kernel
theorem dX7_two_0 : decode cX7_two 0 = .ok (.iload_n 1, 1) := by decide +kernel
theorem dX7_two_1 : decode cX7_two 1 = .ok (.bipush 15, 2) := by decide +kernel
theorem dX7_two_3 : decode cX7_two 3 = .ok (.iand, 1) := by decide +kernel
theorem dX7_two_4 : decode cX7_two 4 = .ok (.istore 6, 2) := by decide +kernel
theorem dX7_two_6 : decode cX7_two 6 = .ok (.iload_n 1, 1) := by decide +kernel
theorem dX7_two_7 : decode cX7_two 7 = .ok (.iconst 4, 1) := by decide +kernel
theorem dX7_two_8 : decode cX7_two 8 = .ok (.ishr, 1) := by decide +kernel
theorem dX7_two_9 : decode cX7_two 9 = .ok (.bipush 15, 2) := by decide +kernel
theorem dX7_two_11 : decode cX7_two 11 = .ok (.iand, 1) := by decide +kernel
theorem dX7_two_12 : decode cX7_two 12 = .ok (.istore 7, 2) := by decide +kernel
theorem dX7_two_14 : decode cX7_two 14 = .ok (.iload_n 1, 1) := by decide +kernel
theorem dX7_two_15 : decode cX7_two 15 = .ok (.bipush 8, 2) := by decide +kernel
theorem dX7_two_17 : decode cX7_two 17 = .ok (.ishr, 1) := by decide +kernel
theorem dX7_two_18 : decode cX7_two 18 = .ok (.bipush 15, 2) := by decide +kernel
theorem dX7_two_20 : decode cX7_two 20 = .ok (.iand, 1) := by decide +kernel
theorem dX7_two_21 : decode cX7_two 21 = .ok (.istore 8, 2) := by decide +kernel
theorem dX7_two_23 : decode cX7_two 23 = .ok (.iload_n 1, 1) := by decide +kernel
theorem dX7_two_24 : decode cX7_two 24 = .ok (.bipush 12, 2) := by decide +kernel
theorem dX7_two_26 : decode cX7_two 26 = .ok (.ishr, 1) := by decide +kernel
theorem dX7_two_27 : decode cX7_two 27 = .ok (.bipush 15, 2) := by decide +kernel
theorem dX7_two_29 : decode cX7_two 29 = .ok (.iand, 1) := by decide +kernel
theorem dX7_two_30 : decode cX7_two 30 = .ok (.istore 9, 2) := by decide +kernel
theorem dX7_two_32 : decode cX7_two 32 = .ok (.iload_n 1, 1) := by decide +kernel
theorem dX7_two_33 : decode cX7_two 33 = .ok (.iconst 0, 1) := by decide +kernel
theorem dX7_two_34 : decode cX7_two 34 = .ok (.ldc 169, 2) := by decide +kernel
theorem dX7_two_36 : decode cX7_two 36 = .ok (.invokestatic 80, 3) := by decide +kernel
theorem dX7_two_39 : decode cX7_two 39 = .ok (.ifCond .eq 57, 3) := by decide +kernel
theorem dX7_two_42 : decode cX7_two 42 = .ok (.iload 6, 2) := by decide +kernel
theorem dX7_two_44 : decode cX7_two 44 = .ok (.bipush 12, 2) := by decide +kernel
theorem dX7_two_46 : decode cX7_two 46 = .ok (.if_icmp .gt 50, 3) := by decide +kernel
theorem dX7_two_49 : decode cX7_two 49 = .ok (.iload 7, 2) := by decide +kernel
theorem dX7_two_51 : decode cX7_two 51 = .ok (.bipush 12, 2) := by decide +kernel
theorem dX7_two_53 : decode cX7_two 53 = .ok (.if_icmp .gt 43, 3) := by decide +kernel
theorem dX7_two_56 : decode cX7_two 56 = .ok (.iload 8, 2) := by decide +kernel
theorem dX7_two_58 : decode cX7_two 58 = .ok (.bipush 6, 2) := by decide +kernel
theorem dX7_two_60 : decode cX7_two 60 = .ok (.if_icmp .gt 36, 3) := by decide +kernel
theorem dX7_two_63 : decode cX7_two 63 = .ok (.iload 9, 2) := by decide +kernel
theorem dX7_two_65 : decode cX7_two 65 = .ok (.bipush 6, 2) := by decide +kernel
theorem dX7_two_67 : decode cX7_two 67 = .ok (.if_icmp .gt 29, 3) := by decide +kernel
theorem dX7_two_70 : decode cX7_two 70 = .ok (.aload_n 0, 1) := by decide +kernel
theorem dX7_two_71 : decode cX7_two 71 = .ok (.iload_n 2, 1) := by decide +kernel
theorem dX7_two_72 : decode cX7_two 72 = .ok (.invokevirtual 88, 3) := by decide +kernel
theorem dX7_two_75 : decode cX7_two 75 = .ok (.ifCond .eq 21, 3) := by decide +kernel
theorem dX7_two_78 : decode cX7_two 78 = .ok (.aload_n 0, 1) := by decide +kernel
theorem dX7_two_79 : decode cX7_two 79 = .ok (.iload_n 3, 1) := by decide +kernel
theorem dX7_two_80 : decode cX7_two 80 = .ok (.invokevirtual 88, 3) := by decide +kernel
theorem dX7_two_83 : decode cX7_two 83 = .ok (.ifCond .eq 13, 3) := by decide +kernel
theorem dX7_two_86 : decode cX7_two 86 = .ok (.iload 4, 2) := by decide +kernel
theorem dX7_two_88 : decode cX7_two 88 = .ok (.iconst 1, 1) := by decide +kernel
theorem dX7_two_89 : decode cX7_two 89 = .ok (.iconst 5, 1) := by decide +kernel
theorem dX7_two_90 : decode cX7_two 90 = .ok (.invokestatic 80, 3) := by decide +kernel
theorem dX7_two_93 : decode cX7_two 93 = .ok (.ifCond .ne 5, 3) := by decide +kernel
theorem dX7_two_96 : decode cX7_two 96 = .ok (.iconst 0, 1) := by decide +kernel
theorem dX7_two_97 : decode cX7_two 97 = .ok (.ireturn, 1) := by decide +kernel
theorem dX7_two_98 : decode cX7_two 98 = .ok (.iconst 0, 1) := by decide +kernel
theorem dX7_two_99 : decode cX7_two 99 = .ok (.istore 10, 2) := by decide +kernel
theorem dX7_two_101 : decode cX7_two 101 = .ok (.iload 10, 2) := by decide +kernel
theorem dX7_two_103 : decode cX7_two 103 = .ok (.bipush 43, 2) := by decide +kernel
theorem dX7_two_105 : decode cX7_two 105 = .ok (.if_icmp .ge 37, 3) := by decide +kernel
theorem dX7_two_108 : decode cX7_two 108 = .ok (.iconst 0, 1) := by decide +kernel
theorem dX7_two_109 : decode cX7_two 109 = .ok (.istore 11, 2) := by decide +kernel
theorem dX7_two_111 : decode cX7_two 111 = .ok (.iload 11, 2) := by decide +kernel
theorem dX7_two_113 : decode cX7_two 113 = .ok (.bipush 43, 2) := by decide +kernel
theorem dX7_two_115 : decode cX7_two 115 = .ok (.if_icmp .ge 21, 3) := by decide +kernel
theorem dX7_two_118 : decode cX7_two 118 = .ok (.aload_n 0, 1) := by decide +kernel
theorem dX7_two_119 : decode cX7_two 119 = .ok (.iconst 0, 1) := by decide +kernel
theorem dX7_two_120 : decode cX7_two 120 = .ok (.iload 10, 2) := by decide +kernel
theorem dX7_two_122 : decode cX7_two 122 = .ok (.iload 11, 2) := by decide +kernel
theorem dX7_two_124 : decode cX7_two 124 = .ok (.invokevirtual 170, 3) := by decide +kernel
theorem dX7_two_127 : decode cX7_two 127 = .ok (.invokestatic 112, 3) := by decide +kernel
theorem dX7_two_130 : decode cX7_two 130 = .ok (.iinc 11 1, 3) := by decide +kernel
theorem dX7_two_133 : decode cX7_two 133 = .ok (.goto (-22), 3) := by decide +kernel
theorem dX7_two_136 : decode cX7_two 136 = .ok (.iinc 10 1, 3) := by decide +kernel
theorem dX7_two_139 : decode cX7_two 139 = .ok (.goto (-38), 3) := by decide +kernel
theorem dX7_two_142 : decode cX7_two 142 = .ok (.aload_n 0, 1) := by decide +kernel
theorem dX7_two_143 : decode cX7_two 143 = .ok (.iconst 0, 1) := by decide +kernel
theorem dX7_two_144 : decode cX7_two 144 = .ok (.iload 6, 2) := by decide +kernel
theorem dX7_two_146 : decode cX7_two 146 = .ok (.iload 7, 2) := by decide +kernel
theorem dX7_two_148 : decode cX7_two 148 = .ok (.invokevirtual 170, 3) := by decide +kernel
theorem dX7_two_151 : decode cX7_two 151 = .ok (.iconst 0, 1) := by decide +kernel
theorem dX7_two_152 : decode cX7_two 152 = .ok (.iconst 1, 1) := by decide +kernel
theorem dX7_two_153 : decode cX7_two 153 = .ok (.iastore, 1) := by decide +kernel
theorem dX7_two_154 : decode cX7_two 154 = .ok (.iconst 0, 1) := by decide +kernel
theorem dX7_two_155 : decode cX7_two 155 = .ok (.istore 10, 2) := by decide +kernel
theorem dX7_two_157 : decode cX7_two 157 = .ok (.iload 10, 2) := by decide +kernel
theorem dX7_two_159 : decode cX7_two 159 = .ok (.iload 4, 2) := by decide +kernel
theorem dX7_two_161 : decode cX7_two 161 = .ok (.if_icmp .ge 189, 3) := by decide +kernel
theorem dX7_two_164 : decode cX7_two 164 = .ok (.iconst 0, 1) := by decide +kernel
theorem dX7_two_165 : decode cX7_two 165 = .ok (.istore 11, 2) := by decide +kernel
theorem dX7_two_167 : decode cX7_two 167 = .ok (.iload 11, 2) := by decide +kernel
theorem dX7_two_169 : decode cX7_two 169 = .ok (.bipush 43, 2) := by decide +kernel
theorem dX7_two_171 : decode cX7_two 171 = .ok (.if_icmp .ge 37, 3) := by decide +kernel
theorem dX7_two_174 : decode cX7_two 174 = .ok (.iconst 0, 1) := by decide +kernel
theorem dX7_two_175 : decode cX7_two 175 = .ok (.istore 12, 2) := by decide +kernel
theorem dX7_two_177 : decode cX7_two 177 = .ok (.iload 12, 2) := by decide +kernel
theorem dX7_two_179 : decode cX7_two 179 = .ok (.bipush 43, 2) := by decide +kernel
theorem dX7_two_181 : decode cX7_two 181 = .ok (.if_icmp .ge 21, 3) := by decide +kernel
theorem dX7_two_184 : decode cX7_two 184 = .ok (.aload_n 0, 1) := by decide +kernel
theorem dX7_two_185 : decode cX7_two 185 = .ok (.iconst 1, 1) := by decide +kernel
theorem dX7_two_186 : decode cX7_two 186 = .ok (.iload 11, 2) := by decide +kernel
theorem dX7_two_188 : decode cX7_two 188 = .ok (.iload 12, 2) := by decide +kernel
theorem dX7_two_190 : decode cX7_two 190 = .ok (.invokevirtual 170, 3) := by decide +kernel
theorem dX7_two_193 : decode cX7_two 193 = .ok (.invokestatic 112, 3) := by decide +kernel
theorem dX7_two_196 : decode cX7_two 196 = .ok (.iinc 12 1, 3) := by decide +kernel
theorem dX7_two_199 : decode cX7_two 199 = .ok (.goto (-22), 3) := by decide +kernel
theorem dX7_two_202 : decode cX7_two 202 = .ok (.iinc 11 1, 3) := by decide +kernel
theorem dX7_two_205 : decode cX7_two 205 = .ok (.goto (-38), 3) := by decide +kernel
theorem dX7_two_208 : decode cX7_two 208 = .ok (.iconst 0, 1) := by decide +kernel
theorem dX7_two_209 : decode cX7_two 209 = .ok (.istore 11, 2) := by decide +kernel
theorem dX7_two_211 : decode cX7_two 211 = .ok (.iload 11, 2) := by decide +kernel
theorem dX7_two_213 : decode cX7_two 213 = .ok (.iload 6, 2) := by decide +kernel
theorem dX7_two_215 : decode cX7_two 215 = .ok (.iload 8, 2) := by decide +kernel
theorem dX7_two_217 : decode cX7_two 217 = .ok (.iload 10, 2) := by decide +kernel
theorem dX7_two_219 : decode cX7_two 219 = .ok (.imul, 1) := by decide +kernel
theorem dX7_two_220 : decode cX7_two 220 = .ok (.iadd, 1) := by decide +kernel
theorem dX7_two_221 : decode cX7_two 221 = .ok (.iload 7, 2) := by decide +kernel
theorem dX7_two_223 : decode cX7_two 223 = .ok (.iadd, 1) := by decide +kernel
theorem dX7_two_224 : decode cX7_two 224 = .ok (.iload 9, 2) := by decide +kernel
theorem dX7_two_226 : decode cX7_two 226 = .ok (.iload 10, 2) := by decide +kernel
theorem dX7_two_228 : decode cX7_two 228 = .ok (.imul, 1) := by decide +kernel
theorem dX7_two_229 : decode cX7_two 229 = .ok (.iadd, 1) := by decide +kernel
theorem dX7_two_230 : decode cX7_two 230 = .ok (.if_icmp .gt 61, 3) := by decide +kernel
theorem dX7_two_233 : decode cX7_two 233 = .ok (.iload 11, 2) := by decide +kernel
theorem dX7_two_235 : decode cX7_two 235 = .ok (.bipush 43, 2) := by decide +kernel
theorem dX7_two_237 : decode cX7_two 237 = .ok (.if_icmp .ge 54, 3) := by decide +kernel
theorem dX7_two_240 : decode cX7_two 240 = .ok (.iconst 0, 1) := by decide +kernel
theorem dX7_two_241 : decode cX7_two 241 = .ok (.istore 12, 2) := by decide +kernel
theorem dX7_two_243 : decode cX7_two 243 = .ok (.iload 12, 2) := by decide +kernel
theorem dX7_two_245 : decode cX7_two 245 = .ok (.iload 7, 2) := by decide +kernel
theorem dX7_two_247 : decode cX7_two 247 = .ok (.iload 9, 2) := by decide +kernel
theorem dX7_two_249 : decode cX7_two 249 = .ok (.iload 10, 2) := by decide +kernel
theorem dX7_two_251 : decode cX7_two 251 = .ok (.imul, 1) := by decide +kernel
theorem dX7_two_252 : decode cX7_two 252 = .ok (.iadd, 1) := by decide +kernel
theorem dX7_two_253 : decode cX7_two 253 = .ok (.if_icmp .gt 32, 3) := by decide +kernel
theorem dX7_two_256 : decode cX7_two 256 = .ok (.iload 12, 2) := by decide +kernel
theorem dX7_two_258 : decode cX7_two 258 = .ok (.bipush 43, 2) := by decide +kernel
theorem dX7_two_260 : decode cX7_two 260 = .ok (.if_icmp .ge 25, 3) := by decide +kernel
theorem dX7_two_263 : decode cX7_two 263 = .ok (.aload_n 0, 1) := by decide +kernel
theorem dX7_two_264 : decode cX7_two 264 = .ok (.iload 11, 2) := by decide +kernel
theorem dX7_two_266 : decode cX7_two 266 = .ok (.iload 12, 2) := by decide +kernel
theorem dX7_two_268 : decode cX7_two 268 = .ok (.iload 8, 2) := by decide +kernel
theorem dX7_two_270 : decode cX7_two 270 = .ok (.iload 9, 2) := by decide +kernel
theorem dX7_two_272 : decode cX7_two 272 = .ok (.iload_n 2, 1) := by decide +kernel
theorem dX7_two_273 : decode cX7_two 273 = .ok (.iload_n 3, 1) := by decide +kernel
theorem dX7_two_274 : decode cX7_two 274 = .ok (.iload 5, 2) := by decide +kernel
theorem dX7_two_276 : decode cX7_two 276 = .ok (.invokevirtual 174, 3) := by decide +kernel
theorem dX7_two_279 : decode cX7_two 279 = .ok (.iinc 12 1, 3) := by decide +kernel
theorem dX7_two_282 : decode cX7_two 282 = .ok (.goto (-39), 3) := by decide +kernel
theorem dX7_two_285 : decode cX7_two 285 = .ok (.iinc 11 1, 3) := by decide +kernel
theorem dX7_two_288 : decode cX7_two 288 = .ok (.goto (-77), 3) := by decide +kernel
theorem dX7_two_291 : decode cX7_two 291 = .ok (.iconst 0, 1) := by decide +kernel
theorem dX7_two_292 : decode cX7_two 292 = .ok (.istore 11, 2) := by decide +kernel
theorem dX7_two_294 : decode cX7_two 294 = .ok (.iload 11, 2) := by decide +kernel
theorem dX7_two_296 : decode cX7_two 296 = .ok (.bipush 43, 2) := by decide +kernel
theorem dX7_two_298 : decode cX7_two 298 = .ok (.if_icmp .ge 46, 3) := by decide +kernel
theorem dX7_two_301 : decode cX7_two 301 = .ok (.iconst 0, 1) := by decide +kernel
theorem dX7_two_302 : decode cX7_two 302 = .ok (.istore 12, 2) := by decide +kernel
theorem dX7_two_304 : decode cX7_two 304 = .ok (.iload 12, 2) := by decide +kernel
theorem dX7_two_306 : decode cX7_two 306 = .ok (.bipush 43, 2) := by decide +kernel
theorem dX7_two_308 : decode cX7_two 308 = .ok (.if_icmp .ge 30, 3) := by decide +kernel
theorem dX7_two_311 : decode cX7_two 311 = .ok (.aload_n 0, 1) := by decide +kernel
theorem dX7_two_312 : decode cX7_two 312 = .ok (.iconst 1, 1) := by decide +kernel
theorem dX7_two_313 : decode cX7_two 313 = .ok (.iload 11, 2) := by decide +kernel
theorem dX7_two_315 : decode cX7_two 315 = .ok (.iload 12, 2) := by decide +kernel
theorem dX7_two_317 : decode cX7_two 317 = .ok (.invokevirtual 170, 3) := by decide +kernel
theorem dX7_two_320 : decode cX7_two 320 = .ok (.aload_n 0, 1) := by decide +kernel
theorem dX7_two_321 : decode cX7_two 321 = .ok (.iconst 0, 1) := by decide +kernel
theorem dX7_two_322 : decode cX7_two 322 = .ok (.iload 11, 2) := by decide +kernel
theorem dX7_two_324 : decode cX7_two 324 = .ok (.iload 12, 2) := by decide +kernel
theorem dX7_two_326 : decode cX7_two 326 = .ok (.invokevirtual 170, 3) := by decide +kernel
theorem dX7_two_329 : decode cX7_two 329 = .ok (.invokestatic 124, 3) := by decide +kernel
theorem dX7_two_332 : decode cX7_two 332 = .ok (.iinc 12 1, 3) := by decide +kernel
theorem dX7_two_335 : decode cX7_two 335 = .ok (.goto (-31), 3) := by decide +kernel
theorem dX7_two_338 : decode cX7_two 338 = .ok (.iinc 11 1, 3) := by decide +kernel
theorem dX7_two_341 : decode cX7_two 341 = .ok (.goto (-47), 3) := by decide +kernel
theorem dX7_two_344 : decode cX7_two 344 = .ok (.iinc 10 1, 3) := by decide +kernel
theorem dX7_two_347 : decode cX7_two 347 = .ok (.goto (-190), 3) := by decide +kernel
theorem dX7_two_350 : decode cX7_two 350 = .ok (.aload_n 0, 1) := by decide +kernel
theorem dX7_two_351 : decode cX7_two 351 = .ok (.getfield 14, 3) := by decide +kernel
theorem dX7_two_354 : decode cX7_two 354 = .ok (.invokestatic 112, 3) := by decide +kernel
theorem dX7_two_357 : decode cX7_two 357 = .ok (.iconst 0, 1) := by decide +kernel
theorem dX7_two_358 : decode cX7_two 358 = .ok (.istore 10, 2) := by decide +kernel
theorem dX7_two_360 : decode cX7_two 360 = .ok (.iload 10, 2) := by decide +kernel
theorem dX7_two_362 : decode cX7_two 362 = .ok (.bipush 43, 2) := by decide +kernel
theorem dX7_two_364 : decode cX7_two 364 = .ok (.if_icmp .ge 44, 3) := by decide +kernel
theorem dX7_two_367 : decode cX7_two 367 = .ok (.iconst 0, 1) := by decide +kernel
theorem dX7_two_368 : decode cX7_two 368 = .ok (.istore 11, 2) := by decide +kernel
theorem dX7_two_370 : decode cX7_two 370 = .ok (.iload 11, 2) := by decide +kernel
theorem dX7_two_372 : decode cX7_two 372 = .ok (.bipush 43, 2) := by decide +kernel
theorem dX7_two_374 : decode cX7_two 374 = .ok (.if_icmp .ge 28, 3) := by decide +kernel
theorem dX7_two_377 : decode cX7_two 377 = .ok (.aload_n 0, 1) := by decide +kernel
theorem dX7_two_378 : decode cX7_two 378 = .ok (.aload_n 0, 1) := by decide +kernel
theorem dX7_two_379 : decode cX7_two 379 = .ok (.getfield 14, 3) := by decide +kernel
theorem dX7_two_382 : decode cX7_two 382 = .ok (.aload_n 0, 1) := by decide +kernel
theorem dX7_two_383 : decode cX7_two 383 = .ok (.iconst 0, 1) := by decide +kernel
theorem dX7_two_384 : decode cX7_two 384 = .ok (.iload 10, 2) := by decide +kernel
theorem dX7_two_386 : decode cX7_two 386 = .ok (.iload 11, 2) := by decide +kernel
theorem dX7_two_388 : decode cX7_two 388 = .ok (.invokevirtual 170, 3) := by decide +kernel
theorem dX7_two_391 : decode cX7_two 391 = .ok (.iconst 1, 1) := by decide +kernel
theorem dX7_two_392 : decode cX7_two 392 = .ok (.iconst 0, 1) := by decide +kernel
theorem dX7_two_393 : decode cX7_two 393 = .ok (.invokevirtual 120, 3) := by decide +kernel
theorem dX7_two_396 : decode cX7_two 396 = .ok (.iinc 11 1, 3) := by decide +kernel
theorem dX7_two_399 : decode cX7_two 399 = .ok (.goto (-29), 3) := by decide +kernel
theorem dX7_two_402 : decode cX7_two 402 = .ok (.iinc 10 1, 3) := by decide +kernel
theorem dX7_two_405 : decode cX7_two 405 = .ok (.goto (-45), 3) := by decide +kernel
theorem dX7_two_408 : decode cX7_two 408 = .ok (.aload_n 0, 1) := by decide +kernel
theorem dX7_two_409 : decode cX7_two 409 = .ok (.iconst 2, 1) := by decide +kernel
theorem dX7_two_410 : decode cX7_two 410 = .ok (.iload 4, 2) := by decide +kernel
theorem dX7_two_412 : decode cX7_two 412 = .ok (.imul, 1) := by decide +kernel
theorem dX7_two_413 : decode cX7_two 413 = .ok (.putfield 143, 3) := by decide +kernel
theorem dX7_two_416 : decode cX7_two 416 = .ok (.iconst 1, 1) := by decide +kernel
theorem dX7_two_417 : decode cX7_two 417 = .ok (.ireturn, 1) := by decide +kernel
theorem dX7_isNought_0 : decode cX7_isNought 0 = .ok (.iconst 0, 1) := by decide +kernel
theorem dX7_isNought_1 : decode cX7_isNought 1 = .ok (.istore_n 2, 1) := by decide +kernel
theorem dX7_isNought_2 : decode cX7_isNought 2 = .ok (.iload_n 2, 1) := by decide +kernel
theorem dX7_isNought_3 : decode cX7_isNought 3 = .ok (.bipush 72, 2) := by decide +kernel
theorem dX7_isNought_5 : decode cX7_isNought 5 = .ok (.if_icmp .ge 17, 3) := by decide +kernel
theorem dX7_isNought_8 : decode cX7_isNought 8 = .ok (.aload_n 1, 1) := by decide +kernel
theorem dX7_isNought_9 : decode cX7_isNought 9 = .ok (.iload_n 2, 1) := by decide +kernel
theorem dX7_isNought_10 : decode cX7_isNought 10 = .ok (.iaload, 1) := by decide +kernel
theorem dX7_isNought_11 : decode cX7_isNought 11 = .ok (.ifCond .eq 5, 3) := by decide +kernel
theorem dX7_isNought_14 : decode cX7_isNought 14 = .ok (.iconst 0, 1) := by decide +kernel
theorem dX7_isNought_15 : decode cX7_isNought 15 = .ok (.ireturn, 1) := by decide +kernel
theorem dX7_isNought_16 : decode cX7_isNought 16 = .ok (.iinc 2 1, 3) := by decide +kernel
theorem dX7_isNought_19 : decode cX7_isNought 19 = .ok (.goto (-17), 3) := by decide +kernel
theorem dX7_isNought_22 : decode cX7_isNought 22 = .ok (.iconst 1, 1) := by decide +kernel
theorem dX7_isNought_23 : decode cX7_isNought 23 = .ok (.ireturn, 1) := by decide +kernel
theorem dX7_steps_0 : decode cX7_steps 0 = .ok (.aload_n 0, 1) := by decide +kernel
theorem dX7_steps_1 : decode cX7_steps 1 = .ok (.iconst 0, 1) := by decide +kernel
theorem dX7_steps_2 : decode cX7_steps 2 = .ok (.iload_n 1, 1) := by decide +kernel
theorem dX7_steps_3 : decode cX7_steps 3 = .ok (.iload_n 2, 1) := by decide +kernel
theorem dX7_steps_4 : decode cX7_steps 4 = .ok (.invokevirtual 170, 3) := by decide +kernel
theorem dX7_steps_7 : decode cX7_steps 7 = .ok (.astore 8, 2) := by decide +kernel
theorem dX7_steps_9 : decode cX7_steps 9 = .ok (.aload_n 0, 1) := by decide +kernel
theorem dX7_steps_10 : decode cX7_steps 10 = .ok (.aload 8, 2) := by decide +kernel
theorem dX7_steps_12 : decode cX7_steps 12 = .ok (.invokevirtual 116, 3) := by decide +kernel
theorem dX7_steps_15 : decode cX7_steps 15 = .ok (.ifCond .eq 4, 3) := by decide +kernel
theorem dX7_steps_18 : decode cX7_steps 18 = .ok (.return_, 1) := by decide +kernel
theorem dX7_steps_19 : decode cX7_steps 19 = .ok (.iconst 0, 1) := by decide +kernel
theorem dX7_steps_20 : decode cX7_steps 20 = .ok (.istore 9, 2) := by decide +kernel
theorem dX7_steps_22 : decode cX7_steps 22 = .ok (.iload 9, 2) := by decide +kernel
theorem dX7_steps_24 : decode cX7_steps 24 = .ok (.bipush 21, 2) := by decide +kernel
theorem dX7_steps_26 : decode cX7_steps 26 = .ok (.if_icmp .ge 160, 3) := by decide +kernel
theorem dX7_steps_29 : decode cX7_steps 29 = .ok (.iconst 0, 1) := by decide +kernel
theorem dX7_steps_30 : decode cX7_steps 30 = .ok (.istore 10, 2) := by decide +kernel
theorem dX7_steps_32 : decode cX7_steps 32 = .ok (.iload 10, 2) := by decide +kernel
theorem dX7_steps_34 : decode cX7_steps 34 = .ok (.bipush 21, 2) := by decide +kernel
theorem dX7_steps_36 : decode cX7_steps 36 = .ok (.if_icmp .ge 144, 3) := by decide +kernel
theorem dX7_steps_39 : decode cX7_steps 39 = .ok (.aload_n 0, 1) := by decide +kernel
theorem dX7_steps_40 : decode cX7_steps 40 = .ok (.getfield 11, 3) := by decide +kernel
theorem dX7_steps_43 : decode cX7_steps 43 = .ok (.iload 5, 2) := by decide +kernel
theorem dX7_steps_45 : decode cX7_steps 45 = .ok (.aaload, 1) := by decide +kernel
theorem dX7_steps_46 : decode cX7_steps 46 = .ok (.iload 9, 2) := by decide +kernel
theorem dX7_steps_48 : decode cX7_steps 48 = .ok (.iaload, 1) := by decide +kernel
theorem dX7_steps_49 : decode cX7_steps 49 = .ok (.aload_n 0, 1) := by decide +kernel
theorem dX7_steps_50 : decode cX7_steps 50 = .ok (.getfield 11, 3) := by decide +kernel
theorem dX7_steps_53 : decode cX7_steps 53 = .ok (.iload 6, 2) := by decide +kernel
theorem dX7_steps_55 : decode cX7_steps 55 = .ok (.aaload, 1) := by decide +kernel
theorem dX7_steps_56 : decode cX7_steps 56 = .ok (.iload 10, 2) := by decide +kernel
theorem dX7_steps_58 : decode cX7_steps 58 = .ok (.iaload, 1) := by decide +kernel
theorem dX7_steps_59 : decode cX7_steps 59 = .ok (.imul, 1) := by decide +kernel
theorem dX7_steps_60 : decode cX7_steps 60 = .ok (.istore 11, 2) := by decide +kernel
theorem dX7_steps_62 : decode cX7_steps 62 = .ok (.iload 11, 2) := by decide +kernel
theorem dX7_steps_64 : decode cX7_steps 64 = .ok (.ifCond .ne 6, 3) := by decide +kernel
theorem dX7_steps_67 : decode cX7_steps 67 = .ok (.goto 107, 3) := by decide +kernel
theorem dX7_steps_70 : decode cX7_steps 70 = .ok (.iload_n 1, 1) := by decide +kernel
theorem dX7_steps_71 : decode cX7_steps 71 = .ok (.iload_n 3, 1) := by decide +kernel
theorem dX7_steps_72 : decode cX7_steps 72 = .ok (.iadd, 1) := by decide +kernel
theorem dX7_steps_73 : decode cX7_steps 73 = .ok (.iload 9, 2) := by decide +kernel
theorem dX7_steps_75 : decode cX7_steps 75 = .ok (.isub, 1) := by decide +kernel
theorem dX7_steps_76 : decode cX7_steps 76 = .ok (.istore 12, 2) := by decide +kernel
theorem dX7_steps_78 : decode cX7_steps 78 = .ok (.iload_n 2, 1) := by decide +kernel
theorem dX7_steps_79 : decode cX7_steps 79 = .ok (.iload 4, 2) := by decide +kernel
theorem dX7_steps_81 : decode cX7_steps 81 = .ok (.iadd, 1) := by decide +kernel
theorem dX7_steps_82 : decode cX7_steps 82 = .ok (.iload 10, 2) := by decide +kernel
theorem dX7_steps_84 : decode cX7_steps 84 = .ok (.isub, 1) := by decide +kernel
theorem dX7_steps_85 : decode cX7_steps 85 = .ok (.istore 13, 2) := by decide +kernel
theorem dX7_steps_87 : decode cX7_steps 87 = .ok (.iload 7, 2) := by decide +kernel
theorem dX7_steps_89 : decode cX7_steps 89 = .ok (.ifCond .eq 29, 3) := by decide +kernel
theorem dX7_steps_92 : decode cX7_steps 92 = .ok (.iload 12, 2) := by decide +kernel
theorem dX7_steps_94 : decode cX7_steps 94 = .ok (.ifCond .ge 24, 3) := by decide +kernel
theorem dX7_steps_97 : decode cX7_steps 97 = .ok (.iload 13, 2) := by decide +kernel
theorem dX7_steps_99 : decode cX7_steps 99 = .ok (.iload 12, 2) := by decide +kernel
theorem dX7_steps_101 : decode cX7_steps 101 = .ok (.ineg, 1) := by decide +kernel
theorem dX7_steps_102 : decode cX7_steps 102 = .ok (.if_icmp .lt 16, 3) := by decide +kernel
theorem dX7_steps_105 : decode cX7_steps 105 = .ok (.iload 13, 2) := by decide +kernel
theorem dX7_steps_107 : decode cX7_steps 107 = .ok (.iload 12, 2) := by decide +kernel
theorem dX7_steps_109 : decode cX7_steps 109 = .ok (.iadd, 1) := by decide +kernel
theorem dX7_steps_110 : decode cX7_steps 110 = .ok (.istore 13, 2) := by decide +kernel
theorem dX7_steps_112 : decode cX7_steps 112 = .ok (.iconst 0, 1) := by decide +kernel
theorem dX7_steps_113 : decode cX7_steps 113 = .ok (.istore 12, 2) := by decide +kernel
theorem dX7_steps_115 : decode cX7_steps 115 = .ok (.goto 31, 3) := by decide +kernel
theorem dX7_steps_118 : decode cX7_steps 118 = .ok (.iload 7, 2) := by decide +kernel
theorem dX7_steps_120 : decode cX7_steps 120 = .ok (.ifCond .eq 26, 3) := by decide +kernel
theorem dX7_steps_123 : decode cX7_steps 123 = .ok (.iload 13, 2) := by decide +kernel
theorem dX7_steps_125 : decode cX7_steps 125 = .ok (.ifCond .ge 21, 3) := by decide +kernel
theorem dX7_steps_128 : decode cX7_steps 128 = .ok (.iload 12, 2) := by decide +kernel
theorem dX7_steps_130 : decode cX7_steps 130 = .ok (.iload 13, 2) := by decide +kernel
theorem dX7_steps_132 : decode cX7_steps 132 = .ok (.ineg, 1) := by decide +kernel
theorem dX7_steps_133 : decode cX7_steps 133 = .ok (.if_icmp .lt 13, 3) := by decide +kernel
theorem dX7_steps_136 : decode cX7_steps 136 = .ok (.iload 12, 2) := by decide +kernel
theorem dX7_steps_138 : decode cX7_steps 138 = .ok (.iload 13, 2) := by decide +kernel
theorem dX7_steps_140 : decode cX7_steps 140 = .ok (.iadd, 1) := by decide +kernel
theorem dX7_steps_141 : decode cX7_steps 141 = .ok (.istore 12, 2) := by decide +kernel
theorem dX7_steps_143 : decode cX7_steps 143 = .ok (.iconst 0, 1) := by decide +kernel
theorem dX7_steps_144 : decode cX7_steps 144 = .ok (.istore 13, 2) := by decide +kernel
theorem dX7_steps_146 : decode cX7_steps 146 = .ok (.iload 12, 2) := by decide +kernel
theorem dX7_steps_148 : decode cX7_steps 148 = .ok (.ifCond .lt 26, 3) := by decide +kernel
theorem dX7_steps_151 : decode cX7_steps 151 = .ok (.iload 13, 2) := by decide +kernel
theorem dX7_steps_153 : decode cX7_steps 153 = .ok (.ifCond .lt 21, 3) := by decide +kernel
theorem dX7_steps_156 : decode cX7_steps 156 = .ok (.aload_n 0, 1) := by decide +kernel
theorem dX7_steps_157 : decode cX7_steps 157 = .ok (.aload_n 0, 1) := by decide +kernel
theorem dX7_steps_158 : decode cX7_steps 158 = .ok (.iconst 1, 1) := by decide +kernel
theorem dX7_steps_159 : decode cX7_steps 159 = .ok (.iload 12, 2) := by decide +kernel
theorem dX7_steps_161 : decode cX7_steps 161 = .ok (.iload 13, 2) := by decide +kernel
theorem dX7_steps_163 : decode cX7_steps 163 = .ok (.invokevirtual 170, 3) := by decide +kernel
theorem dX7_steps_166 : decode cX7_steps 166 = .ok (.aload 8, 2) := by decide +kernel
theorem dX7_steps_168 : decode cX7_steps 168 = .ok (.iload 11, 2) := by decide +kernel
theorem dX7_steps_170 : decode cX7_steps 170 = .ok (.iconst 0, 1) := by decide +kernel
theorem dX7_steps_171 : decode cX7_steps 171 = .ok (.invokevirtual 120, 3) := by decide +kernel
theorem dX7_steps_174 : decode cX7_steps 174 = .ok (.iinc 10 1, 3) := by decide +kernel
theorem dX7_steps_177 : decode cX7_steps 177 = .ok (.goto (-145), 3) := by decide +kernel
theorem dX7_steps_180 : decode cX7_steps 180 = .ok (.iinc 9 1, 3) := by decide +kernel
theorem dX7_steps_183 : decode cX7_steps 183 = .ok (.goto (-161), 3) := by decide +kernel
theorem dX7_steps_186 : decode cX7_steps 186 = .ok (.return_, 1) := by decide +kernel
theorem dX7_digit_0 : decode cX7_digit 0 = .ok (.iload_n 1, 1) := by decide +kernel
theorem dX7_digit_1 : decode cX7_digit 1 = .ok (.ifCond .ne 29, 3) := by decide +kernel
theorem dX7_digit_4 : decode cX7_digit 4 = .ok (.aload_n 0, 1) := by decide +kernel
theorem dX7_digit_5 : decode cX7_digit 5 = .ok (.getfield 14, 3) := by decide +kernel
theorem dX7_digit_8 : decode cX7_digit 8 = .ok (.aload_n 0, 1) := by decide +kernel
theorem dX7_digit_9 : decode cX7_digit 9 = .ok (.getfield 143, 3) := by decide +kernel
theorem dX7_digit_12 : decode cX7_digit 12 = .ok (.iaload, 1) := by decide +kernel
theorem dX7_digit_13 : decode cX7_digit 13 = .ok (.sipush 1000, 3) := by decide +kernel
theorem dX7_digit_16 : decode cX7_digit 16 = .ok (.aload_n 0, 1) := by decide +kernel
theorem dX7_digit_17 : decode cX7_digit 17 = .ok (.getfield 14, 3) := by decide +kernel
theorem dX7_digit_20 : decode cX7_digit 20 = .ok (.aload_n 0, 1) := by decide +kernel
theorem dX7_digit_21 : decode cX7_digit 21 = .ok (.getfield 143, 3) := by decide +kernel
theorem dX7_digit_24 : decode cX7_digit 24 = .ok (.iconst 1, 1) := by decide +kernel
theorem dX7_digit_25 : decode cX7_digit 25 = .ok (.iadd, 1) := by decide +kernel
theorem dX7_digit_26 : decode cX7_digit 26 = .ok (.iaload, 1) := by decide +kernel
theorem dX7_digit_27 : decode cX7_digit 27 = .ok (.imul, 1) := by decide +kernel
theorem dX7_digit_28 : decode cX7_digit 28 = .ok (.iadd, 1) := by decide +kernel
theorem dX7_digit_29 : decode cX7_digit 29 = .ok (.ireturn, 1) := by decide +kernel
theorem dX7_digit_30 : decode cX7_digit 30 = .ok (.iload_n 1, 1) := by decide +kernel
theorem dX7_digit_31 : decode cX7_digit 31 = .ok (.iconst 1, 1) := by decide +kernel
theorem dX7_digit_32 : decode cX7_digit 32 = .ok (.iconst 3, 1) := by decide +kernel
theorem dX7_digit_33 : decode cX7_digit 33 = .ok (.aload_n 0, 1) := by decide +kernel
theorem dX7_digit_34 : decode cX7_digit 34 = .ok (.getfield 143, 3) := by decide +kernel
theorem dX7_digit_37 : decode cX7_digit 37 = .ok (.imul, 1) := by decide +kernel
theorem dX7_digit_38 : decode cX7_digit 38 = .ok (.invokestatic 80, 3) := by decide +kernel
theorem dX7_digit_41 : decode cX7_digit 41 = .ok (.ifCond .eq 18, 3) := by decide +kernel
theorem dX7_digit_44 : decode cX7_digit 44 = .ok (.aload_n 0, 1) := by decide +kernel
theorem dX7_digit_45 : decode cX7_digit 45 = .ok (.getfield 14, 3) := by decide +kernel
theorem dX7_digit_48 : decode cX7_digit 48 = .ok (.aload_n 0, 1) := by decide +kernel
theorem dX7_digit_49 : decode cX7_digit 49 = .ok (.getfield 143, 3) := by decide +kernel
theorem dX7_digit_52 : decode cX7_digit 52 = .ok (.iload_n 1, 1) := by decide +kernel
theorem dX7_digit_53 : decode cX7_digit 53 = .ok (.invokestatic 146, 3) := by decide +kernel
theorem dX7_digit_56 : decode cX7_digit 56 = .ok (.goto 4, 3) := by decide +kernel
theorem dX7_digit_59 : decode cX7_digit 59 = .ok (.iconst (-1), 1) := by decide +kernel
theorem dX7_digit_60 : decode cX7_digit 60 = .ok (.ireturn, 1) := by decide +kernel
theorem dX7_decimals_0 : decode cX7_decimals 0 = .ok (.iconst 3, 1) := by decide +kernel
theorem dX7_decimals_1 : decode cX7_decimals 1 = .ok (.aload_n 0, 1) := by decide +kernel
theorem dX7_decimals_2 : decode cX7_decimals 2 = .ok (.getfield 143, 3) := by decide +kernel
theorem dX7_decimals_5 : decode cX7_decimals 5 = .ok (.imul, 1) := by decide +kernel
theorem dX7_decimals_6 : decode cX7_decimals 6 = .ok (.ireturn, 1) := by decide +kernel
theorem dJ13_compare_74951_0 : decode cJ13_compare_74951 0 = .ok (.lload_n 0, 1) := by decide +kernel
theorem dJ13_compare_74951_1 : decode cJ13_compare_74951 1 = .ok (.lload_n 2, 1) := by decide +kernel
theorem dJ13_compare_74951_2 : decode cJ13_compare_74951 2 = .ok (.lcmp, 1) := by decide +kernel
theorem dJ13_compare_74951_3 : decode cJ13_compare_74951 3 = .ok (.ifCond .ge 7, 3) := by decide +kernel
theorem dJ13_compare_74951_6 : decode cJ13_compare_74951 6 = .ok (.iconst (-1), 1) := by decide +kernel
theorem dJ13_compare_74951_7 : decode cJ13_compare_74951 7 = .ok (.goto 14, 3) := by decide +kernel
theorem dJ13_compare_74951_10 : decode cJ13_compare_74951 10 = .ok (.lload_n 0, 1) := by decide +kernel
theorem dJ13_compare_74951_11 : decode cJ13_compare_74951 11 = .ok (.lload_n 2, 1) := by decide +kernel
theorem dJ13_compare_74951_12 : decode cJ13_compare_74951 12 = .ok (.lcmp, 1) := by decide +kernel
theorem dJ13_compare_74951_13 : decode cJ13_compare_74951 13 = .ok (.ifCond .ne 7, 3) := by decide +kernel
theorem dJ13_compare_74951_16 : decode cJ13_compare_74951 16 = .ok (.iconst 0, 1) := by decide +kernel
theorem dJ13_compare_74951_17 : decode cJ13_compare_74951 17 = .ok (.goto 4, 3) := by decide +kernel
theorem dJ13_compare_74951_20 : decode cJ13_compare_74951 20 = .ok (.iconst 1, 1) := by decide +kernel
theorem dJ13_compare_74951_21 : decode cJ13_compare_74951 21 = .ok (.ireturn, 1) := by decide +kernel
theorem dJ9_floorDiv_f86c9_0 : decode cJ9_floorDiv_f86c9 0 = .ok (.lload_n 0, 1) := by decide +kernel
theorem dJ9_floorDiv_f86c9_1 : decode cJ9_floorDiv_f86c9 1 = .ok (.lload_n 2, 1) := by decide +kernel
theorem dJ9_floorDiv_f86c9_2 : decode cJ9_floorDiv_f86c9 2 = .ok (.ldiv, 1) := by decide +kernel
theorem dJ9_floorDiv_f86c9_3 : decode cJ9_floorDiv_f86c9 3 = .ok (.lstore 4, 2) := by decide +kernel
theorem dJ9_floorDiv_f86c9_5 : decode cJ9_floorDiv_f86c9 5 = .ok (.lload_n 0, 1) := by decide +kernel
theorem dJ9_floorDiv_f86c9_6 : decode cJ9_floorDiv_f86c9 6 = .ok (.lload_n 2, 1) := by decide +kernel
theorem dJ9_floorDiv_f86c9_7 : decode cJ9_floorDiv_f86c9 7 = .ok (.lxor, 1) := by decide +kernel
theorem dJ9_floorDiv_f86c9_8 : decode cJ9_floorDiv_f86c9 8 = .ok (.lconst 0, 1) := by decide +kernel
theorem dJ9_floorDiv_f86c9_9 : decode cJ9_floorDiv_f86c9 9 = .ok (.lcmp, 1) := by decide +kernel
theorem dJ9_floorDiv_f86c9_10 : decode cJ9_floorDiv_f86c9 10 = .ok (.ifCond .ge 17, 3) := by decide +kernel
theorem dJ9_floorDiv_f86c9_13 : decode cJ9_floorDiv_f86c9 13 = .ok (.lload 4, 2) := by decide +kernel
theorem dJ9_floorDiv_f86c9_15 : decode cJ9_floorDiv_f86c9 15 = .ok (.lload_n 2, 1) := by decide +kernel
theorem dJ9_floorDiv_f86c9_16 : decode cJ9_floorDiv_f86c9 16 = .ok (.lmul, 1) := by decide +kernel
theorem dJ9_floorDiv_f86c9_17 : decode cJ9_floorDiv_f86c9 17 = .ok (.lload_n 0, 1) := by decide +kernel
theorem dJ9_floorDiv_f86c9_18 : decode cJ9_floorDiv_f86c9 18 = .ok (.lcmp, 1) := by decide +kernel
theorem dJ9_floorDiv_f86c9_19 : decode cJ9_floorDiv_f86c9 19 = .ok (.ifCond .eq 8, 3) := by decide +kernel
theorem dJ9_floorDiv_f86c9_22 : decode cJ9_floorDiv_f86c9 22 = .ok (.lload 4, 2) := by decide +kernel
theorem dJ9_floorDiv_f86c9_24 : decode cJ9_floorDiv_f86c9 24 = .ok (.lconst 1, 1) := by decide +kernel
theorem dJ9_floorDiv_f86c9_25 : decode cJ9_floorDiv_f86c9 25 = .ok (.lsub, 1) := by decide +kernel
theorem dJ9_floorDiv_f86c9_26 : decode cJ9_floorDiv_f86c9 26 = .ok (.lreturn, 1) := by decide +kernel
theorem dJ9_floorDiv_f86c9_27 : decode cJ9_floorDiv_f86c9 27 = .ok (.lload 4, 2) := by decide +kernel
theorem dJ9_floorDiv_f86c9_29 : decode cJ9_floorDiv_f86c9 29 = .ok (.lreturn, 1) := by decide +kernel
theorem dJ9_floorMod_f86c9_0 : decode cJ9_floorMod_f86c9 0 = .ok (.lload_n 0, 1) := by decide +kernel
theorem dJ9_floorMod_f86c9_1 : decode cJ9_floorMod_f86c9 1 = .ok (.lload_n 2, 1) := by decide +kernel
theorem dJ9_floorMod_f86c9_2 : decode cJ9_floorMod_f86c9 2 = .ok (.lrem, 1) := by decide +kernel
theorem dJ9_floorMod_f86c9_3 : decode cJ9_floorMod_f86c9 3 = .ok (.lstore 4, 2) := by decide +kernel
theorem dJ9_floorMod_f86c9_5 : decode cJ9_floorMod_f86c9 5 = .ok (.lload_n 0, 1) := by decide +kernel
theorem dJ9_floorMod_f86c9_6 : decode cJ9_floorMod_f86c9 6 = .ok (.lload_n 2, 1) := by decide +kernel
theorem dJ9_floorMod_f86c9_7 : decode cJ9_floorMod_f86c9 7 = .ok (.lxor, 1) := by decide +kernel
theorem dJ9_floorMod_f86c9_8 : decode cJ9_floorMod_f86c9 8 = .ok (.lconst 0, 1) := by decide +kernel
theorem dJ9_floorMod_f86c9_9 : decode cJ9_floorMod_f86c9 9 = .ok (.lcmp, 1) := by decide +kernel
theorem dJ9_floorMod_f86c9_10 : decode cJ9_floorMod_f86c9 10 = .ok (.ifCond .ge 15, 3) := by decide +kernel
theorem dJ9_floorMod_f86c9_13 : decode cJ9_floorMod_f86c9 13 = .ok (.lload 4, 2) := by decide +kernel
theorem dJ9_floorMod_f86c9_15 : decode cJ9_floorMod_f86c9 15 = .ok (.lconst 0, 1) := by decide +kernel
theorem dJ9_floorMod_f86c9_16 : decode cJ9_floorMod_f86c9 16 = .ok (.lcmp, 1) := by decide +kernel
theorem dJ9_floorMod_f86c9_17 : decode cJ9_floorMod_f86c9 17 = .ok (.ifCond .eq 8, 3) := by decide +kernel
theorem dJ9_floorMod_f86c9_20 : decode cJ9_floorMod_f86c9 20 = .ok (.lload 4, 2) := by decide +kernel
theorem dJ9_floorMod_f86c9_22 : decode cJ9_floorMod_f86c9 22 = .ok (.lload_n 2, 1) := by decide +kernel
theorem dJ9_floorMod_f86c9_23 : decode cJ9_floorMod_f86c9 23 = .ok (.ladd, 1) := by decide +kernel
theorem dJ9_floorMod_f86c9_24 : decode cJ9_floorMod_f86c9 24 = .ok (.lreturn, 1) := by decide +kernel
theorem dJ9_floorMod_f86c9_25 : decode cJ9_floorMod_f86c9 25 = .ok (.lload 4, 2) := by decide +kernel
theorem dJ9_floorMod_f86c9_27 : decode cJ9_floorMod_f86c9 27 = .ok (.lreturn, 1) := by decide +kernel
theorem dJ9_max_7cf53_0 : decode cJ9_max_7cf53 0 = .ok (.iload_n 0, 1) := by decide +kernel
theorem dJ9_max_7cf53_1 : decode cJ9_max_7cf53 1 = .ok (.iload_n 1, 1) := by decide +kernel
theorem dJ9_max_7cf53_2 : decode cJ9_max_7cf53 2 = .ok (.if_icmp .lt 7, 3) := by decide +kernel
theorem dJ9_max_7cf53_5 : decode cJ9_max_7cf53 5 = .ok (.iload_n 0, 1) := by decide +kernel
theorem dJ9_max_7cf53_6 : decode cJ9_max_7cf53 6 = .ok (.goto 4, 3) := by decide +kernel
theorem dJ9_max_7cf53_9 : decode cJ9_max_7cf53 9 = .ok (.iload_n 1, 1) := by decide +kernel
theorem dJ9_max_7cf53_10 : decode cJ9_max_7cf53 10 = .ok (.ireturn, 1) := by decide +kernel
theorem dJ9_min_7cf53_0 : decode cJ9_min_7cf53 0 = .ok (.iload_n 0, 1) := by decide +kernel
theorem dJ9_min_7cf53_1 : decode cJ9_min_7cf53 1 = .ok (.iload_n 1, 1) := by decide +kernel
theorem dJ9_min_7cf53_2 : decode cJ9_min_7cf53 2 = .ok (.if_icmp .gt 7, 3) := by decide +kernel
theorem dJ9_min_7cf53_5 : decode cJ9_min_7cf53 5 = .ok (.iload_n 0, 1) := by decide +kernel
theorem dJ9_min_7cf53_6 : decode cJ9_min_7cf53 6 = .ok (.goto 4, 3) := by decide +kernel
theorem dJ9_min_7cf53_9 : decode cJ9_min_7cf53 9 = .ok (.iload_n 1, 1) := by decide +kernel
theorem dJ9_min_7cf53_10 : decode cJ9_min_7cf53 10 = .ok (.ireturn, 1) := by decide +kernel
theorem dJ7_fill_d0a16_0 : decode cJ7_fill_d0a16 0 = .ok (.iconst 0, 1) := by decide +kernel
theorem dJ7_fill_d0a16_1 : decode cJ7_fill_d0a16 1 = .ok (.istore_n 3, 1) := by decide +kernel
theorem dJ7_fill_d0a16_2 : decode cJ7_fill_d0a16 2 = .ok (.aload_n 0, 1) := by decide +kernel
theorem dJ7_fill_d0a16_3 : decode cJ7_fill_d0a16 3 = .ok (.arraylength, 1) := by decide +kernel
theorem dJ7_fill_d0a16_4 : decode cJ7_fill_d0a16 4 = .ok (.istore 4, 2) := by decide +kernel
theorem dJ7_fill_d0a16_6 : decode cJ7_fill_d0a16 6 = .ok (.iload_n 3, 1) := by decide +kernel
theorem dJ7_fill_d0a16_7 : decode cJ7_fill_d0a16 7 = .ok (.iload 4, 2) := by decide +kernel
theorem dJ7_fill_d0a16_9 : decode cJ7_fill_d0a16 9 = .ok (.if_icmp .ge 13, 3) := by decide +kernel
theorem dJ7_fill_d0a16_12 : decode cJ7_fill_d0a16 12 = .ok (.aload_n 0, 1) := by decide +kernel
theorem dJ7_fill_d0a16_13 : decode cJ7_fill_d0a16 13 = .ok (.iload_n 3, 1) := by decide +kernel
theorem dJ7_fill_d0a16_14 : decode cJ7_fill_d0a16 14 = .ok (.lload_n 1, 1) := by decide +kernel
theorem dJ7_fill_d0a16_15 : decode cJ7_fill_d0a16 15 = .ok (.lastore, 1) := by decide +kernel
theorem dJ7_fill_d0a16_16 : decode cJ7_fill_d0a16 16 = .ok (.iinc 3 1, 3) := by decide +kernel
theorem dJ7_fill_d0a16_19 : decode cJ7_fill_d0a16 19 = .ok (.goto (-13), 3) := by decide +kernel
theorem dJ7_fill_d0a16_22 : decode cJ7_fill_d0a16 22 = .ok (.return_, 1) := by decide +kernel
theorem dJ7_fill_53178_0 : decode cJ7_fill_53178 0 = .ok (.iconst 0, 1) := by decide +kernel
theorem dJ7_fill_53178_1 : decode cJ7_fill_53178 1 = .ok (.istore_n 2, 1) := by decide +kernel
theorem dJ7_fill_53178_2 : decode cJ7_fill_53178 2 = .ok (.aload_n 0, 1) := by decide +kernel
theorem dJ7_fill_53178_3 : decode cJ7_fill_53178 3 = .ok (.arraylength, 1) := by decide +kernel
theorem dJ7_fill_53178_4 : decode cJ7_fill_53178 4 = .ok (.istore_n 3, 1) := by decide +kernel
theorem dJ7_fill_53178_5 : decode cJ7_fill_53178 5 = .ok (.iload_n 2, 1) := by decide +kernel
theorem dJ7_fill_53178_6 : decode cJ7_fill_53178 6 = .ok (.iload_n 3, 1) := by decide +kernel
theorem dJ7_fill_53178_7 : decode cJ7_fill_53178 7 = .ok (.if_icmp .ge 13, 3) := by decide +kernel
theorem dJ7_fill_53178_10 : decode cJ7_fill_53178 10 = .ok (.aload_n 0, 1) := by decide +kernel
theorem dJ7_fill_53178_11 : decode cJ7_fill_53178 11 = .ok (.iload_n 2, 1) := by decide +kernel
theorem dJ7_fill_53178_12 : decode cJ7_fill_53178 12 = .ok (.iload_n 1, 1) := by decide +kernel
theorem dJ7_fill_53178_13 : decode cJ7_fill_53178 13 = .ok (.iastore, 1) := by decide +kernel
theorem dJ7_fill_53178_14 : decode cJ7_fill_53178 14 = .ok (.iinc 2 1, 3) := by decide +kernel
theorem dJ7_fill_53178_17 : decode cJ7_fill_53178 17 = .ok (.goto (-12), 3) := by decide +kernel
theorem dJ7_fill_53178_20 : decode cJ7_fill_53178 20 = .ok (.return_, 1) := by decide +kernel
theorem dL_law_0 : decode cL_law 0 = .ok (.new 7, 3) := by decide +kernel
theorem dL_law_3 : decode cL_law 3 = .ok (.dup, 1) := by decide +kernel
theorem dL_law_4 : decode cL_law 4 = .ok (.invokespecial 9, 3) := by decide +kernel
theorem dL_law_7 : decode cL_law 7 = .ok (.astore_n 1, 1) := by decide +kernel
theorem dL_law_8 : decode cL_law 8 = .ok (.new 10, 3) := by decide +kernel
theorem dL_law_11 : decode cL_law 11 = .ok (.dup, 1) := by decide +kernel
theorem dL_law_12 : decode cL_law 12 = .ok (.invokespecial 12, 3) := by decide +kernel
theorem dL_law_15 : decode cL_law 15 = .ok (.astore_n 2, 1) := by decide +kernel
theorem dL_law_16 : decode cL_law 16 = .ok (.iconst 0, 1) := by decide +kernel
theorem dL_law_17 : decode cL_law 17 = .ok (.istore_n 3, 1) := by decide +kernel
theorem dL_law_18 : decode cL_law 18 = .ok (.iload_n 3, 1) := by decide +kernel
theorem dL_law_19 : decode cL_law 19 = .ok (.aload_n 0, 1) := by decide +kernel
theorem dL_law_20 : decode cL_law 20 = .ok (.arraylength, 1) := by decide +kernel
theorem dL_law_21 : decode cL_law 21 = .ok (.bipush 6, 2) := by decide +kernel
theorem dL_law_23 : decode cL_law 23 = .ok (.isub, 1) := by decide +kernel
theorem dL_law_24 : decode cL_law 24 = .ok (.if_icmp .gt 800, 3) := by decide +kernel
theorem dL_law_27 : decode cL_law 27 = .ok (.aload_n 0, 1) := by decide +kernel
theorem dL_law_28 : decode cL_law 28 = .ok (.iload_n 3, 1) := by decide +kernel
theorem dL_law_29 : decode cL_law 29 = .ok (.iaload, 1) := by decide +kernel
theorem dL_law_30 : decode cL_law 30 = .ok (.bipush 15, 2) := by decide +kernel
theorem dL_law_32 : decode cL_law 32 = .ok (.iand, 1) := by decide +kernel
theorem dL_law_33 : decode cL_law 33 = .ok (.tableswitch 785 0 15 #[79, 122, 155, 178, 221, 300, 369, 422, 455, 488, 521, 584, 663, 686, 699, 752], 79) := by decide +kernel
theorem dL_law_112 : decode cL_law 112 = .ok (.aload_n 1, 1) := by decide +kernel
theorem dL_law_113 : decode cL_law 113 = .ok (.aload_n 0, 1) := by decide +kernel
theorem dL_law_114 : decode cL_law 114 = .ok (.iload_n 3, 1) := by decide +kernel
theorem dL_law_115 : decode cL_law 115 = .ok (.iconst 1, 1) := by decide +kernel
theorem dL_law_116 : decode cL_law 116 = .ok (.iadd, 1) := by decide +kernel
theorem dL_law_117 : decode cL_law 117 = .ok (.iaload, 1) := by decide +kernel
theorem dL_law_118 : decode cL_law 118 = .ok (.aload_n 0, 1) := by decide +kernel
theorem dL_law_119 : decode cL_law 119 = .ok (.iload_n 3, 1) := by decide +kernel
theorem dL_law_120 : decode cL_law 120 = .ok (.iconst 2, 1) := by decide +kernel
theorem dL_law_121 : decode cL_law 121 = .ok (.iadd, 1) := by decide +kernel
theorem dL_law_122 : decode cL_law 122 = .ok (.iaload, 1) := by decide +kernel
theorem dL_law_123 : decode cL_law 123 = .ok (.aload_n 0, 1) := by decide +kernel
theorem dL_law_124 : decode cL_law 124 = .ok (.iload_n 3, 1) := by decide +kernel
theorem dL_law_125 : decode cL_law 125 = .ok (.iconst 3, 1) := by decide +kernel
theorem dL_law_126 : decode cL_law 126 = .ok (.iadd, 1) := by decide +kernel
theorem dL_law_127 : decode cL_law 127 = .ok (.iaload, 1) := by decide +kernel
theorem dL_law_128 : decode cL_law 128 = .ok (.invokevirtual 13, 3) := by decide +kernel
theorem dL_law_131 : decode cL_law 131 = .ok (.aload_n 2, 1) := by decide +kernel
theorem dL_law_132 : decode cL_law 132 = .ok (.aload_n 0, 1) := by decide +kernel
theorem dL_law_133 : decode cL_law 133 = .ok (.iload_n 3, 1) := by decide +kernel
theorem dL_law_134 : decode cL_law 134 = .ok (.iconst 1, 1) := by decide +kernel
theorem dL_law_135 : decode cL_law 135 = .ok (.iadd, 1) := by decide +kernel
theorem dL_law_136 : decode cL_law 136 = .ok (.iaload, 1) := by decide +kernel
theorem dL_law_137 : decode cL_law 137 = .ok (.aload_n 0, 1) := by decide +kernel
theorem dL_law_138 : decode cL_law 138 = .ok (.iload_n 3, 1) := by decide +kernel
theorem dL_law_139 : decode cL_law 139 = .ok (.iconst 2, 1) := by decide +kernel
theorem dL_law_140 : decode cL_law 140 = .ok (.iadd, 1) := by decide +kernel
theorem dL_law_141 : decode cL_law 141 = .ok (.iaload, 1) := by decide +kernel
theorem dL_law_142 : decode cL_law 142 = .ok (.aload_n 0, 1) := by decide +kernel
theorem dL_law_143 : decode cL_law 143 = .ok (.iload_n 3, 1) := by decide +kernel
theorem dL_law_144 : decode cL_law 144 = .ok (.iconst 3, 1) := by decide +kernel
theorem dL_law_145 : decode cL_law 145 = .ok (.iadd, 1) := by decide +kernel
theorem dL_law_146 : decode cL_law 146 = .ok (.iaload, 1) := by decide +kernel
theorem dL_law_147 : decode cL_law 147 = .ok (.invokevirtual 17, 3) := by decide +kernel
theorem dL_law_150 : decode cL_law 150 = .ok (.if_icmp .eq 668, 3) := by decide +kernel
theorem dL_law_153 : decode cL_law 153 = .ok (.iconst 0, 1) := by decide +kernel
theorem dL_law_154 : decode cL_law 154 = .ok (.ireturn, 1) := by decide +kernel
theorem dL_law_155 : decode cL_law 155 = .ok (.aload_n 1, 1) := by decide +kernel
theorem dL_law_156 : decode cL_law 156 = .ok (.aload_n 0, 1) := by decide +kernel
theorem dL_law_157 : decode cL_law 157 = .ok (.iload_n 3, 1) := by decide +kernel
theorem dL_law_158 : decode cL_law 158 = .ok (.iconst 1, 1) := by decide +kernel
theorem dL_law_159 : decode cL_law 159 = .ok (.iadd, 1) := by decide +kernel
theorem dL_law_160 : decode cL_law 160 = .ok (.iaload, 1) := by decide +kernel
theorem dL_law_161 : decode cL_law 161 = .ok (.aload_n 0, 1) := by decide +kernel
theorem dL_law_162 : decode cL_law 162 = .ok (.iload_n 3, 1) := by decide +kernel
theorem dL_law_163 : decode cL_law 163 = .ok (.iconst 2, 1) := by decide +kernel
theorem dL_law_164 : decode cL_law 164 = .ok (.iadd, 1) := by decide +kernel
theorem dL_law_165 : decode cL_law 165 = .ok (.iaload, 1) := by decide +kernel
theorem dL_law_166 : decode cL_law 166 = .ok (.invokevirtual 18, 3) := by decide +kernel
theorem dL_law_169 : decode cL_law 169 = .ok (.aload_n 2, 1) := by decide +kernel
theorem dL_law_170 : decode cL_law 170 = .ok (.aload_n 0, 1) := by decide +kernel
theorem dL_law_171 : decode cL_law 171 = .ok (.iload_n 3, 1) := by decide +kernel
theorem dL_law_172 : decode cL_law 172 = .ok (.iconst 1, 1) := by decide +kernel
theorem dL_law_173 : decode cL_law 173 = .ok (.iadd, 1) := by decide +kernel
theorem dL_law_174 : decode cL_law 174 = .ok (.iaload, 1) := by decide +kernel
theorem dL_law_175 : decode cL_law 175 = .ok (.aload_n 0, 1) := by decide +kernel
theorem dL_law_176 : decode cL_law 176 = .ok (.iload_n 3, 1) := by decide +kernel
theorem dL_law_177 : decode cL_law 177 = .ok (.iconst 2, 1) := by decide +kernel
theorem dL_law_178 : decode cL_law 178 = .ok (.iadd, 1) := by decide +kernel
theorem dL_law_179 : decode cL_law 179 = .ok (.iaload, 1) := by decide +kernel
theorem dL_law_180 : decode cL_law 180 = .ok (.invokevirtual 22, 3) := by decide +kernel
theorem dL_law_183 : decode cL_law 183 = .ok (.if_icmp .eq 635, 3) := by decide +kernel
theorem dL_law_186 : decode cL_law 186 = .ok (.iconst 0, 1) := by decide +kernel
theorem dL_law_187 : decode cL_law 187 = .ok (.ireturn, 1) := by decide +kernel
theorem dL_law_188 : decode cL_law 188 = .ok (.aload_n 1, 1) := by decide +kernel
theorem dL_law_189 : decode cL_law 189 = .ok (.aload_n 0, 1) := by decide +kernel
theorem dL_law_190 : decode cL_law 190 = .ok (.iload_n 3, 1) := by decide +kernel
theorem dL_law_191 : decode cL_law 191 = .ok (.iconst 1, 1) := by decide +kernel
theorem dL_law_192 : decode cL_law 192 = .ok (.iadd, 1) := by decide +kernel
theorem dL_law_193 : decode cL_law 193 = .ok (.iaload, 1) := by decide +kernel
theorem dL_law_194 : decode cL_law 194 = .ok (.invokevirtual 23, 3) := by decide +kernel
theorem dL_law_197 : decode cL_law 197 = .ok (.aload_n 2, 1) := by decide +kernel
theorem dL_law_198 : decode cL_law 198 = .ok (.aload_n 0, 1) := by decide +kernel
theorem dL_law_199 : decode cL_law 199 = .ok (.iload_n 3, 1) := by decide +kernel
theorem dL_law_200 : decode cL_law 200 = .ok (.iconst 1, 1) := by decide +kernel
theorem dL_law_201 : decode cL_law 201 = .ok (.iadd, 1) := by decide +kernel
theorem dL_law_202 : decode cL_law 202 = .ok (.iaload, 1) := by decide +kernel
theorem dL_law_203 : decode cL_law 203 = .ok (.invokevirtual 27, 3) := by decide +kernel
theorem dL_law_206 : decode cL_law 206 = .ok (.if_icmp .eq 612, 3) := by decide +kernel
theorem dL_law_209 : decode cL_law 209 = .ok (.iconst 0, 1) := by decide +kernel
theorem dL_law_210 : decode cL_law 210 = .ok (.ireturn, 1) := by decide +kernel
theorem dL_law_211 : decode cL_law 211 = .ok (.aload_n 1, 1) := by decide +kernel
theorem dL_law_212 : decode cL_law 212 = .ok (.aload_n 0, 1) := by decide +kernel
theorem dL_law_213 : decode cL_law 213 = .ok (.iload_n 3, 1) := by decide +kernel
theorem dL_law_214 : decode cL_law 214 = .ok (.iconst 1, 1) := by decide +kernel
theorem dL_law_215 : decode cL_law 215 = .ok (.iadd, 1) := by decide +kernel
theorem dL_law_216 : decode cL_law 216 = .ok (.iaload, 1) := by decide +kernel
theorem dL_law_217 : decode cL_law 217 = .ok (.aload_n 0, 1) := by decide +kernel
theorem dL_law_218 : decode cL_law 218 = .ok (.iload_n 3, 1) := by decide +kernel
theorem dL_law_219 : decode cL_law 219 = .ok (.iconst 2, 1) := by decide +kernel
theorem dL_law_220 : decode cL_law 220 = .ok (.iadd, 1) := by decide +kernel
theorem dL_law_221 : decode cL_law 221 = .ok (.iaload, 1) := by decide +kernel
theorem dL_law_222 : decode cL_law 222 = .ok (.aload_n 0, 1) := by decide +kernel
theorem dL_law_223 : decode cL_law 223 = .ok (.iload_n 3, 1) := by decide +kernel
theorem dL_law_224 : decode cL_law 224 = .ok (.iconst 3, 1) := by decide +kernel
theorem dL_law_225 : decode cL_law 225 = .ok (.iadd, 1) := by decide +kernel
theorem dL_law_226 : decode cL_law 226 = .ok (.iaload, 1) := by decide +kernel
theorem dL_law_227 : decode cL_law 227 = .ok (.invokevirtual 28, 3) := by decide +kernel
theorem dL_law_230 : decode cL_law 230 = .ok (.aload_n 2, 1) := by decide +kernel
theorem dL_law_231 : decode cL_law 231 = .ok (.aload_n 0, 1) := by decide +kernel
theorem dL_law_232 : decode cL_law 232 = .ok (.iload_n 3, 1) := by decide +kernel
theorem dL_law_233 : decode cL_law 233 = .ok (.iconst 1, 1) := by decide +kernel
theorem dL_law_234 : decode cL_law 234 = .ok (.iadd, 1) := by decide +kernel
theorem dL_law_235 : decode cL_law 235 = .ok (.iaload, 1) := by decide +kernel
theorem dL_law_236 : decode cL_law 236 = .ok (.aload_n 0, 1) := by decide +kernel
theorem dL_law_237 : decode cL_law 237 = .ok (.iload_n 3, 1) := by decide +kernel
theorem dL_law_238 : decode cL_law 238 = .ok (.iconst 2, 1) := by decide +kernel
theorem dL_law_239 : decode cL_law 239 = .ok (.iadd, 1) := by decide +kernel
theorem dL_law_240 : decode cL_law 240 = .ok (.iaload, 1) := by decide +kernel
theorem dL_law_241 : decode cL_law 241 = .ok (.aload_n 0, 1) := by decide +kernel
theorem dL_law_242 : decode cL_law 242 = .ok (.iload_n 3, 1) := by decide +kernel
theorem dL_law_243 : decode cL_law 243 = .ok (.iconst 3, 1) := by decide +kernel
theorem dL_law_244 : decode cL_law 244 = .ok (.iadd, 1) := by decide +kernel
theorem dL_law_245 : decode cL_law 245 = .ok (.iaload, 1) := by decide +kernel
theorem dL_law_246 : decode cL_law 246 = .ok (.invokevirtual 32, 3) := by decide +kernel
theorem dL_law_249 : decode cL_law 249 = .ok (.if_icmp .eq 569, 3) := by decide +kernel
theorem dL_law_252 : decode cL_law 252 = .ok (.iconst 0, 1) := by decide +kernel
theorem dL_law_253 : decode cL_law 253 = .ok (.ireturn, 1) := by decide +kernel
theorem dL_law_254 : decode cL_law 254 = .ok (.aload_n 1, 1) := by decide +kernel
theorem dL_law_255 : decode cL_law 255 = .ok (.aload_n 0, 1) := by decide +kernel
theorem dL_law_256 : decode cL_law 256 = .ok (.iload_n 3, 1) := by decide +kernel
theorem dL_law_257 : decode cL_law 257 = .ok (.iconst 1, 1) := by decide +kernel
theorem dL_law_258 : decode cL_law 258 = .ok (.iadd, 1) := by decide +kernel
theorem dL_law_259 : decode cL_law 259 = .ok (.iaload, 1) := by decide +kernel
theorem dL_law_260 : decode cL_law 260 = .ok (.aload_n 0, 1) := by decide +kernel
theorem dL_law_261 : decode cL_law 261 = .ok (.iload_n 3, 1) := by decide +kernel
theorem dL_law_262 : decode cL_law 262 = .ok (.iconst 2, 1) := by decide +kernel
theorem dL_law_263 : decode cL_law 263 = .ok (.iadd, 1) := by decide +kernel
theorem dL_law_264 : decode cL_law 264 = .ok (.iaload, 1) := by decide +kernel
theorem dL_law_265 : decode cL_law 265 = .ok (.aload_n 0, 1) := by decide +kernel
theorem dL_law_266 : decode cL_law 266 = .ok (.iload_n 3, 1) := by decide +kernel
theorem dL_law_267 : decode cL_law 267 = .ok (.iconst 3, 1) := by decide +kernel
theorem dL_law_268 : decode cL_law 268 = .ok (.iadd, 1) := by decide +kernel
theorem dL_law_269 : decode cL_law 269 = .ok (.iaload, 1) := by decide +kernel
theorem dL_law_270 : decode cL_law 270 = .ok (.aload_n 0, 1) := by decide +kernel
theorem dL_law_271 : decode cL_law 271 = .ok (.iload_n 3, 1) := by decide +kernel
theorem dL_law_272 : decode cL_law 272 = .ok (.iconst 4, 1) := by decide +kernel
theorem dL_law_273 : decode cL_law 273 = .ok (.iadd, 1) := by decide +kernel
theorem dL_law_274 : decode cL_law 274 = .ok (.iaload, 1) := by decide +kernel
theorem dL_law_275 : decode cL_law 275 = .ok (.ifCond .eq 7, 3) := by decide +kernel
theorem dL_law_278 : decode cL_law 278 = .ok (.iconst 1, 1) := by decide +kernel
theorem dL_law_279 : decode cL_law 279 = .ok (.goto 4, 3) := by decide +kernel
theorem dL_law_282 : decode cL_law 282 = .ok (.iconst 0, 1) := by decide +kernel
theorem dL_law_283 : decode cL_law 283 = .ok (.aload_n 0, 1) := by decide +kernel
theorem dL_law_284 : decode cL_law 284 = .ok (.iload_n 3, 1) := by decide +kernel
theorem dL_law_285 : decode cL_law 285 = .ok (.iconst 5, 1) := by decide +kernel
theorem dL_law_286 : decode cL_law 286 = .ok (.iadd, 1) := by decide +kernel
theorem dL_law_287 : decode cL_law 287 = .ok (.iaload, 1) := by decide +kernel
theorem dL_law_288 : decode cL_law 288 = .ok (.invokevirtual 33, 3) := by decide +kernel
theorem dL_law_291 : decode cL_law 291 = .ok (.aload_n 2, 1) := by decide +kernel
theorem dL_law_292 : decode cL_law 292 = .ok (.aload_n 0, 1) := by decide +kernel
theorem dL_law_293 : decode cL_law 293 = .ok (.iload_n 3, 1) := by decide +kernel
theorem dL_law_294 : decode cL_law 294 = .ok (.iconst 1, 1) := by decide +kernel
theorem dL_law_295 : decode cL_law 295 = .ok (.iadd, 1) := by decide +kernel
theorem dL_law_296 : decode cL_law 296 = .ok (.iaload, 1) := by decide +kernel
theorem dL_law_297 : decode cL_law 297 = .ok (.aload_n 0, 1) := by decide +kernel
theorem dL_law_298 : decode cL_law 298 = .ok (.iload_n 3, 1) := by decide +kernel
theorem dL_law_299 : decode cL_law 299 = .ok (.iconst 2, 1) := by decide +kernel
theorem dL_law_300 : decode cL_law 300 = .ok (.iadd, 1) := by decide +kernel
theorem dL_law_301 : decode cL_law 301 = .ok (.iaload, 1) := by decide +kernel
theorem dL_law_302 : decode cL_law 302 = .ok (.aload_n 0, 1) := by decide +kernel
theorem dL_law_303 : decode cL_law 303 = .ok (.iload_n 3, 1) := by decide +kernel
theorem dL_law_304 : decode cL_law 304 = .ok (.iconst 3, 1) := by decide +kernel
theorem dL_law_305 : decode cL_law 305 = .ok (.iadd, 1) := by decide +kernel
theorem dL_law_306 : decode cL_law 306 = .ok (.iaload, 1) := by decide +kernel
theorem dL_law_307 : decode cL_law 307 = .ok (.aload_n 0, 1) := by decide +kernel
theorem dL_law_308 : decode cL_law 308 = .ok (.iload_n 3, 1) := by decide +kernel
theorem dL_law_309 : decode cL_law 309 = .ok (.iconst 4, 1) := by decide +kernel
theorem dL_law_310 : decode cL_law 310 = .ok (.iadd, 1) := by decide +kernel
theorem dL_law_311 : decode cL_law 311 = .ok (.iaload, 1) := by decide +kernel
theorem dL_law_312 : decode cL_law 312 = .ok (.ifCond .eq 7, 3) := by decide +kernel
theorem dL_law_315 : decode cL_law 315 = .ok (.iconst 1, 1) := by decide +kernel
theorem dL_law_316 : decode cL_law 316 = .ok (.goto 4, 3) := by decide +kernel
theorem dL_law_319 : decode cL_law 319 = .ok (.iconst 0, 1) := by decide +kernel
theorem dL_law_320 : decode cL_law 320 = .ok (.aload_n 0, 1) := by decide +kernel
theorem dL_law_321 : decode cL_law 321 = .ok (.iload_n 3, 1) := by decide +kernel
theorem dL_law_322 : decode cL_law 322 = .ok (.iconst 5, 1) := by decide +kernel
theorem dL_law_323 : decode cL_law 323 = .ok (.iadd, 1) := by decide +kernel
theorem dL_law_324 : decode cL_law 324 = .ok (.iaload, 1) := by decide +kernel
theorem dL_law_325 : decode cL_law 325 = .ok (.invokevirtual 37, 3) := by decide +kernel
theorem dL_law_328 : decode cL_law 328 = .ok (.if_icmp .eq 490, 3) := by decide +kernel
theorem dL_law_331 : decode cL_law 331 = .ok (.iconst 0, 1) := by decide +kernel
theorem dL_law_332 : decode cL_law 332 = .ok (.ireturn, 1) := by decide +kernel
theorem dL_law_333 : decode cL_law 333 = .ok (.aload_n 1, 1) := by decide +kernel
theorem dL_law_334 : decode cL_law 334 = .ok (.aload_n 0, 1) := by decide +kernel
theorem dL_law_335 : decode cL_law 335 = .ok (.iload_n 3, 1) := by decide +kernel
theorem dL_law_336 : decode cL_law 336 = .ok (.iconst 1, 1) := by decide +kernel
theorem dL_law_337 : decode cL_law 337 = .ok (.iadd, 1) := by decide +kernel
theorem dL_law_338 : decode cL_law 338 = .ok (.iaload, 1) := by decide +kernel
theorem dL_law_339 : decode cL_law 339 = .ok (.aload_n 0, 1) := by decide +kernel
theorem dL_law_340 : decode cL_law 340 = .ok (.iload_n 3, 1) := by decide +kernel
theorem dL_law_341 : decode cL_law 341 = .ok (.iconst 2, 1) := by decide +kernel
theorem dL_law_342 : decode cL_law 342 = .ok (.iadd, 1) := by decide +kernel
theorem dL_law_343 : decode cL_law 343 = .ok (.iaload, 1) := by decide +kernel
theorem dL_law_344 : decode cL_law 344 = .ok (.aload_n 0, 1) := by decide +kernel
theorem dL_law_345 : decode cL_law 345 = .ok (.iload_n 3, 1) := by decide +kernel
theorem dL_law_346 : decode cL_law 346 = .ok (.iconst 3, 1) := by decide +kernel
theorem dL_law_347 : decode cL_law 347 = .ok (.iadd, 1) := by decide +kernel
theorem dL_law_348 : decode cL_law 348 = .ok (.iaload, 1) := by decide +kernel
theorem dL_law_349 : decode cL_law 349 = .ok (.ifCond .eq 7, 3) := by decide +kernel
theorem dL_law_352 : decode cL_law 352 = .ok (.iconst 1, 1) := by decide +kernel
theorem dL_law_353 : decode cL_law 353 = .ok (.goto 4, 3) := by decide +kernel
theorem dL_law_356 : decode cL_law 356 = .ok (.iconst 0, 1) := by decide +kernel
theorem dL_law_357 : decode cL_law 357 = .ok (.aload_n 0, 1) := by decide +kernel
theorem dL_law_358 : decode cL_law 358 = .ok (.iload_n 3, 1) := by decide +kernel
theorem dL_law_359 : decode cL_law 359 = .ok (.iconst 4, 1) := by decide +kernel
theorem dL_law_360 : decode cL_law 360 = .ok (.iadd, 1) := by decide +kernel
theorem dL_law_361 : decode cL_law 361 = .ok (.iaload, 1) := by decide +kernel
theorem dL_law_362 : decode cL_law 362 = .ok (.invokevirtual 38, 3) := by decide +kernel
theorem dL_law_365 : decode cL_law 365 = .ok (.aload_n 2, 1) := by decide +kernel
theorem dL_law_366 : decode cL_law 366 = .ok (.aload_n 0, 1) := by decide +kernel
theorem dL_law_367 : decode cL_law 367 = .ok (.iload_n 3, 1) := by decide +kernel
theorem dL_law_368 : decode cL_law 368 = .ok (.iconst 1, 1) := by decide +kernel
theorem dL_law_369 : decode cL_law 369 = .ok (.iadd, 1) := by decide +kernel
theorem dL_law_370 : decode cL_law 370 = .ok (.iaload, 1) := by decide +kernel
theorem dL_law_371 : decode cL_law 371 = .ok (.aload_n 0, 1) := by decide +kernel
theorem dL_law_372 : decode cL_law 372 = .ok (.iload_n 3, 1) := by decide +kernel
theorem dL_law_373 : decode cL_law 373 = .ok (.iconst 2, 1) := by decide +kernel
theorem dL_law_374 : decode cL_law 374 = .ok (.iadd, 1) := by decide +kernel
theorem dL_law_375 : decode cL_law 375 = .ok (.iaload, 1) := by decide +kernel
theorem dL_law_376 : decode cL_law 376 = .ok (.aload_n 0, 1) := by decide +kernel
theorem dL_law_377 : decode cL_law 377 = .ok (.iload_n 3, 1) := by decide +kernel
theorem dL_law_378 : decode cL_law 378 = .ok (.iconst 3, 1) := by decide +kernel
theorem dL_law_379 : decode cL_law 379 = .ok (.iadd, 1) := by decide +kernel
theorem dL_law_380 : decode cL_law 380 = .ok (.iaload, 1) := by decide +kernel
theorem dL_law_381 : decode cL_law 381 = .ok (.ifCond .eq 7, 3) := by decide +kernel
theorem dL_law_384 : decode cL_law 384 = .ok (.iconst 1, 1) := by decide +kernel
theorem dL_law_385 : decode cL_law 385 = .ok (.goto 4, 3) := by decide +kernel
theorem dL_law_388 : decode cL_law 388 = .ok (.iconst 0, 1) := by decide +kernel
theorem dL_law_389 : decode cL_law 389 = .ok (.aload_n 0, 1) := by decide +kernel
theorem dL_law_390 : decode cL_law 390 = .ok (.iload_n 3, 1) := by decide +kernel
theorem dL_law_391 : decode cL_law 391 = .ok (.iconst 4, 1) := by decide +kernel
theorem dL_law_392 : decode cL_law 392 = .ok (.iadd, 1) := by decide +kernel
theorem dL_law_393 : decode cL_law 393 = .ok (.iaload, 1) := by decide +kernel
theorem dL_law_394 : decode cL_law 394 = .ok (.invokevirtual 42, 3) := by decide +kernel
theorem dL_law_397 : decode cL_law 397 = .ok (.if_icmp .eq 421, 3) := by decide +kernel
theorem dL_law_400 : decode cL_law 400 = .ok (.iconst 0, 1) := by decide +kernel
theorem dL_law_401 : decode cL_law 401 = .ok (.ireturn, 1) := by decide +kernel
theorem dL_law_402 : decode cL_law 402 = .ok (.aload_n 1, 1) := by decide +kernel
theorem dL_law_403 : decode cL_law 403 = .ok (.aload_n 0, 1) := by decide +kernel
theorem dL_law_404 : decode cL_law 404 = .ok (.iload_n 3, 1) := by decide +kernel
theorem dL_law_405 : decode cL_law 405 = .ok (.iconst 1, 1) := by decide +kernel
theorem dL_law_406 : decode cL_law 406 = .ok (.iadd, 1) := by decide +kernel
theorem dL_law_407 : decode cL_law 407 = .ok (.iaload, 1) := by decide +kernel
theorem dL_law_408 : decode cL_law 408 = .ok (.aload_n 0, 1) := by decide +kernel
theorem dL_law_409 : decode cL_law 409 = .ok (.iload_n 3, 1) := by decide +kernel
theorem dL_law_410 : decode cL_law 410 = .ok (.iconst 2, 1) := by decide +kernel
theorem dL_law_411 : decode cL_law 411 = .ok (.iadd, 1) := by decide +kernel
theorem dL_law_412 : decode cL_law 412 = .ok (.iaload, 1) := by decide +kernel
theorem dL_law_413 : decode cL_law 413 = .ok (.aload_n 0, 1) := by decide +kernel
theorem dL_law_414 : decode cL_law 414 = .ok (.iload_n 3, 1) := by decide +kernel
theorem dL_law_415 : decode cL_law 415 = .ok (.iconst 3, 1) := by decide +kernel
theorem dL_law_416 : decode cL_law 416 = .ok (.iadd, 1) := by decide +kernel
theorem dL_law_417 : decode cL_law 417 = .ok (.iaload, 1) := by decide +kernel
theorem dL_law_418 : decode cL_law 418 = .ok (.aload_n 0, 1) := by decide +kernel
theorem dL_law_419 : decode cL_law 419 = .ok (.iload_n 3, 1) := by decide +kernel
theorem dL_law_420 : decode cL_law 420 = .ok (.iconst 4, 1) := by decide +kernel
theorem dL_law_421 : decode cL_law 421 = .ok (.iadd, 1) := by decide +kernel
theorem dL_law_422 : decode cL_law 422 = .ok (.iaload, 1) := by decide +kernel
theorem dL_law_423 : decode cL_law 423 = .ok (.invokevirtual 43, 3) := by decide +kernel
theorem dL_law_426 : decode cL_law 426 = .ok (.aload_n 2, 1) := by decide +kernel
theorem dL_law_427 : decode cL_law 427 = .ok (.aload_n 0, 1) := by decide +kernel
theorem dL_law_428 : decode cL_law 428 = .ok (.iload_n 3, 1) := by decide +kernel
theorem dL_law_429 : decode cL_law 429 = .ok (.iconst 1, 1) := by decide +kernel
theorem dL_law_430 : decode cL_law 430 = .ok (.iadd, 1) := by decide +kernel
theorem dL_law_431 : decode cL_law 431 = .ok (.iaload, 1) := by decide +kernel
theorem dL_law_432 : decode cL_law 432 = .ok (.aload_n 0, 1) := by decide +kernel
theorem dL_law_433 : decode cL_law 433 = .ok (.iload_n 3, 1) := by decide +kernel
theorem dL_law_434 : decode cL_law 434 = .ok (.iconst 2, 1) := by decide +kernel
theorem dL_law_435 : decode cL_law 435 = .ok (.iadd, 1) := by decide +kernel
theorem dL_law_436 : decode cL_law 436 = .ok (.iaload, 1) := by decide +kernel
theorem dL_law_437 : decode cL_law 437 = .ok (.aload_n 0, 1) := by decide +kernel
theorem dL_law_438 : decode cL_law 438 = .ok (.iload_n 3, 1) := by decide +kernel
theorem dL_law_439 : decode cL_law 439 = .ok (.iconst 3, 1) := by decide +kernel
theorem dL_law_440 : decode cL_law 440 = .ok (.iadd, 1) := by decide +kernel
theorem dL_law_441 : decode cL_law 441 = .ok (.iaload, 1) := by decide +kernel
theorem dL_law_442 : decode cL_law 442 = .ok (.aload_n 0, 1) := by decide +kernel
theorem dL_law_443 : decode cL_law 443 = .ok (.iload_n 3, 1) := by decide +kernel
theorem dL_law_444 : decode cL_law 444 = .ok (.iconst 4, 1) := by decide +kernel
theorem dL_law_445 : decode cL_law 445 = .ok (.iadd, 1) := by decide +kernel
theorem dL_law_446 : decode cL_law 446 = .ok (.iaload, 1) := by decide +kernel
theorem dL_law_447 : decode cL_law 447 = .ok (.invokevirtual 47, 3) := by decide +kernel
theorem dL_law_450 : decode cL_law 450 = .ok (.if_icmp .eq 368, 3) := by decide +kernel
theorem dL_law_453 : decode cL_law 453 = .ok (.iconst 0, 1) := by decide +kernel
theorem dL_law_454 : decode cL_law 454 = .ok (.ireturn, 1) := by decide +kernel
theorem dL_law_455 : decode cL_law 455 = .ok (.aload_n 1, 1) := by decide +kernel
theorem dL_law_456 : decode cL_law 456 = .ok (.aload_n 0, 1) := by decide +kernel
theorem dL_law_457 : decode cL_law 457 = .ok (.iload_n 3, 1) := by decide +kernel
theorem dL_law_458 : decode cL_law 458 = .ok (.iconst 1, 1) := by decide +kernel
theorem dL_law_459 : decode cL_law 459 = .ok (.iadd, 1) := by decide +kernel
theorem dL_law_460 : decode cL_law 460 = .ok (.iaload, 1) := by decide +kernel
theorem dL_law_461 : decode cL_law 461 = .ok (.aload_n 0, 1) := by decide +kernel
theorem dL_law_462 : decode cL_law 462 = .ok (.iload_n 3, 1) := by decide +kernel
theorem dL_law_463 : decode cL_law 463 = .ok (.iconst 2, 1) := by decide +kernel
theorem dL_law_464 : decode cL_law 464 = .ok (.iadd, 1) := by decide +kernel
theorem dL_law_465 : decode cL_law 465 = .ok (.iaload, 1) := by decide +kernel
theorem dL_law_466 : decode cL_law 466 = .ok (.invokevirtual 48, 3) := by decide +kernel
theorem dL_law_469 : decode cL_law 469 = .ok (.aload_n 2, 1) := by decide +kernel
theorem dL_law_470 : decode cL_law 470 = .ok (.aload_n 0, 1) := by decide +kernel
theorem dL_law_471 : decode cL_law 471 = .ok (.iload_n 3, 1) := by decide +kernel
theorem dL_law_472 : decode cL_law 472 = .ok (.iconst 1, 1) := by decide +kernel
theorem dL_law_473 : decode cL_law 473 = .ok (.iadd, 1) := by decide +kernel
theorem dL_law_474 : decode cL_law 474 = .ok (.iaload, 1) := by decide +kernel
theorem dL_law_475 : decode cL_law 475 = .ok (.aload_n 0, 1) := by decide +kernel
theorem dL_law_476 : decode cL_law 476 = .ok (.iload_n 3, 1) := by decide +kernel
theorem dL_law_477 : decode cL_law 477 = .ok (.iconst 2, 1) := by decide +kernel
theorem dL_law_478 : decode cL_law 478 = .ok (.iadd, 1) := by decide +kernel
theorem dL_law_479 : decode cL_law 479 = .ok (.iaload, 1) := by decide +kernel
theorem dL_law_480 : decode cL_law 480 = .ok (.invokevirtual 51, 3) := by decide +kernel
theorem dL_law_483 : decode cL_law 483 = .ok (.if_icmp .eq 335, 3) := by decide +kernel
theorem dL_law_486 : decode cL_law 486 = .ok (.iconst 0, 1) := by decide +kernel
theorem dL_law_487 : decode cL_law 487 = .ok (.ireturn, 1) := by decide +kernel
theorem dL_law_488 : decode cL_law 488 = .ok (.aload_n 1, 1) := by decide +kernel
theorem dL_law_489 : decode cL_law 489 = .ok (.aload_n 0, 1) := by decide +kernel
theorem dL_law_490 : decode cL_law 490 = .ok (.iload_n 3, 1) := by decide +kernel
theorem dL_law_491 : decode cL_law 491 = .ok (.iconst 1, 1) := by decide +kernel
theorem dL_law_492 : decode cL_law 492 = .ok (.iadd, 1) := by decide +kernel
theorem dL_law_493 : decode cL_law 493 = .ok (.iaload, 1) := by decide +kernel
theorem dL_law_494 : decode cL_law 494 = .ok (.aload_n 0, 1) := by decide +kernel
theorem dL_law_495 : decode cL_law 495 = .ok (.iload_n 3, 1) := by decide +kernel
theorem dL_law_496 : decode cL_law 496 = .ok (.iconst 2, 1) := by decide +kernel
theorem dL_law_497 : decode cL_law 497 = .ok (.iadd, 1) := by decide +kernel
theorem dL_law_498 : decode cL_law 498 = .ok (.iaload, 1) := by decide +kernel
theorem dL_law_499 : decode cL_law 499 = .ok (.invokevirtual 52, 3) := by decide +kernel
theorem dL_law_502 : decode cL_law 502 = .ok (.aload_n 2, 1) := by decide +kernel
theorem dL_law_503 : decode cL_law 503 = .ok (.aload_n 0, 1) := by decide +kernel
theorem dL_law_504 : decode cL_law 504 = .ok (.iload_n 3, 1) := by decide +kernel
theorem dL_law_505 : decode cL_law 505 = .ok (.iconst 1, 1) := by decide +kernel
theorem dL_law_506 : decode cL_law 506 = .ok (.iadd, 1) := by decide +kernel
theorem dL_law_507 : decode cL_law 507 = .ok (.iaload, 1) := by decide +kernel
theorem dL_law_508 : decode cL_law 508 = .ok (.aload_n 0, 1) := by decide +kernel
theorem dL_law_509 : decode cL_law 509 = .ok (.iload_n 3, 1) := by decide +kernel
theorem dL_law_510 : decode cL_law 510 = .ok (.iconst 2, 1) := by decide +kernel
theorem dL_law_511 : decode cL_law 511 = .ok (.iadd, 1) := by decide +kernel
theorem dL_law_512 : decode cL_law 512 = .ok (.iaload, 1) := by decide +kernel
theorem dL_law_513 : decode cL_law 513 = .ok (.invokevirtual 55, 3) := by decide +kernel
theorem dL_law_516 : decode cL_law 516 = .ok (.if_icmp .eq 302, 3) := by decide +kernel
theorem dL_law_519 : decode cL_law 519 = .ok (.iconst 0, 1) := by decide +kernel
theorem dL_law_520 : decode cL_law 520 = .ok (.ireturn, 1) := by decide +kernel
theorem dL_law_521 : decode cL_law 521 = .ok (.aload_n 1, 1) := by decide +kernel
theorem dL_law_522 : decode cL_law 522 = .ok (.aload_n 0, 1) := by decide +kernel
theorem dL_law_523 : decode cL_law 523 = .ok (.iload_n 3, 1) := by decide +kernel
theorem dL_law_524 : decode cL_law 524 = .ok (.iconst 1, 1) := by decide +kernel
theorem dL_law_525 : decode cL_law 525 = .ok (.iadd, 1) := by decide +kernel
theorem dL_law_526 : decode cL_law 526 = .ok (.iaload, 1) := by decide +kernel
theorem dL_law_527 : decode cL_law 527 = .ok (.aload_n 0, 1) := by decide +kernel
theorem dL_law_528 : decode cL_law 528 = .ok (.iload_n 3, 1) := by decide +kernel
theorem dL_law_529 : decode cL_law 529 = .ok (.iconst 2, 1) := by decide +kernel
theorem dL_law_530 : decode cL_law 530 = .ok (.iadd, 1) := by decide +kernel
theorem dL_law_531 : decode cL_law 531 = .ok (.iaload, 1) := by decide +kernel
theorem dL_law_532 : decode cL_law 532 = .ok (.invokevirtual 56, 3) := by decide +kernel
theorem dL_law_535 : decode cL_law 535 = .ok (.aload_n 2, 1) := by decide +kernel
theorem dL_law_536 : decode cL_law 536 = .ok (.aload_n 0, 1) := by decide +kernel
theorem dL_law_537 : decode cL_law 537 = .ok (.iload_n 3, 1) := by decide +kernel
theorem dL_law_538 : decode cL_law 538 = .ok (.iconst 1, 1) := by decide +kernel
theorem dL_law_539 : decode cL_law 539 = .ok (.iadd, 1) := by decide +kernel
theorem dL_law_540 : decode cL_law 540 = .ok (.iaload, 1) := by decide +kernel
theorem dL_law_541 : decode cL_law 541 = .ok (.aload_n 0, 1) := by decide +kernel
theorem dL_law_542 : decode cL_law 542 = .ok (.iload_n 3, 1) := by decide +kernel
theorem dL_law_543 : decode cL_law 543 = .ok (.iconst 2, 1) := by decide +kernel
theorem dL_law_544 : decode cL_law 544 = .ok (.iadd, 1) := by decide +kernel
theorem dL_law_545 : decode cL_law 545 = .ok (.iaload, 1) := by decide +kernel
theorem dL_law_546 : decode cL_law 546 = .ok (.invokevirtual 60, 3) := by decide +kernel
theorem dL_law_549 : decode cL_law 549 = .ok (.if_icmp .eq 269, 3) := by decide +kernel
theorem dL_law_552 : decode cL_law 552 = .ok (.iconst 0, 1) := by decide +kernel
theorem dL_law_553 : decode cL_law 553 = .ok (.ireturn, 1) := by decide +kernel
theorem dL_law_554 : decode cL_law 554 = .ok (.aload_n 1, 1) := by decide +kernel
theorem dL_law_555 : decode cL_law 555 = .ok (.aload_n 0, 1) := by decide +kernel
theorem dL_law_556 : decode cL_law 556 = .ok (.iload_n 3, 1) := by decide +kernel
theorem dL_law_557 : decode cL_law 557 = .ok (.iconst 1, 1) := by decide +kernel
theorem dL_law_558 : decode cL_law 558 = .ok (.iadd, 1) := by decide +kernel
theorem dL_law_559 : decode cL_law 559 = .ok (.iaload, 1) := by decide +kernel
theorem dL_law_560 : decode cL_law 560 = .ok (.aload_n 0, 1) := by decide +kernel
theorem dL_law_561 : decode cL_law 561 = .ok (.iload_n 3, 1) := by decide +kernel
theorem dL_law_562 : decode cL_law 562 = .ok (.iconst 2, 1) := by decide +kernel
theorem dL_law_563 : decode cL_law 563 = .ok (.iadd, 1) := by decide +kernel
theorem dL_law_564 : decode cL_law 564 = .ok (.iaload, 1) := by decide +kernel
theorem dL_law_565 : decode cL_law 565 = .ok (.aload_n 0, 1) := by decide +kernel
theorem dL_law_566 : decode cL_law 566 = .ok (.iload_n 3, 1) := by decide +kernel
theorem dL_law_567 : decode cL_law 567 = .ok (.iconst 3, 1) := by decide +kernel
theorem dL_law_568 : decode cL_law 568 = .ok (.iadd, 1) := by decide +kernel
theorem dL_law_569 : decode cL_law 569 = .ok (.iaload, 1) := by decide +kernel
theorem dL_law_570 : decode cL_law 570 = .ok (.aload_n 0, 1) := by decide +kernel
theorem dL_law_571 : decode cL_law 571 = .ok (.iload_n 3, 1) := by decide +kernel
theorem dL_law_572 : decode cL_law 572 = .ok (.iconst 4, 1) := by decide +kernel
theorem dL_law_573 : decode cL_law 573 = .ok (.iadd, 1) := by decide +kernel
theorem dL_law_574 : decode cL_law 574 = .ok (.iaload, 1) := by decide +kernel
theorem dL_law_575 : decode cL_law 575 = .ok (.aload_n 0, 1) := by decide +kernel
theorem dL_law_576 : decode cL_law 576 = .ok (.iload_n 3, 1) := by decide +kernel
theorem dL_law_577 : decode cL_law 577 = .ok (.iconst 5, 1) := by decide +kernel
theorem dL_law_578 : decode cL_law 578 = .ok (.iadd, 1) := by decide +kernel
theorem dL_law_579 : decode cL_law 579 = .ok (.iaload, 1) := by decide +kernel
theorem dL_law_580 : decode cL_law 580 = .ok (.invokevirtual 61, 3) := by decide +kernel
theorem dL_law_583 : decode cL_law 583 = .ok (.aload_n 2, 1) := by decide +kernel
theorem dL_law_584 : decode cL_law 584 = .ok (.aload_n 0, 1) := by decide +kernel
theorem dL_law_585 : decode cL_law 585 = .ok (.iload_n 3, 1) := by decide +kernel
theorem dL_law_586 : decode cL_law 586 = .ok (.iconst 1, 1) := by decide +kernel
theorem dL_law_587 : decode cL_law 587 = .ok (.iadd, 1) := by decide +kernel
theorem dL_law_588 : decode cL_law 588 = .ok (.iaload, 1) := by decide +kernel
theorem dL_law_589 : decode cL_law 589 = .ok (.aload_n 0, 1) := by decide +kernel
theorem dL_law_590 : decode cL_law 590 = .ok (.iload_n 3, 1) := by decide +kernel
theorem dL_law_591 : decode cL_law 591 = .ok (.iconst 2, 1) := by decide +kernel
theorem dL_law_592 : decode cL_law 592 = .ok (.iadd, 1) := by decide +kernel
theorem dL_law_593 : decode cL_law 593 = .ok (.iaload, 1) := by decide +kernel
theorem dL_law_594 : decode cL_law 594 = .ok (.aload_n 0, 1) := by decide +kernel
theorem dL_law_595 : decode cL_law 595 = .ok (.iload_n 3, 1) := by decide +kernel
theorem dL_law_596 : decode cL_law 596 = .ok (.iconst 3, 1) := by decide +kernel
theorem dL_law_597 : decode cL_law 597 = .ok (.iadd, 1) := by decide +kernel
theorem dL_law_598 : decode cL_law 598 = .ok (.iaload, 1) := by decide +kernel
theorem dL_law_599 : decode cL_law 599 = .ok (.aload_n 0, 1) := by decide +kernel
theorem dL_law_600 : decode cL_law 600 = .ok (.iload_n 3, 1) := by decide +kernel
theorem dL_law_601 : decode cL_law 601 = .ok (.iconst 4, 1) := by decide +kernel
theorem dL_law_602 : decode cL_law 602 = .ok (.iadd, 1) := by decide +kernel
theorem dL_law_603 : decode cL_law 603 = .ok (.iaload, 1) := by decide +kernel
theorem dL_law_604 : decode cL_law 604 = .ok (.aload_n 0, 1) := by decide +kernel
theorem dL_law_605 : decode cL_law 605 = .ok (.iload_n 3, 1) := by decide +kernel
theorem dL_law_606 : decode cL_law 606 = .ok (.iconst 5, 1) := by decide +kernel
theorem dL_law_607 : decode cL_law 607 = .ok (.iadd, 1) := by decide +kernel
theorem dL_law_608 : decode cL_law 608 = .ok (.iaload, 1) := by decide +kernel
theorem dL_law_609 : decode cL_law 609 = .ok (.invokevirtual 65, 3) := by decide +kernel
theorem dL_law_612 : decode cL_law 612 = .ok (.if_icmp .eq 206, 3) := by decide +kernel
theorem dL_law_615 : decode cL_law 615 = .ok (.iconst 0, 1) := by decide +kernel
theorem dL_law_616 : decode cL_law 616 = .ok (.ireturn, 1) := by decide +kernel
theorem dL_law_617 : decode cL_law 617 = .ok (.aload_n 1, 1) := by decide +kernel
theorem dL_law_618 : decode cL_law 618 = .ok (.aload_n 0, 1) := by decide +kernel
theorem dL_law_619 : decode cL_law 619 = .ok (.iload_n 3, 1) := by decide +kernel
theorem dL_law_620 : decode cL_law 620 = .ok (.iconst 1, 1) := by decide +kernel
theorem dL_law_621 : decode cL_law 621 = .ok (.iadd, 1) := by decide +kernel
theorem dL_law_622 : decode cL_law 622 = .ok (.iaload, 1) := by decide +kernel
theorem dL_law_623 : decode cL_law 623 = .ok (.aload_n 0, 1) := by decide +kernel
theorem dL_law_624 : decode cL_law 624 = .ok (.iload_n 3, 1) := by decide +kernel
theorem dL_law_625 : decode cL_law 625 = .ok (.iconst 2, 1) := by decide +kernel
theorem dL_law_626 : decode cL_law 626 = .ok (.iadd, 1) := by decide +kernel
theorem dL_law_627 : decode cL_law 627 = .ok (.iaload, 1) := by decide +kernel
theorem dL_law_628 : decode cL_law 628 = .ok (.aload_n 0, 1) := by decide +kernel
theorem dL_law_629 : decode cL_law 629 = .ok (.iload_n 3, 1) := by decide +kernel
theorem dL_law_630 : decode cL_law 630 = .ok (.iconst 3, 1) := by decide +kernel
theorem dL_law_631 : decode cL_law 631 = .ok (.iadd, 1) := by decide +kernel
theorem dL_law_632 : decode cL_law 632 = .ok (.iaload, 1) := by decide +kernel
theorem dL_law_633 : decode cL_law 633 = .ok (.aload_n 0, 1) := by decide +kernel
theorem dL_law_634 : decode cL_law 634 = .ok (.iload_n 3, 1) := by decide +kernel
theorem dL_law_635 : decode cL_law 635 = .ok (.iconst 4, 1) := by decide +kernel
theorem dL_law_636 : decode cL_law 636 = .ok (.iadd, 1) := by decide +kernel
theorem dL_law_637 : decode cL_law 637 = .ok (.iaload, 1) := by decide +kernel
theorem dL_law_638 : decode cL_law 638 = .ok (.aload_n 0, 1) := by decide +kernel
theorem dL_law_639 : decode cL_law 639 = .ok (.iload_n 3, 1) := by decide +kernel
theorem dL_law_640 : decode cL_law 640 = .ok (.iconst 5, 1) := by decide +kernel
theorem dL_law_641 : decode cL_law 641 = .ok (.iadd, 1) := by decide +kernel
theorem dL_law_642 : decode cL_law 642 = .ok (.iaload, 1) := by decide +kernel
theorem dL_law_643 : decode cL_law 643 = .ok (.ifCond .eq 7, 3) := by decide +kernel
theorem dL_law_646 : decode cL_law 646 = .ok (.iconst 1, 1) := by decide +kernel
theorem dL_law_647 : decode cL_law 647 = .ok (.goto 4, 3) := by decide +kernel
theorem dL_law_650 : decode cL_law 650 = .ok (.iconst 0, 1) := by decide +kernel
theorem dL_law_651 : decode cL_law 651 = .ok (.invokevirtual 66, 3) := by decide +kernel
theorem dL_law_654 : decode cL_law 654 = .ok (.aload_n 2, 1) := by decide +kernel
theorem dL_law_655 : decode cL_law 655 = .ok (.aload_n 0, 1) := by decide +kernel
theorem dL_law_656 : decode cL_law 656 = .ok (.iload_n 3, 1) := by decide +kernel
theorem dL_law_657 : decode cL_law 657 = .ok (.iconst 1, 1) := by decide +kernel
theorem dL_law_658 : decode cL_law 658 = .ok (.iadd, 1) := by decide +kernel
theorem dL_law_659 : decode cL_law 659 = .ok (.iaload, 1) := by decide +kernel
theorem dL_law_660 : decode cL_law 660 = .ok (.aload_n 0, 1) := by decide +kernel
theorem dL_law_661 : decode cL_law 661 = .ok (.iload_n 3, 1) := by decide +kernel
theorem dL_law_662 : decode cL_law 662 = .ok (.iconst 2, 1) := by decide +kernel
theorem dL_law_663 : decode cL_law 663 = .ok (.iadd, 1) := by decide +kernel
theorem dL_law_664 : decode cL_law 664 = .ok (.iaload, 1) := by decide +kernel
theorem dL_law_665 : decode cL_law 665 = .ok (.aload_n 0, 1) := by decide +kernel
theorem dL_law_666 : decode cL_law 666 = .ok (.iload_n 3, 1) := by decide +kernel
theorem dL_law_667 : decode cL_law 667 = .ok (.iconst 3, 1) := by decide +kernel
theorem dL_law_668 : decode cL_law 668 = .ok (.iadd, 1) := by decide +kernel
theorem dL_law_669 : decode cL_law 669 = .ok (.iaload, 1) := by decide +kernel
theorem dL_law_670 : decode cL_law 670 = .ok (.aload_n 0, 1) := by decide +kernel
theorem dL_law_671 : decode cL_law 671 = .ok (.iload_n 3, 1) := by decide +kernel
theorem dL_law_672 : decode cL_law 672 = .ok (.iconst 4, 1) := by decide +kernel
theorem dL_law_673 : decode cL_law 673 = .ok (.iadd, 1) := by decide +kernel
theorem dL_law_674 : decode cL_law 674 = .ok (.iaload, 1) := by decide +kernel
theorem dL_law_675 : decode cL_law 675 = .ok (.aload_n 0, 1) := by decide +kernel
theorem dL_law_676 : decode cL_law 676 = .ok (.iload_n 3, 1) := by decide +kernel
theorem dL_law_677 : decode cL_law 677 = .ok (.iconst 5, 1) := by decide +kernel
theorem dL_law_678 : decode cL_law 678 = .ok (.iadd, 1) := by decide +kernel
theorem dL_law_679 : decode cL_law 679 = .ok (.iaload, 1) := by decide +kernel
theorem dL_law_680 : decode cL_law 680 = .ok (.ifCond .eq 7, 3) := by decide +kernel
theorem dL_law_683 : decode cL_law 683 = .ok (.iconst 1, 1) := by decide +kernel
theorem dL_law_684 : decode cL_law 684 = .ok (.goto 4, 3) := by decide +kernel
theorem dL_law_687 : decode cL_law 687 = .ok (.iconst 0, 1) := by decide +kernel
theorem dL_law_688 : decode cL_law 688 = .ok (.invokevirtual 70, 3) := by decide +kernel
theorem dL_law_691 : decode cL_law 691 = .ok (.if_icmp .eq 127, 3) := by decide +kernel
theorem dL_law_694 : decode cL_law 694 = .ok (.iconst 0, 1) := by decide +kernel
theorem dL_law_695 : decode cL_law 695 = .ok (.ireturn, 1) := by decide +kernel
theorem dL_law_696 : decode cL_law 696 = .ok (.aload_n 1, 1) := by decide +kernel
theorem dL_law_697 : decode cL_law 697 = .ok (.aload_n 0, 1) := by decide +kernel
theorem dL_law_698 : decode cL_law 698 = .ok (.iload_n 3, 1) := by decide +kernel
theorem dL_law_699 : decode cL_law 699 = .ok (.iconst 1, 1) := by decide +kernel
theorem dL_law_700 : decode cL_law 700 = .ok (.iadd, 1) := by decide +kernel
theorem dL_law_701 : decode cL_law 701 = .ok (.iaload, 1) := by decide +kernel
theorem dL_law_702 : decode cL_law 702 = .ok (.invokevirtual 71, 3) := by decide +kernel
theorem dL_law_705 : decode cL_law 705 = .ok (.aload_n 2, 1) := by decide +kernel
theorem dL_law_706 : decode cL_law 706 = .ok (.aload_n 0, 1) := by decide +kernel
theorem dL_law_707 : decode cL_law 707 = .ok (.iload_n 3, 1) := by decide +kernel
theorem dL_law_708 : decode cL_law 708 = .ok (.iconst 1, 1) := by decide +kernel
theorem dL_law_709 : decode cL_law 709 = .ok (.iadd, 1) := by decide +kernel
theorem dL_law_710 : decode cL_law 710 = .ok (.iaload, 1) := by decide +kernel
theorem dL_law_711 : decode cL_law 711 = .ok (.invokevirtual 75, 3) := by decide +kernel
theorem dL_law_714 : decode cL_law 714 = .ok (.if_icmp .eq 104, 3) := by decide +kernel
theorem dL_law_717 : decode cL_law 717 = .ok (.iconst 0, 1) := by decide +kernel
theorem dL_law_718 : decode cL_law 718 = .ok (.ireturn, 1) := by decide +kernel
theorem dL_law_719 : decode cL_law 719 = .ok (.aload_n 1, 1) := by decide +kernel
theorem dL_law_720 : decode cL_law 720 = .ok (.invokevirtual 76, 3) := by decide +kernel
theorem dL_law_723 : decode cL_law 723 = .ok (.aload_n 2, 1) := by decide +kernel
theorem dL_law_724 : decode cL_law 724 = .ok (.invokevirtual 80, 3) := by decide +kernel
theorem dL_law_727 : decode cL_law 727 = .ok (.if_icmp .eq 91, 3) := by decide +kernel
theorem dL_law_730 : decode cL_law 730 = .ok (.iconst 0, 1) := by decide +kernel
theorem dL_law_731 : decode cL_law 731 = .ok (.ireturn, 1) := by decide +kernel
theorem dL_law_732 : decode cL_law 732 = .ok (.aload_n 1, 1) := by decide +kernel
theorem dL_law_733 : decode cL_law 733 = .ok (.aload_n 0, 1) := by decide +kernel
theorem dL_law_734 : decode cL_law 734 = .ok (.iload_n 3, 1) := by decide +kernel
theorem dL_law_735 : decode cL_law 735 = .ok (.iconst 1, 1) := by decide +kernel
theorem dL_law_736 : decode cL_law 736 = .ok (.iadd, 1) := by decide +kernel
theorem dL_law_737 : decode cL_law 737 = .ok (.iaload, 1) := by decide +kernel
theorem dL_law_738 : decode cL_law 738 = .ok (.aload_n 0, 1) := by decide +kernel
theorem dL_law_739 : decode cL_law 739 = .ok (.iload_n 3, 1) := by decide +kernel
theorem dL_law_740 : decode cL_law 740 = .ok (.iconst 2, 1) := by decide +kernel
theorem dL_law_741 : decode cL_law 741 = .ok (.iadd, 1) := by decide +kernel
theorem dL_law_742 : decode cL_law 742 = .ok (.iaload, 1) := by decide +kernel
theorem dL_law_743 : decode cL_law 743 = .ok (.aload_n 0, 1) := by decide +kernel
theorem dL_law_744 : decode cL_law 744 = .ok (.iload_n 3, 1) := by decide +kernel
theorem dL_law_745 : decode cL_law 745 = .ok (.iconst 3, 1) := by decide +kernel
theorem dL_law_746 : decode cL_law 746 = .ok (.iadd, 1) := by decide +kernel
theorem dL_law_747 : decode cL_law 747 = .ok (.iaload, 1) := by decide +kernel
theorem dL_law_748 : decode cL_law 748 = .ok (.aload_n 0, 1) := by decide +kernel
theorem dL_law_749 : decode cL_law 749 = .ok (.iload_n 3, 1) := by decide +kernel
theorem dL_law_750 : decode cL_law 750 = .ok (.iconst 4, 1) := by decide +kernel
theorem dL_law_751 : decode cL_law 751 = .ok (.iadd, 1) := by decide +kernel
theorem dL_law_752 : decode cL_law 752 = .ok (.iaload, 1) := by decide +kernel
theorem dL_law_753 : decode cL_law 753 = .ok (.invokevirtual 81, 3) := by decide +kernel
theorem dL_law_756 : decode cL_law 756 = .ok (.aload_n 2, 1) := by decide +kernel
theorem dL_law_757 : decode cL_law 757 = .ok (.aload_n 0, 1) := by decide +kernel
theorem dL_law_758 : decode cL_law 758 = .ok (.iload_n 3, 1) := by decide +kernel
theorem dL_law_759 : decode cL_law 759 = .ok (.iconst 1, 1) := by decide +kernel
theorem dL_law_760 : decode cL_law 760 = .ok (.iadd, 1) := by decide +kernel
theorem dL_law_761 : decode cL_law 761 = .ok (.iaload, 1) := by decide +kernel
theorem dL_law_762 : decode cL_law 762 = .ok (.aload_n 0, 1) := by decide +kernel
theorem dL_law_763 : decode cL_law 763 = .ok (.iload_n 3, 1) := by decide +kernel
theorem dL_law_764 : decode cL_law 764 = .ok (.iconst 2, 1) := by decide +kernel
theorem dL_law_765 : decode cL_law 765 = .ok (.iadd, 1) := by decide +kernel
theorem dL_law_766 : decode cL_law 766 = .ok (.iaload, 1) := by decide +kernel
theorem dL_law_767 : decode cL_law 767 = .ok (.aload_n 0, 1) := by decide +kernel
theorem dL_law_768 : decode cL_law 768 = .ok (.iload_n 3, 1) := by decide +kernel
theorem dL_law_769 : decode cL_law 769 = .ok (.iconst 3, 1) := by decide +kernel
theorem dL_law_770 : decode cL_law 770 = .ok (.iadd, 1) := by decide +kernel
theorem dL_law_771 : decode cL_law 771 = .ok (.iaload, 1) := by decide +kernel
theorem dL_law_772 : decode cL_law 772 = .ok (.aload_n 0, 1) := by decide +kernel
theorem dL_law_773 : decode cL_law 773 = .ok (.iload_n 3, 1) := by decide +kernel
theorem dL_law_774 : decode cL_law 774 = .ok (.iconst 4, 1) := by decide +kernel
theorem dL_law_775 : decode cL_law 775 = .ok (.iadd, 1) := by decide +kernel
theorem dL_law_776 : decode cL_law 776 = .ok (.iaload, 1) := by decide +kernel
theorem dL_law_777 : decode cL_law 777 = .ok (.invokevirtual 85, 3) := by decide +kernel
theorem dL_law_780 : decode cL_law 780 = .ok (.if_icmp .eq 38, 3) := by decide +kernel
theorem dL_law_783 : decode cL_law 783 = .ok (.iconst 0, 1) := by decide +kernel
theorem dL_law_784 : decode cL_law 784 = .ok (.ireturn, 1) := by decide +kernel
theorem dL_law_785 : decode cL_law 785 = .ok (.aload_n 1, 1) := by decide +kernel
theorem dL_law_786 : decode cL_law 786 = .ok (.aload_n 0, 1) := by decide +kernel
theorem dL_law_787 : decode cL_law 787 = .ok (.iload_n 3, 1) := by decide +kernel
theorem dL_law_788 : decode cL_law 788 = .ok (.iconst 1, 1) := by decide +kernel
theorem dL_law_789 : decode cL_law 789 = .ok (.iadd, 1) := by decide +kernel
theorem dL_law_790 : decode cL_law 790 = .ok (.iaload, 1) := by decide +kernel
theorem dL_law_791 : decode cL_law 791 = .ok (.aload_n 0, 1) := by decide +kernel
theorem dL_law_792 : decode cL_law 792 = .ok (.iload_n 3, 1) := by decide +kernel
theorem dL_law_793 : decode cL_law 793 = .ok (.iconst 2, 1) := by decide +kernel
theorem dL_law_794 : decode cL_law 794 = .ok (.iadd, 1) := by decide +kernel
theorem dL_law_795 : decode cL_law 795 = .ok (.iaload, 1) := by decide +kernel
theorem dL_law_796 : decode cL_law 796 = .ok (.invokevirtual 86, 3) := by decide +kernel
theorem dL_law_799 : decode cL_law 799 = .ok (.aload_n 2, 1) := by decide +kernel
theorem dL_law_800 : decode cL_law 800 = .ok (.aload_n 0, 1) := by decide +kernel
theorem dL_law_801 : decode cL_law 801 = .ok (.iload_n 3, 1) := by decide +kernel
theorem dL_law_802 : decode cL_law 802 = .ok (.iconst 1, 1) := by decide +kernel
theorem dL_law_803 : decode cL_law 803 = .ok (.iadd, 1) := by decide +kernel
theorem dL_law_804 : decode cL_law 804 = .ok (.iaload, 1) := by decide +kernel
theorem dL_law_805 : decode cL_law 805 = .ok (.aload_n 0, 1) := by decide +kernel
theorem dL_law_806 : decode cL_law 806 = .ok (.iload_n 3, 1) := by decide +kernel
theorem dL_law_807 : decode cL_law 807 = .ok (.iconst 2, 1) := by decide +kernel
theorem dL_law_808 : decode cL_law 808 = .ok (.iadd, 1) := by decide +kernel
theorem dL_law_809 : decode cL_law 809 = .ok (.iaload, 1) := by decide +kernel
theorem dL_law_810 : decode cL_law 810 = .ok (.invokevirtual 89, 3) := by decide +kernel
theorem dL_law_813 : decode cL_law 813 = .ok (.if_icmp .eq 5, 3) := by decide +kernel
theorem dL_law_816 : decode cL_law 816 = .ok (.iconst 0, 1) := by decide +kernel
theorem dL_law_817 : decode cL_law 817 = .ok (.ireturn, 1) := by decide +kernel
theorem dL_law_818 : decode cL_law 818 = .ok (.iinc 3 6, 3) := by decide +kernel
theorem dL_law_821 : decode cL_law 821 = .ok (.goto (-803), 3) := by decide +kernel
theorem dL_law_824 : decode cL_law 824 = .ok (.iconst 1, 1) := by decide +kernel
theorem dL_law_825 : decode cL_law 825 = .ok (.ireturn, 1) := by decide +kernel
