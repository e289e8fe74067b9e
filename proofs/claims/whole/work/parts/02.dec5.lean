theorem dX9_codeBy_127 : decode cX9_codeBy 127 = .ok (.iastore, 1) := by decide +kernel
theorem dX9_codeBy_128 : decode cX9_codeBy 128 = .ok (.aload_n 0, 1) := by decide +kernel
theorem dX9_codeBy_129 : decode cX9_codeBy 129 = .ok (.getfield 85, 3) := by decide +kernel
theorem dX9_codeBy_132 : decode cX9_codeBy 132 = .ok (.iconst 0, 1) := by decide +kernel
theorem dX9_codeBy_133 : decode cX9_codeBy 133 = .ok (.aload_n 0, 1) := by decide +kernel
theorem dX9_codeBy_134 : decode cX9_codeBy 134 = .ok (.iload_n 1, 1) := by decide +kernel
theorem dX9_codeBy_135 : decode cX9_codeBy 135 = .ok (.iload_n 2, 1) := by decide +kernel
theorem dX9_codeBy_136 : decode cX9_codeBy 136 = .ok (.iconst 4, 1) := by decide +kernel
theorem dX9_codeBy_137 : decode cX9_codeBy 137 = .ok (.invokevirtual 244, 3) := by decide +kernel
theorem dX9_codeBy_140 : decode cX9_codeBy 140 = .ok (.iastore, 1) := by decide +kernel
theorem dX9_codeBy_141 : decode cX9_codeBy 141 = .ok (.aload_n 0, 1) := by decide +kernel
theorem dX9_codeBy_142 : decode cX9_codeBy 142 = .ok (.getfield 85, 3) := by decide +kernel
theorem dX9_codeBy_145 : decode cX9_codeBy 145 = .ok (.iconst 1, 1) := by decide +kernel
theorem dX9_codeBy_146 : decode cX9_codeBy 146 = .ok (.iload 5, 2) := by decide +kernel
theorem dX9_codeBy_148 : decode cX9_codeBy 148 = .ok (.iastore, 1) := by decide +kernel
theorem dX9_codeBy_149 : decode cX9_codeBy 149 = .ok (.aload_n 0, 1) := by decide +kernel
theorem dX9_codeBy_150 : decode cX9_codeBy 150 = .ok (.getfield 85, 3) := by decide +kernel
theorem dX9_codeBy_153 : decode cX9_codeBy 153 = .ok (.iconst 2, 1) := by decide +kernel
theorem dX9_codeBy_154 : decode cX9_codeBy 154 = .ok (.aload_n 0, 1) := by decide +kernel
theorem dX9_codeBy_155 : decode cX9_codeBy 155 = .ok (.iload_n 1, 1) := by decide +kernel
theorem dX9_codeBy_156 : decode cX9_codeBy 156 = .ok (.iload_n 2, 1) := by decide +kernel
theorem dX9_codeBy_157 : decode cX9_codeBy 157 = .ok (.iconst 0, 1) := by decide +kernel
theorem dX9_codeBy_158 : decode cX9_codeBy 158 = .ok (.invokevirtual 244, 3) := by decide +kernel
theorem dX9_codeBy_161 : decode cX9_codeBy 161 = .ok (.iastore, 1) := by decide +kernel
theorem dX9_codeBy_162 : decode cX9_codeBy 162 = .ok (.aload_n 0, 1) := by decide +kernel
theorem dX9_codeBy_163 : decode cX9_codeBy 163 = .ok (.getfield 85, 3) := by decide +kernel
theorem dX9_codeBy_166 : decode cX9_codeBy 166 = .ok (.iconst 3, 1) := by decide +kernel
theorem dX9_codeBy_167 : decode cX9_codeBy 167 = .ok (.aload_n 0, 1) := by decide +kernel
theorem dX9_codeBy_168 : decode cX9_codeBy 168 = .ok (.iload_n 1, 1) := by decide +kernel
theorem dX9_codeBy_169 : decode cX9_codeBy 169 = .ok (.iload_n 2, 1) := by decide +kernel
theorem dX9_codeBy_170 : decode cX9_codeBy 170 = .ok (.iconst 1, 1) := by decide +kernel
theorem dX9_codeBy_171 : decode cX9_codeBy 171 = .ok (.invokevirtual 244, 3) := by decide +kernel
theorem dX9_codeBy_174 : decode cX9_codeBy 174 = .ok (.aload_n 0, 1) := by decide +kernel
theorem dX9_codeBy_175 : decode cX9_codeBy 175 = .ok (.iload_n 1, 1) := by decide +kernel
theorem dX9_codeBy_176 : decode cX9_codeBy 176 = .ok (.iload_n 2, 1) := by decide +kernel
theorem dX9_codeBy_177 : decode cX9_codeBy 177 = .ok (.iconst 0, 1) := by decide +kernel
theorem dX9_codeBy_178 : decode cX9_codeBy 178 = .ok (.invokevirtual 244, 3) := by decide +kernel
theorem dX9_codeBy_181 : decode cX9_codeBy 181 = .ok (.isub, 1) := by decide +kernel
theorem dX9_codeBy_182 : decode cX9_codeBy 182 = .ok (.iconst 1, 1) := by decide +kernel
theorem dX9_codeBy_183 : decode cX9_codeBy 183 = .ok (.iadd, 1) := by decide +kernel
theorem dX9_codeBy_184 : decode cX9_codeBy 184 = .ok (.iastore, 1) := by decide +kernel
theorem dX9_codeBy_185 : decode cX9_codeBy 185 = .ok (.aload_n 0, 1) := by decide +kernel
theorem dX9_codeBy_186 : decode cX9_codeBy 186 = .ok (.getfield 85, 3) := by decide +kernel
theorem dX9_codeBy_189 : decode cX9_codeBy 189 = .ok (.iconst 4, 1) := by decide +kernel
theorem dX9_codeBy_190 : decode cX9_codeBy 190 = .ok (.iload_n 2, 1) := by decide +kernel
theorem dX9_codeBy_191 : decode cX9_codeBy 191 = .ok (.ifCond .ne 7, 3) := by decide +kernel
theorem dX9_codeBy_194 : decode cX9_codeBy 194 = .ok (.iconst (-1), 1) := by decide +kernel
theorem dX9_codeBy_195 : decode cX9_codeBy 195 = .ok (.goto 11, 3) := by decide +kernel
theorem dX9_codeBy_198 : decode cX9_codeBy 198 = .ok (.aload_n 0, 1) := by decide +kernel
theorem dX9_codeBy_199 : decode cX9_codeBy 199 = .ok (.getfield 118, 3) := by decide +kernel
theorem dX9_codeBy_202 : decode cX9_codeBy 202 = .ok (.iload_n 2, 1) := by decide +kernel
theorem dX9_codeBy_203 : decode cX9_codeBy 203 = .ok (.iconst 1, 1) := by decide +kernel
theorem dX9_codeBy_204 : decode cX9_codeBy 204 = .ok (.isub, 1) := by decide +kernel
theorem dX9_codeBy_205 : decode cX9_codeBy 205 = .ok (.iaload, 1) := by decide +kernel
theorem dX9_codeBy_206 : decode cX9_codeBy 206 = .ok (.iastore, 1) := by decide +kernel
theorem dX9_codeBy_207 : decode cX9_codeBy 207 = .ok (.aload_n 0, 1) := by decide +kernel
theorem dX9_codeBy_208 : decode cX9_codeBy 208 = .ok (.getfield 85, 3) := by decide +kernel
theorem dX9_codeBy_211 : decode cX9_codeBy 211 = .ok (.iconst 5, 1) := by decide +kernel
theorem dX9_codeBy_212 : decode cX9_codeBy 212 = .ok (.aload_n 0, 1) := by decide +kernel
theorem dX9_codeBy_213 : decode cX9_codeBy 213 = .ok (.getfield 106, 3) := by decide +kernel
theorem dX9_codeBy_216 : decode cX9_codeBy 216 = .ok (.iload_n 1, 1) := by decide +kernel
theorem dX9_codeBy_217 : decode cX9_codeBy 217 = .ok (.iaload, 1) := by decide +kernel
theorem dX9_codeBy_218 : decode cX9_codeBy 218 = .ok (.iastore, 1) := by decide +kernel
theorem dX9_codeBy_219 : decode cX9_codeBy 219 = .ok (.aload_n 0, 1) := by decide +kernel
theorem dX9_codeBy_220 : decode cX9_codeBy 220 = .ok (.getfield 85, 3) := by decide +kernel
theorem dX9_codeBy_223 : decode cX9_codeBy 223 = .ok (.bipush 6, 2) := by decide +kernel
theorem dX9_codeBy_225 : decode cX9_codeBy 225 = .ok (.aload_n 0, 1) := by decide +kernel
theorem dX9_codeBy_226 : decode cX9_codeBy 226 = .ok (.getfield 103, 3) := by decide +kernel
theorem dX9_codeBy_229 : decode cX9_codeBy 229 = .ok (.iload_n 1, 1) := by decide +kernel
theorem dX9_codeBy_230 : decode cX9_codeBy 230 = .ok (.iaload, 1) := by decide +kernel
theorem dX9_codeBy_231 : decode cX9_codeBy 231 = .ok (.iastore, 1) := by decide +kernel
theorem dX9_codeBy_232 : decode cX9_codeBy 232 = .ok (.bipush 24, 2) := by decide +kernel
theorem dX9_codeBy_234 : decode cX9_codeBy 234 = .ok (.aload_n 0, 1) := by decide +kernel
theorem dX9_codeBy_235 : decode cX9_codeBy 235 = .ok (.getfield 54, 3) := by decide +kernel
theorem dX9_codeBy_238 : decode cX9_codeBy 238 = .ok (.imul, 1) := by decide +kernel
theorem dX9_codeBy_239 : decode cX9_codeBy 239 = .ok (.istore 6, 2) := by decide +kernel
theorem dX9_codeBy_241 : decode cX9_codeBy 241 = .ok (.iload 6, 2) := by decide +kernel
theorem dX9_codeBy_243 : decode cX9_codeBy 243 = .ok (.bipush 24, 2) := by decide +kernel
theorem dX9_codeBy_245 : decode cX9_codeBy 245 = .ok (.aload_n 0, 1) := by decide +kernel
theorem dX9_codeBy_246 : decode cX9_codeBy 246 = .ok (.getfield 54, 3) := by decide +kernel
theorem dX9_codeBy_249 : decode cX9_codeBy 249 = .ok (.imul, 1) := by decide +kernel
theorem dX9_codeBy_250 : decode cX9_codeBy 250 = .ok (.aload_n 0, 1) := by decide +kernel
theorem dX9_codeBy_251 : decode cX9_codeBy 251 = .ok (.getfield 58, 3) := by decide +kernel
theorem dX9_codeBy_254 : decode cX9_codeBy 254 = .ok (.aload_n 0, 1) := by decide +kernel
theorem dX9_codeBy_255 : decode cX9_codeBy 255 = .ok (.getfield 54, 3) := by decide +kernel
theorem dX9_codeBy_258 : decode cX9_codeBy 258 = .ok (.iaload, 1) := by decide +kernel
theorem dX9_codeBy_259 : decode cX9_codeBy 259 = .ok (.iadd, 1) := by decide +kernel
theorem dX9_codeBy_260 : decode cX9_codeBy 260 = .ok (.if_icmp .ge 40, 3) := by decide +kernel
theorem dX9_codeBy_263 : decode cX9_codeBy 263 = .ok (.aload_n 0, 1) := by decide +kernel
theorem dX9_codeBy_264 : decode cX9_codeBy 264 = .ok (.sipush 880, 3) := by decide +kernel
theorem dX9_codeBy_267 : decode cX9_codeBy 267 = .ok (.aload_n 0, 1) := by decide +kernel
theorem dX9_codeBy_268 : decode cX9_codeBy 268 = .ok (.getfield 54, 3) := by decide +kernel
theorem dX9_codeBy_271 : decode cX9_codeBy 271 = .ok (.imul, 1) := by decide +kernel
theorem dX9_codeBy_272 : decode cX9_codeBy 272 = .ok (.aload_n 0, 1) := by decide +kernel
theorem dX9_codeBy_273 : decode cX9_codeBy 273 = .ok (.getfield 67, 3) := by decide +kernel
theorem dX9_codeBy_276 : decode cX9_codeBy 276 = .ok (.iload 6, 2) := by decide +kernel
theorem dX9_codeBy_278 : decode cX9_codeBy 278 = .ok (.iaload, 1) := by decide +kernel
theorem dX9_codeBy_279 : decode cX9_codeBy 279 = .ok (.iadd, 1) := by decide +kernel
theorem dX9_codeBy_280 : decode cX9_codeBy 280 = .ok (.invokevirtual 253, 3) := by decide +kernel
theorem dX9_codeBy_283 : decode cX9_codeBy 283 = .ok (.ifCond .eq 11, 3) := by decide +kernel
theorem dX9_codeBy_286 : decode cX9_codeBy 286 = .ok (.aload_n 0, 1) := by decide +kernel
theorem dX9_codeBy_287 : decode cX9_codeBy 287 = .ok (.getfield 64, 3) := by decide +kernel
theorem dX9_codeBy_290 : decode cX9_codeBy 290 = .ok (.iload 6, 2) := by decide +kernel
theorem dX9_codeBy_292 : decode cX9_codeBy 292 = .ok (.iaload, 1) := by decide +kernel
theorem dX9_codeBy_293 : decode cX9_codeBy 293 = .ok (.ireturn, 1) := by decide +kernel
theorem dX9_codeBy_294 : decode cX9_codeBy 294 = .ok (.iinc 6 1, 3) := by decide +kernel
theorem dX9_codeBy_297 : decode cX9_codeBy 297 = .ok (.goto (-56), 3) := by decide +kernel
theorem dX9_codeBy_300 : decode cX9_codeBy 300 = .ok (.iconst (-1), 1) := by decide +kernel
theorem dX9_codeBy_301 : decode cX9_codeBy 301 = .ok (.ireturn, 1) := by decide +kernel
theorem dX9_gapAhead_0 : decode cX9_gapAhead 0 = .ok (.iload_n 2, 1) := by decide +kernel
theorem dX9_gapAhead_1 : decode cX9_gapAhead 1 = .ok (.ifCond .ne 7, 3) := by decide +kernel
theorem dX9_gapAhead_4 : decode cX9_gapAhead 4 = .ok (.iconst 0, 1) := by decide +kernel
theorem dX9_gapAhead_5 : decode cX9_gapAhead 5 = .ok (.goto 22, 3) := by decide +kernel
theorem dX9_gapAhead_8 : decode cX9_gapAhead 8 = .ok (.aload_n 0, 1) := by decide +kernel
theorem dX9_gapAhead_9 : decode cX9_gapAhead 9 = .ok (.iload_n 1, 1) := by decide +kernel
theorem dX9_gapAhead_10 : decode cX9_gapAhead 10 = .ok (.iload_n 2, 1) := by decide +kernel
theorem dX9_gapAhead_11 : decode cX9_gapAhead 11 = .ok (.iconst 0, 1) := by decide +kernel
theorem dX9_gapAhead_12 : decode cX9_gapAhead 12 = .ok (.invokevirtual 244, 3) := by decide +kernel
theorem dX9_gapAhead_15 : decode cX9_gapAhead 15 = .ok (.aload_n 0, 1) := by decide +kernel
theorem dX9_gapAhead_16 : decode cX9_gapAhead 16 = .ok (.iload_n 1, 1) := by decide +kernel
theorem dX9_gapAhead_17 : decode cX9_gapAhead 17 = .ok (.iload_n 2, 1) := by decide +kernel
theorem dX9_gapAhead_18 : decode cX9_gapAhead 18 = .ok (.iconst 1, 1) := by decide +kernel
theorem dX9_gapAhead_19 : decode cX9_gapAhead 19 = .ok (.isub, 1) := by decide +kernel
theorem dX9_gapAhead_20 : decode cX9_gapAhead 20 = .ok (.iconst 1, 1) := by decide +kernel
theorem dX9_gapAhead_21 : decode cX9_gapAhead 21 = .ok (.invokevirtual 244, 3) := by decide +kernel
theorem dX9_gapAhead_24 : decode cX9_gapAhead 24 = .ok (.isub, 1) := by decide +kernel
theorem dX9_gapAhead_25 : decode cX9_gapAhead 25 = .ok (.iconst 1, 1) := by decide +kernel
theorem dX9_gapAhead_26 : decode cX9_gapAhead 26 = .ok (.isub, 1) := by decide +kernel
theorem dX9_gapAhead_27 : decode cX9_gapAhead 27 = .ok (.ireturn, 1) := by decide +kernel
theorem dX9_findCodes_0 : decode cX9_findCodes 0 = .ok (.iconst 0, 1) := by decide +kernel
theorem dX9_findCodes_1 : decode cX9_findCodes 1 = .ok (.istore_n 2, 1) := by decide +kernel
theorem dX9_findCodes_2 : decode cX9_findCodes 2 = .ok (.iload_n 2, 1) := by decide +kernel
theorem dX9_findCodes_3 : decode cX9_findCodes 3 = .ok (.aload_n 0, 1) := by decide +kernel
theorem dX9_findCodes_4 : decode cX9_findCodes 4 = .ok (.getfield 112, 3) := by decide +kernel
theorem dX9_findCodes_7 : decode cX9_findCodes 7 = .ok (.iload_n 1, 1) := by decide +kernel
theorem dX9_findCodes_8 : decode cX9_findCodes 8 = .ok (.iaload, 1) := by decide +kernel
theorem dX9_findCodes_9 : decode cX9_findCodes 9 = .ok (.if_icmp .ge 117, 3) := by decide +kernel
theorem dX9_findCodes_12 : decode cX9_findCodes 12 = .ok (.aload_n 0, 1) := by decide +kernel
theorem dX9_findCodes_13 : decode cX9_findCodes 13 = .ok (.getfield 118, 3) := by decide +kernel
theorem dX9_findCodes_16 : decode cX9_findCodes 16 = .ok (.iload_n 2, 1) := by decide +kernel
theorem dX9_findCodes_17 : decode cX9_findCodes 17 = .ok (.aload_n 0, 1) := by decide +kernel
theorem dX9_findCodes_18 : decode cX9_findCodes 18 = .ok (.iload_n 1, 1) := by decide +kernel
theorem dX9_findCodes_19 : decode cX9_findCodes 19 = .ok (.iload_n 2, 1) := by decide +kernel
theorem dX9_findCodes_20 : decode cX9_findCodes 20 = .ok (.iconst 0, 1) := by decide +kernel
theorem dX9_findCodes_21 : decode cX9_findCodes 21 = .ok (.invokevirtual 256, 3) := by decide +kernel
theorem dX9_findCodes_24 : decode cX9_findCodes 24 = .ok (.iastore, 1) := by decide +kernel
theorem dX9_findCodes_25 : decode cX9_findCodes 25 = .ok (.aload_n 0, 1) := by decide +kernel
theorem dX9_findCodes_26 : decode cX9_findCodes 26 = .ok (.getfield 121, 3) := by decide +kernel
theorem dX9_findCodes_29 : decode cX9_findCodes 29 = .ok (.iload_n 2, 1) := by decide +kernel
theorem dX9_findCodes_30 : decode cX9_findCodes 30 = .ok (.aload_n 0, 1) := by decide +kernel
theorem dX9_findCodes_31 : decode cX9_findCodes 31 = .ok (.iload_n 1, 1) := by decide +kernel
theorem dX9_findCodes_32 : decode cX9_findCodes 32 = .ok (.iload_n 2, 1) := by decide +kernel
theorem dX9_findCodes_33 : decode cX9_findCodes 33 = .ok (.iconst 3, 1) := by decide +kernel
theorem dX9_findCodes_34 : decode cX9_findCodes 34 = .ok (.invokevirtual 244, 3) := by decide +kernel
theorem dX9_findCodes_37 : decode cX9_findCodes 37 = .ok (.ifCond .ne 7, 3) := by decide +kernel
theorem dX9_findCodes_40 : decode cX9_findCodes 40 = .ok (.iconst (-1), 1) := by decide +kernel
theorem dX9_findCodes_41 : decode cX9_findCodes 41 = .ok (.goto 10, 3) := by decide +kernel
theorem dX9_findCodes_44 : decode cX9_findCodes 44 = .ok (.aload_n 0, 1) := by decide +kernel
theorem dX9_findCodes_45 : decode cX9_findCodes 45 = .ok (.iload_n 1, 1) := by decide +kernel
theorem dX9_findCodes_46 : decode cX9_findCodes 46 = .ok (.iload_n 2, 1) := by decide +kernel
theorem dX9_findCodes_47 : decode cX9_findCodes 47 = .ok (.iconst 1, 1) := by decide +kernel
theorem dX9_findCodes_48 : decode cX9_findCodes 48 = .ok (.invokevirtual 256, 3) := by decide +kernel
theorem dX9_findCodes_51 : decode cX9_findCodes 51 = .ok (.iastore, 1) := by decide +kernel
theorem dX9_findCodes_52 : decode cX9_findCodes 52 = .ok (.aload_n 0, 1) := by decide +kernel
theorem dX9_findCodes_53 : decode cX9_findCodes 53 = .ok (.iload_n 1, 1) := by decide +kernel
theorem dX9_findCodes_54 : decode cX9_findCodes 54 = .ok (.iload_n 2, 1) := by decide +kernel
theorem dX9_findCodes_55 : decode cX9_findCodes 55 = .ok (.invokevirtual 260, 3) := by decide +kernel
theorem dX9_findCodes_58 : decode cX9_findCodes 58 = .ok (.istore_n 3, 1) := by decide +kernel
theorem dX9_findCodes_59 : decode cX9_findCodes 59 = .ok (.aload_n 0, 1) := by decide +kernel
theorem dX9_findCodes_60 : decode cX9_findCodes 60 = .ok (.getfield 124, 3) := by decide +kernel
theorem dX9_findCodes_63 : decode cX9_findCodes 63 = .ok (.iload_n 2, 1) := by decide +kernel
theorem dX9_findCodes_64 : decode cX9_findCodes 64 = .ok (.iload_n 3, 1) := by decide +kernel
theorem dX9_findCodes_65 : decode cX9_findCodes 65 = .ok (.ifCond .le 53, 3) := by decide +kernel
theorem dX9_findCodes_68 : decode cX9_findCodes 68 = .ok (.aload_n 0, 1) := by decide +kernel
theorem dX9_findCodes_69 : decode cX9_findCodes 69 = .ok (.getfield 54, 3) := by decide +kernel
theorem dX9_findCodes_72 : decode cX9_findCodes 72 = .ok (.ifCond .lt 46, 3) := by decide +kernel
theorem dX9_findCodes_75 : decode cX9_findCodes 75 = .ok (.iload_n 3, 1) := by decide +kernel
theorem dX9_findCodes_76 : decode cX9_findCodes 76 = .ok (.aload_n 0, 1) := by decide +kernel
theorem dX9_findCodes_77 : decode cX9_findCodes 77 = .ok (.getfield 61, 3) := by decide +kernel
theorem dX9_findCodes_80 : decode cX9_findCodes 80 = .ok (.aload_n 0, 1) := by decide +kernel
theorem dX9_findCodes_81 : decode cX9_findCodes 81 = .ok (.getfield 54, 3) := by decide +kernel
theorem dX9_findCodes_84 : decode cX9_findCodes 84 = .ok (.iaload, 1) := by decide +kernel
theorem dX9_findCodes_85 : decode cX9_findCodes 85 = .ok (.if_icmp .gt 33, 3) := by decide +kernel
theorem dX9_findCodes_88 : decode cX9_findCodes 88 = .ok (.aload_n 0, 1) := by decide +kernel
theorem dX9_findCodes_89 : decode cX9_findCodes 89 = .ok (.getfield 118, 3) := by decide +kernel
theorem dX9_findCodes_92 : decode cX9_findCodes 92 = .ok (.iload_n 2, 1) := by decide +kernel
theorem dX9_findCodes_93 : decode cX9_findCodes 93 = .ok (.iaload, 1) := by decide +kernel
theorem dX9_findCodes_94 : decode cX9_findCodes 94 = .ok (.ifCond .lt 24, 3) := by decide +kernel
theorem dX9_findCodes_97 : decode cX9_findCodes 97 = .ok (.aload_n 0, 1) := by decide +kernel
theorem dX9_findCodes_98 : decode cX9_findCodes 98 = .ok (.getfield 118, 3) := by decide +kernel
theorem dX9_findCodes_101 : decode cX9_findCodes 101 = .ok (.iload_n 2, 1) := by decide +kernel
theorem dX9_findCodes_102 : decode cX9_findCodes 102 = .ok (.iaload, 1) := by decide +kernel
theorem dX9_findCodes_103 : decode cX9_findCodes 103 = .ok (.aload_n 0, 1) := by decide +kernel
theorem dX9_findCodes_104 : decode cX9_findCodes 104 = .ok (.getfield 118, 3) := by decide +kernel
theorem dX9_findCodes_107 : decode cX9_findCodes 107 = .ok (.iload_n 2, 1) := by decide +kernel
theorem dX9_findCodes_108 : decode cX9_findCodes 108 = .ok (.iconst 1, 1) := by decide +kernel
theorem dX9_findCodes_109 : decode cX9_findCodes 109 = .ok (.isub, 1) := by decide +kernel
theorem dX9_findCodes_110 : decode cX9_findCodes 110 = .ok (.iaload, 1) := by decide +kernel
theorem dX9_findCodes_111 : decode cX9_findCodes 111 = .ok (.if_icmp .ne 7, 3) := by decide +kernel
theorem dX9_findCodes_114 : decode cX9_findCodes 114 = .ok (.iconst 1, 1) := by decide +kernel
theorem dX9_findCodes_115 : decode cX9_findCodes 115 = .ok (.goto 4, 3) := by decide +kernel
theorem dX9_findCodes_118 : decode cX9_findCodes 118 = .ok (.iconst 0, 1) := by decide +kernel
theorem dX9_findCodes_119 : decode cX9_findCodes 119 = .ok (.bastore, 1) := by decide +kernel
theorem dX9_findCodes_120 : decode cX9_findCodes 120 = .ok (.iinc 2 1, 3) := by decide +kernel
theorem dX9_findCodes_123 : decode cX9_findCodes 123 = .ok (.goto (-121), 3) := by decide +kernel
theorem dX9_findCodes_126 : decode cX9_findCodes 126 = .ok (.return_, 1) := by decide +kernel
theorem dX9_code_0 : decode cX9_code 0 = .ok (.aload_n 0, 1) := by decide +kernel
theorem dX9_code_1 : decode cX9_code 1 = .ok (.iconst 0, 1) := by decide +kernel
theorem dX9_code_2 : decode cX9_code 2 = .ok (.putfield 131, 3) := by decide +kernel
theorem dX9_code_5 : decode cX9_code 5 = .ok (.aload_n 0, 1) := by decide +kernel
theorem dX9_code_6 : decode cX9_code 6 = .ok (.iload_n 1, 1) := by decide +kernel
theorem dX9_code_7 : decode cX9_code 7 = .ok (.invokevirtual 247, 3) := by decide +kernel
theorem dX9_code_10 : decode cX9_code 10 = .ok (.ifCond .eq 17, 3) := by decide +kernel
theorem dX9_code_13 : decode cX9_code 13 = .ok (.iload_n 2, 1) := by decide +kernel
theorem dX9_code_14 : decode cX9_code 14 = .ok (.ifCond .lt 13, 3) := by decide +kernel
theorem dX9_code_17 : decode cX9_code 17 = .ok (.iload_n 2, 1) := by decide +kernel
theorem dX9_code_18 : decode cX9_code 18 = .ok (.aload_n 0, 1) := by decide +kernel
theorem dX9_code_19 : decode cX9_code 19 = .ok (.getfield 112, 3) := by decide +kernel
theorem dX9_code_22 : decode cX9_code 22 = .ok (.iload_n 1, 1) := by decide +kernel
theorem dX9_code_23 : decode cX9_code 23 = .ok (.iaload, 1) := by decide +kernel
theorem dX9_code_24 : decode cX9_code 24 = .ok (.if_icmp .lt 6, 3) := by decide +kernel
theorem dX9_code_27 : decode cX9_code 27 = .ok (.bipush (-2), 2) := by decide +kernel
theorem dX9_code_29 : decode cX9_code 29 = .ok (.ireturn, 1) := by decide +kernel
theorem dX9_code_30 : decode cX9_code 30 = .ok (.aload_n 0, 1) := by decide +kernel
theorem dX9_code_31 : decode cX9_code 31 = .ok (.iload_n 1, 1) := by decide +kernel
theorem dX9_code_32 : decode cX9_code 32 = .ok (.invokevirtual 263, 3) := by decide +kernel
theorem dX9_code_35 : decode cX9_code 35 = .ok (.aload_n 0, 1) := by decide +kernel
theorem dX9_code_36 : decode cX9_code 36 = .ok (.getfield 118, 3) := by decide +kernel
theorem dX9_code_39 : decode cX9_code 39 = .ok (.iload_n 2, 1) := by decide +kernel
theorem dX9_code_40 : decode cX9_code 40 = .ok (.iaload, 1) := by decide +kernel
theorem dX9_code_41 : decode cX9_code 41 = .ok (.ireturn, 1) := by decide +kernel
theorem dX9_look_0 : decode cX9_look 0 = .ok (.aload_n 0, 1) := by decide +kernel
theorem dX9_look_1 : decode cX9_look 1 = .ok (.aload_n 0, 1) := by decide +kernel
theorem dX9_look_2 : decode cX9_look 2 = .ok (.iload_n 1, 1) := by decide +kernel
theorem dX9_look_3 : decode cX9_look 3 = .ok (.invokevirtual 247, 3) := by decide +kernel
theorem dX9_look_6 : decode cX9_look 6 = .ok (.ifCond .eq 30, 3) := by decide +kernel
theorem dX9_look_9 : decode cX9_look 9 = .ok (.iload_n 2, 1) := by decide +kernel
theorem dX9_look_10 : decode cX9_look 10 = .ok (.ifCond .lt 26, 3) := by decide +kernel
theorem dX9_look_13 : decode cX9_look 13 = .ok (.iload_n 2, 1) := by decide +kernel
theorem dX9_look_14 : decode cX9_look 14 = .ok (.aload_n 0, 1) := by decide +kernel
theorem dX9_look_15 : decode cX9_look 15 = .ok (.getfield 112, 3) := by decide +kernel
theorem dX9_look_18 : decode cX9_look 18 = .ok (.iload_n 1, 1) := by decide +kernel
theorem dX9_look_19 : decode cX9_look 19 = .ok (.iaload, 1) := by decide +kernel
theorem dX9_look_20 : decode cX9_look 20 = .ok (.if_icmp .ge 16, 3) := by decide +kernel
theorem dX9_look_23 : decode cX9_look 23 = .ok (.iload_n 3, 1) := by decide +kernel
theorem dX9_look_24 : decode cX9_look 24 = .ok (.ifCond .lt 12, 3) := by decide +kernel
theorem dX9_look_27 : decode cX9_look 27 = .ok (.iload_n 3, 1) := by decide +kernel
theorem dX9_look_28 : decode cX9_look 28 = .ok (.iconst 5, 1) := by decide +kernel
theorem dX9_look_29 : decode cX9_look 29 = .ok (.if_icmp .gt 7, 3) := by decide +kernel
theorem dX9_look_32 : decode cX9_look 32 = .ok (.iconst 0, 1) := by decide +kernel
theorem dX9_look_33 : decode cX9_look 33 = .ok (.goto 4, 3) := by decide +kernel
theorem dX9_look_36 : decode cX9_look 36 = .ok (.iconst 1, 1) := by decide +kernel
theorem dX9_look_37 : decode cX9_look 37 = .ok (.putfield 131, 3) := by decide +kernel
theorem dX9_look_40 : decode cX9_look 40 = .ok (.aload_n 0, 1) := by decide +kernel
theorem dX9_look_41 : decode cX9_look 41 = .ok (.getfield 131, 3) := by decide +kernel
theorem dX9_look_44 : decode cX9_look 44 = .ok (.ifCond .le 7, 3) := by decide +kernel
theorem dX9_look_47 : decode cX9_look 47 = .ok (.iconst 0, 1) := by decide +kernel
theorem dX9_look_48 : decode cX9_look 48 = .ok (.goto 10, 3) := by decide +kernel
theorem dX9_look_51 : decode cX9_look 51 = .ok (.aload_n 0, 1) := by decide +kernel
theorem dX9_look_52 : decode cX9_look 52 = .ok (.iload_n 1, 1) := by decide +kernel
theorem dX9_look_53 : decode cX9_look 53 = .ok (.iload_n 2, 1) := by decide +kernel
theorem dX9_look_54 : decode cX9_look 54 = .ok (.iload_n 3, 1) := by decide +kernel
theorem dX9_look_55 : decode cX9_look 55 = .ok (.invokevirtual 244, 3) := by decide +kernel
theorem dX9_look_58 : decode cX9_look 58 = .ok (.ireturn, 1) := by decide +kernel
theorem dX9_ten_0 : decode cX9_ten 0 = .ok (.aload_n 0, 1) := by decide +kernel
theorem dX9_ten_1 : decode cX9_ten 1 = .ok (.iconst 0, 1) := by decide +kernel
theorem dX9_ten_2 : decode cX9_ten 2 = .ok (.putfield 131, 3) := by decide +kernel
theorem dX9_ten_5 : decode cX9_ten 5 = .ok (.aload_n 0, 1) := by decide +kernel
theorem dX9_ten_6 : decode cX9_ten 6 = .ok (.iload_n 1, 1) := by decide +kernel
theorem dX9_ten_7 : decode cX9_ten 7 = .ok (.invokevirtual 247, 3) := by decide +kernel
theorem dX9_ten_10 : decode cX9_ten 10 = .ok (.ifCond .eq 14, 3) := by decide +kernel
theorem dX9_ten_13 : decode cX9_ten 13 = .ok (.iload_n 2, 1) := by decide +kernel
theorem dX9_ten_14 : decode cX9_ten 14 = .ok (.ifCond .lt 10, 3) := by decide +kernel
theorem dX9_ten_17 : decode cX9_ten 17 = .ok (.iload_n 2, 1) := by decide +kernel
theorem dX9_ten_18 : decode cX9_ten 18 = .ok (.sipush 144, 3) := by decide +kernel
theorem dX9_ten_21 : decode cX9_ten 21 = .ok (.if_icmp .lt 6, 3) := by decide +kernel
theorem dX9_ten_24 : decode cX9_ten 24 = .ok (.bipush (-3), 2) := by decide +kernel
theorem dX9_ten_26 : decode cX9_ten 26 = .ok (.ireturn, 1) := by decide +kernel
theorem dX9_ten_27 : decode cX9_ten 27 = .ok (.aload_n 0, 1) := by decide +kernel
theorem dX9_ten_28 : decode cX9_ten 28 = .ok (.iload_n 1, 1) := by decide +kernel
theorem dX9_ten_29 : decode cX9_ten 29 = .ok (.invokevirtual 263, 3) := by decide +kernel
theorem dX9_ten_32 : decode cX9_ten 32 = .ok (.aload_n 0, 1) := by decide +kernel
theorem dX9_ten_33 : decode cX9_ten 33 = .ok (.iload_n 1, 1) := by decide +kernel
theorem dX9_ten_34 : decode cX9_ten 34 = .ok (.iload_n 2, 1) := by decide +kernel
theorem dX9_ten_35 : decode cX9_ten 35 = .ok (.invokevirtual 250, 3) := by decide +kernel
theorem dX9_ten_38 : decode cX9_ten 38 = .ok (.istore_n 3, 1) := by decide +kernel
theorem dX9_ten_39 : decode cX9_ten 39 = .ok (.iload_n 3, 1) := by decide +kernel
theorem dX9_ten_40 : decode cX9_ten 40 = .ok (.ifCond .lt 10, 3) := by decide +kernel
theorem dX9_ten_43 : decode cX9_ten 43 = .ok (.aload_n 0, 1) := by decide +kernel
theorem dX9_ten_44 : decode cX9_ten 44 = .ok (.getfield 118, 3) := by decide +kernel
theorem dX9_ten_47 : decode cX9_ten 47 = .ok (.iload_n 3, 1) := by decide +kernel
theorem dX9_ten_48 : decode cX9_ten 48 = .ok (.iaload, 1) := by decide +kernel
theorem dX9_ten_49 : decode cX9_ten 49 = .ok (.ireturn, 1) := by decide +kernel
theorem dX9_ten_50 : decode cX9_ten 50 = .ok (.iconst 1, 1) := by decide +kernel
theorem dX9_ten_51 : decode cX9_ten 51 = .ok (.istore_n 3, 1) := by decide +kernel
theorem dX9_ten_52 : decode cX9_ten 52 = .ok (.iload_n 3, 1) := by decide +kernel
theorem dX9_ten_53 : decode cX9_ten 53 = .ok (.aload_n 0, 1) := by decide +kernel
theorem dX9_ten_54 : decode cX9_ten 54 = .ok (.getfield 112, 3) := by decide +kernel
theorem dX9_ten_57 : decode cX9_ten 57 = .ok (.iload_n 1, 1) := by decide +kernel
theorem dX9_ten_58 : decode cX9_ten 58 = .ok (.iaload, 1) := by decide +kernel
theorem dX9_ten_59 : decode cX9_ten 59 = .ok (.if_icmp .ge 52, 3) := by decide +kernel
theorem dX9_ten_62 : decode cX9_ten 62 = .ok (.aload_n 0, 1) := by decide +kernel
theorem dX9_ten_63 : decode cX9_ten 63 = .ok (.getfield 124, 3) := by decide +kernel
theorem dX9_ten_66 : decode cX9_ten 66 = .ok (.iload_n 3, 1) := by decide +kernel
theorem dX9_ten_67 : decode cX9_ten 67 = .ok (.baload, 1) := by decide +kernel
theorem dX9_ten_68 : decode cX9_ten 68 = .ok (.ifCond .eq 37, 3) := by decide +kernel
theorem dX9_ten_71 : decode cX9_ten 71 = .ok (.iload_n 2, 1) := by decide +kernel
theorem dX9_ten_72 : decode cX9_ten 72 = .ok (.aload_n 0, 1) := by decide +kernel
theorem dX9_ten_73 : decode cX9_ten 73 = .ok (.iload_n 1, 1) := by decide +kernel
theorem dX9_ten_74 : decode cX9_ten 74 = .ok (.iload_n 3, 1) := by decide +kernel
theorem dX9_ten_75 : decode cX9_ten 75 = .ok (.iconst 0, 1) := by decide +kernel
theorem dX9_ten_76 : decode cX9_ten 76 = .ok (.invokevirtual 244, 3) := by decide +kernel
theorem dX9_ten_79 : decode cX9_ten 79 = .ok (.if_icmp .ge 26, 3) := by decide +kernel
theorem dX9_ten_82 : decode cX9_ten 82 = .ok (.iload_n 2, 1) := by decide +kernel
theorem dX9_ten_83 : decode cX9_ten 83 = .ok (.aload_n 0, 1) := by decide +kernel
theorem dX9_ten_84 : decode cX9_ten 84 = .ok (.iload_n 1, 1) := by decide +kernel
theorem dX9_ten_85 : decode cX9_ten 85 = .ok (.iload_n 3, 1) := by decide +kernel
theorem dX9_ten_86 : decode cX9_ten 86 = .ok (.iconst 1, 1) := by decide +kernel
theorem dX9_ten_87 : decode cX9_ten 87 = .ok (.isub, 1) := by decide +kernel
theorem dX9_ten_88 : decode cX9_ten 88 = .ok (.iconst 1, 1) := by decide +kernel
theorem dX9_ten_89 : decode cX9_ten 89 = .ok (.invokevirtual 244, 3) := by decide +kernel
theorem dX9_ten_92 : decode cX9_ten 92 = .ok (.if_icmp .le 13, 3) := by decide +kernel
theorem dX9_ten_95 : decode cX9_ten 95 = .ok (.bipush 100, 2) := by decide +kernel
theorem dX9_ten_97 : decode cX9_ten 97 = .ok (.aload_n 0, 1) := by decide +kernel
theorem dX9_ten_98 : decode cX9_ten 98 = .ok (.getfield 118, 3) := by decide +kernel
theorem dX9_ten_101 : decode cX9_ten 101 = .ok (.iload_n 3, 1) := by decide +kernel
theorem dX9_ten_102 : decode cX9_ten 102 = .ok (.iaload, 1) := by decide +kernel
theorem dX9_ten_103 : decode cX9_ten 103 = .ok (.iadd, 1) := by decide +kernel
theorem dX9_ten_104 : decode cX9_ten 104 = .ok (.ireturn, 1) := by decide +kernel
theorem dX9_ten_105 : decode cX9_ten 105 = .ok (.iinc 3 1, 3) := by decide +kernel
theorem dX9_ten_108 : decode cX9_ten 108 = .ok (.goto (-56), 3) := by decide +kernel
theorem dX9_ten_111 : decode cX9_ten 111 = .ok (.bipush (-2), 2) := by decide +kernel
theorem dX9_ten_113 : decode cX9_ten 113 = .ok (.ireturn, 1) := by decide +kernel
theorem dX9_known_0 : decode cX9_known 0 = .ok (.aload_n 0, 1) := by decide +kernel
theorem dX9_known_1 : decode cX9_known 1 = .ok (.iconst 0, 1) := by decide +kernel
theorem dX9_known_2 : decode cX9_known 2 = .ok (.putfield 131, 3) := by decide +kernel
theorem dX9_known_5 : decode cX9_known 5 = .ok (.iload_n 1, 1) := by decide +kernel
theorem dX9_known_6 : decode cX9_known 6 = .ok (.ifCond .lt 19, 3) := by decide +kernel
theorem dX9_known_9 : decode cX9_known 9 = .ok (.iload_n 1, 1) := by decide +kernel
theorem dX9_known_10 : decode cX9_known 10 = .ok (.iconst 4, 1) := by decide +kernel
theorem dX9_known_11 : decode cX9_known 11 = .ok (.if_icmp .gt 14, 3) := by decide +kernel
theorem dX9_known_14 : decode cX9_known 14 = .ok (.iload_n 2, 1) := by decide +kernel
theorem dX9_known_15 : decode cX9_known 15 = .ok (.iconst 1, 1) := by decide +kernel
theorem dX9_known_16 : decode cX9_known 16 = .ok (.if_icmp .lt 9, 3) := by decide +kernel
theorem dX9_known_19 : decode cX9_known 19 = .ok (.iload_n 2, 1) := by decide +kernel
theorem dX9_known_20 : decode cX9_known 20 = .ok (.ldc 243, 2) := by decide +kernel
theorem dX9_known_22 : decode cX9_known 22 = .ok (.if_icmp .le 5, 3) := by decide +kernel
theorem dX9_known_25 : decode cX9_known 25 = .ok (.iconst 0, 1) := by decide +kernel
theorem dX9_known_26 : decode cX9_known 26 = .ok (.ireturn, 1) := by decide +kernel
theorem dX9_known_27 : decode cX9_known 27 = .ok (.aload_n 0, 1) := by decide +kernel
theorem dX9_known_28 : decode cX9_known 28 = .ok (.getfield 128, 3) := by decide +kernel
theorem dX9_known_31 : decode cX9_known 31 = .ok (.iload_n 1, 1) := by decide +kernel
theorem dX9_known_32 : decode cX9_known 32 = .ok (.iload_n 2, 1) := by decide +kernel
theorem dX9_known_33 : decode cX9_known 33 = .ok (.iastore, 1) := by decide +kernel
theorem dX9_known_34 : decode cX9_known 34 = .ok (.iconst 1, 1) := by decide +kernel
theorem dX9_known_35 : decode cX9_known 35 = .ok (.ireturn, 1) := by decide +kernel
theorem dX9_isOf_0 : decode cX9_isOf 0 = .ok (.iload_n 2, 1) := by decide +kernel
theorem dX9_isOf_1 : decode cX9_isOf 1 = .ok (.iconst 2, 1) := by decide +kernel
theorem dX9_isOf_2 : decode cX9_isOf 2 = .ok (.if_icmp .ge 39, 3) := by decide +kernel
theorem dX9_isOf_5 : decode cX9_isOf 5 = .ok (.aload_n 0, 1) := by decide +kernel
theorem dX9_isOf_6 : decode cX9_isOf 6 = .ok (.getfield 103, 3) := by decide +kernel
theorem dX9_isOf_9 : decode cX9_isOf 9 = .ok (.iload_n 1, 1) := by decide +kernel
theorem dX9_isOf_10 : decode cX9_isOf 10 = .ok (.iaload, 1) := by decide +kernel
theorem dX9_isOf_11 : decode cX9_isOf 11 = .ok (.iconst 4, 1) := by decide +kernel
theorem dX9_isOf_12 : decode cX9_isOf 12 = .ok (.if_icmp .le 7, 3) := by decide +kernel
theorem dX9_isOf_15 : decode cX9_isOf 15 = .ok (.iconst 1, 1) := by decide +kernel
theorem dX9_isOf_16 : decode cX9_isOf 16 = .ok (.goto 4, 3) := by decide +kernel
theorem dX9_isOf_19 : decode cX9_isOf 19 = .ok (.iconst 0, 1) := by decide +kernel
theorem dX9_isOf_20 : decode cX9_isOf 20 = .ok (.iload_n 2, 1) := by decide +kernel
theorem dX9_isOf_21 : decode cX9_isOf 21 = .ok (.iconst 1, 1) := by decide +kernel
theorem dX9_isOf_22 : decode cX9_isOf 22 = .ok (.if_icmp .ne 7, 3) := by decide +kernel
theorem dX9_isOf_25 : decode cX9_isOf 25 = .ok (.iconst 1, 1) := by decide +kernel
theorem dX9_isOf_26 : decode cX9_isOf 26 = .ok (.goto 4, 3) := by decide +kernel
theorem dX9_isOf_29 : decode cX9_isOf 29 = .ok (.iconst 0, 1) := by decide +kernel
theorem dX9_isOf_30 : decode cX9_isOf 30 = .ok (.if_icmp .ne 7, 3) := by decide +kernel
theorem dX9_isOf_33 : decode cX9_isOf 33 = .ok (.iconst 1, 1) := by decide +kernel
theorem dX9_isOf_34 : decode cX9_isOf 34 = .ok (.goto 24, 3) := by decide +kernel
theorem dX9_isOf_37 : decode cX9_isOf 37 = .ok (.iconst 0, 1) := by decide +kernel
theorem dX9_isOf_38 : decode cX9_isOf 38 = .ok (.goto 20, 3) := by decide +kernel
theorem dX9_isOf_41 : decode cX9_isOf 41 = .ok (.aload_n 0, 1) := by decide +kernel
theorem dX9_isOf_42 : decode cX9_isOf 42 = .ok (.getfield 106, 3) := by decide +kernel
theorem dX9_isOf_45 : decode cX9_isOf 45 = .ok (.iload_n 1, 1) := by decide +kernel
theorem dX9_isOf_46 : decode cX9_isOf 46 = .ok (.iaload, 1) := by decide +kernel
theorem dX9_isOf_47 : decode cX9_isOf 47 = .ok (.iload_n 2, 1) := by decide +kernel
theorem dX9_isOf_48 : decode cX9_isOf 48 = .ok (.iconst 2, 1) := by decide +kernel
theorem dX9_isOf_49 : decode cX9_isOf 49 = .ok (.isub, 1) := by decide +kernel
theorem dX9_isOf_50 : decode cX9_isOf 50 = .ok (.if_icmp .ne 7, 3) := by decide +kernel
theorem dX9_isOf_53 : decode cX9_isOf 53 = .ok (.iconst 1, 1) := by decide +kernel
theorem dX9_isOf_54 : decode cX9_isOf 54 = .ok (.goto 4, 3) := by decide +kernel
theorem dX9_isOf_57 : decode cX9_isOf 57 = .ok (.iconst 0, 1) := by decide +kernel
theorem dX9_isOf_58 : decode cX9_isOf 58 = .ok (.ireturn, 1) := by decide +kernel
theorem dX9_sumOf_0 : decode cX9_sumOf 0 = .ok (.lconst 0, 1) := by decide +kernel
theorem dX9_sumOf_1 : decode cX9_sumOf 1 = .ok (.lstore_n 2, 1) := by decide +kernel
theorem dX9_sumOf_2 : decode cX9_sumOf 2 = .ok (.iconst 0, 1) := by decide +kernel
theorem dX9_sumOf_3 : decode cX9_sumOf 3 = .ok (.istore 4, 2) := by decide +kernel
theorem dX9_sumOf_5 : decode cX9_sumOf 5 = .ok (.iload 4, 2) := by decide +kernel
theorem dX9_sumOf_7 : decode cX9_sumOf 7 = .ok (.aload_n 0, 1) := by decide +kernel
theorem dX9_sumOf_8 : decode cX9_sumOf 8 = .ok (.getfield 236, 3) := by decide +kernel
theorem dX9_sumOf_11 : decode cX9_sumOf 11 = .ok (.if_icmp .ge 34, 3) := by decide +kernel
theorem dX9_sumOf_14 : decode cX9_sumOf 14 = .ok (.lload_n 2, 1) := by decide +kernel
theorem dX9_sumOf_15 : decode cX9_sumOf 15 = .ok (.aload_n 0, 1) := by decide +kernel
theorem dX9_sumOf_16 : decode cX9_sumOf 16 = .ok (.iload 4, 2) := by decide +kernel
theorem dX9_sumOf_18 : decode cX9_sumOf 18 = .ok (.iload_n 1, 1) := by decide +kernel
theorem dX9_sumOf_19 : decode cX9_sumOf 19 = .ok (.invokevirtual 266, 3) := by decide +kernel
theorem dX9_sumOf_22 : decode cX9_sumOf 22 = .ok (.ifCond .eq 14, 3) := by decide +kernel
theorem dX9_sumOf_25 : decode cX9_sumOf 25 = .ok (.aload_n 0, 1) := by decide +kernel
theorem dX9_sumOf_26 : decode cX9_sumOf 26 = .ok (.getfield 109, 3) := by decide +kernel
theorem dX9_sumOf_29 : decode cX9_sumOf 29 = .ok (.iload 4, 2) := by decide +kernel
theorem dX9_sumOf_31 : decode cX9_sumOf 31 = .ok (.iaload, 1) := by decide +kernel
theorem dX9_sumOf_32 : decode cX9_sumOf 32 = .ok (.i2l, 1) := by decide +kernel
theorem dX9_sumOf_33 : decode cX9_sumOf 33 = .ok (.goto 4, 3) := by decide +kernel
theorem dX9_sumOf_36 : decode cX9_sumOf 36 = .ok (.lconst 0, 1) := by decide +kernel
theorem dX9_sumOf_37 : decode cX9_sumOf 37 = .ok (.ladd, 1) := by decide +kernel
theorem dX9_sumOf_38 : decode cX9_sumOf 38 = .ok (.lstore_n 2, 1) := by decide +kernel
theorem dX9_sumOf_39 : decode cX9_sumOf 39 = .ok (.iinc 4 1, 3) := by decide +kernel
theorem dX9_sumOf_42 : decode cX9_sumOf 42 = .ok (.goto (-37), 3) := by decide +kernel
theorem dX9_sumOf_45 : decode cX9_sumOf 45 = .ok (.lload_n 2, 1) := by decide +kernel
theorem dX9_sumOf_46 : decode cX9_sumOf 46 = .ok (.lreturn, 1) := by decide +kernel
theorem dX9_round_0 : decode cX9_round 0 = .ok (.iconst 0, 1) := by decide +kernel
theorem dX9_round_1 : decode cX9_round 1 = .ok (.istore_n 1, 1) := by decide +kernel
theorem dX9_round_2 : decode cX9_round 2 = .ok (.iload_n 1, 1) := by decide +kernel
theorem dX9_round_3 : decode cX9_round 3 = .ok (.iconst 5, 1) := by decide +kernel
theorem dX9_round_4 : decode cX9_round 4 = .ok (.if_icmp .ge 79, 3) := by decide +kernel
theorem dX9_round_7 : decode cX9_round 7 = .ok (.aload_n 0, 1) := by decide +kernel
theorem dX9_round_8 : decode cX9_round 8 = .ok (.iload_n 1, 1) := by decide +kernel
theorem dX9_round_9 : decode cX9_round 9 = .ok (.invokevirtual 269, 3) := by decide +kernel
theorem dX9_round_12 : decode cX9_round 12 = .ok (.lstore_n 2, 1) := by decide +kernel
theorem dX9_round_13 : decode cX9_round 13 = .ok (.iconst 0, 1) := by decide +kernel
theorem dX9_round_14 : decode cX9_round 14 = .ok (.istore 4, 2) := by decide +kernel
theorem dX9_round_16 : decode cX9_round 16 = .ok (.iload 4, 2) := by decide +kernel
theorem dX9_round_18 : decode cX9_round 18 = .ok (.aload_n 0, 1) := by decide +kernel
theorem dX9_round_19 : decode cX9_round 19 = .ok (.getfield 236, 3) := by decide +kernel
theorem dX9_round_22 : decode cX9_round 22 = .ok (.if_icmp .ge 55, 3) := by decide +kernel
theorem dX9_round_25 : decode cX9_round 25 = .ok (.lload_n 2, 1) := by decide +kernel
theorem dX9_round_26 : decode cX9_round 26 = .ok (.lconst 0, 1) := by decide +kernel
theorem dX9_round_27 : decode cX9_round 27 = .ok (.lcmp, 1) := by decide +kernel
theorem dX9_round_28 : decode cX9_round 28 = .ok (.ifCond .le 49, 3) := by decide +kernel
theorem dX9_round_31 : decode cX9_round 31 = .ok (.aload_n 0, 1) := by decide +kernel
theorem dX9_round_32 : decode cX9_round 32 = .ok (.iload 4, 2) := by decide +kernel
theorem dX9_round_34 : decode cX9_round 34 = .ok (.iload_n 1, 1) := by decide +kernel
theorem dX9_round_35 : decode cX9_round 35 = .ok (.invokevirtual 266, 3) := by decide +kernel
theorem dX9_round_38 : decode cX9_round 38 = .ok (.ifCond .eq 33, 3) := by decide +kernel
theorem dX9_round_41 : decode cX9_round 41 = .ok (.aload_n 0, 1) := by decide +kernel
theorem dX9_round_42 : decode cX9_round 42 = .ok (.getfield 109, 3) := by decide +kernel
theorem dX9_round_45 : decode cX9_round 45 = .ok (.iload 4, 2) := by decide +kernel
theorem dX9_round_47 : decode cX9_round 47 = .ok (.aload_n 0, 1) := by decide +kernel
theorem dX9_round_48 : decode cX9_round 48 = .ok (.getfield 109, 3) := by decide +kernel
theorem dX9_round_51 : decode cX9_round 51 = .ok (.iload 4, 2) := by decide +kernel
theorem dX9_round_53 : decode cX9_round 53 = .ok (.iaload, 1) := by decide +kernel
theorem dX9_round_54 : decode cX9_round 54 = .ok (.i2l, 1) := by decide +kernel
theorem dX9_round_55 : decode cX9_round 55 = .ok (.aload_n 0, 1) := by decide +kernel
theorem dX9_round_56 : decode cX9_round 56 = .ok (.getfield 128, 3) := by decide +kernel
theorem dX9_round_59 : decode cX9_round 59 = .ok (.iload_n 1, 1) := by decide +kernel
theorem dX9_round_60 : decode cX9_round 60 = .ok (.iaload, 1) := by decide +kernel
theorem dX9_round_61 : decode cX9_round 61 = .ok (.i2l, 1) := by decide +kernel
theorem dX9_round_62 : decode cX9_round 62 = .ok (.lmul, 1) := by decide +kernel
theorem dX9_round_63 : decode cX9_round 63 = .ok (.ldc2_w 273, 3) := by decide +kernel
theorem dX9_round_66 : decode cX9_round 66 = .ok (.lmul, 1) := by decide +kernel
theorem dX9_round_67 : decode cX9_round 67 = .ok (.lload_n 2, 1) := by decide +kernel
theorem dX9_round_68 : decode cX9_round 68 = .ok (.ldiv, 1) := by decide +kernel
theorem dX9_round_69 : decode cX9_round 69 = .ok (.l2i, 1) := by decide +kernel
theorem dX9_round_70 : decode cX9_round 70 = .ok (.iastore, 1) := by decide +kernel
theorem dX9_round_71 : decode cX9_round 71 = .ok (.iinc 4 1, 3) := by decide +kernel
theorem dX9_round_74 : decode cX9_round 74 = .ok (.goto (-58), 3) := by decide +kernel
theorem dX9_round_77 : decode cX9_round 77 = .ok (.iinc 1 1, 3) := by decide +kernel
theorem dX9_round_80 : decode cX9_round 80 = .ok (.goto (-78), 3) := by decide +kernel
theorem dX9_round_83 : decode cX9_round 83 = .ok (.return_, 1) := by decide +kernel
theorem dX9_rounds_0 : decode cX9_rounds 0 = .ok (.aload_n 0, 1) := by decide +kernel
theorem dX9_rounds_1 : decode cX9_rounds 1 = .ok (.iconst 0, 1) := by decide +kernel
theorem dX9_rounds_2 : decode cX9_rounds 2 = .ok (.putfield 131, 3) := by decide +kernel
theorem dX9_rounds_5 : decode cX9_rounds 5 = .ok (.iload_n 1, 1) := by decide +kernel
theorem dX9_rounds_6 : decode cX9_rounds 6 = .ok (.ifCond .lt 9, 3) := by decide +kernel
theorem dX9_rounds_9 : decode cX9_rounds 9 = .ok (.iload_n 1, 1) := by decide +kernel
theorem dX9_rounds_10 : decode cX9_rounds 10 = .ok (.bipush 20, 2) := by decide +kernel
theorem dX9_rounds_12 : decode cX9_rounds 12 = .ok (.if_icmp .le 5, 3) := by decide +kernel
theorem dX9_rounds_15 : decode cX9_rounds 15 = .ok (.iconst (-1), 1) := by decide +kernel
theorem dX9_rounds_16 : decode cX9_rounds 16 = .ok (.ireturn, 1) := by decide +kernel
theorem dX9_rounds_17 : decode cX9_rounds 17 = .ok (.iconst 0, 1) := by decide +kernel
theorem dX9_rounds_18 : decode cX9_rounds 18 = .ok (.istore_n 2, 1) := by decide +kernel
theorem dX9_rounds_19 : decode cX9_rounds 19 = .ok (.iload_n 2, 1) := by decide +kernel
theorem dX9_rounds_20 : decode cX9_rounds 20 = .ok (.iload_n 1, 1) := by decide +kernel
theorem dX9_rounds_21 : decode cX9_rounds 21 = .ok (.if_icmp .ge 13, 3) := by decide +kernel
theorem dX9_rounds_24 : decode cX9_rounds 24 = .ok (.aload_n 0, 1) := by decide +kernel
theorem dX9_rounds_25 : decode cX9_rounds 25 = .ok (.invokevirtual 275, 3) := by decide +kernel
theorem dX9_rounds_28 : decode cX9_rounds 28 = .ok (.iinc 2 1, 3) := by decide +kernel
theorem dX9_rounds_31 : decode cX9_rounds 31 = .ok (.goto (-12), 3) := by decide +kernel
theorem dX9_rounds_34 : decode cX9_rounds 34 = .ok (.iconst 0, 1) := by decide +kernel
theorem dX9_rounds_35 : decode cX9_rounds 35 = .ok (.istore_n 2, 1) := by decide +kernel
theorem dX9_rounds_36 : decode cX9_rounds 36 = .ok (.iconst 0, 1) := by decide +kernel
theorem dX9_rounds_37 : decode cX9_rounds 37 = .ok (.istore_n 3, 1) := by decide +kernel
theorem dX9_rounds_38 : decode cX9_rounds 38 = .ok (.iload_n 3, 1) := by decide +kernel
theorem dX9_rounds_39 : decode cX9_rounds 39 = .ok (.iconst 5, 1) := by decide +kernel
theorem dX9_rounds_40 : decode cX9_rounds 40 = .ok (.if_icmp .ge 104, 3) := by decide +kernel
theorem dX9_rounds_43 : decode cX9_rounds 43 = .ok (.iconst 0, 1) := by decide +kernel
theorem dX9_rounds_44 : decode cX9_rounds 44 = .ok (.istore 4, 2) := by decide +kernel
theorem dX9_rounds_46 : decode cX9_rounds 46 = .ok (.iconst 0, 1) := by decide +kernel
theorem dX9_rounds_47 : decode cX9_rounds 47 = .ok (.istore 5, 2) := by decide +kernel
theorem dX9_rounds_49 : decode cX9_rounds 49 = .ok (.iload 5, 2) := by decide +kernel
theorem dX9_rounds_51 : decode cX9_rounds 51 = .ok (.aload_n 0, 1) := by decide +kernel
theorem dX9_rounds_52 : decode cX9_rounds 52 = .ok (.getfield 236, 3) := by decide +kernel
theorem dX9_rounds_55 : decode cX9_rounds 55 = .ok (.if_icmp .ge 31, 3) := by decide +kernel
theorem dX9_rounds_58 : decode cX9_rounds 58 = .ok (.iload 4, 2) := by decide +kernel
theorem dX9_rounds_60 : decode cX9_rounds 60 = .ok (.ifCond .ne 13, 3) := by decide +kernel
theorem dX9_rounds_63 : decode cX9_rounds 63 = .ok (.aload_n 0, 1) := by decide +kernel
theorem dX9_rounds_64 : decode cX9_rounds 64 = .ok (.iload 5, 2) := by decide +kernel
theorem dX9_rounds_66 : decode cX9_rounds 66 = .ok (.iload_n 3, 1) := by decide +kernel
theorem dX9_rounds_67 : decode cX9_rounds 67 = .ok (.invokevirtual 266, 3) := by decide +kernel
theorem dX9_rounds_70 : decode cX9_rounds 70 = .ok (.ifCond .eq 7, 3) := by decide +kernel
theorem dX9_rounds_73 : decode cX9_rounds 73 = .ok (.iconst 1, 1) := by decide +kernel
theorem dX9_rounds_74 : decode cX9_rounds 74 = .ok (.goto 4, 3) := by decide +kernel
theorem dX9_rounds_77 : decode cX9_rounds 77 = .ok (.iconst 0, 1) := by decide +kernel
theorem dX9_rounds_78 : decode cX9_rounds 78 = .ok (.istore 4, 2) := by decide +kernel
theorem dX9_rounds_80 : decode cX9_rounds 80 = .ok (.iinc 5 1, 3) := by decide +kernel
theorem dX9_rounds_83 : decode cX9_rounds 83 = .ok (.goto (-34), 3) := by decide +kernel
theorem dX9_rounds_86 : decode cX9_rounds 86 = .ok (.aload_n 0, 1) := by decide +kernel
theorem dX9_rounds_87 : decode cX9_rounds 87 = .ok (.iload_n 3, 1) := by decide +kernel
theorem dX9_rounds_88 : decode cX9_rounds 88 = .ok (.invokevirtual 269, 3) := by decide +kernel
theorem dX9_rounds_91 : decode cX9_rounds 91 = .ok (.ldc2_w 273, 3) := by decide +kernel
theorem dX9_rounds_94 : decode cX9_rounds 94 = .ok (.ldiv, 1) := by decide +kernel
theorem dX9_rounds_95 : decode cX9_rounds 95 = .ok (.l2i, 1) := by decide +kernel
theorem dX9_rounds_96 : decode cX9_rounds 96 = .ok (.aload_n 0, 1) := by decide +kernel
theorem dX9_rounds_97 : decode cX9_rounds 97 = .ok (.getfield 128, 3) := by decide +kernel
theorem dX9_rounds_100 : decode cX9_rounds 100 = .ok (.iload_n 3, 1) := by decide +kernel
theorem dX9_rounds_101 : decode cX9_rounds 101 = .ok (.iaload, 1) := by decide +kernel
theorem dX9_rounds_102 : decode cX9_rounds 102 = .ok (.isub, 1) := by decide +kernel
theorem dX9_rounds_103 : decode cX9_rounds 103 = .ok (.istore 5, 2) := by decide +kernel
theorem dX9_rounds_105 : decode cX9_rounds 105 = .ok (.iload 5, 2) := by decide +kernel
theorem dX9_rounds_107 : decode cX9_rounds 107 = .ok (.ifCond .ge 9, 3) := by decide +kernel
theorem dX9_rounds_110 : decode cX9_rounds 110 = .ok (.iload 5, 2) := by decide +kernel
theorem dX9_rounds_112 : decode cX9_rounds 112 = .ok (.ineg, 1) := by decide +kernel
theorem dX9_rounds_113 : decode cX9_rounds 113 = .ok (.goto 5, 3) := by decide +kernel
theorem dX9_rounds_116 : decode cX9_rounds 116 = .ok (.iload 5, 2) := by decide +kernel
theorem dX9_rounds_118 : decode cX9_rounds 118 = .ok (.istore 5, 2) := by decide +kernel
theorem dX9_rounds_120 : decode cX9_rounds 120 = .ok (.iload 4, 2) := by decide +kernel
theorem dX9_rounds_122 : decode cX9_rounds 122 = .ok (.ifCond .eq 14, 3) := by decide +kernel
theorem dX9_rounds_125 : decode cX9_rounds 125 = .ok (.iload 5, 2) := by decide +kernel
theorem dX9_rounds_127 : decode cX9_rounds 127 = .ok (.iload_n 2, 1) := by decide +kernel
theorem dX9_rounds_128 : decode cX9_rounds 128 = .ok (.if_icmp .le 8, 3) := by decide +kernel
theorem dX9_rounds_131 : decode cX9_rounds 131 = .ok (.iload 5, 2) := by decide +kernel
theorem dX9_rounds_133 : decode cX9_rounds 133 = .ok (.goto 4, 3) := by decide +kernel
theorem dX9_rounds_136 : decode cX9_rounds 136 = .ok (.iload_n 2, 1) := by decide +kernel
theorem dX9_rounds_137 : decode cX9_rounds 137 = .ok (.istore_n 2, 1) := by decide +kernel
theorem dX9_rounds_138 : decode cX9_rounds 138 = .ok (.iinc 3 1, 3) := by decide +kernel
theorem dX9_rounds_141 : decode cX9_rounds 141 = .ok (.goto (-103), 3) := by decide +kernel
theorem dX9_rounds_144 : decode cX9_rounds 144 = .ok (.iload_n 2, 1) := by decide +kernel
theorem dX9_rounds_145 : decode cX9_rounds 145 = .ok (.ireturn, 1) := by decide +kernel
theorem dX9_weight_0 : decode cX9_weight 0 = .ok (.aload_n 0, 1) := by decide +kernel
theorem dX9_weight_1 : decode cX9_weight 1 = .ok (.iconst 0, 1) := by decide +kernel
theorem dX9_weight_2 : decode cX9_weight 2 = .ok (.putfield 131, 3) := by decide +kernel
theorem dX9_weight_5 : decode cX9_weight 5 = .ok (.aload_n 0, 1) := by decide +kernel
theorem dX9_weight_6 : decode cX9_weight 6 = .ok (.iload_n 1, 1) := by decide +kernel
theorem dX9_weight_7 : decode cX9_weight 7 = .ok (.invokevirtual 247, 3) := by decide +kernel
theorem dX9_weight_10 : decode cX9_weight 10 = .ok (.ifCond .eq 12, 3) := by decide +kernel
theorem dX9_weight_13 : decode cX9_weight 13 = .ok (.aload_n 0, 1) := by decide +kernel
theorem dX9_weight_14 : decode cX9_weight 14 = .ok (.getfield 109, 3) := by decide +kernel
theorem dX9_weight_17 : decode cX9_weight 17 = .ok (.iload_n 1, 1) := by decide +kernel
theorem dX9_weight_18 : decode cX9_weight 18 = .ok (.iaload, 1) := by decide +kernel
theorem dX9_weight_19 : decode cX9_weight 19 = .ok (.goto 4, 3) := by decide +kernel
theorem dX9_weight_22 : decode cX9_weight 22 = .ok (.iconst (-1), 1) := by decide +kernel
theorem dX9_weight_23 : decode cX9_weight 23 = .ok (.ireturn, 1) := by decide +kernel
theorem dX9_isIn_0 : decode cX9_isIn 0 = .ok (.iload_n 3, 1) := by decide +kernel
theorem dX9_isIn_1 : decode cX9_isIn 1 = .ok (.ifCond .ne 21, 3) := by decide +kernel
theorem dX9_isIn_4 : decode cX9_isIn 4 = .ok (.aload_n 0, 1) := by decide +kernel
theorem dX9_isIn_5 : decode cX9_isIn 5 = .ok (.getfield 118, 3) := by decide +kernel
theorem dX9_isIn_8 : decode cX9_isIn 8 = .ok (.iload_n 1, 1) := by decide +kernel
theorem dX9_isIn_9 : decode cX9_isIn 9 = .ok (.iaload, 1) := by decide +kernel
theorem dX9_isIn_10 : decode cX9_isIn 10 = .ok (.iload_n 2, 1) := by decide +kernel
theorem dX9_isIn_11 : decode cX9_isIn 11 = .ok (.if_icmp .ne 7, 3) := by decide +kernel
theorem dX9_isIn_14 : decode cX9_isIn 14 = .ok (.iconst 1, 1) := by decide +kernel
theorem dX9_isIn_15 : decode cX9_isIn 15 = .ok (.goto 55, 3) := by decide +kernel
theorem dX9_isIn_18 : decode cX9_isIn 18 = .ok (.iconst 0, 1) := by decide +kernel
theorem dX9_isIn_19 : decode cX9_isIn 19 = .ok (.goto 51, 3) := by decide +kernel
theorem dX9_isIn_22 : decode cX9_isIn 22 = .ok (.iload_n 3, 1) := by decide +kernel
theorem dX9_isIn_23 : decode cX9_isIn 23 = .ok (.iconst 1, 1) := by decide +kernel
theorem dX9_isIn_24 : decode cX9_isIn 24 = .ok (.if_icmp .ne 21, 3) := by decide +kernel
theorem dX9_isIn_27 : decode cX9_isIn 27 = .ok (.aload_n 0, 1) := by decide +kernel
theorem dX9_isIn_28 : decode cX9_isIn 28 = .ok (.getfield 121, 3) := by decide +kernel
theorem dX9_isIn_31 : decode cX9_isIn 31 = .ok (.iload_n 1, 1) := by decide +kernel
theorem dX9_isIn_32 : decode cX9_isIn 32 = .ok (.iaload, 1) := by decide +kernel
theorem dX9_isIn_33 : decode cX9_isIn 33 = .ok (.iload_n 2, 1) := by decide +kernel
theorem dX9_isIn_34 : decode cX9_isIn 34 = .ok (.if_icmp .ne 7, 3) := by decide +kernel
theorem dX9_isIn_37 : decode cX9_isIn 37 = .ok (.iconst 1, 1) := by decide +kernel
theorem dX9_isIn_38 : decode cX9_isIn 38 = .ok (.goto 32, 3) := by decide +kernel
theorem dX9_isIn_41 : decode cX9_isIn 41 = .ok (.iconst 0, 1) := by decide +kernel
theorem dX9_isIn_42 : decode cX9_isIn 42 = .ok (.goto 28, 3) := by decide +kernel
theorem dX9_isIn_45 : decode cX9_isIn 45 = .ok (.aload_n 0, 1) := by decide +kernel
theorem dX9_isIn_46 : decode cX9_isIn 46 = .ok (.getfield 118, 3) := by decide +kernel
theorem dX9_isIn_49 : decode cX9_isIn 49 = .ok (.iload_n 1, 1) := by decide +kernel
theorem dX9_isIn_50 : decode cX9_isIn 50 = .ok (.iaload, 1) := by decide +kernel
theorem dX9_isIn_51 : decode cX9_isIn 51 = .ok (.iload_n 2, 1) := by decide +kernel
theorem dX9_isIn_52 : decode cX9_isIn 52 = .ok (.if_icmp .eq 13, 3) := by decide +kernel
theorem dX9_isIn_55 : decode cX9_isIn 55 = .ok (.aload_n 0, 1) := by decide +kernel
theorem dX9_isIn_56 : decode cX9_isIn 56 = .ok (.getfield 121, 3) := by decide +kernel
theorem dX9_isIn_59 : decode cX9_isIn 59 = .ok (.iload_n 1, 1) := by decide +kernel
theorem dX9_isIn_60 : decode cX9_isIn 60 = .ok (.iaload, 1) := by decide +kernel
theorem dX9_isIn_61 : decode cX9_isIn 61 = .ok (.iload_n 2, 1) := by decide +kernel
theorem dX9_isIn_62 : decode cX9_isIn 62 = .ok (.if_icmp .ne 7, 3) := by decide +kernel
theorem dX9_isIn_65 : decode cX9_isIn 65 = .ok (.iconst 1, 1) := by decide +kernel
theorem dX9_isIn_66 : decode cX9_isIn 66 = .ok (.goto 4, 3) := by decide +kernel
theorem dX9_isIn_69 : decode cX9_isIn 69 = .ok (.iconst 0, 1) := by decide +kernel
theorem dX9_isIn_70 : decode cX9_isIn 70 = .ok (.ireturn, 1) := by decide +kernel
theorem dX9_cell_0 : decode cX9_cell 0 = .ok (.aload_n 0, 1) := by decide +kernel
theorem dX9_cell_1 : decode cX9_cell 1 = .ok (.iconst 0, 1) := by decide +kernel
theorem dX9_cell_2 : decode cX9_cell 2 = .ok (.putfield 131, 3) := by decide +kernel
theorem dX9_cell_5 : decode cX9_cell 5 = .ok (.iload_n 1, 1) := by decide +kernel
theorem dX9_cell_6 : decode cX9_cell 6 = .ok (.ifCond .lt 18, 3) := by decide +kernel
theorem dX9_cell_9 : decode cX9_cell 9 = .ok (.iload_n 1, 1) := by decide +kernel
theorem dX9_cell_10 : decode cX9_cell 10 = .ok (.bipush 49, 2) := by decide +kernel
theorem dX9_cell_12 : decode cX9_cell 12 = .ok (.if_icmp .gt 12, 3) := by decide +kernel
theorem dX9_cell_15 : decode cX9_cell 15 = .ok (.iload_n 2, 1) := by decide +kernel
theorem dX9_cell_16 : decode cX9_cell 16 = .ok (.ifCond .lt 8, 3) := by decide +kernel
theorem dX9_cell_19 : decode cX9_cell 19 = .ok (.iload_n 2, 1) := by decide +kernel
theorem dX9_cell_20 : decode cX9_cell 20 = .ok (.iconst 3, 1) := by decide +kernel
theorem dX9_cell_21 : decode cX9_cell 21 = .ok (.if_icmp .le 5, 3) := by decide +kernel
theorem dX9_cell_24 : decode cX9_cell 24 = .ok (.iconst (-1), 1) := by decide +kernel
theorem dX9_cell_25 : decode cX9_cell 25 = .ok (.ireturn, 1) := by decide +kernel
theorem dX9_cell_26 : decode cX9_cell 26 = .ok (.lconst 0, 1) := by decide +kernel
theorem dX9_cell_27 : decode cX9_cell 27 = .ok (.lstore 4, 2) := by decide +kernel
theorem dX9_cell_29 : decode cX9_cell 29 = .ok (.iconst 0, 1) := by decide +kernel
theorem dX9_cell_30 : decode cX9_cell 30 = .ok (.istore 6, 2) := by decide +kernel
theorem dX9_cell_32 : decode cX9_cell 32 = .ok (.iload 6, 2) := by decide +kernel
theorem dX9_cell_34 : decode cX9_cell 34 = .ok (.aload_n 0, 1) := by decide +kernel
theorem dX9_cell_35 : decode cX9_cell 35 = .ok (.getfield 236, 3) := by decide +kernel
theorem dX9_cell_38 : decode cX9_cell 38 = .ok (.if_icmp .ge 153, 3) := by decide +kernel
theorem dX9_cell_41 : decode cX9_cell 41 = .ok (.aload_n 0, 1) := by decide +kernel
theorem dX9_cell_42 : decode cX9_cell 42 = .ok (.iload 6, 2) := by decide +kernel
theorem dX9_cell_44 : decode cX9_cell 44 = .ok (.invokevirtual 263, 3) := by decide +kernel
theorem dX9_cell_47 : decode cX9_cell 47 = .ok (.iconst 0, 1) := by decide +kernel
theorem dX9_cell_48 : decode cX9_cell 48 = .ok (.istore 7, 2) := by decide +kernel
theorem dX9_cell_50 : decode cX9_cell 50 = .ok (.iconst 0, 1) := by decide +kernel
theorem dX9_cell_51 : decode cX9_cell 51 = .ok (.istore 8, 2) := by decide +kernel
theorem dX9_cell_53 : decode cX9_cell 53 = .ok (.iload 8, 2) := by decide +kernel
theorem dX9_cell_55 : decode cX9_cell 55 = .ok (.aload_n 0, 1) := by decide +kernel
theorem dX9_cell_56 : decode cX9_cell 56 = .ok (.getfield 112, 3) := by decide +kernel
theorem dX9_cell_59 : decode cX9_cell 59 = .ok (.iload 6, 2) := by decide +kernel
theorem dX9_cell_61 : decode cX9_cell 61 = .ok (.iaload, 1) := by decide +kernel
theorem dX9_cell_62 : decode cX9_cell 62 = .ok (.if_icmp .ge 96, 3) := by decide +kernel
theorem dX9_cell_65 : decode cX9_cell 65 = .ok (.iload_n 2, 1) := by decide +kernel
theorem dX9_cell_66 : decode cX9_cell 66 = .ok (.iconst 3, 1) := by decide +kernel
theorem dX9_cell_67 : decode cX9_cell 67 = .ok (.if_icmp .ne 44, 3) := by decide +kernel
theorem dX9_cell_70 : decode cX9_cell 70 = .ok (.iload 7, 2) := by decide +kernel
theorem dX9_cell_72 : decode cX9_cell 72 = .ok (.aload_n 0, 1) := by decide +kernel
theorem dX9_cell_73 : decode cX9_cell 73 = .ok (.getfield 124, 3) := by decide +kernel
theorem dX9_cell_76 : decode cX9_cell 76 = .ok (.iload 8, 2) := by decide +kernel
theorem dX9_cell_78 : decode cX9_cell 78 = .ok (.baload, 1) := by decide +kernel
theorem dX9_cell_79 : decode cX9_cell 79 = .ok (.ifCond .eq 25, 3) := by decide +kernel
theorem dX9_cell_82 : decode cX9_cell 82 = .ok (.aload_n 0, 1) := by decide +kernel
theorem dX9_cell_83 : decode cX9_cell 83 = .ok (.getfield 118, 3) := by decide +kernel
theorem dX9_cell_86 : decode cX9_cell 86 = .ok (.iload 8, 2) := by decide +kernel
theorem dX9_cell_88 : decode cX9_cell 88 = .ok (.iaload, 1) := by decide +kernel
theorem dX9_cell_89 : decode cX9_cell 89 = .ok (.iload_n 1, 1) := by decide +kernel
theorem dX9_cell_90 : decode cX9_cell 90 = .ok (.if_icmp .ne 14, 3) := by decide +kernel
theorem dX9_cell_93 : decode cX9_cell 93 = .ok (.aload_n 0, 1) := by decide +kernel
theorem dX9_cell_94 : decode cX9_cell 94 = .ok (.iload 6, 2) := by decide +kernel
theorem dX9_cell_96 : decode cX9_cell 96 = .ok (.iload 8, 2) := by decide +kernel
theorem dX9_cell_98 : decode cX9_cell 98 = .ok (.invokevirtual 260, 3) := by decide +kernel
theorem dX9_cell_101 : decode cX9_cell 101 = .ok (.goto 4, 3) := by decide +kernel
theorem dX9_cell_104 : decode cX9_cell 104 = .ok (.iconst 0, 1) := by decide +kernel
theorem dX9_cell_105 : decode cX9_cell 105 = .ok (.iadd, 1) := by decide +kernel
theorem dX9_cell_106 : decode cX9_cell 106 = .ok (.istore 7, 2) := by decide +kernel
theorem dX9_cell_108 : decode cX9_cell 108 = .ok (.goto 44, 3) := by decide +kernel
theorem dX9_cell_111 : decode cX9_cell 111 = .ok (.iload 7, 2) := by decide +kernel
theorem dX9_cell_113 : decode cX9_cell 113 = .ok (.aload_n 0, 1) := by decide +kernel
theorem dX9_cell_114 : decode cX9_cell 114 = .ok (.iload 8, 2) := by decide +kernel
theorem dX9_cell_116 : decode cX9_cell 116 = .ok (.iload_n 1, 1) := by decide +kernel
theorem dX9_cell_117 : decode cX9_cell 117 = .ok (.iload_n 2, 1) := by decide +kernel
theorem dX9_cell_118 : decode cX9_cell 118 = .ok (.invokevirtual 278, 3) := by decide +kernel
theorem dX9_cell_121 : decode cX9_cell 121 = .ok (.ifCond .eq 27, 3) := by decide +kernel
theorem dX9_cell_124 : decode cX9_cell 124 = .ok (.aload_n 0, 1) := by decide +kernel
theorem dX9_cell_125 : decode cX9_cell 125 = .ok (.iload 6, 2) := by decide +kernel
theorem dX9_cell_127 : decode cX9_cell 127 = .ok (.iload 8, 2) := by decide +kernel
theorem dX9_cell_129 : decode cX9_cell 129 = .ok (.iconst 1, 1) := by decide +kernel
theorem dX9_cell_130 : decode cX9_cell 130 = .ok (.invokevirtual 244, 3) := by decide +kernel
theorem dX9_cell_133 : decode cX9_cell 133 = .ok (.aload_n 0, 1) := by decide +kernel
theorem dX9_cell_134 : decode cX9_cell 134 = .ok (.iload 6, 2) := by decide +kernel
theorem dX9_cell_136 : decode cX9_cell 136 = .ok (.iload 8, 2) := by decide +kernel
theorem dX9_cell_138 : decode cX9_cell 138 = .ok (.iconst 0, 1) := by decide +kernel
theorem dX9_cell_139 : decode cX9_cell 139 = .ok (.invokevirtual 244, 3) := by decide +kernel
theorem dX9_cell_142 : decode cX9_cell 142 = .ok (.isub, 1) := by decide +kernel
theorem dX9_cell_143 : decode cX9_cell 143 = .ok (.iconst 1, 1) := by decide +kernel
theorem dX9_cell_144 : decode cX9_cell 144 = .ok (.iadd, 1) := by decide +kernel
theorem dX9_cell_145 : decode cX9_cell 145 = .ok (.goto 4, 3) := by decide +kernel
theorem dX9_cell_148 : decode cX9_cell 148 = .ok (.iconst 0, 1) := by decide +kernel
theorem dX9_cell_149 : decode cX9_cell 149 = .ok (.iadd, 1) := by decide +kernel
theorem dX9_cell_150 : decode cX9_cell 150 = .ok (.istore 7, 2) := by decide +kernel
theorem dX9_cell_152 : decode cX9_cell 152 = .ok (.iinc 8 1, 3) := by decide +kernel
theorem dX9_cell_155 : decode cX9_cell 155 = .ok (.goto (-102), 3) := by decide +kernel
theorem dX9_cell_158 : decode cX9_cell 158 = .ok (.lload 4, 2) := by decide +kernel
theorem dX9_cell_160 : decode cX9_cell 160 = .ok (.iload_n 3, 1) := by decide +kernel
theorem dX9_cell_161 : decode cX9_cell 161 = .ok (.ifCond .eq 18, 3) := by decide +kernel
theorem dX9_cell_164 : decode cX9_cell 164 = .ok (.iload 7, 2) := by decide +kernel
theorem dX9_cell_166 : decode cX9_cell 166 = .ok (.i2l, 1) := by decide +kernel
theorem dX9_cell_167 : decode cX9_cell 167 = .ok (.aload_n 0, 1) := by decide +kernel
theorem dX9_cell_168 : decode cX9_cell 168 = .ok (.getfield 109, 3) := by decide +kernel
theorem dX9_cell_171 : decode cX9_cell 171 = .ok (.iload 6, 2) := by decide +kernel
theorem dX9_cell_173 : decode cX9_cell 173 = .ok (.iaload, 1) := by decide +kernel
theorem dX9_cell_174 : decode cX9_cell 174 = .ok (.i2l, 1) := by decide +kernel
theorem dX9_cell_175 : decode cX9_cell 175 = .ok (.lmul, 1) := by decide +kernel
theorem dX9_cell_176 : decode cX9_cell 176 = .ok (.goto 6, 3) := by decide +kernel
theorem dX9_cell_179 : decode cX9_cell 179 = .ok (.iload 7, 2) := by decide +kernel
theorem dX9_cell_181 : decode cX9_cell 181 = .ok (.i2l, 1) := by decide +kernel
theorem dX9_cell_182 : decode cX9_cell 182 = .ok (.ladd, 1) := by decide +kernel
theorem dX9_cell_183 : decode cX9_cell 183 = .ok (.lstore 4, 2) := by decide +kernel
theorem dX9_cell_185 : decode cX9_cell 185 = .ok (.iinc 6 1, 3) := by decide +kernel
theorem dX9_cell_188 : decode cX9_cell 188 = .ok (.goto (-156), 3) := by decide +kernel
theorem dX9_cell_191 : decode cX9_cell 191 = .ok (.iload_n 3, 1) := by decide +kernel
theorem dX9_cell_192 : decode cX9_cell 192 = .ok (.ifCond .eq 12, 3) := by decide +kernel
theorem dX9_cell_195 : decode cX9_cell 195 = .ok (.lload 4, 2) := by decide +kernel
theorem dX9_cell_197 : decode cX9_cell 197 = .ok (.ldc2_w 273, 3) := by decide +kernel
theorem dX9_cell_200 : decode cX9_cell 200 = .ok (.ldiv, 1) := by decide +kernel
theorem dX9_cell_201 : decode cX9_cell 201 = .ok (.goto 5, 3) := by decide +kernel
theorem dX9_cell_204 : decode cX9_cell 204 = .ok (.lload 4, 2) := by decide +kernel
theorem dX9_cell_206 : decode cX9_cell 206 = .ok (.l2i, 1) := by decide +kernel
theorem dX9_cell_207 : decode cX9_cell 207 = .ok (.ireturn, 1) := by decide +kernel
theorem dX9_lead_0 : decode cX9_lead 0 = .ok (.aload_n 0, 1) := by decide +kernel
theorem dX9_lead_1 : decode cX9_lead 1 = .ok (.iconst 0, 1) := by decide +kernel
theorem dX9_lead_2 : decode cX9_lead 2 = .ok (.putfield 131, 3) := by decide +kernel
theorem dX9_lead_5 : decode cX9_lead 5 = .ok (.iload_n 1, 1) := by decide +kernel
theorem dX9_lead_6 : decode cX9_lead 6 = .ok (.ifCond .lt 22, 3) := by decide +kernel
theorem dX9_lead_9 : decode cX9_lead 9 = .ok (.iload_n 1, 1) := by decide +kernel
theorem dX9_lead_10 : decode cX9_lead 10 = .ok (.bipush 49, 2) := by decide +kernel
theorem dX9_lead_12 : decode cX9_lead 12 = .ok (.if_icmp .gt 16, 3) := by decide +kernel
theorem dX9_lead_15 : decode cX9_lead 15 = .ok (.iload_n 2, 1) := by decide +kernel
theorem dX9_lead_16 : decode cX9_lead 16 = .ok (.ifCond .lt 12, 3) := by decide +kernel
theorem dX9_lead_19 : decode cX9_lead 19 = .ok (.iload_n 2, 1) := by decide +kernel
theorem dX9_lead_20 : decode cX9_lead 20 = .ok (.iconst 2, 1) := by decide +kernel
theorem dX9_lead_21 : decode cX9_lead 21 = .ok (.if_icmp .gt 7, 3) := by decide +kernel
theorem dX9_lead_24 : decode cX9_lead 24 = .ok (.iload_n 3, 1) := by decide +kernel
theorem dX9_lead_25 : decode cX9_lead 25 = .ok (.ifCond .ge 5, 3) := by decide +kernel
theorem dX9_lead_28 : decode cX9_lead 28 = .ok (.iconst (-1), 1) := by decide +kernel
theorem dX9_lead_29 : decode cX9_lead 29 = .ok (.ireturn, 1) := by decide +kernel
theorem dX9_lead_30 : decode cX9_lead 30 = .ok (.iload_n 3, 1) := by decide +kernel
theorem dX9_lead_31 : decode cX9_lead 31 = .ok (.istore 4, 2) := by decide +kernel
theorem dX9_lead_33 : decode cX9_lead 33 = .ok (.iconst 0, 1) := by decide +kernel
theorem dX9_lead_34 : decode cX9_lead 34 = .ok (.istore 5, 2) := by decide +kernel
theorem dX9_lead_36 : decode cX9_lead 36 = .ok (.iload 5, 2) := by decide +kernel
theorem dX9_lead_38 : decode cX9_lead 38 = .ok (.aload_n 0, 1) := by decide +kernel
theorem dX9_lead_39 : decode cX9_lead 39 = .ok (.getfield 236, 3) := by decide +kernel
theorem dX9_lead_42 : decode cX9_lead 42 = .ok (.if_icmp .ge 64, 3) := by decide +kernel
theorem dX9_lead_45 : decode cX9_lead 45 = .ok (.aload_n 0, 1) := by decide +kernel
theorem dX9_lead_46 : decode cX9_lead 46 = .ok (.iload 5, 2) := by decide +kernel
theorem dX9_lead_48 : decode cX9_lead 48 = .ok (.invokevirtual 263, 3) := by decide +kernel
theorem dX9_lead_51 : decode cX9_lead 51 = .ok (.iconst 0, 1) := by decide +kernel
theorem dX9_lead_52 : decode cX9_lead 52 = .ok (.istore 6, 2) := by decide +kernel
theorem dX9_lead_54 : decode cX9_lead 54 = .ok (.iload 6, 2) := by decide +kernel
theorem dX9_lead_56 : decode cX9_lead 56 = .ok (.aload_n 0, 1) := by decide +kernel
theorem dX9_lead_57 : decode cX9_lead 57 = .ok (.getfield 112, 3) := by decide +kernel
theorem dX9_lead_60 : decode cX9_lead 60 = .ok (.iload 5, 2) := by decide +kernel
theorem dX9_lead_62 : decode cX9_lead 62 = .ok (.iaload, 1) := by decide +kernel
theorem dX9_lead_63 : decode cX9_lead 63 = .ok (.if_icmp .ge 37, 3) := by decide +kernel
theorem dX9_lead_66 : decode cX9_lead 66 = .ok (.aload_n 0, 1) := by decide +kernel
theorem dX9_lead_67 : decode cX9_lead 67 = .ok (.iload 6, 2) := by decide +kernel
theorem dX9_lead_69 : decode cX9_lead 69 = .ok (.iload_n 1, 1) := by decide +kernel
theorem dX9_lead_70 : decode cX9_lead 70 = .ok (.iload_n 2, 1) := by decide +kernel
theorem dX9_lead_71 : decode cX9_lead 71 = .ok (.invokevirtual 278, 3) := by decide +kernel
theorem dX9_lead_74 : decode cX9_lead 74 = .ok (.ifCond .eq 20, 3) := by decide +kernel
theorem dX9_lead_77 : decode cX9_lead 77 = .ok (.iload 4, 2) := by decide +kernel
theorem dX9_lead_79 : decode cX9_lead 79 = .ok (.ifCond .ne 12, 3) := by decide +kernel
theorem dX9_lead_82 : decode cX9_lead 82 = .ok (.bipush 100, 2) := by decide +kernel
theorem dX9_lead_84 : decode cX9_lead 84 = .ok (.iload 5, 2) := by decide +kernel
theorem dX9_lead_86 : decode cX9_lead 86 = .ok (.imul, 1) := by decide +kernel
theorem dX9_lead_87 : decode cX9_lead 87 = .ok (.iload 6, 2) := by decide +kernel
theorem dX9_lead_89 : decode cX9_lead 89 = .ok (.iadd, 1) := by decide +kernel
theorem dX9_lead_90 : decode cX9_lead 90 = .ok (.ireturn, 1) := by decide +kernel
theorem dX9_lead_91 : decode cX9_lead 91 = .ok (.iinc 4 (-1), 3) := by decide +kernel
theorem dX9_lead_94 : decode cX9_lead 94 = .ok (.iinc 6 1, 3) := by decide +kernel
theorem dX9_lead_97 : decode cX9_lead 97 = .ok (.goto (-43), 3) := by decide +kernel
theorem dX9_lead_100 : decode cX9_lead 100 = .ok (.iinc 5 1, 3) := by decide +kernel
theorem dX9_lead_103 : decode cX9_lead 103 = .ok (.goto (-67), 3) := by decide +kernel
theorem dX9_lead_106 : decode cX9_lead 106 = .ok (.iconst (-1), 1) := by decide +kernel
theorem dX9_lead_107 : decode cX9_lead 107 = .ok (.ireturn, 1) := by decide +kernel
theorem dX9_next_0 : decode cX9_next 0 = .ok (.aload_n 0, 1) := by decide +kernel
theorem dX9_next_1 : decode cX9_next 1 = .ok (.iconst 0, 1) := by decide +kernel
theorem dX9_next_2 : decode cX9_next 2 = .ok (.putfield 131, 3) := by decide +kernel
theorem dX9_next_5 : decode cX9_next 5 = .ok (.iload_n 1, 1) := by decide +kernel
theorem dX9_next_6 : decode cX9_next 6 = .ok (.ifCond .lt 19, 3) := by decide +kernel
theorem dX9_next_9 : decode cX9_next 9 = .ok (.iload_n 1, 1) := by decide +kernel
theorem dX9_next_10 : decode cX9_next 10 = .ok (.bipush 49, 2) := by decide +kernel
theorem dX9_next_12 : decode cX9_next 12 = .ok (.if_icmp .gt 13, 3) := by decide +kernel
theorem dX9_next_15 : decode cX9_next 15 = .ok (.iload_n 2, 1) := by decide +kernel
theorem dX9_next_16 : decode cX9_next 16 = .ok (.ifCond .lt 9, 3) := by decide +kernel
theorem dX9_next_19 : decode cX9_next 19 = .ok (.iload_n 2, 1) := by decide +kernel
theorem dX9_next_20 : decode cX9_next 20 = .ok (.bipush 49, 2) := by decide +kernel
theorem dX9_next_22 : decode cX9_next 22 = .ok (.if_icmp .le 5, 3) := by decide +kernel
theorem dX9_next_25 : decode cX9_next 25 = .ok (.iconst (-1), 1) := by decide +kernel
theorem dX9_next_26 : decode cX9_next 26 = .ok (.ireturn, 1) := by decide +kernel
theorem dX9_next_27 : decode cX9_next 27 = .ok (.iconst 0, 1) := by decide +kernel
theorem dX9_next_28 : decode cX9_next 28 = .ok (.istore_n 3, 1) := by decide +kernel
theorem dX9_next_29 : decode cX9_next 29 = .ok (.iconst 0, 1) := by decide +kernel
theorem dX9_next_30 : decode cX9_next 30 = .ok (.istore 4, 2) := by decide +kernel
theorem dX9_next_32 : decode cX9_next 32 = .ok (.iload 4, 2) := by decide +kernel
theorem dX9_next_34 : decode cX9_next 34 = .ok (.aload_n 0, 1) := by decide +kernel
theorem dX9_next_35 : decode cX9_next 35 = .ok (.getfield 236, 3) := by decide +kernel
theorem dX9_next_38 : decode cX9_next 38 = .ok (.if_icmp .ge 89, 3) := by decide +kernel
theorem dX9_next_41 : decode cX9_next 41 = .ok (.aload_n 0, 1) := by decide +kernel
theorem dX9_next_42 : decode cX9_next 42 = .ok (.iload 4, 2) := by decide +kernel
theorem dX9_next_44 : decode cX9_next 44 = .ok (.invokevirtual 263, 3) := by decide +kernel
theorem dX9_next_47 : decode cX9_next 47 = .ok (.iconst 1, 1) := by decide +kernel
theorem dX9_next_48 : decode cX9_next 48 = .ok (.istore 5, 2) := by decide +kernel
theorem dX9_next_50 : decode cX9_next 50 = .ok (.iload 5, 2) := by decide +kernel
theorem dX9_next_52 : decode cX9_next 52 = .ok (.aload_n 0, 1) := by decide +kernel
theorem dX9_next_53 : decode cX9_next 53 = .ok (.getfield 112, 3) := by decide +kernel
theorem dX9_next_56 : decode cX9_next 56 = .ok (.iload 4, 2) := by decide +kernel
theorem dX9_next_58 : decode cX9_next 58 = .ok (.iaload, 1) := by decide +kernel
theorem dX9_next_59 : decode cX9_next 59 = .ok (.if_icmp .ge 62, 3) := by decide +kernel
theorem dX9_next_62 : decode cX9_next 62 = .ok (.iload_n 3, 1) := by decide +kernel
theorem dX9_next_63 : decode cX9_next 63 = .ok (.aload_n 0, 1) := by decide +kernel
theorem dX9_next_64 : decode cX9_next 64 = .ok (.getfield 118, 3) := by decide +kernel
theorem dX9_next_67 : decode cX9_next 67 = .ok (.iload 5, 2) := by decide +kernel
theorem dX9_next_69 : decode cX9_next 69 = .ok (.iconst 1, 1) := by decide +kernel
theorem dX9_next_70 : decode cX9_next 70 = .ok (.isub, 1) := by decide +kernel
theorem dX9_next_71 : decode cX9_next 71 = .ok (.iaload, 1) := by decide +kernel
theorem dX9_next_72 : decode cX9_next 72 = .ok (.iload_n 1, 1) := by decide +kernel
theorem dX9_next_73 : decode cX9_next 73 = .ok (.if_icmp .ne 39, 3) := by decide +kernel
theorem dX9_next_76 : decode cX9_next 76 = .ok (.aload_n 0, 1) := by decide +kernel
theorem dX9_next_77 : decode cX9_next 77 = .ok (.getfield 118, 3) := by decide +kernel
theorem dX9_next_80 : decode cX9_next 80 = .ok (.iload 5, 2) := by decide +kernel
theorem dX9_next_82 : decode cX9_next 82 = .ok (.iaload, 1) := by decide +kernel
theorem dX9_next_83 : decode cX9_next 83 = .ok (.iload_n 2, 1) := by decide +kernel
theorem dX9_next_84 : decode cX9_next 84 = .ok (.if_icmp .ne 28, 3) := by decide +kernel
theorem dX9_next_87 : decode cX9_next 87 = .ok (.aload_n 0, 1) := by decide +kernel
theorem dX9_next_88 : decode cX9_next 88 = .ok (.iload 4, 2) := by decide +kernel
theorem dX9_next_90 : decode cX9_next 90 = .ok (.iload 5, 2) := by decide +kernel
theorem dX9_next_92 : decode cX9_next 92 = .ok (.invokevirtual 260, 3) := by decide +kernel
theorem dX9_next_95 : decode cX9_next 95 = .ok (.ifCond .eq 13, 3) := by decide +kernel
theorem dX9_next_98 : decode cX9_next 98 = .ok (.aload_n 0, 1) := by decide +kernel
theorem dX9_next_99 : decode cX9_next 99 = .ok (.getfield 124, 3) := by decide +kernel
theorem dX9_next_102 : decode cX9_next 102 = .ok (.iload 5, 2) := by decide +kernel
theorem dX9_next_104 : decode cX9_next 104 = .ok (.baload, 1) := by decide +kernel
theorem dX9_next_105 : decode cX9_next 105 = .ok (.ifCond .eq 7, 3) := by decide +kernel
theorem dX9_next_108 : decode cX9_next 108 = .ok (.iconst 1, 1) := by decide +kernel
theorem dX9_next_109 : decode cX9_next 109 = .ok (.goto 4, 3) := by decide +kernel
theorem dX9_next_112 : decode cX9_next 112 = .ok (.iconst 0, 1) := by decide +kernel
theorem dX9_next_113 : decode cX9_next 113 = .ok (.iadd, 1) := by decide +kernel
theorem dX9_next_114 : decode cX9_next 114 = .ok (.istore_n 3, 1) := by decide +kernel
theorem dX9_next_115 : decode cX9_next 115 = .ok (.iinc 5 1, 3) := by decide +kernel
theorem dX9_next_118 : decode cX9_next 118 = .ok (.goto (-68), 3) := by decide +kernel
theorem dX9_next_121 : decode cX9_next 121 = .ok (.iinc 4 1, 3) := by decide +kernel
theorem dX9_next_124 : decode cX9_next 124 = .ok (.goto (-92), 3) := by decide +kernel
theorem dX9_next_127 : decode cX9_next 127 = .ok (.iload_n 3, 1) := by decide +kernel
theorem dX9_next_128 : decode cX9_next 128 = .ok (.ireturn, 1) := by decide +kernel
theorem dX9_says_0 : decode cX9_says 0 = .ok (.aload_n 0, 1) := by decide +kernel
theorem dX9_says_1 : decode cX9_says 1 = .ok (.iload_n 1, 1) := by decide +kernel
theorem dX9_says_2 : decode cX9_says 2 = .ok (.iload_n 2, 1) := by decide +kernel
theorem dX9_says_3 : decode cX9_says 3 = .ok (.iconst 5, 1) := by decide +kernel
theorem dX9_says_4 : decode cX9_says 4 = .ok (.invokevirtual 244, 3) := by decide +kernel
theorem dX9_says_7 : decode cX9_says 7 = .ok (.iload_n 3, 1) := by decide +kernel
theorem dX9_says_8 : decode cX9_says 8 = .ok (.ishr, 1) := by decide +kernel
theorem dX9_says_9 : decode cX9_says 9 = .ok (.iconst 1, 1) := by decide +kernel
theorem dX9_says_10 : decode cX9_says 10 = .ok (.iand, 1) := by decide +kernel
theorem dX9_says_11 : decode cX9_says 11 = .ok (.iconst 1, 1) := by decide +kernel
theorem dX9_says_12 : decode cX9_says 12 = .ok (.if_icmp .ne 7, 3) := by decide +kernel
theorem dX9_says_15 : decode cX9_says 15 = .ok (.iconst 1, 1) := by decide +kernel
theorem dX9_says_16 : decode cX9_says 16 = .ok (.goto 4, 3) := by decide +kernel
theorem dX9_says_19 : decode cX9_says 19 = .ok (.iconst 0, 1) := by decide +kernel
theorem dX9_says_20 : decode cX9_says 20 = .ok (.ireturn, 1) := by decide +kernel
theorem dX9_quarrel_0 : decode cX9_quarrel 0 = .ok (.iconst 0, 1) := by decide +kernel
theorem dX9_quarrel_1 : decode cX9_quarrel 1 = .ok (.istore_n 3, 1) := by decide +kernel
theorem dX9_quarrel_2 : decode cX9_quarrel 2 = .ok (.iconst 0, 1) := by decide +kernel
theorem dX9_quarrel_3 : decode cX9_quarrel 3 = .ok (.istore 4, 2) := by decide +kernel
theorem dX9_quarrel_5 : decode cX9_quarrel 5 = .ok (.iload 4, 2) := by decide +kernel
theorem dX9_quarrel_7 : decode cX9_quarrel 7 = .ok (.sipush 144, 3) := by decide +kernel
theorem dX9_quarrel_10 : decode cX9_quarrel 10 = .ok (.if_icmp .ge 77, 3) := by decide +kernel
theorem dX9_quarrel_13 : decode cX9_quarrel 13 = .ok (.aload_n 0, 1) := by decide +kernel
theorem dX9_quarrel_14 : decode cX9_quarrel 14 = .ok (.iload_n 1, 1) := by decide +kernel
theorem dX9_quarrel_15 : decode cX9_quarrel 15 = .ok (.iload 4, 2) := by decide +kernel
theorem dX9_quarrel_17 : decode cX9_quarrel 17 = .ok (.invokevirtual 250, 3) := by decide +kernel
theorem dX9_quarrel_20 : decode cX9_quarrel 20 = .ok (.istore 5, 2) := by decide +kernel
theorem dX9_quarrel_22 : decode cX9_quarrel 22 = .ok (.aload_n 0, 1) := by decide +kernel
theorem dX9_quarrel_23 : decode cX9_quarrel 23 = .ok (.iload_n 2, 1) := by decide +kernel
theorem dX9_quarrel_24 : decode cX9_quarrel 24 = .ok (.iload 4, 2) := by decide +kernel
theorem dX9_quarrel_26 : decode cX9_quarrel 26 = .ok (.invokevirtual 250, 3) := by decide +kernel
theorem dX9_quarrel_29 : decode cX9_quarrel 29 = .ok (.istore 6, 2) := by decide +kernel
theorem dX9_quarrel_31 : decode cX9_quarrel 31 = .ok (.iload_n 3, 1) := by decide +kernel
theorem dX9_quarrel_32 : decode cX9_quarrel 32 = .ok (.iload 5, 2) := by decide +kernel
theorem dX9_quarrel_34 : decode cX9_quarrel 34 = .ok (.ifCond .lt 44, 3) := by decide +kernel
theorem dX9_quarrel_37 : decode cX9_quarrel 37 = .ok (.iload 6, 2) := by decide +kernel
theorem dX9_quarrel_39 : decode cX9_quarrel 39 = .ok (.ifCond .lt 39, 3) := by decide +kernel
theorem dX9_quarrel_42 : decode cX9_quarrel 42 = .ok (.aload_n 0, 1) := by decide +kernel
theorem dX9_quarrel_43 : decode cX9_quarrel 43 = .ok (.iload_n 1, 1) := by decide +kernel
theorem dX9_quarrel_44 : decode cX9_quarrel 44 = .ok (.iload 5, 2) := by decide +kernel
theorem dX9_quarrel_46 : decode cX9_quarrel 46 = .ok (.aload_n 0, 1) := by decide +kernel
theorem dX9_quarrel_47 : decode cX9_quarrel 47 = .ok (.getfield 100, 3) := by decide +kernel
theorem dX9_quarrel_50 : decode cX9_quarrel 50 = .ok (.iload_n 2, 1) := by decide +kernel
theorem dX9_quarrel_51 : decode cX9_quarrel 51 = .ok (.iaload, 1) := by decide +kernel
theorem dX9_quarrel_52 : decode cX9_quarrel 52 = .ok (.invokevirtual 282, 3) := by decide +kernel
theorem dX9_quarrel_55 : decode cX9_quarrel 55 = .ok (.ifCond .eq 23, 3) := by decide +kernel
theorem dX9_quarrel_58 : decode cX9_quarrel 58 = .ok (.aload_n 0, 1) := by decide +kernel
theorem dX9_quarrel_59 : decode cX9_quarrel 59 = .ok (.iload_n 2, 1) := by decide +kernel
theorem dX9_quarrel_60 : decode cX9_quarrel 60 = .ok (.iload 6, 2) := by decide +kernel
theorem dX9_quarrel_62 : decode cX9_quarrel 62 = .ok (.aload_n 0, 1) := by decide +kernel
theorem dX9_quarrel_63 : decode cX9_quarrel 63 = .ok (.getfield 100, 3) := by decide +kernel
theorem dX9_quarrel_66 : decode cX9_quarrel 66 = .ok (.iload_n 1, 1) := by decide +kernel
theorem dX9_quarrel_67 : decode cX9_quarrel 67 = .ok (.iaload, 1) := by decide +kernel
theorem dX9_quarrel_68 : decode cX9_quarrel 68 = .ok (.invokevirtual 282, 3) := by decide +kernel
theorem dX9_quarrel_71 : decode cX9_quarrel 71 = .ok (.ifCond .ne 7, 3) := by decide +kernel
theorem dX9_quarrel_74 : decode cX9_quarrel 74 = .ok (.iconst 1, 1) := by decide +kernel
theorem dX9_quarrel_75 : decode cX9_quarrel 75 = .ok (.goto 4, 3) := by decide +kernel
theorem dX9_quarrel_78 : decode cX9_quarrel 78 = .ok (.iconst 0, 1) := by decide +kernel
theorem dX9_quarrel_79 : decode cX9_quarrel 79 = .ok (.iadd, 1) := by decide +kernel
theorem dX9_quarrel_80 : decode cX9_quarrel 80 = .ok (.istore_n 3, 1) := by decide +kernel
theorem dX9_quarrel_81 : decode cX9_quarrel 81 = .ok (.iinc 4 1, 3) := by decide +kernel
theorem dX9_quarrel_84 : decode cX9_quarrel 84 = .ok (.goto (-79), 3) := by decide +kernel
theorem dX9_quarrel_87 : decode cX9_quarrel 87 = .ok (.iload_n 3, 1) := by decide +kernel
theorem dX9_quarrel_88 : decode cX9_quarrel 88 = .ok (.ireturn, 1) := by decide +kernel
theorem dX9_quarrels_0 : decode cX9_quarrels 0 = .ok (.aload_n 0, 1) := by decide +kernel
theorem dX9_quarrels_1 : decode cX9_quarrels 1 = .ok (.iconst 0, 1) := by decide +kernel
theorem dX9_quarrels_2 : decode cX9_quarrels 2 = .ok (.putfield 131, 3) := by decide +kernel
theorem dX9_quarrels_5 : decode cX9_quarrels 5 = .ok (.iload_n 1, 1) := by decide +kernel
theorem dX9_quarrels_6 : decode cX9_quarrels 6 = .ok (.ifCond .lt 19, 3) := by decide +kernel
theorem dX9_quarrels_9 : decode cX9_quarrels 9 = .ok (.iload_n 1, 1) := by decide +kernel
theorem dX9_quarrels_10 : decode cX9_quarrels 10 = .ok (.bipush 9, 2) := by decide +kernel
theorem dX9_quarrels_12 : decode cX9_quarrels 12 = .ok (.if_icmp .gt 13, 3) := by decide +kernel
theorem dX9_quarrels_15 : decode cX9_quarrels 15 = .ok (.iload_n 2, 1) := by decide +kernel
theorem dX9_quarrels_16 : decode cX9_quarrels 16 = .ok (.ifCond .lt 9, 3) := by decide +kernel
theorem dX9_quarrels_19 : decode cX9_quarrels 19 = .ok (.iload_n 2, 1) := by decide +kernel
theorem dX9_quarrels_20 : decode cX9_quarrels 20 = .ok (.bipush 6, 2) := by decide +kernel
theorem dX9_quarrels_22 : decode cX9_quarrels 22 = .ok (.if_icmp .le 5, 3) := by decide +kernel
theorem dX9_quarrels_25 : decode cX9_quarrels 25 = .ok (.iconst (-1), 1) := by decide +kernel
theorem dX9_quarrels_26 : decode cX9_quarrels 26 = .ok (.ireturn, 1) := by decide +kernel
theorem dX9_quarrels_27 : decode cX9_quarrels 27 = .ok (.iconst 0, 1) := by decide +kernel
theorem dX9_quarrels_28 : decode cX9_quarrels 28 = .ok (.istore_n 3, 1) := by decide +kernel
theorem dX9_quarrels_29 : decode cX9_quarrels 29 = .ok (.iconst 0, 1) := by decide +kernel
theorem dX9_quarrels_30 : decode cX9_quarrels 30 = .ok (.istore 4, 2) := by decide +kernel
theorem dX9_quarrels_32 : decode cX9_quarrels 32 = .ok (.iload 4, 2) := by decide +kernel
theorem dX9_quarrels_34 : decode cX9_quarrels 34 = .ok (.aload_n 0, 1) := by decide +kernel
theorem dX9_quarrels_35 : decode cX9_quarrels 35 = .ok (.getfield 236, 3) := by decide +kernel
theorem dX9_quarrels_38 : decode cX9_quarrels 38 = .ok (.if_icmp .ge 93, 3) := by decide +kernel
theorem dX9_quarrels_41 : decode cX9_quarrels 41 = .ok (.iconst 0, 1) := by decide +kernel
theorem dX9_quarrels_42 : decode cX9_quarrels 42 = .ok (.istore 5, 2) := by decide +kernel
theorem dX9_quarrels_44 : decode cX9_quarrels 44 = .ok (.iload 5, 2) := by decide +kernel
theorem dX9_quarrels_46 : decode cX9_quarrels 46 = .ok (.aload_n 0, 1) := by decide +kernel
theorem dX9_quarrels_47 : decode cX9_quarrels 47 = .ok (.getfield 236, 3) := by decide +kernel
theorem dX9_quarrels_50 : decode cX9_quarrels 50 = .ok (.if_icmp .ge 75, 3) := by decide +kernel
theorem dX9_quarrels_53 : decode cX9_quarrels 53 = .ok (.iload_n 3, 1) := by decide +kernel
theorem dX9_quarrels_54 : decode cX9_quarrels 54 = .ok (.iload 4, 2) := by decide +kernel
theorem dX9_quarrels_56 : decode cX9_quarrels 56 = .ok (.iload 5, 2) := by decide +kernel
theorem dX9_quarrels_58 : decode cX9_quarrels 58 = .ok (.if_icmp .eq 58, 3) := by decide +kernel
theorem dX9_quarrels_61 : decode cX9_quarrels 61 = .ok (.aload_n 0, 1) := by decide +kernel
theorem dX9_quarrels_62 : decode cX9_quarrels 62 = .ok (.getfield 97, 3) := by decide +kernel
theorem dX9_quarrels_65 : decode cX9_quarrels 65 = .ok (.iload 4, 2) := by decide +kernel
theorem dX9_quarrels_67 : decode cX9_quarrels 67 = .ok (.iaload, 1) := by decide +kernel
theorem dX9_quarrels_68 : decode cX9_quarrels 68 = .ok (.iload_n 1, 1) := by decide +kernel
theorem dX9_quarrels_69 : decode cX9_quarrels 69 = .ok (.if_icmp .ne 47, 3) := by decide +kernel
theorem dX9_quarrels_72 : decode cX9_quarrels 72 = .ok (.aload_n 0, 1) := by decide +kernel
theorem dX9_quarrels_73 : decode cX9_quarrels 73 = .ok (.getfield 97, 3) := by decide +kernel
theorem dX9_quarrels_76 : decode cX9_quarrels 76 = .ok (.iload 5, 2) := by decide +kernel
theorem dX9_quarrels_78 : decode cX9_quarrels 78 = .ok (.iaload, 1) := by decide +kernel
theorem dX9_quarrels_79 : decode cX9_quarrels 79 = .ok (.iload_n 1, 1) := by decide +kernel
theorem dX9_quarrels_80 : decode cX9_quarrels 80 = .ok (.if_icmp .ne 36, 3) := by decide +kernel
theorem dX9_quarrels_83 : decode cX9_quarrels 83 = .ok (.aload_n 0, 1) := by decide +kernel
theorem dX9_quarrels_84 : decode cX9_quarrels 84 = .ok (.getfield 103, 3) := by decide +kernel
theorem dX9_quarrels_87 : decode cX9_quarrels 87 = .ok (.iload 4, 2) := by decide +kernel
theorem dX9_quarrels_89 : decode cX9_quarrels 89 = .ok (.iaload, 1) := by decide +kernel
theorem dX9_quarrels_90 : decode cX9_quarrels 90 = .ok (.iload_n 2, 1) := by decide +kernel
theorem dX9_quarrels_91 : decode cX9_quarrels 91 = .ok (.if_icmp .ne 25, 3) := by decide +kernel
theorem dX9_quarrels_94 : decode cX9_quarrels 94 = .ok (.aload_n 0, 1) := by decide +kernel
theorem dX9_quarrels_95 : decode cX9_quarrels 95 = .ok (.getfield 103, 3) := by decide +kernel
theorem dX9_quarrels_98 : decode cX9_quarrels 98 = .ok (.iload 5, 2) := by decide +kernel
theorem dX9_quarrels_100 : decode cX9_quarrels 100 = .ok (.iaload, 1) := by decide +kernel
theorem dX9_quarrels_101 : decode cX9_quarrels 101 = .ok (.iload_n 2, 1) := by decide +kernel
theorem dX9_quarrels_102 : decode cX9_quarrels 102 = .ok (.if_icmp .ne 14, 3) := by decide +kernel
theorem dX9_quarrels_105 : decode cX9_quarrels 105 = .ok (.aload_n 0, 1) := by decide +kernel
theorem dX9_quarrels_106 : decode cX9_quarrels 106 = .ok (.iload 4, 2) := by decide +kernel
theorem dX9_quarrels_108 : decode cX9_quarrels 108 = .ok (.iload 5, 2) := by decide +kernel
theorem dX9_quarrels_110 : decode cX9_quarrels 110 = .ok (.invokevirtual 285, 3) := by decide +kernel
theorem dX9_quarrels_113 : decode cX9_quarrels 113 = .ok (.goto 4, 3) := by decide +kernel
theorem dX9_quarrels_116 : decode cX9_quarrels 116 = .ok (.iconst 0, 1) := by decide +kernel
theorem dX9_quarrels_117 : decode cX9_quarrels 117 = .ok (.iadd, 1) := by decide +kernel
theorem dX9_quarrels_118 : decode cX9_quarrels 118 = .ok (.istore_n 3, 1) := by decide +kernel
theorem dX9_quarrels_119 : decode cX9_quarrels 119 = .ok (.iinc 5 1, 3) := by decide +kernel
theorem dX9_quarrels_122 : decode cX9_quarrels 122 = .ok (.goto (-78), 3) := by decide +kernel
theorem dX9_quarrels_125 : decode cX9_quarrels 125 = .ok (.iinc 4 1, 3) := by decide +kernel
theorem dX9_quarrels_128 : decode cX9_quarrels 128 = .ok (.goto (-96), 3) := by decide +kernel
theorem dX9_quarrels_131 : decode cX9_quarrels 131 = .ok (.iload_n 3, 1) := by decide +kernel
theorem dX9_quarrels_132 : decode cX9_quarrels 132 = .ok (.ireturn, 1) := by decide +kernel
theorem dX9_day_0 : decode cX9_day 0 = .ok (.aload_n 0, 1) := by decide +kernel
theorem dX9_day_1 : decode cX9_day 1 = .ok (.aload_n 0, 1) := by decide +kernel
theorem dX9_day_2 : decode cX9_day 2 = .ok (.iload_n 1, 1) := by decide +kernel
theorem dX9_day_3 : decode cX9_day 3 = .ok (.invokevirtual 247, 3) := by decide +kernel
theorem dX9_day_6 : decode cX9_day 6 = .ok (.ifCond .eq 17, 3) := by decide +kernel
theorem dX9_day_9 : decode cX9_day 9 = .ok (.iload_n 2, 1) := by decide +kernel
theorem dX9_day_10 : decode cX9_day 10 = .ok (.ifCond .lt 13, 3) := by decide +kernel
theorem dX9_day_13 : decode cX9_day 13 = .ok (.iload_n 2, 1) := by decide +kernel
theorem dX9_day_14 : decode cX9_day 14 = .ok (.bipush 7, 2) := by decide +kernel
theorem dX9_day_16 : decode cX9_day 16 = .ok (.if_icmp .gt 7, 3) := by decide +kernel
theorem dX9_day_19 : decode cX9_day 19 = .ok (.iconst 0, 1) := by decide +kernel
theorem dX9_day_20 : decode cX9_day 20 = .ok (.goto 4, 3) := by decide +kernel
theorem dX9_day_23 : decode cX9_day 23 = .ok (.iconst 1, 1) := by decide +kernel
theorem dX9_day_24 : decode cX9_day 24 = .ok (.putfield 131, 3) := by decide +kernel
theorem dX9_day_27 : decode cX9_day 27 = .ok (.aload_n 0, 1) := by decide +kernel
theorem dX9_day_28 : decode cX9_day 28 = .ok (.getfield 131, 3) := by decide +kernel
theorem dX9_day_31 : decode cX9_day 31 = .ok (.ifCond .le 5, 3) := by decide +kernel
theorem dX9_day_34 : decode cX9_day 34 = .ok (.iconst 0, 1) := by decide +kernel
theorem dX9_day_35 : decode cX9_day 35 = .ok (.ireturn, 1) := by decide +kernel
theorem dX9_day_36 : decode cX9_day 36 = .ok (.aload_n 0, 1) := by decide +kernel
theorem dX9_day_37 : decode cX9_day 37 = .ok (.iload_n 1, 1) := by decide +kernel
theorem dX9_day_38 : decode cX9_day 38 = .ok (.invokevirtual 263, 3) := by decide +kernel
theorem dX9_day_41 : decode cX9_day 41 = .ok (.sipush 144, 3) := by decide +kernel
theorem dX9_day_44 : decode cX9_day 44 = .ok (.istore_n 3, 1) := by decide +kernel
theorem dX9_day_45 : decode cX9_day 45 = .ok (.iconst 0, 1) := by decide +kernel
theorem dX9_day_46 : decode cX9_day 46 = .ok (.istore 4, 2) := by decide +kernel
theorem dX9_day_48 : decode cX9_day 48 = .ok (.iconst 0, 1) := by decide +kernel
theorem dX9_day_49 : decode cX9_day 49 = .ok (.istore 5, 2) := by decide +kernel
theorem dX9_day_51 : decode cX9_day 51 = .ok (.iconst 0, 1) := by decide +kernel
theorem dX9_day_52 : decode cX9_day 52 = .ok (.istore 6, 2) := by decide +kernel
theorem dX9_day_54 : decode cX9_day 54 = .ok (.iload 6, 2) := by decide +kernel
theorem dX9_day_56 : decode cX9_day 56 = .ok (.aload_n 0, 1) := by decide +kernel
theorem dX9_day_57 : decode cX9_day 57 = .ok (.getfield 112, 3) := by decide +kernel
theorem dX9_day_60 : decode cX9_day 60 = .ok (.iload_n 1, 1) := by decide +kernel
theorem dX9_day_61 : decode cX9_day 61 = .ok (.iaload, 1) := by decide +kernel
theorem dX9_day_62 : decode cX9_day 62 = .ok (.if_icmp .ge 77, 3) := by decide +kernel
theorem dX9_day_65 : decode cX9_day 65 = .ok (.iload_n 3, 1) := by decide +kernel
theorem dX9_day_66 : decode cX9_day 66 = .ok (.aload_n 0, 1) := by decide +kernel
theorem dX9_day_67 : decode cX9_day 67 = .ok (.iload_n 1, 1) := by decide +kernel
theorem dX9_day_68 : decode cX9_day 68 = .ok (.iload 6, 2) := by decide +kernel
theorem dX9_day_70 : decode cX9_day 70 = .ok (.iconst 1, 1) := by decide +kernel
theorem dX9_day_71 : decode cX9_day 71 = .ok (.invokevirtual 244, 3) := by decide +kernel
theorem dX9_day_74 : decode cX9_day 74 = .ok (.aload_n 0, 1) := by decide +kernel
theorem dX9_day_75 : decode cX9_day 75 = .ok (.iload_n 1, 1) := by decide +kernel
theorem dX9_day_76 : decode cX9_day 76 = .ok (.iload 6, 2) := by decide +kernel
theorem dX9_day_78 : decode cX9_day 78 = .ok (.iconst 0, 1) := by decide +kernel
theorem dX9_day_79 : decode cX9_day 79 = .ok (.invokevirtual 244, 3) := by decide +kernel
theorem dX9_day_82 : decode cX9_day 82 = .ok (.isub, 1) := by decide +kernel
theorem dX9_day_83 : decode cX9_day 83 = .ok (.iconst 1, 1) := by decide +kernel
theorem dX9_day_84 : decode cX9_day 84 = .ok (.iadd, 1) := by decide +kernel
theorem dX9_day_85 : decode cX9_day 85 = .ok (.isub, 1) := by decide +kernel
theorem dX9_day_86 : decode cX9_day 86 = .ok (.istore_n 3, 1) := by decide +kernel
theorem dX9_day_87 : decode cX9_day 87 = .ok (.iload 4, 2) := by decide +kernel
theorem dX9_day_89 : decode cX9_day 89 = .ok (.aload_n 0, 1) := by decide +kernel
theorem dX9_day_90 : decode cX9_day 90 = .ok (.getfield 124, 3) := by decide +kernel
theorem dX9_day_93 : decode cX9_day 93 = .ok (.iload 6, 2) := by decide +kernel
theorem dX9_day_95 : decode cX9_day 95 = .ok (.baload, 1) := by decide +kernel
theorem dX9_day_96 : decode cX9_day 96 = .ok (.ifCond .eq 13, 3) := by decide +kernel
theorem dX9_day_99 : decode cX9_day 99 = .ok (.aload_n 0, 1) := by decide +kernel
theorem dX9_day_100 : decode cX9_day 100 = .ok (.iload_n 1, 1) := by decide +kernel
theorem dX9_day_101 : decode cX9_day 101 = .ok (.iload 6, 2) := by decide +kernel
theorem dX9_day_103 : decode cX9_day 103 = .ok (.invokevirtual 260, 3) := by decide +kernel
theorem dX9_day_106 : decode cX9_day 106 = .ok (.goto 4, 3) := by decide +kernel
theorem dX9_day_109 : decode cX9_day 109 = .ok (.iconst 0, 1) := by decide +kernel
theorem dX9_day_110 : decode cX9_day 110 = .ok (.iadd, 1) := by decide +kernel
theorem dX9_day_111 : decode cX9_day 111 = .ok (.istore 4, 2) := by decide +kernel
theorem dX9_day_113 : decode cX9_day 113 = .ok (.iload 5, 2) := by decide +kernel
theorem dX9_day_115 : decode cX9_day 115 = .ok (.aload_n 0, 1) := by decide +kernel
theorem dX9_day_116 : decode cX9_day 116 = .ok (.getfield 118, 3) := by decide +kernel
theorem dX9_day_119 : decode cX9_day 119 = .ok (.iload 6, 2) := by decide +kernel
theorem dX9_day_121 : decode cX9_day 121 = .ok (.iaload, 1) := by decide +kernel
theorem dX9_day_122 : decode cX9_day 122 = .ok (.ifCond .ge 7, 3) := by decide +kernel
theorem dX9_day_125 : decode cX9_day 125 = .ok (.iconst 1, 1) := by decide +kernel
theorem dX9_day_126 : decode cX9_day 126 = .ok (.goto 4, 3) := by decide +kernel
theorem dX9_day_129 : decode cX9_day 129 = .ok (.iconst 0, 1) := by decide +kernel
theorem dX9_day_130 : decode cX9_day 130 = .ok (.iadd, 1) := by decide +kernel
theorem dX9_day_131 : decode cX9_day 131 = .ok (.istore 5, 2) := by decide +kernel
theorem dX9_day_133 : decode cX9_day 133 = .ok (.iinc 6 1, 3) := by decide +kernel
theorem dX9_day_136 : decode cX9_day 136 = .ok (.goto (-82), 3) := by decide +kernel
theorem dX9_day_139 : decode cX9_day 139 = .ok (.iload_n 2, 1) := by decide +kernel
theorem dX9_day_140 : decode cX9_day 140 = .ok (.tableswitch 80 0 6 #[44, 51, 53, 56, 59, 66, 73], 44) := by decide +kernel
theorem dX9_day_184 : decode cX9_day 184 = .ok (.aload_n 0, 1) := by decide +kernel
theorem dX9_day_185 : decode cX9_day 185 = .ok (.getfield 112, 3) := by decide +kernel
theorem dX9_day_188 : decode cX9_day 188 = .ok (.iload_n 1, 1) := by decide +kernel
theorem dX9_day_189 : decode cX9_day 189 = .ok (.iaload, 1) := by decide +kernel
theorem dX9_day_190 : decode cX9_day 190 = .ok (.ireturn, 1) := by decide +kernel
theorem dX9_day_191 : decode cX9_day 191 = .ok (.iload_n 3, 1) := by decide +kernel
theorem dX9_day_192 : decode cX9_day 192 = .ok (.ireturn, 1) := by decide +kernel
theorem dX9_day_193 : decode cX9_day 193 = .ok (.iload 4, 2) := by decide +kernel
theorem dX9_day_195 : decode cX9_day 195 = .ok (.ireturn, 1) := by decide +kernel
theorem dX9_day_196 : decode cX9_day 196 = .ok (.iload 5, 2) := by decide +kernel
theorem dX9_day_198 : decode cX9_day 198 = .ok (.ireturn, 1) := by decide +kernel
theorem dX9_day_199 : decode cX9_day 199 = .ok (.aload_n 0, 1) := by decide +kernel
theorem dX9_day_200 : decode cX9_day 200 = .ok (.getfield 97, 3) := by decide +kernel
theorem dX9_day_203 : decode cX9_day 203 = .ok (.iload_n 1, 1) := by decide +kernel
theorem dX9_day_204 : decode cX9_day 204 = .ok (.iaload, 1) := by decide +kernel
theorem dX9_day_205 : decode cX9_day 205 = .ok (.ireturn, 1) := by decide +kernel
theorem dX9_day_206 : decode cX9_day 206 = .ok (.aload_n 0, 1) := by decide +kernel
theorem dX9_day_207 : decode cX9_day 207 = .ok (.getfield 100, 3) := by decide +kernel
theorem dX9_day_210 : decode cX9_day 210 = .ok (.iload_n 1, 1) := by decide +kernel
theorem dX9_day_211 : decode cX9_day 211 = .ok (.iaload, 1) := by decide +kernel
theorem dX9_day_212 : decode cX9_day 212 = .ok (.ireturn, 1) := by decide +kernel
theorem dX9_day_213 : decode cX9_day 213 = .ok (.aload_n 0, 1) := by decide +kernel
theorem dX9_day_214 : decode cX9_day 214 = .ok (.getfield 103, 3) := by decide +kernel
theorem dX9_day_217 : decode cX9_day 217 = .ok (.iload_n 1, 1) := by decide +kernel
theorem dX9_day_218 : decode cX9_day 218 = .ok (.iaload, 1) := by decide +kernel
theorem dX9_day_219 : decode cX9_day 219 = .ok (.ireturn, 1) := by decide +kernel
theorem dX9_day_220 : decode cX9_day 220 = .ok (.aload_n 0, 1) := by decide +kernel
theorem dX9_day_221 : decode cX9_day 221 = .ok (.getfield 106, 3) := by decide +kernel
theorem dX9_day_224 : decode cX9_day 224 = .ok (.iload_n 1, 1) := by decide +kernel
theorem dX9_day_225 : decode cX9_day 225 = .ok (.iaload, 1) := by decide +kernel
theorem dX9_day_226 : decode cX9_day 226 = .ok (.ireturn, 1) := by decide +kernel
theorem dX9_count_0 : decode cX9_count 0 = .ok (.aload_n 0, 1) := by decide +kernel
theorem dX9_count_1 : decode cX9_count 1 = .ok (.iconst 0, 1) := by decide +kernel
theorem dX9_count_2 : decode cX9_count 2 = .ok (.putfield 131, 3) := by decide +kernel
theorem dX9_count_5 : decode cX9_count 5 = .ok (.iconst 0, 1) := by decide +kernel
theorem dX9_count_6 : decode cX9_count 6 = .ok (.istore_n 2, 1) := by decide +kernel
theorem dX9_count_7 : decode cX9_count 7 = .ok (.iconst 0, 1) := by decide +kernel
theorem dX9_count_8 : decode cX9_count 8 = .ok (.istore_n 3, 1) := by decide +kernel
theorem dX9_count_9 : decode cX9_count 9 = .ok (.iload_n 3, 1) := by decide +kernel
theorem dX9_count_10 : decode cX9_count 10 = .ok (.aload_n 0, 1) := by decide +kernel
theorem dX9_count_11 : decode cX9_count 11 = .ok (.getfield 236, 3) := by decide +kernel
theorem dX9_count_14 : decode cX9_count 14 = .ok (.if_icmp .ge 18, 3) := by decide +kernel
theorem dX9_count_17 : decode cX9_count 17 = .ok (.iload_n 2, 1) := by decide +kernel
theorem dX9_count_18 : decode cX9_count 18 = .ok (.aload_n 0, 1) := by decide +kernel
theorem dX9_count_19 : decode cX9_count 19 = .ok (.getfield 112, 3) := by decide +kernel
theorem dX9_count_22 : decode cX9_count 22 = .ok (.iload_n 3, 1) := by decide +kernel
theorem dX9_count_23 : decode cX9_count 23 = .ok (.iaload, 1) := by decide +kernel
theorem dX9_count_24 : decode cX9_count 24 = .ok (.iadd, 1) := by decide +kernel
theorem dX9_count_25 : decode cX9_count 25 = .ok (.istore_n 2, 1) := by decide +kernel
theorem dX9_count_26 : decode cX9_count 26 = .ok (.iinc 3 1, 3) := by decide +kernel
theorem dX9_count_29 : decode cX9_count 29 = .ok (.goto (-20), 3) := by decide +kernel
theorem dX9_count_32 : decode cX9_count 32 = .ok (.iload_n 1, 1) := by decide +kernel
theorem dX9_count_33 : decode cX9_count 33 = .ok (.tableswitch 82 0 5 #[39, 44, 49, 54, 59, 61], 39) := by decide +kernel
theorem dX9_count_72 : decode cX9_count 72 = .ok (.aload_n 0, 1) := by decide +kernel
theorem dX9_count_73 : decode cX9_count 73 = .ok (.getfield 236, 3) := by decide +kernel
theorem dX9_count_76 : decode cX9_count 76 = .ok (.ireturn, 1) := by decide +kernel
theorem dX9_count_77 : decode cX9_count 77 = .ok (.aload_n 0, 1) := by decide +kernel
theorem dX9_count_78 : decode cX9_count 78 = .ok (.getfield 186, 3) := by decide +kernel
theorem dX9_count_81 : decode cX9_count 81 = .ok (.ireturn, 1) := by decide +kernel
theorem dX9_count_82 : decode cX9_count 82 = .ok (.aload_n 0, 1) := by decide +kernel
theorem dX9_count_83 : decode cX9_count 83 = .ok (.getfield 54, 3) := by decide +kernel
theorem dX9_count_86 : decode cX9_count 86 = .ok (.ireturn, 1) := by decide +kernel
theorem dX9_count_87 : decode cX9_count 87 = .ok (.aload_n 0, 1) := by decide +kernel
theorem dX9_count_88 : decode cX9_count 88 = .ok (.getfield 138, 3) := by decide +kernel
theorem dX9_count_91 : decode cX9_count 91 = .ok (.ireturn, 1) := by decide +kernel
theorem dX9_count_92 : decode cX9_count 92 = .ok (.iload_n 2, 1) := by decide +kernel
theorem dX9_count_93 : decode cX9_count 93 = .ok (.ireturn, 1) := by decide +kernel
theorem dX9_count_94 : decode cX9_count 94 = .ok (.aload_n 0, 1) := by decide +kernel
theorem dX9_count_95 : decode cX9_count 95 = .ok (.getfield 54, 3) := by decide +kernel
theorem dX9_count_98 : decode cX9_count 98 = .ok (.ifCond .ge 7, 3) := by decide +kernel
theorem dX9_count_101 : decode cX9_count 101 = .ok (.iconst 0, 1) := by decide +kernel
theorem dX9_count_102 : decode cX9_count 102 = .ok (.goto 12, 3) := by decide +kernel
theorem dX9_count_105 : decode cX9_count 105 = .ok (.aload_n 0, 1) := by decide +kernel
theorem dX9_count_106 : decode cX9_count 106 = .ok (.getfield 58, 3) := by decide +kernel
theorem dX9_count_109 : decode cX9_count 109 = .ok (.aload_n 0, 1) := by decide +kernel
theorem dX9_count_110 : decode cX9_count 110 = .ok (.getfield 54, 3) := by decide +kernel
theorem dX9_count_113 : decode cX9_count 113 = .ok (.iaload, 1) := by decide +kernel
theorem dX9_count_114 : decode cX9_count 114 = .ok (.ireturn, 1) := by decide +kernel
theorem dX9_count_115 : decode cX9_count 115 = .ok (.iconst (-1), 1) := by decide +kernel
theorem dX9_count_116 : decode cX9_count 116 = .ok (.ireturn, 1) := by decide +kernel
theorem dJ6_bitCount_0f7a4_0 : decode cJ6_bitCount_0f7a4 0 = .ok (.iload_n 0, 1) := by decide +kernel
theorem dJ6_bitCount_0f7a4_1 : decode cJ6_bitCount_0f7a4 1 = .ok (.iload_n 0, 1) := by decide +kernel
theorem dJ6_bitCount_0f7a4_2 : decode cJ6_bitCount_0f7a4 2 = .ok (.iconst 1, 1) := by decide +kernel
theorem dJ6_bitCount_0f7a4_3 : decode cJ6_bitCount_0f7a4 3 = .ok (.iushr, 1) := by decide +kernel
theorem dJ6_bitCount_0f7a4_4 : decode cJ6_bitCount_0f7a4 4 = .ok (.ldc_w 265, 3) := by decide +kernel
theorem dJ6_bitCount_0f7a4_7 : decode cJ6_bitCount_0f7a4 7 = .ok (.iand, 1) := by decide +kernel
theorem dJ6_bitCount_0f7a4_8 : decode cJ6_bitCount_0f7a4 8 = .ok (.isub, 1) := by decide +kernel
theorem dJ6_bitCount_0f7a4_9 : decode cJ6_bitCount_0f7a4 9 = .ok (.istore_n 0, 1) := by decide +kernel
theorem dJ6_bitCount_0f7a4_10 : decode cJ6_bitCount_0f7a4 10 = .ok (.iload_n 0, 1) := by decide +kernel
theorem dJ6_bitCount_0f7a4_11 : decode cJ6_bitCount_0f7a4 11 = .ok (.ldc_w 266, 3) := by decide +kernel
theorem dJ6_bitCount_0f7a4_14 : decode cJ6_bitCount_0f7a4 14 = .ok (.iand, 1) := by decide +kernel
theorem dJ6_bitCount_0f7a4_15 : decode cJ6_bitCount_0f7a4 15 = .ok (.iload_n 0, 1) := by decide +kernel
theorem dJ6_bitCount_0f7a4_16 : decode cJ6_bitCount_0f7a4 16 = .ok (.iconst 2, 1) := by decide +kernel
theorem dJ6_bitCount_0f7a4_17 : decode cJ6_bitCount_0f7a4 17 = .ok (.iushr, 1) := by decide +kernel
theorem dJ6_bitCount_0f7a4_18 : decode cJ6_bitCount_0f7a4 18 = .ok (.ldc_w 266, 3) := by decide +kernel
