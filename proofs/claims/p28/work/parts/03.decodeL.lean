/-! decode rows (printed by program) -/
theorem dL_low_0 : decode cL_low 0 = .ok (.iload_n 0, 1) := by decide +kernel
theorem dL_low_1 : decode cL_low 1 = .ok (.ldc 7, 2) := by decide +kernel
theorem dL_low_3 : decode cL_low 3 = .ok (.iand, 1) := by decide +kernel
theorem dL_low_4 : decode cL_low 4 = .ok (.iload_n 1, 1) := by decide +kernel
theorem dL_low_5 : decode cL_low 5 = .ok (.irem, 1) := by decide +kernel
theorem dL_low_6 : decode cL_low 6 = .ok (.ireturn, 1) := by decide +kernel
theorem dL_cell_0 : decode cL_cell 0 = .ok (.iload_n 1, 1) := by decide +kernel
theorem dL_cell_1 : decode cL_cell 1 = .ok (.aload_n 0, 1) := by decide +kernel
theorem dL_cell_2 : decode cL_cell 2 = .ok (.arraylength, 1) := by decide +kernel
theorem dL_cell_3 : decode cL_cell 3 = .ok (.if_icmp .ge 9, 3) := by decide +kernel
theorem dL_cell_6 : decode cL_cell 6 = .ok (.aload_n 0, 1) := by decide +kernel
theorem dL_cell_7 : decode cL_cell 7 = .ok (.iload_n 1, 1) := by decide +kernel
theorem dL_cell_8 : decode cL_cell 8 = .ok (.iaload, 1) := by decide +kernel
theorem dL_cell_9 : decode cL_cell 9 = .ok (.goto 11, 3) := by decide +kernel
theorem dL_cell_12 : decode cL_cell 12 = .ok (.ldc 8, 2) := by decide +kernel
theorem dL_cell_14 : decode cL_cell 14 = .ok (.iload_n 1, 1) := by decide +kernel
theorem dL_cell_15 : decode cL_cell 15 = .ok (.imul, 1) := by decide +kernel
theorem dL_cell_16 : decode cL_cell 16 = .ok (.sipush 977, 3) := by decide +kernel
theorem dL_cell_19 : decode cL_cell 19 = .ok (.iadd, 1) := by decide +kernel
theorem dL_cell_20 : decode cL_cell 20 = .ok (.ireturn, 1) := by decide +kernel
theorem dL_strike_0 : decode cL_strike 0 = .ok (.aload_n 0, 1) := by decide +kernel
theorem dL_strike_1 : decode cL_strike 1 = .ok (.iload_n 1, 1) := by decide +kernel
theorem dL_strike_2 : decode cL_strike 2 = .ok (.invokevirtual 9, 3) := by decide +kernel
theorem dL_strike_5 : decode cL_strike 5 = .ok (.ireturn, 1) := by decide +kernel
theorem dL_strike_6 : decode cL_strike 6 = .ok (.astore_n 2, 1) := by decide +kernel
theorem dL_strike_7 : decode cL_strike 7 = .ok (.bipush (-3), 2) := by decide +kernel
theorem dL_strike_9 : decode cL_strike 9 = .ok (.ireturn, 1) := by decide +kernel
theorem dL_light_0 : decode cL_light 0 = .ok (.aload_n 0, 1) := by decide +kernel
theorem dL_light_1 : decode cL_light 1 = .ok (.iload_n 1, 1) := by decide +kernel
theorem dL_light_2 : decode cL_light 2 = .ok (.iload_n 2, 1) := by decide +kernel
theorem dL_light_3 : decode cL_light 3 = .ok (.invokevirtual 17, 3) := by decide +kernel
theorem dL_light_6 : decode cL_light 6 = .ok (.ireturn, 1) := by decide +kernel
theorem dL_light_7 : decode cL_light 7 = .ok (.astore_n 3, 1) := by decide +kernel
theorem dL_light_8 : decode cL_light 8 = .ok (.bipush (-3), 2) := by decide +kernel
theorem dL_light_10 : decode cL_light 10 = .ok (.ireturn, 1) := by decide +kernel
theorem dL_fresh_0 : decode cL_fresh 0 = .ok (.aload_n 0, 1) := by decide +kernel
theorem dL_fresh_1 : decode cL_fresh 1 = .ok (.iload_n 1, 1) := by decide +kernel
theorem dL_fresh_2 : decode cL_fresh 2 = .ok (.invokevirtual 21, 3) := by decide +kernel
theorem dL_fresh_5 : decode cL_fresh 5 = .ok (.ireturn, 1) := by decide +kernel
theorem dL_fresh_6 : decode cL_fresh 6 = .ok (.astore_n 2, 1) := by decide +kernel
theorem dL_fresh_7 : decode cL_fresh 7 = .ok (.bipush (-3), 2) := by decide +kernel
theorem dL_fresh_9 : decode cL_fresh 9 = .ok (.ireturn, 1) := by decide +kernel
theorem dL_keep_0 : decode cL_keep 0 = .ok (.aload_n 0, 1) := by decide +kernel
theorem dL_keep_1 : decode cL_keep 1 = .ok (.iload_n 1, 1) := by decide +kernel
theorem dL_keep_2 : decode cL_keep 2 = .ok (.iload_n 2, 1) := by decide +kernel
theorem dL_keep_3 : decode cL_keep 3 = .ok (.invokevirtual 24, 3) := by decide +kernel
theorem dL_keep_6 : decode cL_keep 6 = .ok (.ireturn, 1) := by decide +kernel
theorem dL_keep_7 : decode cL_keep 7 = .ok (.astore_n 3, 1) := by decide +kernel
theorem dL_keep_8 : decode cL_keep 8 = .ok (.bipush (-3), 2) := by decide +kernel
theorem dL_keep_10 : decode cL_keep 10 = .ok (.ireturn, 1) := by decide +kernel
theorem dL_undo_0 : decode cL_undo 0 = .ok (.aload_n 0, 1) := by decide +kernel
theorem dL_undo_1 : decode cL_undo 1 = .ok (.invokevirtual 27, 3) := by decide +kernel
theorem dL_undo_4 : decode cL_undo 4 = .ok (.ireturn, 1) := by decide +kernel
theorem dL_undo_5 : decode cL_undo 5 = .ok (.astore_n 1, 1) := by decide +kernel
theorem dL_undo_6 : decode cL_undo 6 = .ok (.bipush (-3), 2) := by decide +kernel
theorem dL_undo_8 : decode cL_undo 8 = .ok (.ireturn, 1) := by decide +kernel
theorem dL_house_0 : decode cL_house 0 = .ok (.iconst 0, 1) := by decide +kernel
theorem dL_house_1 : decode cL_house 1 = .ok (.istore_n 1, 1) := by decide +kernel
theorem dL_house_2 : decode cL_house 2 = .ok (.iconst 0, 1) := by decide +kernel
theorem dL_house_3 : decode cL_house 3 = .ok (.istore_n 2, 1) := by decide +kernel
theorem dL_house_4 : decode cL_house 4 = .ok (.aload_n 0, 1) := by decide +kernel
theorem dL_house_5 : decode cL_house 5 = .ok (.bipush 6, 2) := by decide +kernel
theorem dL_house_7 : decode cL_house 7 = .ok (.invokevirtual 31, 3) := by decide +kernel
theorem dL_house_10 : decode cL_house 10 = .ok (.aload_n 0, 1) := by decide +kernel
theorem dL_house_11 : decode cL_house 11 = .ok (.iconst 5, 1) := by decide +kernel
theorem dL_house_12 : decode cL_house 12 = .ok (.invokevirtual 31, 3) := by decide +kernel
theorem dL_house_15 : decode cL_house 15 = .ok (.if_icmp .gt 75, 3) := by decide +kernel
theorem dL_house_18 : decode cL_house 18 = .ok (.aload_n 0, 1) := by decide +kernel
theorem dL_house_19 : decode cL_house 19 = .ok (.iconst 1, 1) := by decide +kernel
theorem dL_house_20 : decode cL_house 20 = .ok (.invokevirtual 31, 3) := by decide +kernel
theorem dL_house_23 : decode cL_house 23 = .ok (.ifCond .lt 67, 3) := by decide +kernel
theorem dL_house_26 : decode cL_house 26 = .ok (.aload_n 0, 1) := by decide +kernel
theorem dL_house_27 : decode cL_house 27 = .ok (.iconst 1, 1) := by decide +kernel
theorem dL_house_28 : decode cL_house 28 = .ok (.invokevirtual 31, 3) := by decide +kernel
theorem dL_house_31 : decode cL_house 31 = .ok (.bipush 12, 2) := by decide +kernel
theorem dL_house_33 : decode cL_house 33 = .ok (.if_icmp .gt 57, 3) := by decide +kernel
theorem dL_house_36 : decode cL_house 36 = .ok (.aload_n 0, 1) := by decide +kernel
theorem dL_house_37 : decode cL_house 37 = .ok (.bipush 8, 2) := by decide +kernel
theorem dL_house_39 : decode cL_house 39 = .ok (.invokevirtual 31, 3) := by decide +kernel
theorem dL_house_42 : decode cL_house 42 = .ok (.iconst (-1), 1) := by decide +kernel
theorem dL_house_43 : decode cL_house 43 = .ok (.if_icmp .ne 7, 3) := by decide +kernel
theorem dL_house_46 : decode cL_house 46 = .ok (.iconst 1, 1) := by decide +kernel
theorem dL_house_47 : decode cL_house 47 = .ok (.goto 4, 3) := by decide +kernel
theorem dL_house_50 : decode cL_house 50 = .ok (.iconst 0, 1) := by decide +kernel
theorem dL_house_51 : decode cL_house 51 = .ok (.aload_n 0, 1) := by decide +kernel
theorem dL_house_52 : decode cL_house 52 = .ok (.bipush 9, 2) := by decide +kernel
theorem dL_house_54 : decode cL_house 54 = .ok (.invokevirtual 31, 3) := by decide +kernel
theorem dL_house_57 : decode cL_house 57 = .ok (.ifCond .ne 7, 3) := by decide +kernel
theorem dL_house_60 : decode cL_house 60 = .ok (.iconst 1, 1) := by decide +kernel
theorem dL_house_61 : decode cL_house 61 = .ok (.goto 4, 3) := by decide +kernel
theorem dL_house_64 : decode cL_house 64 = .ok (.iconst 0, 1) := by decide +kernel
theorem dL_house_65 : decode cL_house 65 = .ok (.if_icmp .ne 25, 3) := by decide +kernel
theorem dL_house_68 : decode cL_house 68 = .ok (.aload_n 0, 1) := by decide +kernel
theorem dL_house_69 : decode cL_house 69 = .ok (.invokevirtual 34, 3) := by decide +kernel
theorem dL_house_72 : decode cL_house 72 = .ok (.dconst 0, 1) := by decide +kernel
theorem dL_house_73 : decode cL_house 73 = .ok (.dcmp .l, 1) := by decide +kernel
theorem dL_house_74 : decode cL_house 74 = .ok (.ifCond .lt 16, 3) := by decide +kernel
theorem dL_house_77 : decode cL_house 77 = .ok (.aload_n 0, 1) := by decide +kernel
theorem dL_house_78 : decode cL_house 78 = .ok (.invokevirtual 34, 3) := by decide +kernel
theorem dL_house_81 : decode cL_house 81 = .ok (.dconst 1, 1) := by decide +kernel
theorem dL_house_82 : decode cL_house 82 = .ok (.dcmp .g, 1) := by decide +kernel
theorem dL_house_83 : decode cL_house 83 = .ok (.ifCond .gt 7, 3) := by decide +kernel
theorem dL_house_86 : decode cL_house 86 = .ok (.iconst 1, 1) := by decide +kernel
theorem dL_house_87 : decode cL_house 87 = .ok (.goto 4, 3) := by decide +kernel
theorem dL_house_90 : decode cL_house 90 = .ok (.iconst 0, 1) := by decide +kernel
theorem dL_house_91 : decode cL_house 91 = .ok (.istore_n 3, 1) := by decide +kernel
theorem dL_house_92 : decode cL_house 92 = .ok (.iconst 0, 1) := by decide +kernel
theorem dL_house_93 : decode cL_house 93 = .ok (.istore 4, 2) := by decide +kernel
theorem dL_house_95 : decode cL_house 95 = .ok (.iload 4, 2) := by decide +kernel
theorem dL_house_97 : decode cL_house 97 = .ok (.bipush 6, 2) := by decide +kernel
theorem dL_house_99 : decode cL_house 99 = .ok (.if_icmp .ge 319, 3) := by decide +kernel
theorem dL_house_102 : decode cL_house 102 = .ok (.iload_n 3, 1) := by decide +kernel
theorem dL_house_103 : decode cL_house 103 = .ok (.ifCond .eq 315, 3) := by decide +kernel
theorem dL_house_106 : decode cL_house 106 = .ok (.aload_n 0, 1) := by decide +kernel
theorem dL_house_107 : decode cL_house 107 = .ok (.iload 4, 2) := by decide +kernel
theorem dL_house_109 : decode cL_house 109 = .ok (.invokevirtual 38, 3) := by decide +kernel
theorem dL_house_112 : decode cL_house 112 = .ok (.istore 5, 2) := by decide +kernel
theorem dL_house_114 : decode cL_house 114 = .ok (.iload_n 1, 1) := by decide +kernel
theorem dL_house_115 : decode cL_house 115 = .ok (.aload_n 0, 1) := by decide +kernel
theorem dL_house_116 : decode cL_house 116 = .ok (.iload 4, 2) := by decide +kernel
theorem dL_house_118 : decode cL_house 118 = .ok (.iconst 1, 1) := by decide +kernel
theorem dL_house_119 : decode cL_house 119 = .ok (.invokevirtual 41, 3) := by decide +kernel
theorem dL_house_122 : decode cL_house 122 = .ok (.iadd, 1) := by decide +kernel
theorem dL_house_123 : decode cL_house 123 = .ok (.istore_n 1, 1) := by decide +kernel
theorem dL_house_124 : decode cL_house 124 = .ok (.iload_n 2, 1) := by decide +kernel
theorem dL_house_125 : decode cL_house 125 = .ok (.aload_n 0, 1) := by decide +kernel
theorem dL_house_126 : decode cL_house 126 = .ok (.iload 4, 2) := by decide +kernel
theorem dL_house_128 : decode cL_house 128 = .ok (.iconst 4, 1) := by decide +kernel
theorem dL_house_129 : decode cL_house 129 = .ok (.invokevirtual 41, 3) := by decide +kernel
theorem dL_house_132 : decode cL_house 132 = .ok (.iadd, 1) := by decide +kernel
theorem dL_house_133 : decode cL_house 133 = .ok (.istore_n 2, 1) := by decide +kernel
theorem dL_house_134 : decode cL_house 134 = .ok (.aload_n 0, 1) := by decide +kernel
theorem dL_house_135 : decode cL_house 135 = .ok (.iload 4, 2) := by decide +kernel
theorem dL_house_137 : decode cL_house 137 = .ok (.iconst 1, 1) := by decide +kernel
theorem dL_house_138 : decode cL_house 138 = .ok (.invokevirtual 41, 3) := by decide +kernel
theorem dL_house_141 : decode cL_house 141 = .ok (.ifCond .eq 13, 3) := by decide +kernel
theorem dL_house_144 : decode cL_house 144 = .ok (.aload_n 0, 1) := by decide +kernel
theorem dL_house_145 : decode cL_house 145 = .ok (.iload 4, 2) := by decide +kernel
theorem dL_house_147 : decode cL_house 147 = .ok (.iconst 0, 1) := by decide +kernel
theorem dL_house_148 : decode cL_house 148 = .ok (.invokevirtual 41, 3) := by decide +kernel
theorem dL_house_151 : decode cL_house 151 = .ok (.ifCond .le 205, 3) := by decide +kernel
theorem dL_house_154 : decode cL_house 154 = .ok (.aload_n 0, 1) := by decide +kernel
theorem dL_house_155 : decode cL_house 155 = .ok (.iload 4, 2) := by decide +kernel
theorem dL_house_157 : decode cL_house 157 = .ok (.iconst 0, 1) := by decide +kernel
theorem dL_house_158 : decode cL_house 158 = .ok (.invokevirtual 41, 3) := by decide +kernel
theorem dL_house_161 : decode cL_house 161 = .ok (.bipush 20, 2) := by decide +kernel
theorem dL_house_163 : decode cL_house 163 = .ok (.if_icmp .gt 193, 3) := by decide +kernel
theorem dL_house_166 : decode cL_house 166 = .ok (.aload_n 0, 1) := by decide +kernel
theorem dL_house_167 : decode cL_house 167 = .ok (.iload 4, 2) := by decide +kernel
theorem dL_house_169 : decode cL_house 169 = .ok (.iconst 2, 1) := by decide +kernel
theorem dL_house_170 : decode cL_house 170 = .ok (.invokevirtual 41, 3) := by decide +kernel
theorem dL_house_173 : decode cL_house 173 = .ok (.bipush 9, 2) := by decide +kernel
theorem dL_house_175 : decode cL_house 175 = .ok (.if_icmp .gt 181, 3) := by decide +kernel
theorem dL_house_178 : decode cL_house 178 = .ok (.aload_n 0, 1) := by decide +kernel
theorem dL_house_179 : decode cL_house 179 = .ok (.iload 4, 2) := by decide +kernel
theorem dL_house_181 : decode cL_house 181 = .ok (.iconst 4, 1) := by decide +kernel
theorem dL_house_182 : decode cL_house 182 = .ok (.invokevirtual 41, 3) := by decide +kernel
theorem dL_house_185 : decode cL_house 185 = .ok (.iconst 4, 1) := by decide +kernel
theorem dL_house_186 : decode cL_house 186 = .ok (.if_icmp .gt 170, 3) := by decide +kernel
theorem dL_house_189 : decode cL_house 189 = .ok (.aload_n 0, 1) := by decide +kernel
theorem dL_house_190 : decode cL_house 190 = .ok (.iload 4, 2) := by decide +kernel
theorem dL_house_192 : decode cL_house 192 = .ok (.bipush 7, 2) := by decide +kernel
theorem dL_house_194 : decode cL_house 194 = .ok (.invokevirtual 41, 3) := by decide +kernel
theorem dL_house_197 : decode cL_house 197 = .ok (.iconst (-1), 1) := by decide +kernel
theorem dL_house_198 : decode cL_house 198 = .ok (.if_icmp .ne 7, 3) := by decide +kernel
theorem dL_house_201 : decode cL_house 201 = .ok (.iconst 1, 1) := by decide +kernel
theorem dL_house_202 : decode cL_house 202 = .ok (.goto 4, 3) := by decide +kernel
theorem dL_house_205 : decode cL_house 205 = .ok (.iconst 0, 1) := by decide +kernel
theorem dL_house_206 : decode cL_house 206 = .ok (.aload_n 0, 1) := by decide +kernel
theorem dL_house_207 : decode cL_house 207 = .ok (.iload 4, 2) := by decide +kernel
theorem dL_house_209 : decode cL_house 209 = .ok (.iconst 4, 1) := by decide +kernel
theorem dL_house_210 : decode cL_house 210 = .ok (.invokevirtual 41, 3) := by decide +kernel
theorem dL_house_213 : decode cL_house 213 = .ok (.ifCond .ne 7, 3) := by decide +kernel
theorem dL_house_216 : decode cL_house 216 = .ok (.iconst 1, 1) := by decide +kernel
theorem dL_house_217 : decode cL_house 217 = .ok (.goto 4, 3) := by decide +kernel
theorem dL_house_220 : decode cL_house 220 = .ok (.iconst 0, 1) := by decide +kernel
theorem dL_house_221 : decode cL_house 221 = .ok (.if_icmp .ne 135, 3) := by decide +kernel
theorem dL_house_224 : decode cL_house 224 = .ok (.iload 5, 2) := by decide +kernel
theorem dL_house_226 : decode cL_house 226 = .ok (.ifCond .ne 7, 3) := by decide +kernel
theorem dL_house_229 : decode cL_house 229 = .ok (.iconst 1, 1) := by decide +kernel
theorem dL_house_230 : decode cL_house 230 = .ok (.goto 4, 3) := by decide +kernel
theorem dL_house_233 : decode cL_house 233 = .ok (.iconst 0, 1) := by decide +kernel
theorem dL_house_234 : decode cL_house 234 = .ok (.aload_n 0, 1) := by decide +kernel
theorem dL_house_235 : decode cL_house 235 = .ok (.iload 4, 2) := by decide +kernel
theorem dL_house_237 : decode cL_house 237 = .ok (.iconst 1, 1) := by decide +kernel
theorem dL_house_238 : decode cL_house 238 = .ok (.invokevirtual 41, 3) := by decide +kernel
theorem dL_house_241 : decode cL_house 241 = .ok (.iconst 1, 1) := by decide +kernel
theorem dL_house_242 : decode cL_house 242 = .ok (.if_icmp .ne 7, 3) := by decide +kernel
theorem dL_house_245 : decode cL_house 245 = .ok (.iconst 1, 1) := by decide +kernel
theorem dL_house_246 : decode cL_house 246 = .ok (.goto 4, 3) := by decide +kernel
theorem dL_house_249 : decode cL_house 249 = .ok (.iconst 0, 1) := by decide +kernel
theorem dL_house_250 : decode cL_house 250 = .ok (.if_icmp .ne 106, 3) := by decide +kernel
theorem dL_house_253 : decode cL_house 253 = .ok (.iload 5, 2) := by decide +kernel
theorem dL_house_255 : decode cL_house 255 = .ok (.iconst 5, 1) := by decide +kernel
theorem dL_house_256 : decode cL_house 256 = .ok (.if_icmp .gt 100, 3) := by decide +kernel
theorem dL_house_259 : decode cL_house 259 = .ok (.iload 5, 2) := by decide +kernel
theorem dL_house_261 : decode cL_house 261 = .ok (.iconst 1, 1) := by decide +kernel
theorem dL_house_262 : decode cL_house 262 = .ok (.if_icmp .lt 13, 3) := by decide +kernel
theorem dL_house_265 : decode cL_house 265 = .ok (.aload_n 0, 1) := by decide +kernel
theorem dL_house_266 : decode cL_house 266 = .ok (.iload 4, 2) := by decide +kernel
theorem dL_house_268 : decode cL_house 268 = .ok (.iconst 0, 1) := by decide +kernel
theorem dL_house_269 : decode cL_house 269 = .ok (.invokevirtual 41, 3) := by decide +kernel
theorem dL_house_272 : decode cL_house 272 = .ok (.ifCond .le 84, 3) := by decide +kernel
theorem dL_house_275 : decode cL_house 275 = .ok (.aload_n 0, 1) := by decide +kernel
theorem dL_house_276 : decode cL_house 276 = .ok (.iload 4, 2) := by decide +kernel
theorem dL_house_278 : decode cL_house 278 = .ok (.iconst 1, 1) := by decide +kernel
theorem dL_house_279 : decode cL_house 279 = .ok (.invokevirtual 41, 3) := by decide +kernel
theorem dL_house_282 : decode cL_house 282 = .ok (.iconst 1, 1) := by decide +kernel
theorem dL_house_283 : decode cL_house 283 = .ok (.if_icmp .eq 12, 3) := by decide +kernel
theorem dL_house_286 : decode cL_house 286 = .ok (.aload_n 0, 1) := by decide +kernel
theorem dL_house_287 : decode cL_house 287 = .ok (.iload 4, 2) := by decide +kernel
theorem dL_house_289 : decode cL_house 289 = .ok (.invokevirtual 44, 3) := by decide +kernel
theorem dL_house_292 : decode cL_house 292 = .ok (.ifCond .ne 64, 3) := by decide +kernel
theorem dL_house_295 : decode cL_house 295 = .ok (.aload_n 0, 1) := by decide +kernel
theorem dL_house_296 : decode cL_house 296 = .ok (.iload 4, 2) := by decide +kernel
theorem dL_house_298 : decode cL_house 298 = .ok (.invokevirtual 44, 3) := by decide +kernel
theorem dL_house_301 : decode cL_house 301 = .ok (.ifCond .lt 55, 3) := by decide +kernel
theorem dL_house_304 : decode cL_house 304 = .ok (.aload_n 0, 1) := by decide +kernel
theorem dL_house_305 : decode cL_house 305 = .ok (.iload 4, 2) := by decide +kernel
theorem dL_house_307 : decode cL_house 307 = .ok (.invokevirtual 47, 3) := by decide +kernel
theorem dL_house_310 : decode cL_house 310 = .ok (.ifCond .ne 7, 3) := by decide +kernel
theorem dL_house_313 : decode cL_house 313 = .ok (.iconst 1, 1) := by decide +kernel
theorem dL_house_314 : decode cL_house 314 = .ok (.goto 4, 3) := by decide +kernel
theorem dL_house_317 : decode cL_house 317 = .ok (.iconst 0, 1) := by decide +kernel
theorem dL_house_318 : decode cL_house 318 = .ok (.aload_n 0, 1) := by decide +kernel
theorem dL_house_319 : decode cL_house 319 = .ok (.iload 4, 2) := by decide +kernel
theorem dL_house_321 : decode cL_house 321 = .ok (.iconst 1, 1) := by decide +kernel
theorem dL_house_322 : decode cL_house 322 = .ok (.invokevirtual 41, 3) := by decide +kernel
theorem dL_house_325 : decode cL_house 325 = .ok (.ifCond .ne 7, 3) := by decide +kernel
theorem dL_house_328 : decode cL_house 328 = .ok (.iconst 1, 1) := by decide +kernel
theorem dL_house_329 : decode cL_house 329 = .ok (.goto 4, 3) := by decide +kernel
theorem dL_house_332 : decode cL_house 332 = .ok (.iconst 0, 1) := by decide +kernel
theorem dL_house_333 : decode cL_house 333 = .ok (.if_icmp .ne 23, 3) := by decide +kernel
theorem dL_house_336 : decode cL_house 336 = .ok (.aload_n 0, 1) := by decide +kernel
theorem dL_house_337 : decode cL_house 337 = .ok (.iload 4, 2) := by decide +kernel
theorem dL_house_339 : decode cL_house 339 = .ok (.invokevirtual 47, 3) := by decide +kernel
theorem dL_house_342 : decode cL_house 342 = .ok (.aload_n 0, 1) := by decide +kernel
theorem dL_house_343 : decode cL_house 343 = .ok (.iload 4, 2) := by decide +kernel
theorem dL_house_345 : decode cL_house 345 = .ok (.iconst 0, 1) := by decide +kernel
theorem dL_house_346 : decode cL_house 346 = .ok (.invokevirtual 41, 3) := by decide +kernel
theorem dL_house_349 : decode cL_house 349 = .ok (.if_icmp .gt 7, 3) := by decide +kernel
theorem dL_house_352 : decode cL_house 352 = .ok (.iconst 1, 1) := by decide +kernel
theorem dL_house_353 : decode cL_house 353 = .ok (.goto 4, 3) := by decide +kernel
theorem dL_house_356 : decode cL_house 356 = .ok (.iconst 0, 1) := by decide +kernel
theorem dL_house_357 : decode cL_house 357 = .ok (.istore_n 3, 1) := by decide +kernel
theorem dL_house_358 : decode cL_house 358 = .ok (.iload_n 3, 1) := by decide +kernel
theorem dL_house_359 : decode cL_house 359 = .ok (.ifCond .eq 53, 3) := by decide +kernel
theorem dL_house_362 : decode cL_house 362 = .ok (.aload_n 0, 1) := by decide +kernel
theorem dL_house_363 : decode cL_house 363 = .ok (.iload 4, 2) := by decide +kernel
theorem dL_house_365 : decode cL_house 365 = .ok (.iconst 4, 1) := by decide +kernel
theorem dL_house_366 : decode cL_house 366 = .ok (.invokevirtual 41, 3) := by decide +kernel
theorem dL_house_369 : decode cL_house 369 = .ok (.ifCond .le 43, 3) := by decide +kernel
theorem dL_house_372 : decode cL_house 372 = .ok (.aload_n 0, 1) := by decide +kernel
theorem dL_house_373 : decode cL_house 373 = .ok (.aload_n 0, 1) := by decide +kernel
theorem dL_house_374 : decode cL_house 374 = .ok (.iload 4, 2) := by decide +kernel
theorem dL_house_376 : decode cL_house 376 = .ok (.bipush 7, 2) := by decide +kernel
theorem dL_house_378 : decode cL_house 378 = .ok (.invokevirtual 41, 3) := by decide +kernel
theorem dL_house_381 : decode cL_house 381 = .ok (.iconst 0, 1) := by decide +kernel
theorem dL_house_382 : decode cL_house 382 = .ok (.invokevirtual 50, 3) := by decide +kernel
theorem dL_house_385 : decode cL_house 385 = .ok (.iload 4, 2) := by decide +kernel
theorem dL_house_387 : decode cL_house 387 = .ok (.if_icmp .ne 23, 3) := by decide +kernel
theorem dL_house_390 : decode cL_house 390 = .ok (.aload_n 0, 1) := by decide +kernel
theorem dL_house_391 : decode cL_house 391 = .ok (.aload_n 0, 1) := by decide +kernel
theorem dL_house_392 : decode cL_house 392 = .ok (.iload 4, 2) := by decide +kernel
theorem dL_house_394 : decode cL_house 394 = .ok (.bipush 7, 2) := by decide +kernel
theorem dL_house_396 : decode cL_house 396 = .ok (.invokevirtual 41, 3) := by decide +kernel
theorem dL_house_399 : decode cL_house 399 = .ok (.iconst 2, 1) := by decide +kernel
theorem dL_house_400 : decode cL_house 400 = .ok (.invokevirtual 50, 3) := by decide +kernel
theorem dL_house_403 : decode cL_house 403 = .ok (.ifCond .ne 7, 3) := by decide +kernel
theorem dL_house_406 : decode cL_house 406 = .ok (.iconst 1, 1) := by decide +kernel
theorem dL_house_407 : decode cL_house 407 = .ok (.goto 4, 3) := by decide +kernel
theorem dL_house_410 : decode cL_house 410 = .ok (.iconst 0, 1) := by decide +kernel
theorem dL_house_411 : decode cL_house 411 = .ok (.istore_n 3, 1) := by decide +kernel
theorem dL_house_412 : decode cL_house 412 = .ok (.iinc 4 1, 3) := by decide +kernel
theorem dL_house_415 : decode cL_house 415 = .ok (.goto (-320), 3) := by decide +kernel
theorem dL_house_418 : decode cL_house 418 = .ok (.iload_n 3, 1) := by decide +kernel
theorem dL_house_419 : decode cL_house 419 = .ok (.ifCond .eq 88, 3) := by decide +kernel
theorem dL_house_422 : decode cL_house 422 = .ok (.aload_n 0, 1) := by decide +kernel
theorem dL_house_423 : decode cL_house 423 = .ok (.iconst 2, 1) := by decide +kernel
theorem dL_house_424 : decode cL_house 424 = .ok (.invokevirtual 31, 3) := by decide +kernel
theorem dL_house_427 : decode cL_house 427 = .ok (.iload_n 1, 1) := by decide +kernel
theorem dL_house_428 : decode cL_house 428 = .ok (.if_icmp .ne 79, 3) := by decide +kernel
theorem dL_house_431 : decode cL_house 431 = .ok (.aload_n 0, 1) := by decide +kernel
theorem dL_house_432 : decode cL_house 432 = .ok (.iconst 3, 1) := by decide +kernel
theorem dL_house_433 : decode cL_house 433 = .ok (.invokevirtual 31, 3) := by decide +kernel
theorem dL_house_436 : decode cL_house 436 = .ok (.iload_n 2, 1) := by decide +kernel
theorem dL_house_437 : decode cL_house 437 = .ok (.if_icmp .ne 70, 3) := by decide +kernel
theorem dL_house_440 : decode cL_house 440 = .ok (.aload_n 0, 1) := by decide +kernel
theorem dL_house_441 : decode cL_house 441 = .ok (.invokevirtual 53, 3) := by decide +kernel
theorem dL_house_444 : decode cL_house 444 = .ok (.iconst (-1), 1) := by decide +kernel
theorem dL_house_445 : decode cL_house 445 = .ok (.if_icmp .ne 7, 3) := by decide +kernel
theorem dL_house_448 : decode cL_house 448 = .ok (.iconst 1, 1) := by decide +kernel
theorem dL_house_449 : decode cL_house 449 = .ok (.goto 4, 3) := by decide +kernel
theorem dL_house_452 : decode cL_house 452 = .ok (.iconst 0, 1) := by decide +kernel
theorem dL_house_453 : decode cL_house 453 = .ok (.iload_n 2, 1) := by decide +kernel
theorem dL_house_454 : decode cL_house 454 = .ok (.ifCond .ne 7, 3) := by decide +kernel
theorem dL_house_457 : decode cL_house 457 = .ok (.iconst 1, 1) := by decide +kernel
theorem dL_house_458 : decode cL_house 458 = .ok (.goto 4, 3) := by decide +kernel
theorem dL_house_461 : decode cL_house 461 = .ok (.iconst 0, 1) := by decide +kernel
theorem dL_house_462 : decode cL_house 462 = .ok (.if_icmp .ne 45, 3) := by decide +kernel
theorem dL_house_465 : decode cL_house 465 = .ok (.aload_n 0, 1) := by decide +kernel
theorem dL_house_466 : decode cL_house 466 = .ok (.invokevirtual 56, 3) := by decide +kernel
theorem dL_house_469 : decode cL_house 469 = .ok (.iconst (-1), 1) := by decide +kernel
theorem dL_house_470 : decode cL_house 470 = .ok (.if_icmp .ne 7, 3) := by decide +kernel
theorem dL_house_473 : decode cL_house 473 = .ok (.iconst 1, 1) := by decide +kernel
theorem dL_house_474 : decode cL_house 474 = .ok (.goto 4, 3) := by decide +kernel
theorem dL_house_477 : decode cL_house 477 = .ok (.iconst 0, 1) := by decide +kernel
theorem dL_house_478 : decode cL_house 478 = .ok (.iload_n 2, 1) := by decide +kernel
theorem dL_house_479 : decode cL_house 479 = .ok (.ifCond .ne 7, 3) := by decide +kernel
theorem dL_house_482 : decode cL_house 482 = .ok (.iconst 1, 1) := by decide +kernel
theorem dL_house_483 : decode cL_house 483 = .ok (.goto 4, 3) := by decide +kernel
theorem dL_house_486 : decode cL_house 486 = .ok (.iconst 0, 1) := by decide +kernel
theorem dL_house_487 : decode cL_house 487 = .ok (.if_icmp .ne 20, 3) := by decide +kernel
theorem dL_house_490 : decode cL_house 490 = .ok (.iload_n 1, 1) := by decide +kernel
theorem dL_house_491 : decode cL_house 491 = .ok (.ifCond .gt 12, 3) := by decide +kernel
theorem dL_house_494 : decode cL_house 494 = .ok (.aload_n 0, 1) := by decide +kernel
theorem dL_house_495 : decode cL_house 495 = .ok (.iconst 0, 1) := by decide +kernel
theorem dL_house_496 : decode cL_house 496 = .ok (.invokevirtual 38, 3) := by decide +kernel
theorem dL_house_499 : decode cL_house 499 = .ok (.iconst 1, 1) := by decide +kernel
theorem dL_house_500 : decode cL_house 500 = .ok (.if_icmp .gt 7, 3) := by decide +kernel
theorem dL_house_503 : decode cL_house 503 = .ok (.iconst 1, 1) := by decide +kernel
theorem dL_house_504 : decode cL_house 504 = .ok (.goto 4, 3) := by decide +kernel
theorem dL_house_507 : decode cL_house 507 = .ok (.iconst 0, 1) := by decide +kernel
theorem dL_house_508 : decode cL_house 508 = .ok (.ireturn, 1) := by decide +kernel
theorem dL_act_0 : decode cL_act 0 = .ok (.aload_n 1, 1) := by decide +kernel
theorem dL_act_1 : decode cL_act 1 = .ok (.iload_n 2, 1) := by decide +kernel
theorem dL_act_2 : decode cL_act 2 = .ok (.iconst 1, 1) := by decide +kernel
theorem dL_act_3 : decode cL_act 3 = .ok (.iadd, 1) := by decide +kernel
theorem dL_act_4 : decode cL_act 4 = .ok (.invokestatic 59, 3) := by decide +kernel
theorem dL_act_7 : decode cL_act 7 = .ok (.istore_n 3, 1) := by decide +kernel
theorem dL_act_8 : decode cL_act 8 = .ok (.aload_n 1, 1) := by decide +kernel
theorem dL_act_9 : decode cL_act 9 = .ok (.iload_n 2, 1) := by decide +kernel
theorem dL_act_10 : decode cL_act 10 = .ok (.iconst 2, 1) := by decide +kernel
theorem dL_act_11 : decode cL_act 11 = .ok (.iadd, 1) := by decide +kernel
theorem dL_act_12 : decode cL_act 12 = .ok (.invokestatic 59, 3) := by decide +kernel
theorem dL_act_15 : decode cL_act 15 = .ok (.istore 4, 2) := by decide +kernel
theorem dL_act_17 : decode cL_act 17 = .ok (.iload_n 3, 1) := by decide +kernel
theorem dL_act_18 : decode cL_act 18 = .ok (.bipush 6, 2) := by decide +kernel
theorem dL_act_20 : decode cL_act 20 = .ok (.invokestatic 65, 3) := by decide +kernel
theorem dL_act_23 : decode cL_act 23 = .ok (.istore 5, 2) := by decide +kernel
theorem dL_act_25 : decode cL_act 25 = .ok (.iload 4, 2) := by decide +kernel
theorem dL_act_27 : decode cL_act 27 = .ok (.bipush 24, 2) := by decide +kernel
theorem dL_act_29 : decode cL_act 29 = .ok (.invokestatic 65, 3) := by decide +kernel
theorem dL_act_32 : decode cL_act 32 = .ok (.istore 6, 2) := by decide +kernel
theorem dL_act_34 : decode cL_act 34 = .ok (.aload_n 1, 1) := by decide +kernel
theorem dL_act_35 : decode cL_act 35 = .ok (.iload_n 2, 1) := by decide +kernel
theorem dL_act_36 : decode cL_act 36 = .ok (.invokestatic 59, 3) := by decide +kernel
theorem dL_act_39 : decode cL_act 39 = .ok (.bipush 24, 2) := by decide +kernel
theorem dL_act_41 : decode cL_act 41 = .ok (.invokestatic 65, 3) := by decide +kernel
theorem dL_act_44 : decode cL_act 44 = .ok (.tableswitch 234 0 20 #[100, 100, 100, 107, 107, 107, 107, 134, 134, 141, 162, 183, 199, 199, 199, 199, 199, 208, 208, 215, 220], 100) := by decide +kernel
theorem dL_act_144 : decode cL_act 144 = .ok (.aload_n 0, 1) := by decide +kernel
theorem dL_act_145 : decode cL_act 145 = .ok (.iload 5, 2) := by decide +kernel
theorem dL_act_147 : decode cL_act 147 = .ok (.invokestatic 68, 3) := by decide +kernel
theorem dL_act_150 : decode cL_act 150 = .ok (.ireturn, 1) := by decide +kernel
theorem dL_act_151 : decode cL_act 151 = .ok (.aload_n 0, 1) := by decide +kernel
theorem dL_act_152 : decode cL_act 152 = .ok (.iload 5, 2) := by decide +kernel
theorem dL_act_154 : decode cL_act 154 = .ok (.iload 5, 2) := by decide +kernel
theorem dL_act_156 : decode cL_act 156 = .ok (.iload 4, 2) := by decide +kernel
theorem dL_act_158 : decode cL_act 158 = .ok (.iconst 3, 1) := by decide +kernel
theorem dL_act_159 : decode cL_act 159 = .ok (.invokestatic 65, 3) := by decide +kernel
theorem dL_act_162 : decode cL_act 162 = .ok (.ifCond .le 7, 3) := by decide +kernel
theorem dL_act_165 : decode cL_act 165 = .ok (.iconst 5, 1) := by decide +kernel
theorem dL_act_166 : decode cL_act 166 = .ok (.goto 4, 3) := by decide +kernel
theorem dL_act_169 : decode cL_act 169 = .ok (.iconst 1, 1) := by decide +kernel
theorem dL_act_170 : decode cL_act 170 = .ok (.iadd, 1) := by decide +kernel
theorem dL_act_171 : decode cL_act 171 = .ok (.bipush 6, 2) := by decide +kernel
theorem dL_act_173 : decode cL_act 173 = .ok (.irem, 1) := by decide +kernel
theorem dL_act_174 : decode cL_act 174 = .ok (.invokestatic 71, 3) := by decide +kernel
theorem dL_act_177 : decode cL_act 177 = .ok (.ireturn, 1) := by decide +kernel
theorem dL_act_178 : decode cL_act 178 = .ok (.aload_n 0, 1) := by decide +kernel
theorem dL_act_179 : decode cL_act 179 = .ok (.iload 5, 2) := by decide +kernel
theorem dL_act_181 : decode cL_act 181 = .ok (.invokestatic 74, 3) := by decide +kernel
theorem dL_act_184 : decode cL_act 184 = .ok (.ireturn, 1) := by decide +kernel
theorem dL_act_185 : decode cL_act 185 = .ok (.aload_n 0, 1) := by decide +kernel
theorem dL_act_186 : decode cL_act 186 = .ok (.iload 5, 2) := by decide +kernel
theorem dL_act_188 : decode cL_act 188 = .ok (.iload 4, 2) := by decide +kernel
theorem dL_act_190 : decode cL_act 190 = .ok (.iconst 3, 1) := by decide +kernel
theorem dL_act_191 : decode cL_act 191 = .ok (.invokestatic 65, 3) := by decide +kernel
theorem dL_act_194 : decode cL_act 194 = .ok (.ifCond .le 7, 3) := by decide +kernel
theorem dL_act_197 : decode cL_act 197 = .ok (.iconst 1, 1) := by decide +kernel
theorem dL_act_198 : decode cL_act 198 = .ok (.goto 4, 3) := by decide +kernel
theorem dL_act_201 : decode cL_act 201 = .ok (.iconst 0, 1) := by decide +kernel
theorem dL_act_202 : decode cL_act 202 = .ok (.invokevirtual 76, 3) := by decide +kernel
theorem dL_act_205 : decode cL_act 205 = .ok (.ireturn, 1) := by decide +kernel
theorem dL_act_206 : decode cL_act 206 = .ok (.aload_n 0, 1) := by decide +kernel
theorem dL_act_207 : decode cL_act 207 = .ok (.iload 5, 2) := by decide +kernel
theorem dL_act_209 : decode cL_act 209 = .ok (.iload 4, 2) := by decide +kernel
theorem dL_act_211 : decode cL_act 211 = .ok (.iconst 2, 1) := by decide +kernel
theorem dL_act_212 : decode cL_act 212 = .ok (.invokestatic 65, 3) := by decide +kernel
theorem dL_act_215 : decode cL_act 215 = .ok (.ifCond .ne 7, 3) := by decide +kernel
theorem dL_act_218 : decode cL_act 218 = .ok (.iconst 1, 1) := by decide +kernel
theorem dL_act_219 : decode cL_act 219 = .ok (.goto 4, 3) := by decide +kernel
theorem dL_act_222 : decode cL_act 222 = .ok (.iconst 0, 1) := by decide +kernel
theorem dL_act_223 : decode cL_act 223 = .ok (.invokevirtual 80, 3) := by decide +kernel
theorem dL_act_226 : decode cL_act 226 = .ok (.ireturn, 1) := by decide +kernel
theorem dL_act_227 : decode cL_act 227 = .ok (.aload_n 0, 1) := by decide +kernel
theorem dL_act_228 : decode cL_act 228 = .ok (.iload 5, 2) := by decide +kernel
theorem dL_act_230 : decode cL_act 230 = .ok (.iconst 1, 1) := by decide +kernel
theorem dL_act_231 : decode cL_act 231 = .ok (.iload 4, 2) := by decide +kernel
theorem dL_act_233 : decode cL_act 233 = .ok (.bipush 6, 2) := by decide +kernel
theorem dL_act_235 : decode cL_act 235 = .ok (.invokestatic 65, 3) := by decide +kernel
theorem dL_act_238 : decode cL_act 238 = .ok (.iadd, 1) := by decide +kernel
theorem dL_act_239 : decode cL_act 239 = .ok (.invokevirtual 83, 3) := by decide +kernel
theorem dL_act_242 : decode cL_act 242 = .ok (.ireturn, 1) := by decide +kernel
theorem dL_act_243 : decode cL_act 243 = .ok (.aload_n 0, 1) := by decide +kernel
theorem dL_act_244 : decode cL_act 244 = .ok (.iload 5, 2) := by decide +kernel
theorem dL_act_246 : decode cL_act 246 = .ok (.iload 6, 2) := by decide +kernel
theorem dL_act_248 : decode cL_act 248 = .ok (.invokestatic 86, 3) := by decide +kernel
theorem dL_act_251 : decode cL_act 251 = .ok (.ireturn, 1) := by decide +kernel
theorem dL_act_252 : decode cL_act 252 = .ok (.aload_n 0, 1) := by decide +kernel
theorem dL_act_253 : decode cL_act 253 = .ok (.iload 6, 2) := by decide +kernel
theorem dL_act_255 : decode cL_act 255 = .ok (.invokevirtual 88, 3) := by decide +kernel
theorem dL_act_258 : decode cL_act 258 = .ok (.ireturn, 1) := by decide +kernel
theorem dL_act_259 : decode cL_act 259 = .ok (.aload_n 0, 1) := by decide +kernel
theorem dL_act_260 : decode cL_act 260 = .ok (.invokestatic 91, 3) := by decide +kernel
theorem dL_act_263 : decode cL_act 263 = .ok (.ireturn, 1) := by decide +kernel
theorem dL_act_264 : decode cL_act 264 = .ok (.aload_n 0, 1) := by decide +kernel
theorem dL_act_265 : decode cL_act 265 = .ok (.iconst 1, 1) := by decide +kernel
theorem dL_act_266 : decode cL_act 266 = .ok (.iload 4, 2) := by decide +kernel
theorem dL_act_268 : decode cL_act 268 = .ok (.bipush 30, 2) := by decide +kernel
theorem dL_act_270 : decode cL_act 270 = .ok (.invokestatic 65, 3) := by decide +kernel
theorem dL_act_273 : decode cL_act 273 = .ok (.iadd, 1) := by decide +kernel
theorem dL_act_274 : decode cL_act 274 = .ok (.invokevirtual 94, 3) := by decide +kernel
theorem dL_act_277 : decode cL_act 277 = .ok (.ireturn, 1) := by decide +kernel
theorem dL_act_278 : decode cL_act 278 = .ok (.aload_n 0, 1) := by decide +kernel
theorem dL_act_279 : decode cL_act 279 = .ok (.iconst 1, 1) := by decide +kernel
theorem dL_act_280 : decode cL_act 280 = .ok (.iload 4, 2) := by decide +kernel
theorem dL_act_282 : decode cL_act 282 = .ok (.iload_n 3, 1) := by decide +kernel
theorem dL_act_283 : decode cL_act 283 = .ok (.iconst 3, 1) := by decide +kernel
theorem dL_act_284 : decode cL_act 284 = .ok (.ishr, 1) := by decide +kernel
theorem dL_act_285 : decode cL_act 285 = .ok (.iconst 4, 1) := by decide +kernel
theorem dL_act_286 : decode cL_act 286 = .ok (.invokestatic 65, 3) := by decide +kernel
theorem dL_act_289 : decode cL_act 289 = .ok (.ifCond .ne 8, 3) := by decide +kernel
theorem dL_act_292 : decode cL_act 292 = .ok (.bipush 20, 2) := by decide +kernel
theorem dL_act_294 : decode cL_act 294 = .ok (.goto 4, 3) := by decide +kernel
theorem dL_act_297 : decode cL_act 297 = .ok (.iconst 3, 1) := by decide +kernel
theorem dL_act_298 : decode cL_act 298 = .ok (.invokestatic 65, 3) := by decide +kernel
theorem dL_act_301 : decode cL_act 301 = .ok (.iadd, 1) := by decide +kernel
theorem dL_act_302 : decode cL_act 302 = .ok (.invokevirtual 97, 3) := by decide +kernel
theorem dL_act_305 : decode cL_act 305 = .ok (.ireturn, 1) := by decide +kernel
set_option maxRecDepth 20000 in
theorem dL_law_0 : decode cL_law 0 = .ok (.new 10, 3) := by decide +kernel
set_option maxRecDepth 20000 in
theorem dL_law_3 : decode cL_law 3 = .ok (.dup, 1) := by decide +kernel
set_option maxRecDepth 20000 in
theorem dL_law_4 : decode cL_law 4 = .ok (.invokespecial 100, 3) := by decide +kernel
set_option maxRecDepth 20000 in
theorem dL_law_7 : decode cL_law 7 = .ok (.astore_n 1, 1) := by decide +kernel
set_option maxRecDepth 20000 in
theorem dL_law_8 : decode cL_law 8 = .ok (.iconst 1, 1) := by decide +kernel
set_option maxRecDepth 20000 in
theorem dL_law_9 : decode cL_law 9 = .ok (.istore_n 2, 1) := by decide +kernel
set_option maxRecDepth 20000 in
theorem dL_law_10 : decode cL_law 10 = .ok (.aload_n 0, 1) := by decide +kernel
set_option maxRecDepth 20000 in
theorem dL_law_11 : decode cL_law 11 = .ok (.arraylength, 1) := by decide +kernel
set_option maxRecDepth 20000 in
theorem dL_law_12 : decode cL_law 12 = .ok (.iconst 3, 1) := by decide +kernel
set_option maxRecDepth 20000 in
theorem dL_law_13 : decode cL_law 13 = .ok (.idiv, 1) := by decide +kernel
set_option maxRecDepth 20000 in
theorem dL_law_14 : decode cL_law 14 = .ok (.bipush 45, 2) := by decide +kernel
set_option maxRecDepth 20000 in
theorem dL_law_16 : decode cL_law 16 = .ok (.if_icmp .le 8, 3) := by decide +kernel
set_option maxRecDepth 20000 in
theorem dL_law_19 : decode cL_law 19 = .ok (.bipush 45, 2) := by decide +kernel
set_option maxRecDepth 20000 in
theorem dL_law_21 : decode cL_law 21 = .ok (.goto 7, 3) := by decide +kernel
set_option maxRecDepth 20000 in
theorem dL_law_24 : decode cL_law 24 = .ok (.aload_n 0, 1) := by decide +kernel
set_option maxRecDepth 20000 in
theorem dL_law_25 : decode cL_law 25 = .ok (.arraylength, 1) := by decide +kernel
set_option maxRecDepth 20000 in
theorem dL_law_26 : decode cL_law 26 = .ok (.iconst 3, 1) := by decide +kernel
set_option maxRecDepth 20000 in
theorem dL_law_27 : decode cL_law 27 = .ok (.idiv, 1) := by decide +kernel
set_option maxRecDepth 20000 in
theorem dL_law_28 : decode cL_law 28 = .ok (.istore_n 3, 1) := by decide +kernel
set_option maxRecDepth 20000 in
theorem dL_law_29 : decode cL_law 29 = .ok (.iconst 0, 1) := by decide +kernel
set_option maxRecDepth 20000 in
theorem dL_law_30 : decode cL_law 30 = .ok (.istore 4, 2) := by decide +kernel
set_option maxRecDepth 20000 in
theorem dL_law_32 : decode cL_law 32 = .ok (.iload 4, 2) := by decide +kernel
set_option maxRecDepth 20000 in
theorem dL_law_34 : decode cL_law 34 = .ok (.iload_n 3, 1) := by decide +kernel
set_option maxRecDepth 20000 in
theorem dL_law_35 : decode cL_law 35 = .ok (.if_icmp .ge 581, 3) := by decide +kernel
set_option maxRecDepth 20000 in
theorem dL_law_38 : decode cL_law 38 = .ok (.iload_n 2, 1) := by decide +kernel
set_option maxRecDepth 20000 in
theorem dL_law_39 : decode cL_law 39 = .ok (.ifCond .eq 577, 3) := by decide +kernel
set_option maxRecDepth 20000 in
theorem dL_law_42 : decode cL_law 42 = .ok (.aload_n 1, 1) := by decide +kernel
set_option maxRecDepth 20000 in
theorem dL_law_43 : decode cL_law 43 = .ok (.bipush 11, 2) := by decide +kernel
set_option maxRecDepth 20000 in
theorem dL_law_45 : decode cL_law 45 = .ok (.invokevirtual 31, 3) := by decide +kernel
set_option maxRecDepth 20000 in
theorem dL_law_48 : decode cL_law 48 = .ok (.istore 5, 2) := by decide +kernel
set_option maxRecDepth 20000 in
theorem dL_law_50 : decode cL_law 50 = .ok (.aload_n 1, 1) := by decide +kernel
set_option maxRecDepth 20000 in
theorem dL_law_51 : decode cL_law 51 = .ok (.iconst 0, 1) := by decide +kernel
set_option maxRecDepth 20000 in
theorem dL_law_52 : decode cL_law 52 = .ok (.invokevirtual 31, 3) := by decide +kernel
set_option maxRecDepth 20000 in
theorem dL_law_55 : decode cL_law 55 = .ok (.istore 6, 2) := by decide +kernel
set_option maxRecDepth 20000 in
theorem dL_law_57 : decode cL_law 57 = .ok (.aload_n 1, 1) := by decide +kernel
set_option maxRecDepth 20000 in
theorem dL_law_58 : decode cL_law 58 = .ok (.iconst 4, 1) := by decide +kernel
set_option maxRecDepth 20000 in
theorem dL_law_59 : decode cL_law 59 = .ok (.invokevirtual 31, 3) := by decide +kernel
set_option maxRecDepth 20000 in
theorem dL_law_62 : decode cL_law 62 = .ok (.istore 7, 2) := by decide +kernel
set_option maxRecDepth 20000 in
theorem dL_law_64 : decode cL_law 64 = .ok (.aload_n 1, 1) := by decide +kernel
set_option maxRecDepth 20000 in
theorem dL_law_65 : decode cL_law 65 = .ok (.iconst 5, 1) := by decide +kernel
set_option maxRecDepth 20000 in
theorem dL_law_66 : decode cL_law 66 = .ok (.invokevirtual 31, 3) := by decide +kernel
set_option maxRecDepth 20000 in
theorem dL_law_69 : decode cL_law 69 = .ok (.istore 8, 2) := by decide +kernel
set_option maxRecDepth 20000 in
theorem dL_law_71 : decode cL_law 71 = .ok (.aload_n 1, 1) := by decide +kernel
set_option maxRecDepth 20000 in
theorem dL_law_72 : decode cL_law 72 = .ok (.bipush 6, 2) := by decide +kernel
set_option maxRecDepth 20000 in
theorem dL_law_74 : decode cL_law 74 = .ok (.invokevirtual 31, 3) := by decide +kernel
set_option maxRecDepth 20000 in
theorem dL_law_77 : decode cL_law 77 = .ok (.istore 9, 2) := by decide +kernel
set_option maxRecDepth 20000 in
theorem dL_law_79 : decode cL_law 79 = .ok (.aload_n 1, 1) := by decide +kernel
set_option maxRecDepth 20000 in
theorem dL_law_80 : decode cL_law 80 = .ok (.iconst 3, 1) := by decide +kernel
set_option maxRecDepth 20000 in
theorem dL_law_81 : decode cL_law 81 = .ok (.invokevirtual 31, 3) := by decide +kernel
set_option maxRecDepth 20000 in
theorem dL_law_84 : decode cL_law 84 = .ok (.istore 10, 2) := by decide +kernel
set_option maxRecDepth 20000 in
theorem dL_law_86 : decode cL_law 86 = .ok (.aload_n 1, 1) := by decide +kernel
set_option maxRecDepth 20000 in
theorem dL_law_87 : decode cL_law 87 = .ok (.iconst 2, 1) := by decide +kernel
set_option maxRecDepth 20000 in
theorem dL_law_88 : decode cL_law 88 = .ok (.invokevirtual 31, 3) := by decide +kernel
set_option maxRecDepth 20000 in
theorem dL_law_91 : decode cL_law 91 = .ok (.istore 11, 2) := by decide +kernel
set_option maxRecDepth 20000 in
theorem dL_law_93 : decode cL_law 93 = .ok (.aload_n 0, 1) := by decide +kernel
set_option maxRecDepth 20000 in
theorem dL_law_94 : decode cL_law 94 = .ok (.iconst 3, 1) := by decide +kernel
set_option maxRecDepth 20000 in
theorem dL_law_95 : decode cL_law 95 = .ok (.iload 4, 2) := by decide +kernel
set_option maxRecDepth 20000 in
theorem dL_law_97 : decode cL_law 97 = .ok (.imul, 1) := by decide +kernel
set_option maxRecDepth 20000 in
theorem dL_law_98 : decode cL_law 98 = .ok (.invokestatic 59, 3) := by decide +kernel
set_option maxRecDepth 20000 in
theorem dL_law_101 : decode cL_law 101 = .ok (.bipush 24, 2) := by decide +kernel
set_option maxRecDepth 20000 in
theorem dL_law_103 : decode cL_law 103 = .ok (.invokestatic 65, 3) := by decide +kernel
set_option maxRecDepth 20000 in
theorem dL_law_106 : decode cL_law 106 = .ok (.istore 12, 2) := by decide +kernel
set_option maxRecDepth 20000 in
theorem dL_law_108 : decode cL_law 108 = .ok (.aload_n 0, 1) := by decide +kernel
set_option maxRecDepth 20000 in
theorem dL_law_109 : decode cL_law 109 = .ok (.iconst 3, 1) := by decide +kernel
set_option maxRecDepth 20000 in
theorem dL_law_110 : decode cL_law 110 = .ok (.iload 4, 2) := by decide +kernel
set_option maxRecDepth 20000 in
theorem dL_law_112 : decode cL_law 112 = .ok (.imul, 1) := by decide +kernel
set_option maxRecDepth 20000 in
theorem dL_law_113 : decode cL_law 113 = .ok (.iconst 2, 1) := by decide +kernel
set_option maxRecDepth 20000 in
theorem dL_law_114 : decode cL_law 114 = .ok (.iadd, 1) := by decide +kernel
set_option maxRecDepth 20000 in
theorem dL_law_115 : decode cL_law 115 = .ok (.invokestatic 59, 3) := by decide +kernel
set_option maxRecDepth 20000 in
theorem dL_law_118 : decode cL_law 118 = .ok (.bipush 24, 2) := by decide +kernel
set_option maxRecDepth 20000 in
theorem dL_law_120 : decode cL_law 120 = .ok (.invokestatic 65, 3) := by decide +kernel
set_option maxRecDepth 20000 in
theorem dL_law_123 : decode cL_law 123 = .ok (.istore 13, 2) := by decide +kernel
set_option maxRecDepth 20000 in
theorem dL_law_125 : decode cL_law 125 = .ok (.aload_n 1, 1) := by decide +kernel
set_option maxRecDepth 20000 in
theorem dL_law_126 : decode cL_law 126 = .ok (.iload 13, 2) := by decide +kernel
set_option maxRecDepth 20000 in
theorem dL_law_128 : decode cL_law 128 = .ok (.iconst 0, 1) := by decide +kernel
set_option maxRecDepth 20000 in
theorem dL_law_129 : decode cL_law 129 = .ok (.invokevirtual 50, 3) := by decide +kernel
set_option maxRecDepth 20000 in
theorem dL_law_132 : decode cL_law 132 = .ok (.istore 14, 2) := by decide +kernel
set_option maxRecDepth 20000 in
theorem dL_law_134 : decode cL_law 134 = .ok (.iload 14, 2) := by decide +kernel
set_option maxRecDepth 20000 in
theorem dL_law_136 : decode cL_law 136 = .ok (.ifCond .lt 18, 3) := by decide +kernel
set_option maxRecDepth 20000 in
theorem dL_law_139 : decode cL_law 139 = .ok (.aload_n 1, 1) := by decide +kernel
set_option maxRecDepth 20000 in
theorem dL_law_140 : decode cL_law 140 = .ok (.iload 14, 2) := by decide +kernel
set_option maxRecDepth 20000 in
theorem dL_law_142 : decode cL_law 142 = .ok (.iconst 1, 1) := by decide +kernel
set_option maxRecDepth 20000 in
theorem dL_law_143 : decode cL_law 143 = .ok (.invokevirtual 41, 3) := by decide +kernel
set_option maxRecDepth 20000 in
theorem dL_law_146 : decode cL_law 146 = .ok (.iconst 1, 1) := by decide +kernel
set_option maxRecDepth 20000 in
theorem dL_law_147 : decode cL_law 147 = .ok (.if_icmp .ne 7, 3) := by decide +kernel
set_option maxRecDepth 20000 in
theorem dL_law_150 : decode cL_law 150 = .ok (.iconst 1, 1) := by decide +kernel
set_option maxRecDepth 20000 in
theorem dL_law_151 : decode cL_law 151 = .ok (.goto 4, 3) := by decide +kernel
set_option maxRecDepth 20000 in
theorem dL_law_154 : decode cL_law 154 = .ok (.iconst 0, 1) := by decide +kernel
set_option maxRecDepth 20000 in
theorem dL_law_155 : decode cL_law 155 = .ok (.istore 15, 2) := by decide +kernel
set_option maxRecDepth 20000 in
theorem dL_law_157 : decode cL_law 157 = .ok (.aload_n 1, 1) := by decide +kernel
set_option maxRecDepth 20000 in
theorem dL_law_158 : decode cL_law 158 = .ok (.aload_n 0, 1) := by decide +kernel
set_option maxRecDepth 20000 in
theorem dL_law_159 : decode cL_law 159 = .ok (.iconst 3, 1) := by decide +kernel
set_option maxRecDepth 20000 in
theorem dL_law_160 : decode cL_law 160 = .ok (.iload 4, 2) := by decide +kernel
set_option maxRecDepth 20000 in
theorem dL_law_162 : decode cL_law 162 = .ok (.imul, 1) := by decide +kernel
set_option maxRecDepth 20000 in
theorem dL_law_163 : decode cL_law 163 = .ok (.invokestatic 101, 3) := by decide +kernel
set_option maxRecDepth 20000 in
theorem dL_law_166 : decode cL_law 166 = .ok (.istore 16, 2) := by decide +kernel
set_option maxRecDepth 20000 in
theorem dL_law_168 : decode cL_law 168 = .ok (.iload 16, 2) := by decide +kernel
set_option maxRecDepth 20000 in
theorem dL_law_170 : decode cL_law 170 = .ok (.bipush (-3), 2) := by decide +kernel
set_option maxRecDepth 20000 in
theorem dL_law_172 : decode cL_law 172 = .ok (.if_icmp .ne 44, 3) := by decide +kernel
set_option maxRecDepth 20000 in
theorem dL_law_175 : decode cL_law 175 = .ok (.aload_n 1, 1) := by decide +kernel
set_option maxRecDepth 20000 in
theorem dL_law_176 : decode cL_law 176 = .ok (.bipush 11, 2) := by decide +kernel
set_option maxRecDepth 20000 in
theorem dL_law_178 : decode cL_law 178 = .ok (.invokevirtual 31, 3) := by decide +kernel
set_option maxRecDepth 20000 in
theorem dL_law_181 : decode cL_law 181 = .ok (.iload 5, 2) := by decide +kernel
set_option maxRecDepth 20000 in
theorem dL_law_183 : decode cL_law 183 = .ok (.if_icmp .ne 37, 3) := by decide +kernel
set_option maxRecDepth 20000 in
theorem dL_law_186 : decode cL_law 186 = .ok (.aload_n 1, 1) := by decide +kernel
set_option maxRecDepth 20000 in
theorem dL_law_187 : decode cL_law 187 = .ok (.iconst 0, 1) := by decide +kernel
set_option maxRecDepth 20000 in
theorem dL_law_188 : decode cL_law 188 = .ok (.invokevirtual 31, 3) := by decide +kernel
set_option maxRecDepth 20000 in
theorem dL_law_191 : decode cL_law 191 = .ok (.iload 6, 2) := by decide +kernel
set_option maxRecDepth 20000 in
theorem dL_law_193 : decode cL_law 193 = .ok (.if_icmp .ne 27, 3) := by decide +kernel
set_option maxRecDepth 20000 in
theorem dL_law_196 : decode cL_law 196 = .ok (.aload_n 1, 1) := by decide +kernel
set_option maxRecDepth 20000 in
theorem dL_law_197 : decode cL_law 197 = .ok (.iconst 3, 1) := by decide +kernel
set_option maxRecDepth 20000 in
theorem dL_law_198 : decode cL_law 198 = .ok (.invokevirtual 31, 3) := by decide +kernel
set_option maxRecDepth 20000 in
theorem dL_law_201 : decode cL_law 201 = .ok (.iload 10, 2) := by decide +kernel
set_option maxRecDepth 20000 in
theorem dL_law_203 : decode cL_law 203 = .ok (.if_icmp .ne 17, 3) := by decide +kernel
set_option maxRecDepth 20000 in
theorem dL_law_206 : decode cL_law 206 = .ok (.aload_n 1, 1) := by decide +kernel
set_option maxRecDepth 20000 in
theorem dL_law_207 : decode cL_law 207 = .ok (.iconst 2, 1) := by decide +kernel
set_option maxRecDepth 20000 in
theorem dL_law_208 : decode cL_law 208 = .ok (.invokevirtual 31, 3) := by decide +kernel
set_option maxRecDepth 20000 in
theorem dL_law_211 : decode cL_law 211 = .ok (.iload 11, 2) := by decide +kernel
set_option maxRecDepth 20000 in
theorem dL_law_213 : decode cL_law 213 = .ok (.if_icmp .ne 7, 3) := by decide +kernel
set_option maxRecDepth 20000 in
theorem dL_law_216 : decode cL_law 216 = .ok (.iconst 1, 1) := by decide +kernel
set_option maxRecDepth 20000 in
theorem dL_law_217 : decode cL_law 217 = .ok (.goto 4, 3) := by decide +kernel
set_option maxRecDepth 20000 in
theorem dL_law_220 : decode cL_law 220 = .ok (.iconst 0, 1) := by decide +kernel
set_option maxRecDepth 20000 in
theorem dL_law_221 : decode cL_law 221 = .ok (.istore_n 2, 1) := by decide +kernel
set_option maxRecDepth 20000 in
theorem dL_law_222 : decode cL_law 222 = .ok (.iload 12, 2) := by decide +kernel
set_option maxRecDepth 20000 in
theorem dL_law_224 : decode cL_law 224 = .ok (.bipush 17, 2) := by decide +kernel
set_option maxRecDepth 20000 in
theorem dL_law_226 : decode cL_law 226 = .ok (.if_icmp .eq 10, 3) := by decide +kernel
set_option maxRecDepth 20000 in
theorem dL_law_229 : decode cL_law 229 = .ok (.iload 12, 2) := by decide +kernel
set_option maxRecDepth 20000 in
theorem dL_law_231 : decode cL_law 231 = .ok (.bipush 18, 2) := by decide +kernel
set_option maxRecDepth 20000 in
theorem dL_law_233 : decode cL_law 233 = .ok (.if_icmp .ne 98, 3) := by decide +kernel
set_option maxRecDepth 20000 in
theorem dL_law_236 : decode cL_law 236 = .ok (.iload_n 2, 1) := by decide +kernel
set_option maxRecDepth 20000 in
theorem dL_law_237 : decode cL_law 237 = .ok (.ifCond .eq 92, 3) := by decide +kernel
set_option maxRecDepth 20000 in
theorem dL_law_240 : decode cL_law 240 = .ok (.iload 16, 2) := by decide +kernel
set_option maxRecDepth 20000 in
theorem dL_law_242 : decode cL_law 242 = .ok (.iload 14, 2) := by decide +kernel
set_option maxRecDepth 20000 in
theorem dL_law_244 : decode cL_law 244 = .ok (.if_icmp .ne 85, 3) := by decide +kernel
set_option maxRecDepth 20000 in
theorem dL_law_247 : decode cL_law 247 = .ok (.aload_n 1, 1) := by decide +kernel
set_option maxRecDepth 20000 in
theorem dL_law_248 : decode cL_law 248 = .ok (.iconst 5, 1) := by decide +kernel
set_option maxRecDepth 20000 in
theorem dL_law_249 : decode cL_law 249 = .ok (.invokevirtual 31, 3) := by decide +kernel
set_option maxRecDepth 20000 in
theorem dL_law_252 : decode cL_law 252 = .ok (.iload 8, 2) := by decide +kernel
set_option maxRecDepth 20000 in
theorem dL_law_254 : decode cL_law 254 = .ok (.iload 14, 2) := by decide +kernel
set_option maxRecDepth 20000 in
theorem dL_law_256 : decode cL_law 256 = .ok (.ifCond .lt 7, 3) := by decide +kernel
set_option maxRecDepth 20000 in
theorem dL_law_259 : decode cL_law 259 = .ok (.iconst 1, 1) := by decide +kernel
set_option maxRecDepth 20000 in
theorem dL_law_260 : decode cL_law 260 = .ok (.goto 4, 3) := by decide +kernel
set_option maxRecDepth 20000 in
theorem dL_law_263 : decode cL_law 263 = .ok (.iconst 0, 1) := by decide +kernel
set_option maxRecDepth 20000 in
theorem dL_law_264 : decode cL_law 264 = .ok (.iadd, 1) := by decide +kernel
set_option maxRecDepth 20000 in
theorem dL_law_265 : decode cL_law 265 = .ok (.if_icmp .ne 64, 3) := by decide +kernel
set_option maxRecDepth 20000 in
theorem dL_law_268 : decode cL_law 268 = .ok (.aload_n 1, 1) := by decide +kernel
set_option maxRecDepth 20000 in
theorem dL_law_269 : decode cL_law 269 = .ok (.bipush 6, 2) := by decide +kernel
set_option maxRecDepth 20000 in
theorem dL_law_271 : decode cL_law 271 = .ok (.invokevirtual 31, 3) := by decide +kernel
set_option maxRecDepth 20000 in
theorem dL_law_274 : decode cL_law 274 = .ok (.iload 9, 2) := by decide +kernel
set_option maxRecDepth 20000 in
theorem dL_law_276 : decode cL_law 276 = .ok (.iload 14, 2) := by decide +kernel
set_option maxRecDepth 20000 in
theorem dL_law_278 : decode cL_law 278 = .ok (.ifCond .lt 12, 3) := by decide +kernel
set_option maxRecDepth 20000 in
theorem dL_law_281 : decode cL_law 281 = .ok (.iload 15, 2) := by decide +kernel
set_option maxRecDepth 20000 in
theorem dL_law_283 : decode cL_law 283 = .ok (.ifCond .ne 7, 3) := by decide +kernel
set_option maxRecDepth 20000 in
theorem dL_law_286 : decode cL_law 286 = .ok (.iconst 1, 1) := by decide +kernel
set_option maxRecDepth 20000 in
theorem dL_law_287 : decode cL_law 287 = .ok (.goto 4, 3) := by decide +kernel
set_option maxRecDepth 20000 in
theorem dL_law_290 : decode cL_law 290 = .ok (.iconst 0, 1) := by decide +kernel
set_option maxRecDepth 20000 in
theorem dL_law_291 : decode cL_law 291 = .ok (.iadd, 1) := by decide +kernel
set_option maxRecDepth 20000 in
theorem dL_law_292 : decode cL_law 292 = .ok (.if_icmp .ne 37, 3) := by decide +kernel
set_option maxRecDepth 20000 in
theorem dL_law_295 : decode cL_law 295 = .ok (.aload_n 1, 1) := by decide +kernel
set_option maxRecDepth 20000 in
theorem dL_law_296 : decode cL_law 296 = .ok (.iconst 0, 1) := by decide +kernel
set_option maxRecDepth 20000 in
theorem dL_law_297 : decode cL_law 297 = .ok (.invokevirtual 31, 3) := by decide +kernel
set_option maxRecDepth 20000 in
theorem dL_law_300 : decode cL_law 300 = .ok (.iload 6, 2) := by decide +kernel
set_option maxRecDepth 20000 in
theorem dL_law_302 : decode cL_law 302 = .ok (.iload 14, 2) := by decide +kernel
set_option maxRecDepth 20000 in
theorem dL_law_304 : decode cL_law 304 = .ok (.ifCond .ge 7, 3) := by decide +kernel
set_option maxRecDepth 20000 in
theorem dL_law_307 : decode cL_law 307 = .ok (.iconst 0, 1) := by decide +kernel
set_option maxRecDepth 20000 in
theorem dL_law_308 : decode cL_law 308 = .ok (.goto 13, 3) := by decide +kernel
set_option maxRecDepth 20000 in
theorem dL_law_311 : decode cL_law 311 = .ok (.iload 15, 2) := by decide +kernel
set_option maxRecDepth 20000 in
theorem dL_law_313 : decode cL_law 313 = .ok (.ifCond .eq 7, 3) := by decide +kernel
set_option maxRecDepth 20000 in
theorem dL_law_316 : decode cL_law 316 = .ok (.iconst 1, 1) := by decide +kernel
set_option maxRecDepth 20000 in
theorem dL_law_317 : decode cL_law 317 = .ok (.goto 4, 3) := by decide +kernel
set_option maxRecDepth 20000 in
theorem dL_law_320 : decode cL_law 320 = .ok (.iconst 3, 1) := by decide +kernel
set_option maxRecDepth 20000 in
theorem dL_law_321 : decode cL_law 321 = .ok (.iadd, 1) := by decide +kernel
set_option maxRecDepth 20000 in
theorem dL_law_322 : decode cL_law 322 = .ok (.if_icmp .ne 7, 3) := by decide +kernel
set_option maxRecDepth 20000 in
theorem dL_law_325 : decode cL_law 325 = .ok (.iconst 1, 1) := by decide +kernel
set_option maxRecDepth 20000 in
theorem dL_law_326 : decode cL_law 326 = .ok (.goto 4, 3) := by decide +kernel
set_option maxRecDepth 20000 in
theorem dL_law_329 : decode cL_law 329 = .ok (.iconst 0, 1) := by decide +kernel
set_option maxRecDepth 20000 in
theorem dL_law_330 : decode cL_law 330 = .ok (.istore_n 2, 1) := by decide +kernel
set_option maxRecDepth 20000 in
theorem dL_law_331 : decode cL_law 331 = .ok (.iload 12, 2) := by decide +kernel
set_option maxRecDepth 20000 in
theorem dL_law_333 : decode cL_law 333 = .ok (.bipush 20, 2) := by decide +kernel
set_option maxRecDepth 20000 in
theorem dL_law_335 : decode cL_law 335 = .ok (.if_icmp .le 203, 3) := by decide +kernel
set_option maxRecDepth 20000 in
theorem dL_law_338 : decode cL_law 338 = .ok (.aload_n 1, 1) := by decide +kernel
set_option maxRecDepth 20000 in
theorem dL_law_339 : decode cL_law 339 = .ok (.iconst 0, 1) := by decide +kernel
set_option maxRecDepth 20000 in
theorem dL_law_340 : decode cL_law 340 = .ok (.invokevirtual 31, 3) := by decide +kernel
set_option maxRecDepth 20000 in
theorem dL_law_343 : decode cL_law 343 = .ok (.iload 6, 2) := by decide +kernel
set_option maxRecDepth 20000 in
theorem dL_law_345 : decode cL_law 345 = .ok (.isub, 1) := by decide +kernel
set_option maxRecDepth 20000 in
theorem dL_law_346 : decode cL_law 346 = .ok (.istore 17, 2) := by decide +kernel
set_option maxRecDepth 20000 in
theorem dL_law_348 : decode cL_law 348 = .ok (.iload_n 2, 1) := by decide +kernel
set_option maxRecDepth 20000 in
theorem dL_law_349 : decode cL_law 349 = .ok (.ifCond .eq 66, 3) := by decide +kernel
set_option maxRecDepth 20000 in
theorem dL_law_352 : decode cL_law 352 = .ok (.iload 17, 2) := by decide +kernel
set_option maxRecDepth 20000 in
theorem dL_law_354 : decode cL_law 354 = .ok (.iconst 1, 1) := by decide +kernel
set_option maxRecDepth 20000 in
theorem dL_law_355 : decode cL_law 355 = .ok (.if_icmp .lt 60, 3) := by decide +kernel
set_option maxRecDepth 20000 in
theorem dL_law_358 : decode cL_law 358 = .ok (.iload 17, 2) := by decide +kernel
set_option maxRecDepth 20000 in
theorem dL_law_360 : decode cL_law 360 = .ok (.bipush 20, 2) := by decide +kernel
set_option maxRecDepth 20000 in
theorem dL_law_362 : decode cL_law 362 = .ok (.if_icmp .gt 53, 3) := by decide +kernel
set_option maxRecDepth 20000 in
theorem dL_law_365 : decode cL_law 365 = .ok (.aload_n 1, 1) := by decide +kernel
set_option maxRecDepth 20000 in
theorem dL_law_366 : decode cL_law 366 = .ok (.iconst 4, 1) := by decide +kernel
set_option maxRecDepth 20000 in
theorem dL_law_367 : decode cL_law 367 = .ok (.invokevirtual 31, 3) := by decide +kernel
set_option maxRecDepth 20000 in
theorem dL_law_370 : decode cL_law 370 = .ok (.iload 7, 2) := by decide +kernel
set_option maxRecDepth 20000 in
theorem dL_law_372 : decode cL_law 372 = .ok (.iload 16, 2) := by decide +kernel
set_option maxRecDepth 20000 in
theorem dL_law_374 : decode cL_law 374 = .ok (.iadd, 1) := by decide +kernel
set_option maxRecDepth 20000 in
theorem dL_law_375 : decode cL_law 375 = .ok (.if_icmp .ne 40, 3) := by decide +kernel
set_option maxRecDepth 20000 in
theorem dL_law_378 : decode cL_law 378 = .ok (.aload_n 1, 1) := by decide +kernel
set_option maxRecDepth 20000 in
theorem dL_law_379 : decode cL_law 379 = .ok (.iconst 3, 1) := by decide +kernel
set_option maxRecDepth 20000 in
theorem dL_law_380 : decode cL_law 380 = .ok (.invokevirtual 31, 3) := by decide +kernel
set_option maxRecDepth 20000 in
theorem dL_law_383 : decode cL_law 383 = .ok (.iload 10, 2) := by decide +kernel
set_option maxRecDepth 20000 in
theorem dL_law_385 : decode cL_law 385 = .ok (.iload 16, 2) := by decide +kernel
set_option maxRecDepth 20000 in
theorem dL_law_387 : decode cL_law 387 = .ok (.isub, 1) := by decide +kernel
set_option maxRecDepth 20000 in
theorem dL_law_388 : decode cL_law 388 = .ok (.if_icmp .ne 27, 3) := by decide +kernel
set_option maxRecDepth 20000 in
theorem dL_law_391 : decode cL_law 391 = .ok (.aload_n 1, 1) := by decide +kernel
set_option maxRecDepth 20000 in
theorem dL_law_392 : decode cL_law 392 = .ok (.bipush 8, 2) := by decide +kernel
set_option maxRecDepth 20000 in
theorem dL_law_394 : decode cL_law 394 = .ok (.invokevirtual 31, 3) := by decide +kernel
set_option maxRecDepth 20000 in
theorem dL_law_397 : decode cL_law 397 = .ok (.iconst (-1), 1) := by decide +kernel
set_option maxRecDepth 20000 in
theorem dL_law_398 : decode cL_law 398 = .ok (.if_icmp .ne 17, 3) := by decide +kernel
set_option maxRecDepth 20000 in
theorem dL_law_401 : decode cL_law 401 = .ok (.aload_n 1, 1) := by decide +kernel
set_option maxRecDepth 20000 in
theorem dL_law_402 : decode cL_law 402 = .ok (.iconst 2, 1) := by decide +kernel
set_option maxRecDepth 20000 in
theorem dL_law_403 : decode cL_law 403 = .ok (.invokevirtual 31, 3) := by decide +kernel
set_option maxRecDepth 20000 in
theorem dL_law_406 : decode cL_law 406 = .ok (.iload 11, 2) := by decide +kernel
set_option maxRecDepth 20000 in
theorem dL_law_408 : decode cL_law 408 = .ok (.if_icmp .gt 7, 3) := by decide +kernel
set_option maxRecDepth 20000 in
theorem dL_law_411 : decode cL_law 411 = .ok (.iconst 1, 1) := by decide +kernel
set_option maxRecDepth 20000 in
theorem dL_law_412 : decode cL_law 412 = .ok (.goto 4, 3) := by decide +kernel
set_option maxRecDepth 20000 in
theorem dL_law_415 : decode cL_law 415 = .ok (.iconst 0, 1) := by decide +kernel
set_option maxRecDepth 20000 in
theorem dL_law_416 : decode cL_law 416 = .ok (.istore_n 2, 1) := by decide +kernel
set_option maxRecDepth 20000 in
theorem dL_law_417 : decode cL_law 417 = .ok (.iconst 0, 1) := by decide +kernel
set_option maxRecDepth 20000 in
theorem dL_law_418 : decode cL_law 418 = .ok (.istore 18, 2) := by decide +kernel
set_option maxRecDepth 20000 in
theorem dL_law_420 : decode cL_law 420 = .ok (.iload 18, 2) := by decide +kernel
set_option maxRecDepth 20000 in
theorem dL_law_422 : decode cL_law 422 = .ok (.bipush 24, 2) := by decide +kernel
set_option maxRecDepth 20000 in
theorem dL_law_424 : decode cL_law 424 = .ok (.if_icmp .ge 114, 3) := by decide +kernel
set_option maxRecDepth 20000 in
theorem dL_law_427 : decode cL_law 427 = .ok (.iload_n 2, 1) := by decide +kernel
set_option maxRecDepth 20000 in
theorem dL_law_428 : decode cL_law 428 = .ok (.ifCond .eq 110, 3) := by decide +kernel
set_option maxRecDepth 20000 in
theorem dL_law_431 : decode cL_law 431 = .ok (.aload_n 1, 1) := by decide +kernel
set_option maxRecDepth 20000 in
theorem dL_law_432 : decode cL_law 432 = .ok (.iload 18, 2) := by decide +kernel
set_option maxRecDepth 20000 in
theorem dL_law_434 : decode cL_law 434 = .ok (.iconst 0, 1) := by decide +kernel
set_option maxRecDepth 20000 in
theorem dL_law_435 : decode cL_law 435 = .ok (.invokevirtual 50, 3) := by decide +kernel
set_option maxRecDepth 20000 in
theorem dL_law_438 : decode cL_law 438 = .ok (.ifCond .ge 33, 3) := by decide +kernel
set_option maxRecDepth 20000 in
theorem dL_law_441 : decode cL_law 441 = .ok (.aload_n 1, 1) := by decide +kernel
set_option maxRecDepth 20000 in
theorem dL_law_442 : decode cL_law 442 = .ok (.iload 18, 2) := by decide +kernel
set_option maxRecDepth 20000 in
theorem dL_law_444 : decode cL_law 444 = .ok (.iconst 1, 1) := by decide +kernel
set_option maxRecDepth 20000 in
theorem dL_law_445 : decode cL_law 445 = .ok (.invokevirtual 50, 3) := by decide +kernel
set_option maxRecDepth 20000 in
theorem dL_law_448 : decode cL_law 448 = .ok (.iconst (-1), 1) := by decide +kernel
set_option maxRecDepth 20000 in
theorem dL_law_449 : decode cL_law 449 = .ok (.if_icmp .ne 18, 3) := by decide +kernel
set_option maxRecDepth 20000 in
theorem dL_law_452 : decode cL_law 452 = .ok (.aload_n 1, 1) := by decide +kernel
set_option maxRecDepth 20000 in
theorem dL_law_453 : decode cL_law 453 = .ok (.iload 18, 2) := by decide +kernel
set_option maxRecDepth 20000 in
theorem dL_law_455 : decode cL_law 455 = .ok (.iconst 2, 1) := by decide +kernel
set_option maxRecDepth 20000 in
theorem dL_law_456 : decode cL_law 456 = .ok (.invokevirtual 50, 3) := by decide +kernel
set_option maxRecDepth 20000 in
theorem dL_law_459 : decode cL_law 459 = .ok (.iconst (-1), 1) := by decide +kernel
set_option maxRecDepth 20000 in
theorem dL_law_460 : decode cL_law 460 = .ok (.if_icmp .ne 7, 3) := by decide +kernel
set_option maxRecDepth 20000 in
theorem dL_law_463 : decode cL_law 463 = .ok (.iconst 1, 1) := by decide +kernel
set_option maxRecDepth 20000 in
theorem dL_law_464 : decode cL_law 464 = .ok (.goto 67, 3) := by decide +kernel
set_option maxRecDepth 20000 in
theorem dL_law_467 : decode cL_law 467 = .ok (.iconst 0, 1) := by decide +kernel
set_option maxRecDepth 20000 in
theorem dL_law_468 : decode cL_law 468 = .ok (.goto 63, 3) := by decide +kernel
set_option maxRecDepth 20000 in
theorem dL_law_471 : decode cL_law 471 = .ok (.aload_n 1, 1) := by decide +kernel
set_option maxRecDepth 20000 in
theorem dL_law_472 : decode cL_law 472 = .ok (.iload 18, 2) := by decide +kernel
set_option maxRecDepth 20000 in
theorem dL_law_474 : decode cL_law 474 = .ok (.iconst 1, 1) := by decide +kernel
set_option maxRecDepth 20000 in
theorem dL_law_475 : decode cL_law 475 = .ok (.invokevirtual 50, 3) := by decide +kernel
set_option maxRecDepth 20000 in
theorem dL_law_478 : decode cL_law 478 = .ok (.ifCond .ne 7, 3) := by decide +kernel
set_option maxRecDepth 20000 in
theorem dL_law_481 : decode cL_law 481 = .ok (.iconst 1, 1) := by decide +kernel
set_option maxRecDepth 20000 in
theorem dL_law_482 : decode cL_law 482 = .ok (.goto 4, 3) := by decide +kernel
set_option maxRecDepth 20000 in
theorem dL_law_485 : decode cL_law 485 = .ok (.iconst 0, 1) := by decide +kernel
set_option maxRecDepth 20000 in
theorem dL_law_486 : decode cL_law 486 = .ok (.aload_n 1, 1) := by decide +kernel
set_option maxRecDepth 20000 in
theorem dL_law_487 : decode cL_law 487 = .ok (.aload_n 1, 1) := by decide +kernel
set_option maxRecDepth 20000 in
theorem dL_law_488 : decode cL_law 488 = .ok (.iload 18, 2) := by decide +kernel
set_option maxRecDepth 20000 in
theorem dL_law_490 : decode cL_law 490 = .ok (.iconst 0, 1) := by decide +kernel
set_option maxRecDepth 20000 in
theorem dL_law_491 : decode cL_law 491 = .ok (.invokevirtual 50, 3) := by decide +kernel
set_option maxRecDepth 20000 in
theorem dL_law_494 : decode cL_law 494 = .ok (.iconst 1, 1) := by decide +kernel
set_option maxRecDepth 20000 in
theorem dL_law_495 : decode cL_law 495 = .ok (.invokevirtual 41, 3) := by decide +kernel
set_option maxRecDepth 20000 in
theorem dL_law_498 : decode cL_law 498 = .ok (.iconst 1, 1) := by decide +kernel
set_option maxRecDepth 20000 in
theorem dL_law_499 : decode cL_law 499 = .ok (.if_icmp .ne 7, 3) := by decide +kernel
set_option maxRecDepth 20000 in
theorem dL_law_502 : decode cL_law 502 = .ok (.iconst 1, 1) := by decide +kernel
set_option maxRecDepth 20000 in
theorem dL_law_503 : decode cL_law 503 = .ok (.goto 4, 3) := by decide +kernel
set_option maxRecDepth 20000 in
theorem dL_law_506 : decode cL_law 506 = .ok (.iconst 0, 1) := by decide +kernel
set_option maxRecDepth 20000 in
theorem dL_law_507 : decode cL_law 507 = .ok (.if_icmp .ne 23, 3) := by decide +kernel
set_option maxRecDepth 20000 in
theorem dL_law_510 : decode cL_law 510 = .ok (.aload_n 1, 1) := by decide +kernel
set_option maxRecDepth 20000 in
theorem dL_law_511 : decode cL_law 511 = .ok (.iload 18, 2) := by decide +kernel
set_option maxRecDepth 20000 in
theorem dL_law_513 : decode cL_law 513 = .ok (.iconst 1, 1) := by decide +kernel
set_option maxRecDepth 20000 in
theorem dL_law_514 : decode cL_law 514 = .ok (.invokevirtual 50, 3) := by decide +kernel
set_option maxRecDepth 20000 in
theorem dL_law_517 : decode cL_law 517 = .ok (.aload_n 1, 1) := by decide +kernel
set_option maxRecDepth 20000 in
theorem dL_law_518 : decode cL_law 518 = .ok (.bipush 10, 2) := by decide +kernel
set_option maxRecDepth 20000 in
theorem dL_law_520 : decode cL_law 520 = .ok (.invokevirtual 31, 3) := by decide +kernel
set_option maxRecDepth 20000 in
theorem dL_law_523 : decode cL_law 523 = .ok (.if_icmp .ge 7, 3) := by decide +kernel
set_option maxRecDepth 20000 in
theorem dL_law_526 : decode cL_law 526 = .ok (.iconst 1, 1) := by decide +kernel
set_option maxRecDepth 20000 in
theorem dL_law_527 : decode cL_law 527 = .ok (.goto 4, 3) := by decide +kernel
set_option maxRecDepth 20000 in
theorem dL_law_530 : decode cL_law 530 = .ok (.iconst 0, 1) := by decide +kernel
set_option maxRecDepth 20000 in
theorem dL_law_531 : decode cL_law 531 = .ok (.istore_n 2, 1) := by decide +kernel
set_option maxRecDepth 20000 in
theorem dL_law_532 : decode cL_law 532 = .ok (.iinc 18 1, 3) := by decide +kernel
set_option maxRecDepth 20000 in
theorem dL_law_535 : decode cL_law 535 = .ok (.goto (-115), 3) := by decide +kernel
set_option maxRecDepth 20000 in
theorem dL_law_538 : decode cL_law 538 = .ok (.iload_n 2, 1) := by decide +kernel
set_option maxRecDepth 20000 in
theorem dL_law_539 : decode cL_law 539 = .ok (.ifCond .eq 69, 3) := by decide +kernel
set_option maxRecDepth 20000 in
theorem dL_law_542 : decode cL_law 542 = .ok (.iload 12, 2) := by decide +kernel
set_option maxRecDepth 20000 in
theorem dL_law_544 : decode cL_law 544 = .ok (.iconst 2, 1) := by decide +kernel
set_option maxRecDepth 20000 in
theorem dL_law_545 : decode cL_law 545 = .ok (.if_icmp .gt 22, 3) := by decide +kernel
set_option maxRecDepth 20000 in
theorem dL_law_548 : decode cL_law 548 = .ok (.iload 16, 2) := by decide +kernel
set_option maxRecDepth 20000 in
theorem dL_law_550 : decode cL_law 550 = .ok (.ifCond .lt 17, 3) := by decide +kernel
set_option maxRecDepth 20000 in
theorem dL_law_553 : decode cL_law 553 = .ok (.aload_n 1, 1) := by decide +kernel
set_option maxRecDepth 20000 in
theorem dL_law_554 : decode cL_law 554 = .ok (.iconst 2, 1) := by decide +kernel
set_option maxRecDepth 20000 in
theorem dL_law_555 : decode cL_law 555 = .ok (.invokevirtual 31, 3) := by decide +kernel
set_option maxRecDepth 20000 in
theorem dL_law_558 : decode cL_law 558 = .ok (.iconst 1, 1) := by decide +kernel
set_option maxRecDepth 20000 in
theorem dL_law_559 : decode cL_law 559 = .ok (.if_icmp .ne 49, 3) := by decide +kernel
set_option maxRecDepth 20000 in
theorem dL_law_562 : decode cL_law 562 = .ok (.iload 11, 2) := by decide +kernel
set_option maxRecDepth 20000 in
theorem dL_law_564 : decode cL_law 564 = .ok (.ifCond .ne 44, 3) := by decide +kernel
set_option maxRecDepth 20000 in
theorem dL_law_567 : decode cL_law 567 = .ok (.iload 12, 2) := by decide +kernel
set_option maxRecDepth 20000 in
theorem dL_law_569 : decode cL_law 569 = .ok (.iconst 3, 1) := by decide +kernel
set_option maxRecDepth 20000 in
theorem dL_law_570 : decode cL_law 570 = .ok (.if_icmp .lt 27, 3) := by decide +kernel
set_option maxRecDepth 20000 in
theorem dL_law_573 : decode cL_law 573 = .ok (.iload 12, 2) := by decide +kernel
set_option maxRecDepth 20000 in
theorem dL_law_575 : decode cL_law 575 = .ok (.bipush 6, 2) := by decide +kernel
set_option maxRecDepth 20000 in
theorem dL_law_577 : decode cL_law 577 = .ok (.if_icmp .gt 20, 3) := by decide +kernel
set_option maxRecDepth 20000 in
theorem dL_law_580 : decode cL_law 580 = .ok (.iload 16, 2) := by decide +kernel
set_option maxRecDepth 20000 in
theorem dL_law_582 : decode cL_law 582 = .ok (.ifCond .lt 15, 3) := by decide +kernel
set_option maxRecDepth 20000 in
theorem dL_law_585 : decode cL_law 585 = .ok (.aload_n 1, 1) := by decide +kernel
set_option maxRecDepth 20000 in
theorem dL_law_586 : decode cL_law 586 = .ok (.iconst 2, 1) := by decide +kernel
set_option maxRecDepth 20000 in
theorem dL_law_587 : decode cL_law 587 = .ok (.invokevirtual 31, 3) := by decide +kernel
set_option maxRecDepth 20000 in
theorem dL_law_590 : decode cL_law 590 = .ok (.iload 11, 2) := by decide +kernel
set_option maxRecDepth 20000 in
theorem dL_law_592 : decode cL_law 592 = .ok (.iconst 1, 1) := by decide +kernel
set_option maxRecDepth 20000 in
theorem dL_law_593 : decode cL_law 593 = .ok (.iadd, 1) := by decide +kernel
set_option maxRecDepth 20000 in
theorem dL_law_594 : decode cL_law 594 = .ok (.if_icmp .ne 14, 3) := by decide +kernel
set_option maxRecDepth 20000 in
theorem dL_law_597 : decode cL_law 597 = .ok (.aload_n 1, 1) := by decide +kernel
set_option maxRecDepth 20000 in
theorem dL_law_598 : decode cL_law 598 = .ok (.invokestatic 105, 3) := by decide +kernel
set_option maxRecDepth 20000 in
theorem dL_law_601 : decode cL_law 601 = .ok (.ifCond .eq 7, 3) := by decide +kernel
set_option maxRecDepth 20000 in
theorem dL_law_604 : decode cL_law 604 = .ok (.iconst 1, 1) := by decide +kernel
set_option maxRecDepth 20000 in
theorem dL_law_605 : decode cL_law 605 = .ok (.goto 4, 3) := by decide +kernel
set_option maxRecDepth 20000 in
theorem dL_law_608 : decode cL_law 608 = .ok (.iconst 0, 1) := by decide +kernel
set_option maxRecDepth 20000 in
theorem dL_law_609 : decode cL_law 609 = .ok (.istore_n 2, 1) := by decide +kernel
set_option maxRecDepth 20000 in
theorem dL_law_610 : decode cL_law 610 = .ok (.iinc 4 1, 3) := by decide +kernel
set_option maxRecDepth 20000 in
theorem dL_law_613 : decode cL_law 613 = .ok (.goto (-581), 3) := by decide +kernel
set_option maxRecDepth 20000 in
theorem dL_law_616 : decode cL_law 616 = .ok (.iconst 0, 1) := by decide +kernel
set_option maxRecDepth 20000 in
theorem dL_law_617 : decode cL_law 617 = .ok (.istore 4, 2) := by decide +kernel
set_option maxRecDepth 20000 in
theorem dL_law_619 : decode cL_law 619 = .ok (.iload 4, 2) := by decide +kernel
set_option maxRecDepth 20000 in
theorem dL_law_621 : decode cL_law 621 = .ok (.iconst 5, 1) := by decide +kernel
set_option maxRecDepth 20000 in
theorem dL_law_622 : decode cL_law 622 = .ok (.if_icmp .ge 19, 3) := by decide +kernel
set_option maxRecDepth 20000 in
theorem dL_law_625 : decode cL_law 625 = .ok (.aload_n 1, 1) := by decide +kernel
set_option maxRecDepth 20000 in
theorem dL_law_626 : decode cL_law 626 = .ok (.iload 4, 2) := by decide +kernel
set_option maxRecDepth 20000 in
theorem dL_law_628 : decode cL_law 628 = .ok (.iconst 1, 1) := by decide +kernel
set_option maxRecDepth 20000 in
theorem dL_law_629 : decode cL_law 629 = .ok (.invokevirtual 41, 3) := by decide +kernel
set_option maxRecDepth 20000 in
theorem dL_law_632 : decode cL_law 632 = .ok (.ifCond .ne 9, 3) := by decide +kernel
set_option maxRecDepth 20000 in
theorem dL_law_635 : decode cL_law 635 = .ok (.iinc 4 1, 3) := by decide +kernel
set_option maxRecDepth 20000 in
theorem dL_law_638 : decode cL_law 638 = .ok (.goto (-19), 3) := by decide +kernel
set_option maxRecDepth 20000 in
theorem dL_law_641 : decode cL_law 641 = .ok (.aload_n 1, 1) := by decide +kernel
set_option maxRecDepth 20000 in
theorem dL_law_642 : decode cL_law 642 = .ok (.iload 4, 2) := by decide +kernel
set_option maxRecDepth 20000 in
theorem dL_law_644 : decode cL_law 644 = .ok (.invokevirtual 47, 3) := by decide +kernel
set_option maxRecDepth 20000 in
theorem dL_law_647 : decode cL_law 647 = .ok (.istore 5, 2) := by decide +kernel
set_option maxRecDepth 20000 in
theorem dL_law_649 : decode cL_law 649 = .ok (.iload_n 2, 1) := by decide +kernel
set_option maxRecDepth 20000 in
theorem dL_law_650 : decode cL_law 650 = .ok (.ifCond .eq 38, 3) := by decide +kernel
set_option maxRecDepth 20000 in
theorem dL_law_653 : decode cL_law 653 = .ok (.iload 5, 2) := by decide +kernel
set_option maxRecDepth 20000 in
theorem dL_law_655 : decode cL_law 655 = .ok (.ifCond .le 33, 3) := by decide +kernel
set_option maxRecDepth 20000 in
theorem dL_law_658 : decode cL_law 658 = .ok (.iload 5, 2) := by decide +kernel
set_option maxRecDepth 20000 in
theorem dL_law_660 : decode cL_law 660 = .ok (.bipush 60, 2) := by decide +kernel
set_option maxRecDepth 20000 in
theorem dL_law_662 : decode cL_law 662 = .ok (.if_icmp .gt 26, 3) := by decide +kernel
set_option maxRecDepth 20000 in
theorem dL_law_665 : decode cL_law 665 = .ok (.aload_n 1, 1) := by decide +kernel
set_option maxRecDepth 20000 in
theorem dL_law_666 : decode cL_law 666 = .ok (.iload 5, 2) := by decide +kernel
set_option maxRecDepth 20000 in
theorem dL_law_668 : decode cL_law 668 = .ok (.invokevirtual 97, 3) := by decide +kernel
set_option maxRecDepth 20000 in
theorem dL_law_671 : decode cL_law 671 = .ok (.pop, 1) := by decide +kernel
set_option maxRecDepth 20000 in
theorem dL_law_672 : decode cL_law 672 = .ok (.aload_n 1, 1) := by decide +kernel
set_option maxRecDepth 20000 in
theorem dL_law_673 : decode cL_law 673 = .ok (.iload 4, 2) := by decide +kernel
set_option maxRecDepth 20000 in
theorem dL_law_675 : decode cL_law 675 = .ok (.iconst 1, 1) := by decide +kernel
set_option maxRecDepth 20000 in
theorem dL_law_676 : decode cL_law 676 = .ok (.invokevirtual 41, 3) := by decide +kernel
set_option maxRecDepth 20000 in
theorem dL_law_679 : decode cL_law 679 = .ok (.ifCond .ne 7, 3) := by decide +kernel
set_option maxRecDepth 20000 in
theorem dL_law_682 : decode cL_law 682 = .ok (.iconst 1, 1) := by decide +kernel
set_option maxRecDepth 20000 in
theorem dL_law_683 : decode cL_law 683 = .ok (.goto 4, 3) := by decide +kernel
set_option maxRecDepth 20000 in
theorem dL_law_686 : decode cL_law 686 = .ok (.iconst 0, 1) := by decide +kernel
set_option maxRecDepth 20000 in
theorem dL_law_687 : decode cL_law 687 = .ok (.istore_n 2, 1) := by decide +kernel
set_option maxRecDepth 20000 in
theorem dL_law_688 : decode cL_law 688 = .ok (.iload_n 2, 1) := by decide +kernel
set_option maxRecDepth 20000 in
theorem dL_law_689 : decode cL_law 689 = .ok (.ireturn, 1) := by decide +kernel
