theorem dL_cell_0 : decode cL_cell 0 = .ok (.iload_n 1, 1) := by decide +kernel
theorem dL_cell_1 : decode cL_cell 1 = .ok (.aload_n 0, 1) := by decide +kernel
theorem dL_cell_2 : decode cL_cell 2 = .ok (.arraylength, 1) := by decide +kernel
theorem dL_cell_3 : decode cL_cell 3 = .ok (.if_icmp .ge 9, 3) := by decide +kernel
theorem dL_cell_6 : decode cL_cell 6 = .ok (.aload_n 0, 1) := by decide +kernel
theorem dL_cell_7 : decode cL_cell 7 = .ok (.iload_n 1, 1) := by decide +kernel
theorem dL_cell_8 : decode cL_cell 8 = .ok (.iaload, 1) := by decide +kernel
theorem dL_cell_9 : decode cL_cell 9 = .ok (.goto 15, 3) := by decide +kernel
theorem dL_cell_12 : decode cL_cell 12 = .ok (.sipush 7919, 3) := by decide +kernel
theorem dL_cell_15 : decode cL_cell 15 = .ok (.iload_n 1, 1) := by decide +kernel
theorem dL_cell_16 : decode cL_cell 16 = .ok (.iconst 3, 1) := by decide +kernel
theorem dL_cell_17 : decode cL_cell 17 = .ok (.iadd, 1) := by decide +kernel
theorem dL_cell_18 : decode cL_cell 18 = .ok (.imul, 1) := by decide +kernel
theorem dL_cell_19 : decode cL_cell 19 = .ok (.iload_n 1, 1) := by decide +kernel
theorem dL_cell_20 : decode cL_cell 20 = .ok (.bipush 11, 2) := by decide +kernel
theorem dL_cell_22 : decode cL_cell 22 = .ok (.iadd, 1) := by decide +kernel
theorem dL_cell_23 : decode cL_cell 23 = .ok (.imul, 1) := by decide +kernel
theorem dL_cell_24 : decode cL_cell 24 = .ok (.ireturn, 1) := by decide +kernel
theorem dL_low_0 : decode cL_low 0 = .ok (.iload_n 0, 1) := by decide +kernel
theorem dL_low_1 : decode cL_low 1 = .ok (.ldc 7, 2) := by decide +kernel
theorem dL_low_3 : decode cL_low 3 = .ok (.iand, 1) := by decide +kernel
theorem dL_low_4 : decode cL_low 4 = .ok (.iload_n 1, 1) := by decide +kernel
theorem dL_low_5 : decode cL_low 5 = .ok (.irem, 1) := by decide +kernel
theorem dL_low_6 : decode cL_low 6 = .ok (.ireturn, 1) := by decide +kernel
theorem dL_told_0 : decode cL_told 0 = .ok (.ldc2_w 8, 3) := by decide +kernel
theorem dL_told_3 : decode cL_told 3 = .ok (.lstore_n 1, 1) := by decide +kernel
theorem dL_told_4 : decode cL_told 4 = .ok (.iconst 0, 1) := by decide +kernel
theorem dL_told_5 : decode cL_told 5 = .ok (.istore_n 3, 1) := by decide +kernel
theorem dL_told_6 : decode cL_told 6 = .ok (.iload_n 3, 1) := by decide +kernel
theorem dL_told_7 : decode cL_told 7 = .ok (.bipush 8, 2) := by decide +kernel
theorem dL_told_9 : decode cL_told 9 = .ok (.if_icmp .ge 22, 3) := by decide +kernel
theorem dL_told_12 : decode cL_told 12 = .ok (.ldc2_w 10, 3) := by decide +kernel
theorem dL_told_15 : decode cL_told 15 = .ok (.lload_n 1, 1) := by decide +kernel
theorem dL_told_16 : decode cL_told 16 = .ok (.lmul, 1) := by decide +kernel
theorem dL_told_17 : decode cL_told 17 = .ok (.aload_n 0, 1) := by decide +kernel
theorem dL_told_18 : decode cL_told 18 = .ok (.iload_n 3, 1) := by decide +kernel
theorem dL_told_19 : decode cL_told 19 = .ok (.invokevirtual 12, 3) := by decide +kernel
theorem dL_told_22 : decode cL_told 22 = .ok (.i2l, 1) := by decide +kernel
theorem dL_told_23 : decode cL_told 23 = .ok (.ladd, 1) := by decide +kernel
theorem dL_told_24 : decode cL_told 24 = .ok (.lstore_n 1, 1) := by decide +kernel
theorem dL_told_25 : decode cL_told 25 = .ok (.iinc 3 1, 3) := by decide +kernel
theorem dL_told_28 : decode cL_told 28 = .ok (.goto (-22), 3) := by decide +kernel
theorem dL_told_31 : decode cL_told 31 = .ok (.iconst 0, 1) := by decide +kernel
theorem dL_told_32 : decode cL_told 32 = .ok (.istore_n 3, 1) := by decide +kernel
theorem dL_told_33 : decode cL_told 33 = .ok (.iload_n 3, 1) := by decide +kernel
theorem dL_told_34 : decode cL_told 34 = .ok (.aload_n 0, 1) := by decide +kernel
theorem dL_told_35 : decode cL_told 35 = .ok (.iconst 0, 1) := by decide +kernel
theorem dL_told_36 : decode cL_told 36 = .ok (.invokevirtual 12, 3) := by decide +kernel
theorem dL_told_39 : decode cL_told 39 = .ok (.if_icmp .ge 40, 3) := by decide +kernel
theorem dL_told_42 : decode cL_told 42 = .ok (.iconst 0, 1) := by decide +kernel
theorem dL_told_43 : decode cL_told 43 = .ok (.istore 4, 2) := by decide +kernel
theorem dL_told_45 : decode cL_told 45 = .ok (.iload 4, 2) := by decide +kernel
theorem dL_told_47 : decode cL_told 47 = .ok (.bipush 8, 2) := by decide +kernel
theorem dL_told_49 : decode cL_told 49 = .ok (.if_icmp .ge 24, 3) := by decide +kernel
theorem dL_told_52 : decode cL_told 52 = .ok (.ldc2_w 10, 3) := by decide +kernel
theorem dL_told_55 : decode cL_told 55 = .ok (.lload_n 1, 1) := by decide +kernel
theorem dL_told_56 : decode cL_told 56 = .ok (.lmul, 1) := by decide +kernel
theorem dL_told_57 : decode cL_told 57 = .ok (.aload_n 0, 1) := by decide +kernel
theorem dL_told_58 : decode cL_told 58 = .ok (.iload_n 3, 1) := by decide +kernel
theorem dL_told_59 : decode cL_told 59 = .ok (.iload 4, 2) := by decide +kernel
theorem dL_told_61 : decode cL_told 61 = .ok (.invokevirtual 18, 3) := by decide +kernel
theorem dL_told_64 : decode cL_told 64 = .ok (.i2l, 1) := by decide +kernel
theorem dL_told_65 : decode cL_told 65 = .ok (.ladd, 1) := by decide +kernel
theorem dL_told_66 : decode cL_told 66 = .ok (.lstore_n 1, 1) := by decide +kernel
theorem dL_told_67 : decode cL_told 67 = .ok (.iinc 4 1, 3) := by decide +kernel
theorem dL_told_70 : decode cL_told 70 = .ok (.goto (-25), 3) := by decide +kernel
theorem dL_told_73 : decode cL_told 73 = .ok (.iinc 3 1, 3) := by decide +kernel
theorem dL_told_76 : decode cL_told 76 = .ok (.goto (-43), 3) := by decide +kernel
theorem dL_told_79 : decode cL_told 79 = .ok (.lload_n 1, 1) := by decide +kernel
theorem dL_told_80 : decode cL_told 80 = .ok (.lreturn, 1) := by decide +kernel
theorem dL_act_0 : decode cL_act 0 = .ok (.aload_n 0, 1) := by decide +kernel
theorem dL_act_1 : decode cL_act 1 = .ok (.iconst 0, 1) := by decide +kernel
theorem dL_act_2 : decode cL_act 2 = .ok (.invokevirtual 12, 3) := by decide +kernel
theorem dL_act_5 : decode cL_act 5 = .ok (.istore_n 3, 1) := by decide +kernel
theorem dL_act_6 : decode cL_act 6 = .ok (.aload_n 0, 1) := by decide +kernel
theorem dL_act_7 : decode cL_act 7 = .ok (.iconst 3, 1) := by decide +kernel
theorem dL_act_8 : decode cL_act 8 = .ok (.invokevirtual 12, 3) := by decide +kernel
theorem dL_act_11 : decode cL_act 11 = .ok (.istore 4, 2) := by decide +kernel
theorem dL_act_13 : decode cL_act 13 = .ok (.iload_n 3, 1) := by decide +kernel
theorem dL_act_14 : decode cL_act 14 = .ok (.ifCond .ne 7, 3) := by decide +kernel
theorem dL_act_17 : decode cL_act 17 = .ok (.iconst 0, 1) := by decide +kernel
theorem dL_act_18 : decode cL_act 18 = .ok (.goto 10, 3) := by decide +kernel
theorem dL_act_21 : decode cL_act 21 = .ok (.iload_n 1, 1) := by decide +kernel
theorem dL_act_22 : decode cL_act 22 = .ok (.iconst 4, 1) := by decide +kernel
theorem dL_act_23 : decode cL_act 23 = .ok (.ishr, 1) := by decide +kernel
theorem dL_act_24 : decode cL_act 24 = .ok (.iload_n 3, 1) := by decide +kernel
theorem dL_act_25 : decode cL_act 25 = .ok (.invokestatic 22, 3) := by decide +kernel
theorem dL_act_28 : decode cL_act 28 = .ok (.istore 5, 2) := by decide +kernel
theorem dL_act_30 : decode cL_act 30 = .ok (.aload_n 0, 1) := by decide +kernel
theorem dL_act_31 : decode cL_act 31 = .ok (.invokevirtual 27, 3) := by decide +kernel
theorem dL_act_34 : decode cL_act 34 = .ok (.istore 6, 2) := by decide +kernel
theorem dL_act_36 : decode cL_act 36 = .ok (.iload_n 1, 1) := by decide +kernel
theorem dL_act_37 : decode cL_act 37 = .ok (.bipush 15, 2) := by decide +kernel
theorem dL_act_39 : decode cL_act 39 = .ok (.iand, 1) := by decide +kernel
theorem dL_act_40 : decode cL_act 40 = .ok (.tableswitch 202 0 7 #[48, 70, 86, 86, 107, 122, 122, 186], 48) := by decide +kernel
theorem dL_act_88 : decode cL_act 88 = .ok (.iload_n 3, 1) := by decide +kernel
theorem dL_act_89 : decode cL_act 89 = .ok (.ifCond .ne 8, 3) := by decide +kernel
theorem dL_act_92 : decode cL_act 92 = .ok (.bipush (-9), 2) := by decide +kernel
theorem dL_act_94 : decode cL_act 94 = .ok (.goto 15, 3) := by decide +kernel
theorem dL_act_97 : decode cL_act 97 = .ok (.aload_n 0, 1) := by decide +kernel
theorem dL_act_98 : decode cL_act 98 = .ok (.iload 5, 2) := by decide +kernel
theorem dL_act_100 : decode cL_act 100 = .ok (.iload_n 2, 1) := by decide +kernel
theorem dL_act_101 : decode cL_act 101 = .ok (.bipush 7, 2) := by decide +kernel
theorem dL_act_103 : decode cL_act 103 = .ok (.invokestatic 22, 3) := by decide +kernel
theorem dL_act_106 : decode cL_act 106 = .ok (.invokevirtual 31, 3) := by decide +kernel
theorem dL_act_109 : decode cL_act 109 = .ok (.ireturn, 1) := by decide +kernel
theorem dL_act_110 : decode cL_act 110 = .ok (.iload_n 3, 1) := by decide +kernel
theorem dL_act_111 : decode cL_act 111 = .ok (.ifCond .ne 8, 3) := by decide +kernel
theorem dL_act_114 : decode cL_act 114 = .ok (.bipush (-9), 2) := by decide +kernel
theorem dL_act_116 : decode cL_act 116 = .ok (.goto 9, 3) := by decide +kernel
theorem dL_act_119 : decode cL_act 119 = .ok (.aload_n 0, 1) := by decide +kernel
theorem dL_act_120 : decode cL_act 120 = .ok (.iload 5, 2) := by decide +kernel
theorem dL_act_122 : decode cL_act 122 = .ok (.invokevirtual 34, 3) := by decide +kernel
theorem dL_act_125 : decode cL_act 125 = .ok (.ireturn, 1) := by decide +kernel
theorem dL_act_126 : decode cL_act 126 = .ok (.iload 4, 2) := by decide +kernel
theorem dL_act_128 : decode cL_act 128 = .ok (.ifCond .ne 8, 3) := by decide +kernel
theorem dL_act_131 : decode cL_act 131 = .ok (.bipush (-9), 2) := by decide +kernel
theorem dL_act_133 : decode cL_act 133 = .ok (.goto 13, 3) := by decide +kernel
theorem dL_act_136 : decode cL_act 136 = .ok (.aload_n 0, 1) := by decide +kernel
theorem dL_act_137 : decode cL_act 137 = .ok (.iload_n 2, 1) := by decide +kernel
theorem dL_act_138 : decode cL_act 138 = .ok (.iload 4, 2) := by decide +kernel
theorem dL_act_140 : decode cL_act 140 = .ok (.invokestatic 22, 3) := by decide +kernel
theorem dL_act_143 : decode cL_act 143 = .ok (.invokevirtual 37, 3) := by decide +kernel
theorem dL_act_146 : decode cL_act 146 = .ok (.ireturn, 1) := by decide +kernel
theorem dL_act_147 : decode cL_act 147 = .ok (.iload 4, 2) := by decide +kernel
theorem dL_act_149 : decode cL_act 149 = .ok (.ifCond .ne 8, 3) := by decide +kernel
theorem dL_act_152 : decode cL_act 152 = .ok (.bipush (-9), 2) := by decide +kernel
theorem dL_act_154 : decode cL_act 154 = .ok (.goto 7, 3) := by decide +kernel
theorem dL_act_157 : decode cL_act 157 = .ok (.aload_n 0, 1) := by decide +kernel
theorem dL_act_158 : decode cL_act 158 = .ok (.invokevirtual 40, 3) := by decide +kernel
theorem dL_act_161 : decode cL_act 161 = .ok (.ireturn, 1) := by decide +kernel
theorem dL_act_162 : decode cL_act 162 = .ok (.iload 4, 2) := by decide +kernel
theorem dL_act_164 : decode cL_act 164 = .ok (.ifCond .eq 10, 3) := by decide +kernel
theorem dL_act_167 : decode cL_act 167 = .ok (.aload_n 0, 1) := by decide +kernel
theorem dL_act_168 : decode cL_act 168 = .ok (.invokevirtual 43, 3) := by decide +kernel
theorem dL_act_171 : decode cL_act 171 = .ok (.ifCond .ge 6, 3) := by decide +kernel
theorem dL_act_174 : decode cL_act 174 = .ok (.bipush (-9), 2) := by decide +kernel
theorem dL_act_176 : decode cL_act 176 = .ok (.ireturn, 1) := by decide +kernel
theorem dL_act_177 : decode cL_act 177 = .ok (.aload_n 0, 1) := by decide +kernel
theorem dL_act_178 : decode cL_act 178 = .ok (.invokevirtual 43, 3) := by decide +kernel
theorem dL_act_181 : decode cL_act 181 = .ok (.istore 7, 2) := by decide +kernel
theorem dL_act_183 : decode cL_act 183 = .ok (.iload_n 2, 1) := by decide +kernel
theorem dL_act_184 : decode cL_act 184 = .ok (.iload_n 3, 1) := by decide +kernel
theorem dL_act_185 : decode cL_act 185 = .ok (.iconst 1, 1) := by decide +kernel
theorem dL_act_186 : decode cL_act 186 = .ok (.iadd, 1) := by decide +kernel
theorem dL_act_187 : decode cL_act 187 = .ok (.invokestatic 22, 3) := by decide +kernel
theorem dL_act_190 : decode cL_act 190 = .ok (.iconst 1, 1) := by decide +kernel
theorem dL_act_191 : decode cL_act 191 = .ok (.isub, 1) := by decide +kernel
theorem dL_act_192 : decode cL_act 192 = .ok (.istore 8, 2) := by decide +kernel
theorem dL_act_194 : decode cL_act 194 = .ok (.iload 8, 2) := by decide +kernel
theorem dL_act_196 : decode cL_act 196 = .ok (.iload 7, 2) := by decide +kernel
theorem dL_act_198 : decode cL_act 198 = .ok (.if_icmp .eq 14, 3) := by decide +kernel
theorem dL_act_201 : decode cL_act 201 = .ok (.aload_n 0, 1) := by decide +kernel
theorem dL_act_202 : decode cL_act 202 = .ok (.iload 7, 2) := by decide +kernel
theorem dL_act_204 : decode cL_act 204 = .ok (.iload 8, 2) := by decide +kernel
theorem dL_act_206 : decode cL_act 206 = .ok (.invokevirtual 46, 3) := by decide +kernel
theorem dL_act_209 : decode cL_act 209 = .ok (.ifCond .ne 8, 3) := by decide +kernel
theorem dL_act_212 : decode cL_act 212 = .ok (.bipush (-9), 2) := by decide +kernel
theorem dL_act_214 : decode cL_act 214 = .ok (.goto 11, 3) := by decide +kernel
theorem dL_act_217 : decode cL_act 217 = .ok (.aload_n 0, 1) := by decide +kernel
theorem dL_act_218 : decode cL_act 218 = .ok (.iload 7, 2) := by decide +kernel
theorem dL_act_220 : decode cL_act 220 = .ok (.iload 8, 2) := by decide +kernel
theorem dL_act_222 : decode cL_act 222 = .ok (.invokevirtual 49, 3) := by decide +kernel
theorem dL_act_225 : decode cL_act 225 = .ok (.ireturn, 1) := by decide +kernel
theorem dL_act_226 : decode cL_act 226 = .ok (.iload_n 3, 1) := by decide +kernel
theorem dL_act_227 : decode cL_act 227 = .ok (.ifCond .ne 8, 3) := by decide +kernel
theorem dL_act_230 : decode cL_act 230 = .ok (.bipush (-9), 2) := by decide +kernel
theorem dL_act_232 : decode cL_act 232 = .ok (.goto 9, 3) := by decide +kernel
theorem dL_act_235 : decode cL_act 235 = .ok (.aload_n 0, 1) := by decide +kernel
theorem dL_act_236 : decode cL_act 236 = .ok (.iload 5, 2) := by decide +kernel
theorem dL_act_238 : decode cL_act 238 = .ok (.invokevirtual 52, 3) := by decide +kernel
theorem dL_act_241 : decode cL_act 241 = .ok (.ireturn, 1) := by decide +kernel
theorem dL_act_242 : decode cL_act 242 = .ok (.iload_n 3, 1) := by decide +kernel
theorem dL_act_243 : decode cL_act 243 = .ok (.bipush 12, 2) := by decide +kernel
theorem dL_act_245 : decode cL_act 245 = .ok (.if_icmp .ne 6, 3) := by decide +kernel
theorem dL_act_248 : decode cL_act 248 = .ok (.bipush (-9), 2) := by decide +kernel
theorem dL_act_250 : decode cL_act 250 = .ok (.ireturn, 1) := by decide +kernel
theorem dL_act_251 : decode cL_act 251 = .ok (.iload_n 3, 1) := by decide +kernel
theorem dL_act_252 : decode cL_act 252 = .ok (.ifCond .ne 7, 3) := by decide +kernel
theorem dL_act_255 : decode cL_act 255 = .ok (.iconst 0, 1) := by decide +kernel
theorem dL_act_256 : decode cL_act 256 = .ok (.goto 45, 3) := by decide +kernel
theorem dL_act_259 : decode cL_act 259 = .ok (.iload_n 3, 1) := by decide +kernel
theorem dL_act_260 : decode cL_act 260 = .ok (.iconst 1, 1) := by decide +kernel
theorem dL_act_261 : decode cL_act 261 = .ok (.if_icmp .ne 7, 3) := by decide +kernel
theorem dL_act_264 : decode cL_act 264 = .ok (.iconst 1, 1) := by decide +kernel
theorem dL_act_265 : decode cL_act 265 = .ok (.goto 36, 3) := by decide +kernel
theorem dL_act_268 : decode cL_act 268 = .ok (.iload_n 2, 1) := by decide +kernel
theorem dL_act_269 : decode cL_act 269 = .ok (.iconst 3, 1) := by decide +kernel
theorem dL_act_270 : decode cL_act 270 = .ok (.invokestatic 22, 3) := by decide +kernel
theorem dL_act_273 : decode cL_act 273 = .ok (.ifCond .ne 14, 3) := by decide +kernel
theorem dL_act_276 : decode cL_act 276 = .ok (.iload_n 2, 1) := by decide +kernel
theorem dL_act_277 : decode cL_act 277 = .ok (.iconst 2, 1) := by decide +kernel
theorem dL_act_278 : decode cL_act 278 = .ok (.ishr, 1) := by decide +kernel
theorem dL_act_279 : decode cL_act 279 = .ok (.bipush 7, 2) := by decide +kernel
theorem dL_act_281 : decode cL_act 281 = .ok (.invokestatic 22, 3) := by decide +kernel
theorem dL_act_284 : decode cL_act 284 = .ok (.goto 17, 3) := by decide +kernel
theorem dL_act_287 : decode cL_act 287 = .ok (.iload_n 2, 1) := by decide +kernel
theorem dL_act_288 : decode cL_act 288 = .ok (.iconst 2, 1) := by decide +kernel
theorem dL_act_289 : decode cL_act 289 = .ok (.ishr, 1) := by decide +kernel
theorem dL_act_290 : decode cL_act 290 = .ok (.iconst 3, 1) := by decide +kernel
theorem dL_act_291 : decode cL_act 291 = .ok (.iand, 1) := by decide +kernel
theorem dL_act_292 : decode cL_act 292 = .ok (.iconst 2, 1) := by decide +kernel
theorem dL_act_293 : decode cL_act 293 = .ok (.if_icmp .ge 7, 3) := by decide +kernel
theorem dL_act_296 : decode cL_act 296 = .ok (.iconst 4, 1) := by decide +kernel
theorem dL_act_297 : decode cL_act 297 = .ok (.goto 4, 3) := by decide +kernel
theorem dL_act_300 : decode cL_act 300 = .ok (.iconst 0, 1) := by decide +kernel
theorem dL_act_301 : decode cL_act 301 = .ok (.istore 9, 2) := by decide +kernel
theorem dL_act_303 : decode cL_act 303 = .ok (.iload 6, 2) := by decide +kernel
theorem dL_act_305 : decode cL_act 305 = .ok (.iload 9, 2) := by decide +kernel
theorem dL_act_307 : decode cL_act 307 = .ok (.ishr, 1) := by decide +kernel
theorem dL_act_308 : decode cL_act 308 = .ok (.iconst 1, 1) := by decide +kernel
theorem dL_act_309 : decode cL_act 309 = .ok (.iand, 1) := by decide +kernel
theorem dL_act_310 : decode cL_act 310 = .ok (.ifCond .ne 25, 3) := by decide +kernel
theorem dL_act_313 : decode cL_act 313 = .ok (.iload 6, 2) := by decide +kernel
theorem dL_act_315 : decode cL_act 315 = .ok (.iconst 3, 1) := by decide +kernel
theorem dL_act_316 : decode cL_act 316 = .ok (.ishr, 1) := by decide +kernel
theorem dL_act_317 : decode cL_act 317 = .ok (.iconst 1, 1) := by decide +kernel
theorem dL_act_318 : decode cL_act 318 = .ok (.iand, 1) := by decide +kernel
theorem dL_act_319 : decode cL_act 319 = .ok (.iconst 1, 1) := by decide +kernel
theorem dL_act_320 : decode cL_act 320 = .ok (.if_icmp .ne 15, 3) := by decide +kernel
theorem dL_act_323 : decode cL_act 323 = .ok (.iload_n 2, 1) := by decide +kernel
theorem dL_act_324 : decode cL_act 324 = .ok (.iconst 5, 1) := by decide +kernel
theorem dL_act_325 : decode cL_act 325 = .ok (.ishr, 1) := by decide +kernel
theorem dL_act_326 : decode cL_act 326 = .ok (.iconst 1, 1) := by decide +kernel
theorem dL_act_327 : decode cL_act 327 = .ok (.iand, 1) := by decide +kernel
theorem dL_act_328 : decode cL_act 328 = .ok (.ifCond .ne 7, 3) := by decide +kernel
theorem dL_act_331 : decode cL_act 331 = .ok (.iconst 3, 1) := by decide +kernel
theorem dL_act_332 : decode cL_act 332 = .ok (.goto 5, 3) := by decide +kernel
theorem dL_act_335 : decode cL_act 335 = .ok (.iload 9, 2) := by decide +kernel
theorem dL_act_337 : decode cL_act 337 = .ok (.istore 9, 2) := by decide +kernel
theorem dL_act_339 : decode cL_act 339 = .ok (.aload_n 0, 1) := by decide +kernel
theorem dL_act_340 : decode cL_act 340 = .ok (.iload 9, 2) := by decide +kernel
theorem dL_act_342 : decode cL_act 342 = .ok (.invokevirtual 55, 3) := by decide +kernel
theorem dL_act_345 : decode cL_act 345 = .ok (.ireturn, 1) := by decide +kernel
theorem dL_holds_0 : decode cL_holds 0 = .ok (.aload_n 0, 1) := by decide +kernel
theorem dL_holds_1 : decode cL_holds 1 = .ok (.iconst 0, 1) := by decide +kernel
theorem dL_holds_2 : decode cL_holds 2 = .ok (.invokevirtual 12, 3) := by decide +kernel
theorem dL_holds_5 : decode cL_holds 5 = .ok (.istore_n 1, 1) := by decide +kernel
theorem dL_holds_6 : decode cL_holds 6 = .ok (.aload_n 0, 1) := by decide +kernel
theorem dL_holds_7 : decode cL_holds 7 = .ok (.iconst 3, 1) := by decide +kernel
theorem dL_holds_8 : decode cL_holds 8 = .ok (.invokevirtual 12, 3) := by decide +kernel
theorem dL_holds_11 : decode cL_holds 11 = .ok (.istore_n 2, 1) := by decide +kernel
theorem dL_holds_12 : decode cL_holds 12 = .ok (.iconst 0, 1) := by decide +kernel
theorem dL_holds_13 : decode cL_holds 13 = .ok (.istore_n 3, 1) := by decide +kernel
theorem dL_holds_14 : decode cL_holds 14 = .ok (.iconst 0, 1) := by decide +kernel
theorem dL_holds_15 : decode cL_holds 15 = .ok (.istore 4, 2) := by decide +kernel
theorem dL_holds_17 : decode cL_holds 17 = .ok (.iconst 0, 1) := by decide +kernel
theorem dL_holds_18 : decode cL_holds 18 = .ok (.istore 5, 2) := by decide +kernel
theorem dL_holds_20 : decode cL_holds 20 = .ok (.iconst 0, 1) := by decide +kernel
theorem dL_holds_21 : decode cL_holds 21 = .ok (.istore 6, 2) := by decide +kernel
theorem dL_holds_23 : decode cL_holds 23 = .ok (.iconst 0, 1) := by decide +kernel
theorem dL_holds_24 : decode cL_holds 24 = .ok (.istore 7, 2) := by decide +kernel
theorem dL_holds_26 : decode cL_holds 26 = .ok (.iconst 0, 1) := by decide +kernel
theorem dL_holds_27 : decode cL_holds 27 = .ok (.istore 8, 2) := by decide +kernel
theorem dL_holds_29 : decode cL_holds 29 = .ok (.iload 8, 2) := by decide +kernel
theorem dL_holds_31 : decode cL_holds 31 = .ok (.iload_n 1, 1) := by decide +kernel
theorem dL_holds_32 : decode cL_holds 32 = .ok (.if_icmp .ge 310, 3) := by decide +kernel
theorem dL_holds_35 : decode cL_holds 35 = .ok (.aload_n 0, 1) := by decide +kernel
theorem dL_holds_36 : decode cL_holds 36 = .ok (.iload 8, 2) := by decide +kernel
theorem dL_holds_38 : decode cL_holds 38 = .ok (.iconst 1, 1) := by decide +kernel
theorem dL_holds_39 : decode cL_holds 39 = .ok (.invokevirtual 18, 3) := by decide +kernel
theorem dL_holds_42 : decode cL_holds 42 = .ok (.istore 9, 2) := by decide +kernel
theorem dL_holds_44 : decode cL_holds 44 = .ok (.aload_n 0, 1) := by decide +kernel
theorem dL_holds_45 : decode cL_holds 45 = .ok (.iload 8, 2) := by decide +kernel
theorem dL_holds_47 : decode cL_holds 47 = .ok (.bipush 7, 2) := by decide +kernel
theorem dL_holds_49 : decode cL_holds 49 = .ok (.invokevirtual 18, 3) := by decide +kernel
theorem dL_holds_52 : decode cL_holds 52 = .ok (.istore 10, 2) := by decide +kernel
theorem dL_holds_54 : decode cL_holds 54 = .ok (.iload 5, 2) := by decide +kernel
theorem dL_holds_56 : decode cL_holds 56 = .ok (.iload 10, 2) := by decide +kernel
theorem dL_holds_58 : decode cL_holds 58 = .ok (.iconst 1, 1) := by decide +kernel
theorem dL_holds_59 : decode cL_holds 59 = .ok (.if_icmp .ne 7, 3) := by decide +kernel
theorem dL_holds_62 : decode cL_holds 62 = .ok (.iconst 1, 1) := by decide +kernel
theorem dL_holds_63 : decode cL_holds 63 = .ok (.goto 4, 3) := by decide +kernel
theorem dL_holds_66 : decode cL_holds 66 = .ok (.iconst 0, 1) := by decide +kernel
theorem dL_holds_67 : decode cL_holds 67 = .ok (.iadd, 1) := by decide +kernel
theorem dL_holds_68 : decode cL_holds 68 = .ok (.istore 5, 2) := by decide +kernel
theorem dL_holds_70 : decode cL_holds 70 = .ok (.iload 7, 2) := by decide +kernel
theorem dL_holds_72 : decode cL_holds 72 = .ok (.iload 10, 2) := by decide +kernel
theorem dL_holds_74 : decode cL_holds 74 = .ok (.iconst 1, 1) := by decide +kernel
theorem dL_holds_75 : decode cL_holds 75 = .ok (.if_icmp .le 7, 3) := by decide +kernel
theorem dL_holds_78 : decode cL_holds 78 = .ok (.iconst 1, 1) := by decide +kernel
theorem dL_holds_79 : decode cL_holds 79 = .ok (.goto 4, 3) := by decide +kernel
theorem dL_holds_82 : decode cL_holds 82 = .ok (.iconst 0, 1) := by decide +kernel
theorem dL_holds_83 : decode cL_holds 83 = .ok (.iadd, 1) := by decide +kernel
theorem dL_holds_84 : decode cL_holds 84 = .ok (.istore 7, 2) := by decide +kernel
theorem dL_holds_86 : decode cL_holds 86 = .ok (.iload 6, 2) := by decide +kernel
theorem dL_holds_88 : decode cL_holds 88 = .ok (.aload_n 0, 1) := by decide +kernel
theorem dL_holds_89 : decode cL_holds 89 = .ok (.iload 8, 2) := by decide +kernel
theorem dL_holds_91 : decode cL_holds 91 = .ok (.bipush 6, 2) := by decide +kernel
theorem dL_holds_93 : decode cL_holds 93 = .ok (.invokevirtual 18, 3) := by decide +kernel
theorem dL_holds_96 : decode cL_holds 96 = .ok (.iadd, 1) := by decide +kernel
theorem dL_holds_97 : decode cL_holds 97 = .ok (.istore 6, 2) := by decide +kernel
theorem dL_holds_99 : decode cL_holds 99 = .ok (.iload_n 2, 1) := by decide +kernel
theorem dL_holds_100 : decode cL_holds 100 = .ok (.ifCond .ne 27, 3) := by decide +kernel
theorem dL_holds_103 : decode cL_holds 103 = .ok (.iload 9, 2) := by decide +kernel
theorem dL_holds_105 : decode cL_holds 105 = .ok (.iconst (-1), 1) := by decide +kernel
theorem dL_holds_106 : decode cL_holds 106 = .ok (.if_icmp .ne 19, 3) := by decide +kernel
theorem dL_holds_109 : decode cL_holds 109 = .ok (.aload_n 0, 1) := by decide +kernel
theorem dL_holds_110 : decode cL_holds 110 = .ok (.iload 8, 2) := by decide +kernel
theorem dL_holds_112 : decode cL_holds 112 = .ok (.iconst 5, 1) := by decide +kernel
theorem dL_holds_113 : decode cL_holds 113 = .ok (.invokevirtual 18, 3) := by decide +kernel
theorem dL_holds_116 : decode cL_holds 116 = .ok (.iconst (-1), 1) := by decide +kernel
theorem dL_holds_117 : decode cL_holds 117 = .ok (.if_icmp .ne 8, 3) := by decide +kernel
theorem dL_holds_120 : decode cL_holds 120 = .ok (.iload 10, 2) := by decide +kernel
theorem dL_holds_122 : decode cL_holds 122 = .ok (.ifCond .eq 214, 3) := by decide +kernel
theorem dL_holds_125 : decode cL_holds 125 = .ok (.iconst 0, 1) := by decide +kernel
theorem dL_holds_126 : decode cL_holds 126 = .ok (.ireturn, 1) := by decide +kernel
theorem dL_holds_127 : decode cL_holds 127 = .ok (.iload_n 3, 1) := by decide +kernel
theorem dL_holds_128 : decode cL_holds 128 = .ok (.iload 9, 2) := by decide +kernel
theorem dL_holds_130 : decode cL_holds 130 = .ok (.iconst (-1), 1) := by decide +kernel
theorem dL_holds_131 : decode cL_holds 131 = .ok (.if_icmp .ne 7, 3) := by decide +kernel
theorem dL_holds_134 : decode cL_holds 134 = .ok (.iconst 1, 1) := by decide +kernel
theorem dL_holds_135 : decode cL_holds 135 = .ok (.goto 4, 3) := by decide +kernel
theorem dL_holds_138 : decode cL_holds 138 = .ok (.iconst 0, 1) := by decide +kernel
theorem dL_holds_139 : decode cL_holds 139 = .ok (.iadd, 1) := by decide +kernel
theorem dL_holds_140 : decode cL_holds 140 = .ok (.istore_n 3, 1) := by decide +kernel
theorem dL_holds_141 : decode cL_holds 141 = .ok (.iload 4, 2) := by decide +kernel
theorem dL_holds_143 : decode cL_holds 143 = .ok (.aload_n 0, 1) := by decide +kernel
theorem dL_holds_144 : decode cL_holds 144 = .ok (.iload 8, 2) := by decide +kernel
theorem dL_holds_146 : decode cL_holds 146 = .ok (.iconst 4, 1) := by decide +kernel
theorem dL_holds_147 : decode cL_holds 147 = .ok (.invokevirtual 18, 3) := by decide +kernel
theorem dL_holds_150 : decode cL_holds 150 = .ok (.iadd, 1) := by decide +kernel
theorem dL_holds_151 : decode cL_holds 151 = .ok (.istore 4, 2) := by decide +kernel
theorem dL_holds_153 : decode cL_holds 153 = .ok (.iload 9, 2) := by decide +kernel
theorem dL_holds_155 : decode cL_holds 155 = .ok (.iconst (-1), 1) := by decide +kernel
theorem dL_holds_156 : decode cL_holds 156 = .ok (.if_icmp .ne 7, 3) := by decide +kernel
theorem dL_holds_159 : decode cL_holds 159 = .ok (.iconst 0, 1) := by decide +kernel
theorem dL_holds_160 : decode cL_holds 160 = .ok (.goto 18, 3) := by decide +kernel
theorem dL_holds_163 : decode cL_holds 163 = .ok (.aload_n 0, 1) := by decide +kernel
theorem dL_holds_164 : decode cL_holds 164 = .ok (.iload 8, 2) := by decide +kernel
theorem dL_holds_166 : decode cL_holds 166 = .ok (.iconst 3, 1) := by decide +kernel
theorem dL_holds_167 : decode cL_holds 167 = .ok (.invokevirtual 18, 3) := by decide +kernel
theorem dL_holds_170 : decode cL_holds 170 = .ok (.aload_n 0, 1) := by decide +kernel
theorem dL_holds_171 : decode cL_holds 171 = .ok (.iload 9, 2) := by decide +kernel
theorem dL_holds_173 : decode cL_holds 173 = .ok (.iconst 3, 1) := by decide +kernel
theorem dL_holds_174 : decode cL_holds 174 = .ok (.invokevirtual 18, 3) := by decide +kernel
theorem dL_holds_177 : decode cL_holds 177 = .ok (.isub, 1) := by decide +kernel
theorem dL_holds_178 : decode cL_holds 178 = .ok (.istore 11, 2) := by decide +kernel
theorem dL_holds_180 : decode cL_holds 180 = .ok (.iload 9, 2) := by decide +kernel
theorem dL_holds_182 : decode cL_holds 182 = .ok (.iload 8, 2) := by decide +kernel
theorem dL_holds_184 : decode cL_holds 184 = .ok (.if_icmp .eq 103, 3) := by decide +kernel
theorem dL_holds_187 : decode cL_holds 187 = .ok (.aload_n 0, 1) := by decide +kernel
theorem dL_holds_188 : decode cL_holds 188 = .ok (.iload 8, 2) := by decide +kernel
theorem dL_holds_190 : decode cL_holds 190 = .ok (.iconst 5, 1) := by decide +kernel
theorem dL_holds_191 : decode cL_holds 191 = .ok (.invokevirtual 18, 3) := by decide +kernel
theorem dL_holds_194 : decode cL_holds 194 = .ok (.iload 8, 2) := by decide +kernel
theorem dL_holds_196 : decode cL_holds 196 = .ok (.if_icmp .ne 91, 3) := by decide +kernel
theorem dL_holds_199 : decode cL_holds 199 = .ok (.iload 9, 2) := by decide +kernel
theorem dL_holds_201 : decode cL_holds 201 = .ok (.iconst (-1), 1) := by decide +kernel
theorem dL_holds_202 : decode cL_holds 202 = .ok (.if_icmp .ne 7, 3) := by decide +kernel
theorem dL_holds_205 : decode cL_holds 205 = .ok (.iconst 1, 1) := by decide +kernel
theorem dL_holds_206 : decode cL_holds 206 = .ok (.goto 4, 3) := by decide +kernel
theorem dL_holds_209 : decode cL_holds 209 = .ok (.iconst 0, 1) := by decide +kernel
theorem dL_holds_210 : decode cL_holds 210 = .ok (.aload_n 0, 1) := by decide +kernel
theorem dL_holds_211 : decode cL_holds 211 = .ok (.iload 8, 2) := by decide +kernel
theorem dL_holds_213 : decode cL_holds 213 = .ok (.iconst 2, 1) := by decide +kernel
theorem dL_holds_214 : decode cL_holds 214 = .ok (.invokevirtual 18, 3) := by decide +kernel
theorem dL_holds_217 : decode cL_holds 217 = .ok (.ifCond .ne 7, 3) := by decide +kernel
theorem dL_holds_220 : decode cL_holds 220 = .ok (.iconst 1, 1) := by decide +kernel
theorem dL_holds_221 : decode cL_holds 221 = .ok (.goto 4, 3) := by decide +kernel
theorem dL_holds_224 : decode cL_holds 224 = .ok (.iconst 0, 1) := by decide +kernel
theorem dL_holds_225 : decode cL_holds 225 = .ok (.if_icmp .ne 62, 3) := by decide +kernel
theorem dL_holds_228 : decode cL_holds 228 = .ok (.iload 9, 2) := by decide +kernel
theorem dL_holds_230 : decode cL_holds 230 = .ok (.iconst (-1), 1) := by decide +kernel
theorem dL_holds_231 : decode cL_holds 231 = .ok (.if_icmp .ne 26, 3) := by decide +kernel
theorem dL_holds_234 : decode cL_holds 234 = .ok (.aload_n 0, 1) := by decide +kernel
theorem dL_holds_235 : decode cL_holds 235 = .ok (.iload 8, 2) := by decide +kernel
theorem dL_holds_237 : decode cL_holds 237 = .ok (.iconst 3, 1) := by decide +kernel
theorem dL_holds_238 : decode cL_holds 238 = .ok (.invokevirtual 18, 3) := by decide +kernel
theorem dL_holds_241 : decode cL_holds 241 = .ok (.bipush 20, 2) := by decide +kernel
theorem dL_holds_243 : decode cL_holds 243 = .ok (.if_icmp .ne 44, 3) := by decide +kernel
theorem dL_holds_246 : decode cL_holds 246 = .ok (.aload_n 0, 1) := by decide +kernel
theorem dL_holds_247 : decode cL_holds 247 = .ok (.iload 8, 2) := by decide +kernel
theorem dL_holds_249 : decode cL_holds 249 = .ok (.iconst 0, 1) := by decide +kernel
theorem dL_holds_250 : decode cL_holds 250 = .ok (.invokevirtual 18, 3) := by decide +kernel
theorem dL_holds_253 : decode cL_holds 253 = .ok (.iconst 1, 1) := by decide +kernel
theorem dL_holds_254 : decode cL_holds 254 = .ok (.if_icmp .ne 33, 3) := by decide +kernel
theorem dL_holds_257 : decode cL_holds 257 = .ok (.iload 11, 2) := by decide +kernel
theorem dL_holds_259 : decode cL_holds 259 = .ok (.iconst 1, 1) := by decide +kernel
theorem dL_holds_260 : decode cL_holds 260 = .ok (.if_icmp .gt 27, 3) := by decide +kernel
theorem dL_holds_263 : decode cL_holds 263 = .ok (.iload 11, 2) := by decide +kernel
theorem dL_holds_265 : decode cL_holds 265 = .ok (.iconst (-1), 1) := by decide +kernel
theorem dL_holds_266 : decode cL_holds 266 = .ok (.if_icmp .lt 21, 3) := by decide +kernel
theorem dL_holds_269 : decode cL_holds 269 = .ok (.aload_n 0, 1) := by decide +kernel
theorem dL_holds_270 : decode cL_holds 270 = .ok (.iload 8, 2) := by decide +kernel
theorem dL_holds_272 : decode cL_holds 272 = .ok (.bipush 6, 2) := by decide +kernel
theorem dL_holds_274 : decode cL_holds 274 = .ok (.invokevirtual 18, 3) := by decide +kernel
theorem dL_holds_277 : decode cL_holds 277 = .ok (.iconst 1, 1) := by decide +kernel
theorem dL_holds_278 : decode cL_holds 278 = .ok (.if_icmp .ne 11, 3) := by decide +kernel
theorem dL_holds_281 : decode cL_holds 281 = .ok (.iload 10, 2) := by decide +kernel
theorem dL_holds_283 : decode cL_holds 283 = .ok (.iconst 1, 1) := by decide +kernel
theorem dL_holds_284 : decode cL_holds 284 = .ok (.if_icmp .eq 5, 3) := by decide +kernel
theorem dL_holds_287 : decode cL_holds 287 = .ok (.iconst 0, 1) := by decide +kernel
theorem dL_holds_288 : decode cL_holds 288 = .ok (.ireturn, 1) := by decide +kernel
theorem dL_holds_289 : decode cL_holds 289 = .ok (.aload_n 0, 1) := by decide +kernel
theorem dL_holds_290 : decode cL_holds 290 = .ok (.iload 8, 2) := by decide +kernel
theorem dL_holds_292 : decode cL_holds 292 = .ok (.iconst 0, 1) := by decide +kernel
theorem dL_holds_293 : decode cL_holds 293 = .ok (.invokevirtual 18, 3) := by decide +kernel
theorem dL_holds_296 : decode cL_holds 296 = .ok (.istore 12, 2) := by decide +kernel
theorem dL_holds_298 : decode cL_holds 298 = .ok (.aload_n 0, 1) := by decide +kernel
theorem dL_holds_299 : decode cL_holds 299 = .ok (.iload 8, 2) := by decide +kernel
theorem dL_holds_301 : decode cL_holds 301 = .ok (.iconst 2, 1) := by decide +kernel
theorem dL_holds_302 : decode cL_holds 302 = .ok (.invokevirtual 18, 3) := by decide +kernel
theorem dL_holds_305 : decode cL_holds 305 = .ok (.iconst 3, 1) := by decide +kernel
theorem dL_holds_306 : decode cL_holds 306 = .ok (.if_icmp .ne 7, 3) := by decide +kernel
theorem dL_holds_309 : decode cL_holds 309 = .ok (.iconst 1, 1) := by decide +kernel
theorem dL_holds_310 : decode cL_holds 310 = .ok (.goto 4, 3) := by decide +kernel
theorem dL_holds_313 : decode cL_holds 313 = .ok (.iconst 0, 1) := by decide +kernel
theorem dL_holds_314 : decode cL_holds 314 = .ok (.iload 12, 2) := by decide +kernel
theorem dL_holds_316 : decode cL_holds 316 = .ok (.iconst 1, 1) := by decide +kernel
theorem dL_holds_317 : decode cL_holds 317 = .ok (.if_icmp .le 13, 3) := by decide +kernel
theorem dL_holds_320 : decode cL_holds 320 = .ok (.iload 12, 2) := by decide +kernel
theorem dL_holds_322 : decode cL_holds 322 = .ok (.iconst 5, 1) := by decide +kernel
theorem dL_holds_323 : decode cL_holds 323 = .ok (.if_icmp .ge 7, 3) := by decide +kernel
theorem dL_holds_326 : decode cL_holds 326 = .ok (.iconst 1, 1) := by decide +kernel
theorem dL_holds_327 : decode cL_holds 327 = .ok (.goto 4, 3) := by decide +kernel
theorem dL_holds_330 : decode cL_holds 330 = .ok (.iconst 0, 1) := by decide +kernel
theorem dL_holds_331 : decode cL_holds 331 = .ok (.if_icmp .eq 5, 3) := by decide +kernel
theorem dL_holds_334 : decode cL_holds 334 = .ok (.iconst 0, 1) := by decide +kernel
theorem dL_holds_335 : decode cL_holds 335 = .ok (.ireturn, 1) := by decide +kernel
theorem dL_holds_336 : decode cL_holds 336 = .ok (.iinc 8 1, 3) := by decide +kernel
theorem dL_holds_339 : decode cL_holds 339 = .ok (.goto (-310), 3) := by decide +kernel
theorem dL_holds_342 : decode cL_holds 342 = .ok (.iload_n 2, 1) := by decide +kernel
theorem dL_holds_343 : decode cL_holds 343 = .ok (.ifCond .ne 29, 3) := by decide +kernel
theorem dL_holds_346 : decode cL_holds 346 = .ok (.aload_n 0, 1) := by decide +kernel
theorem dL_holds_347 : decode cL_holds 347 = .ok (.iconst 4, 1) := by decide +kernel
theorem dL_holds_348 : decode cL_holds 348 = .ok (.invokevirtual 12, 3) := by decide +kernel
theorem dL_holds_351 : decode cL_holds 351 = .ok (.iconst (-1), 1) := by decide +kernel
theorem dL_holds_352 : decode cL_holds 352 = .ok (.if_icmp .ne 16, 3) := by decide +kernel
theorem dL_holds_355 : decode cL_holds 355 = .ok (.aload_n 0, 1) := by decide +kernel
theorem dL_holds_356 : decode cL_holds 356 = .ok (.bipush 7, 2) := by decide +kernel
theorem dL_holds_358 : decode cL_holds 358 = .ok (.invokevirtual 12, 3) := by decide +kernel
theorem dL_holds_361 : decode cL_holds 361 = .ok (.ifCond .ne 7, 3) := by decide +kernel
theorem dL_holds_364 : decode cL_holds 364 = .ok (.iconst 1, 1) := by decide +kernel
theorem dL_holds_365 : decode cL_holds 365 = .ok (.goto 53, 3) := by decide +kernel
theorem dL_holds_368 : decode cL_holds 368 = .ok (.iconst 0, 1) := by decide +kernel
theorem dL_holds_369 : decode cL_holds 369 = .ok (.goto 49, 3) := by decide +kernel
theorem dL_holds_372 : decode cL_holds 372 = .ok (.iload_n 3, 1) := by decide +kernel
theorem dL_holds_373 : decode cL_holds 373 = .ok (.iconst 1, 1) := by decide +kernel
theorem dL_holds_374 : decode cL_holds 374 = .ok (.if_icmp .ne 43, 3) := by decide +kernel
theorem dL_holds_377 : decode cL_holds 377 = .ok (.iload 4, 2) := by decide +kernel
theorem dL_holds_379 : decode cL_holds 379 = .ok (.iload_n 1, 1) := by decide +kernel
theorem dL_holds_380 : decode cL_holds 380 = .ok (.iconst 1, 1) := by decide +kernel
theorem dL_holds_381 : decode cL_holds 381 = .ok (.isub, 1) := by decide +kernel
theorem dL_holds_382 : decode cL_holds 382 = .ok (.if_icmp .ne 35, 3) := by decide +kernel
theorem dL_holds_385 : decode cL_holds 385 = .ok (.aload_n 0, 1) := by decide +kernel
theorem dL_holds_386 : decode cL_holds 386 = .ok (.iconst 4, 1) := by decide +kernel
theorem dL_holds_387 : decode cL_holds 387 = .ok (.invokevirtual 12, 3) := by decide +kernel
theorem dL_holds_390 : decode cL_holds 390 = .ok (.iload_n 2, 1) := by decide +kernel
theorem dL_holds_391 : decode cL_holds 391 = .ok (.if_icmp .ge 26, 3) := by decide +kernel
theorem dL_holds_394 : decode cL_holds 394 = .ok (.aload_n 0, 1) := by decide +kernel
theorem dL_holds_395 : decode cL_holds 395 = .ok (.aload_n 0, 1) := by decide +kernel
theorem dL_holds_396 : decode cL_holds 396 = .ok (.iconst 4, 1) := by decide +kernel
theorem dL_holds_397 : decode cL_holds 397 = .ok (.invokevirtual 12, 3) := by decide +kernel
theorem dL_holds_400 : decode cL_holds 400 = .ok (.iconst 0, 1) := by decide +kernel
theorem dL_holds_401 : decode cL_holds 401 = .ok (.invokevirtual 58, 3) := by decide +kernel
theorem dL_holds_404 : decode cL_holds 404 = .ok (.aload_n 0, 1) := by decide +kernel
theorem dL_holds_405 : decode cL_holds 405 = .ok (.bipush 7, 2) := by decide +kernel
theorem dL_holds_407 : decode cL_holds 407 = .ok (.invokevirtual 12, 3) := by decide +kernel
theorem dL_holds_410 : decode cL_holds 410 = .ok (.if_icmp .ne 7, 3) := by decide +kernel
theorem dL_holds_413 : decode cL_holds 413 = .ok (.iconst 1, 1) := by decide +kernel
theorem dL_holds_414 : decode cL_holds 414 = .ok (.goto 4, 3) := by decide +kernel
theorem dL_holds_417 : decode cL_holds 417 = .ok (.iconst 0, 1) := by decide +kernel
theorem dL_holds_418 : decode cL_holds 418 = .ok (.istore 8, 2) := by decide +kernel
theorem dL_holds_420 : decode cL_holds 420 = .ok (.aload_n 0, 1) := by decide +kernel
theorem dL_holds_421 : decode cL_holds 421 = .ok (.iconst 1, 1) := by decide +kernel
theorem dL_holds_422 : decode cL_holds 422 = .ok (.invokevirtual 12, 3) := by decide +kernel
theorem dL_holds_425 : decode cL_holds 425 = .ok (.aload_n 0, 1) := by decide +kernel
theorem dL_holds_426 : decode cL_holds 426 = .ok (.iconst 2, 1) := by decide +kernel
theorem dL_holds_427 : decode cL_holds 427 = .ok (.invokevirtual 12, 3) := by decide +kernel
theorem dL_holds_430 : decode cL_holds 430 = .ok (.if_icmp .ne 51, 3) := by decide +kernel
theorem dL_holds_433 : decode cL_holds 433 = .ok (.iload_n 2, 1) := by decide +kernel
theorem dL_holds_434 : decode cL_holds 434 = .ok (.aload_n 0, 1) := by decide +kernel
theorem dL_holds_435 : decode cL_holds 435 = .ok (.iconst 1, 1) := by decide +kernel
theorem dL_holds_436 : decode cL_holds 436 = .ok (.invokevirtual 12, 3) := by decide +kernel
theorem dL_holds_439 : decode cL_holds 439 = .ok (.if_icmp .gt 42, 3) := by decide +kernel
theorem dL_holds_442 : decode cL_holds 442 = .ok (.iload 6, 2) := by decide +kernel
theorem dL_holds_444 : decode cL_holds 444 = .ok (.ifCond .gt 12, 3) := by decide +kernel
theorem dL_holds_447 : decode cL_holds 447 = .ok (.iload_n 2, 1) := by decide +kernel
theorem dL_holds_448 : decode cL_holds 448 = .ok (.aload_n 0, 1) := by decide +kernel
theorem dL_holds_449 : decode cL_holds 449 = .ok (.iconst 1, 1) := by decide +kernel
theorem dL_holds_450 : decode cL_holds 450 = .ok (.invokevirtual 12, 3) := by decide +kernel
theorem dL_holds_453 : decode cL_holds 453 = .ok (.if_icmp .ne 28, 3) := by decide +kernel
theorem dL_holds_456 : decode cL_holds 456 = .ok (.aload_n 0, 1) := by decide +kernel
theorem dL_holds_457 : decode cL_holds 457 = .ok (.iconst 5, 1) := by decide +kernel
theorem dL_holds_458 : decode cL_holds 458 = .ok (.invokevirtual 12, 3) := by decide +kernel
theorem dL_holds_461 : decode cL_holds 461 = .ok (.iload 6, 2) := by decide +kernel
theorem dL_holds_463 : decode cL_holds 463 = .ok (.if_icmp .ne 18, 3) := by decide +kernel
theorem dL_holds_466 : decode cL_holds 466 = .ok (.aload_n 0, 1) := by decide +kernel
theorem dL_holds_467 : decode cL_holds 467 = .ok (.bipush 6, 2) := by decide +kernel
theorem dL_holds_469 : decode cL_holds 469 = .ok (.invokevirtual 12, 3) := by decide +kernel
theorem dL_holds_472 : decode cL_holds 472 = .ok (.iload 7, 2) := by decide +kernel
theorem dL_holds_474 : decode cL_holds 474 = .ok (.if_icmp .ne 7, 3) := by decide +kernel
theorem dL_holds_477 : decode cL_holds 477 = .ok (.iconst 1, 1) := by decide +kernel
theorem dL_holds_478 : decode cL_holds 478 = .ok (.goto 4, 3) := by decide +kernel
theorem dL_holds_481 : decode cL_holds 481 = .ok (.iconst 0, 1) := by decide +kernel
theorem dL_holds_482 : decode cL_holds 482 = .ok (.istore 9, 2) := by decide +kernel
theorem dL_holds_484 : decode cL_holds 484 = .ok (.iload 8, 2) := by decide +kernel
theorem dL_holds_486 : decode cL_holds 486 = .ok (.ifCond .eq 60, 3) := by decide +kernel
theorem dL_holds_489 : decode cL_holds 489 = .ok (.iload 9, 2) := by decide +kernel
theorem dL_holds_491 : decode cL_holds 491 = .ok (.ifCond .eq 55, 3) := by decide +kernel
theorem dL_holds_494 : decode cL_holds 494 = .ok (.aload_n 0, 1) := by decide +kernel
theorem dL_holds_495 : decode cL_holds 495 = .ok (.invokevirtual 43, 3) := by decide +kernel
theorem dL_holds_498 : decode cL_holds 498 = .ok (.iconst (-1), 1) := by decide +kernel
theorem dL_holds_499 : decode cL_holds 499 = .ok (.if_icmp .ne 7, 3) := by decide +kernel
theorem dL_holds_502 : decode cL_holds 502 = .ok (.iconst 1, 1) := by decide +kernel
theorem dL_holds_503 : decode cL_holds 503 = .ok (.goto 4, 3) := by decide +kernel
theorem dL_holds_506 : decode cL_holds 506 = .ok (.iconst 0, 1) := by decide +kernel
theorem dL_holds_507 : decode cL_holds 507 = .ok (.iload 7, 2) := by decide +kernel
theorem dL_holds_509 : decode cL_holds 509 = .ok (.ifCond .ne 7, 3) := by decide +kernel
theorem dL_holds_512 : decode cL_holds 512 = .ok (.iconst 1, 1) := by decide +kernel
theorem dL_holds_513 : decode cL_holds 513 = .ok (.goto 4, 3) := by decide +kernel
theorem dL_holds_516 : decode cL_holds 516 = .ok (.iconst 0, 1) := by decide +kernel
theorem dL_holds_517 : decode cL_holds 517 = .ok (.if_icmp .ne 29, 3) := by decide +kernel
theorem dL_holds_520 : decode cL_holds 520 = .ok (.aload_n 0, 1) := by decide +kernel
theorem dL_holds_521 : decode cL_holds 521 = .ok (.invokevirtual 61, 3) := by decide +kernel
theorem dL_holds_524 : decode cL_holds 524 = .ok (.iload_n 1, 1) := by decide +kernel
theorem dL_holds_525 : decode cL_holds 525 = .ok (.ifCond .ne 7, 3) := by decide +kernel
theorem dL_holds_528 : decode cL_holds 528 = .ok (.dconst 1, 1) := by decide +kernel
theorem dL_holds_529 : decode cL_holds 529 = .ok (.goto 9, 3) := by decide +kernel
theorem dL_holds_532 : decode cL_holds 532 = .ok (.iload 5, 2) := by decide +kernel
theorem dL_holds_534 : decode cL_holds 534 = .ok (.i2d, 1) := by decide +kernel
theorem dL_holds_535 : decode cL_holds 535 = .ok (.iload_n 1, 1) := by decide +kernel
theorem dL_holds_536 : decode cL_holds 536 = .ok (.i2d, 1) := by decide +kernel
theorem dL_holds_537 : decode cL_holds 537 = .ok (.ddiv, 1) := by decide +kernel
theorem dL_holds_538 : decode cL_holds 538 = .ok (.dcmp .l, 1) := by decide +kernel
theorem dL_holds_539 : decode cL_holds 539 = .ok (.ifCond .ne 7, 3) := by decide +kernel
theorem dL_holds_542 : decode cL_holds 542 = .ok (.iconst 1, 1) := by decide +kernel
theorem dL_holds_543 : decode cL_holds 543 = .ok (.goto 4, 3) := by decide +kernel
theorem dL_holds_546 : decode cL_holds 546 = .ok (.iconst 0, 1) := by decide +kernel
theorem dL_holds_547 : decode cL_holds 547 = .ok (.ireturn, 1) := by decide +kernel
theorem dL_law_0 : decode cL_law 0 = .ok (.new 13, 3) := by decide +kernel
theorem dL_law_3 : decode cL_law 3 = .ok (.dup, 1) := by decide +kernel
theorem dL_law_4 : decode cL_law 4 = .ok (.invokespecial 65, 3) := by decide +kernel
theorem dL_law_7 : decode cL_law 7 = .ok (.astore_n 1, 1) := by decide +kernel
theorem dL_law_8 : decode cL_law 8 = .ok (.iconst 0, 1) := by decide +kernel
theorem dL_law_9 : decode cL_law 9 = .ok (.istore_n 2, 1) := by decide +kernel
theorem dL_law_10 : decode cL_law 10 = .ok (.iload_n 2, 1) := by decide +kernel
theorem dL_law_11 : decode cL_law 11 = .ok (.bipush 26, 2) := by decide +kernel
theorem dL_law_13 : decode cL_law 13 = .ok (.if_icmp .ge 190, 3) := by decide +kernel
theorem dL_law_16 : decode cL_law 16 = .ok (.aload_n 0, 1) := by decide +kernel
theorem dL_law_17 : decode cL_law 17 = .ok (.iconst 2, 1) := by decide +kernel
theorem dL_law_18 : decode cL_law 18 = .ok (.iload_n 2, 1) := by decide +kernel
theorem dL_law_19 : decode cL_law 19 = .ok (.imul, 1) := by decide +kernel
theorem dL_law_20 : decode cL_law 20 = .ok (.invokestatic 66, 3) := by decide +kernel
theorem dL_law_23 : decode cL_law 23 = .ok (.istore_n 3, 1) := by decide +kernel
theorem dL_law_24 : decode cL_law 24 = .ok (.aload_n 0, 1) := by decide +kernel
theorem dL_law_25 : decode cL_law 25 = .ok (.iconst 2, 1) := by decide +kernel
theorem dL_law_26 : decode cL_law 26 = .ok (.iload_n 2, 1) := by decide +kernel
theorem dL_law_27 : decode cL_law 27 = .ok (.imul, 1) := by decide +kernel
theorem dL_law_28 : decode cL_law 28 = .ok (.iconst 1, 1) := by decide +kernel
theorem dL_law_29 : decode cL_law 29 = .ok (.iadd, 1) := by decide +kernel
theorem dL_law_30 : decode cL_law 30 = .ok (.invokestatic 66, 3) := by decide +kernel
theorem dL_law_33 : decode cL_law 33 = .ok (.istore 4, 2) := by decide +kernel
theorem dL_law_35 : decode cL_law 35 = .ok (.aload_n 1, 1) := by decide +kernel
theorem dL_law_36 : decode cL_law 36 = .ok (.bipush 8, 2) := by decide +kernel
theorem dL_law_38 : decode cL_law 38 = .ok (.invokevirtual 12, 3) := by decide +kernel
theorem dL_law_41 : decode cL_law 41 = .ok (.bipush 6, 2) := by decide +kernel
theorem dL_law_43 : decode cL_law 43 = .ok (.if_icmp .ne 13, 3) := by decide +kernel
theorem dL_law_46 : decode cL_law 46 = .ok (.aload_n 1, 1) := by decide +kernel
theorem dL_law_47 : decode cL_law 47 = .ok (.invokevirtual 70, 3) := by decide +kernel
theorem dL_law_50 : decode cL_law 50 = .ok (.pop, 1) := by decide +kernel
theorem dL_law_51 : decode cL_law 51 = .ok (.aload_n 1, 1) := by decide +kernel
theorem dL_law_52 : decode cL_law 52 = .ok (.invokevirtual 70, 3) := by decide +kernel
theorem dL_law_55 : decode cL_law 55 = .ok (.pop, 1) := by decide +kernel
theorem dL_law_56 : decode cL_law 56 = .ok (.aload_n 1, 1) := by decide +kernel
theorem dL_law_57 : decode cL_law 57 = .ok (.bipush 8, 2) := by decide +kernel
theorem dL_law_59 : decode cL_law 59 = .ok (.invokevirtual 12, 3) := by decide +kernel
theorem dL_law_62 : decode cL_law 62 = .ok (.istore 5, 2) := by decide +kernel
theorem dL_law_64 : decode cL_law 64 = .ok (.aload_n 1, 1) := by decide +kernel
theorem dL_law_65 : decode cL_law 65 = .ok (.invokestatic 73, 3) := by decide +kernel
theorem dL_law_68 : decode cL_law 68 = .ok (.lstore 6, 2) := by decide +kernel
theorem dL_law_70 : decode cL_law 70 = .ok (.aload_n 1, 1) := by decide +kernel
theorem dL_law_71 : decode cL_law 71 = .ok (.iload_n 3, 1) := by decide +kernel
theorem dL_law_72 : decode cL_law 72 = .ok (.iload 4, 2) := by decide +kernel
theorem dL_law_74 : decode cL_law 74 = .ok (.invokestatic 77, 3) := by decide +kernel
theorem dL_law_77 : decode cL_law 77 = .ok (.istore 8, 2) := by decide +kernel
theorem dL_law_79 : decode cL_law 79 = .ok (.aload_n 1, 1) := by decide +kernel
theorem dL_law_80 : decode cL_law 80 = .ok (.invokestatic 73, 3) := by decide +kernel
theorem dL_law_83 : decode cL_law 83 = .ok (.lstore 9, 2) := by decide +kernel
theorem dL_law_85 : decode cL_law 85 = .ok (.iload 8, 2) := by decide +kernel
theorem dL_law_87 : decode cL_law 87 = .ok (.bipush (-9), 2) := by decide +kernel
theorem dL_law_89 : decode cL_law 89 = .ok (.if_icmp .ne 25, 3) := by decide +kernel
theorem dL_law_92 : decode cL_law 92 = .ok (.lload 9, 2) := by decide +kernel
theorem dL_law_94 : decode cL_law 94 = .ok (.lload 6, 2) := by decide +kernel
theorem dL_law_96 : decode cL_law 96 = .ok (.lcmp, 1) := by decide +kernel
theorem dL_law_97 : decode cL_law 97 = .ok (.ifCond .ne 30, 3) := by decide +kernel
theorem dL_law_100 : decode cL_law 100 = .ok (.aload_n 1, 1) := by decide +kernel
theorem dL_law_101 : decode cL_law 101 = .ok (.bipush 8, 2) := by decide +kernel
theorem dL_law_103 : decode cL_law 103 = .ok (.invokevirtual 12, 3) := by decide +kernel
theorem dL_law_106 : decode cL_law 106 = .ok (.iload 5, 2) := by decide +kernel
theorem dL_law_108 : decode cL_law 108 = .ok (.if_icmp .eq 21, 3) := by decide +kernel
theorem dL_law_111 : decode cL_law 111 = .ok (.goto 16, 3) := by decide +kernel
theorem dL_law_114 : decode cL_law 114 = .ok (.aload_n 1, 1) := by decide +kernel
theorem dL_law_115 : decode cL_law 115 = .ok (.bipush 8, 2) := by decide +kernel
theorem dL_law_117 : decode cL_law 117 = .ok (.invokevirtual 12, 3) := by decide +kernel
theorem dL_law_120 : decode cL_law 120 = .ok (.iload 5, 2) := by decide +kernel
theorem dL_law_122 : decode cL_law 122 = .ok (.iconst 1, 1) := by decide +kernel
theorem dL_law_123 : decode cL_law 123 = .ok (.iadd, 1) := by decide +kernel
theorem dL_law_124 : decode cL_law 124 = .ok (.if_icmp .eq 5, 3) := by decide +kernel
theorem dL_law_127 : decode cL_law 127 = .ok (.iconst 0, 1) := by decide +kernel
theorem dL_law_128 : decode cL_law 128 = .ok (.ireturn, 1) := by decide +kernel
theorem dL_law_129 : decode cL_law 129 = .ok (.iload 8, 2) := by decide +kernel
theorem dL_law_131 : decode cL_law 131 = .ok (.bipush (-9), 2) := by decide +kernel
theorem dL_law_133 : decode cL_law 133 = .ok (.if_icmp .eq 55, 3) := by decide +kernel
theorem dL_law_136 : decode cL_law 136 = .ok (.iload_n 3, 1) := by decide +kernel
theorem dL_law_137 : decode cL_law 137 = .ok (.bipush 9, 2) := by decide +kernel
theorem dL_law_139 : decode cL_law 139 = .ok (.ishr, 1) := by decide +kernel
theorem dL_law_140 : decode cL_law 140 = .ok (.iconst 1, 1) := by decide +kernel
theorem dL_law_141 : decode cL_law 141 = .ok (.iand, 1) := by decide +kernel
theorem dL_law_142 : decode cL_law 142 = .ok (.ifCond .ne 46, 3) := by decide +kernel
theorem dL_law_145 : decode cL_law 145 = .ok (.aload_n 1, 1) := by decide +kernel
theorem dL_law_146 : decode cL_law 146 = .ok (.invokevirtual 70, 3) := by decide +kernel
theorem dL_law_149 : decode cL_law 149 = .ok (.iload 5, 2) := by decide +kernel
theorem dL_law_151 : decode cL_law 151 = .ok (.if_icmp .ne 35, 3) := by decide +kernel
theorem dL_law_154 : decode cL_law 154 = .ok (.aload_n 1, 1) := by decide +kernel
theorem dL_law_155 : decode cL_law 155 = .ok (.invokestatic 73, 3) := by decide +kernel
theorem dL_law_158 : decode cL_law 158 = .ok (.lload 6, 2) := by decide +kernel
theorem dL_law_160 : decode cL_law 160 = .ok (.lcmp, 1) := by decide +kernel
theorem dL_law_161 : decode cL_law 161 = .ok (.ifCond .ne 25, 3) := by decide +kernel
theorem dL_law_164 : decode cL_law 164 = .ok (.aload_n 1, 1) := by decide +kernel
theorem dL_law_165 : decode cL_law 165 = .ok (.iload_n 3, 1) := by decide +kernel
theorem dL_law_166 : decode cL_law 166 = .ok (.iload 4, 2) := by decide +kernel
theorem dL_law_168 : decode cL_law 168 = .ok (.invokestatic 77, 3) := by decide +kernel
theorem dL_law_171 : decode cL_law 171 = .ok (.iload 8, 2) := by decide +kernel
theorem dL_law_173 : decode cL_law 173 = .ok (.if_icmp .ne 13, 3) := by decide +kernel
theorem dL_law_176 : decode cL_law 176 = .ok (.aload_n 1, 1) := by decide +kernel
theorem dL_law_177 : decode cL_law 177 = .ok (.invokestatic 73, 3) := by decide +kernel
theorem dL_law_180 : decode cL_law 180 = .ok (.lload 9, 2) := by decide +kernel
theorem dL_law_182 : decode cL_law 182 = .ok (.lcmp, 1) := by decide +kernel
theorem dL_law_183 : decode cL_law 183 = .ok (.ifCond .eq 5, 3) := by decide +kernel
theorem dL_law_186 : decode cL_law 186 = .ok (.iconst 0, 1) := by decide +kernel
theorem dL_law_187 : decode cL_law 187 = .ok (.ireturn, 1) := by decide +kernel
theorem dL_law_188 : decode cL_law 188 = .ok (.aload_n 1, 1) := by decide +kernel
theorem dL_law_189 : decode cL_law 189 = .ok (.invokestatic 81, 3) := by decide +kernel
theorem dL_law_192 : decode cL_law 192 = .ok (.ifCond .ne 5, 3) := by decide +kernel
theorem dL_law_195 : decode cL_law 195 = .ok (.iconst 0, 1) := by decide +kernel
theorem dL_law_196 : decode cL_law 196 = .ok (.ireturn, 1) := by decide +kernel
theorem dL_law_197 : decode cL_law 197 = .ok (.iinc 2 1, 3) := by decide +kernel
theorem dL_law_200 : decode cL_law 200 = .ok (.goto (-190), 3) := by decide +kernel
theorem dL_law_203 : decode cL_law 203 = .ok (.iconst 1, 1) := by decide +kernel
theorem dL_law_204 : decode cL_law 204 = .ok (.ireturn, 1) := by decide +kernel
