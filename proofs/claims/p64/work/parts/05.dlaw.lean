theorem dL_cell_0 : decode cL_cell 0 = .ok (.iload_n 1, 1) := by decide +kernel
theorem dL_cell_1 : decode cL_cell 1 = .ok (.aload_n 0, 1) := by decide +kernel
theorem dL_cell_2 : decode cL_cell 2 = .ok (.arraylength, 1) := by decide +kernel
theorem dL_cell_3 : decode cL_cell 3 = .ok (.if_icmp .ge 9, 3) := by decide +kernel
theorem dL_cell_6 : decode cL_cell 6 = .ok (.aload_n 0, 1) := by decide +kernel
theorem dL_cell_7 : decode cL_cell 7 = .ok (.iload_n 1, 1) := by decide +kernel
theorem dL_cell_8 : decode cL_cell 8 = .ok (.iaload, 1) := by decide +kernel
theorem dL_cell_9 : decode cL_cell 9 = .ok (.goto 11, 3) := by decide +kernel
theorem dL_cell_12 : decode cL_cell 12 = .ok (.ldc 7, 2) := by decide +kernel
theorem dL_cell_14 : decode cL_cell 14 = .ok (.iload_n 1, 1) := by decide +kernel
theorem dL_cell_15 : decode cL_cell 15 = .ok (.sipush 151, 3) := by decide +kernel
theorem dL_cell_18 : decode cL_cell 18 = .ok (.iadd, 1) := by decide +kernel
theorem dL_cell_19 : decode cL_cell 19 = .ok (.imul, 1) := by decide +kernel
theorem dL_cell_20 : decode cL_cell 20 = .ok (.ireturn, 1) := by decide +kernel
theorem dL_up_0 : decode cL_up 0 = .ok (.iload_n 0, 1) := by decide +kernel
theorem dL_up_1 : decode cL_up 1 = .ok (.ldc 8, 2) := by decide +kernel
theorem dL_up_3 : decode cL_up 3 = .ok (.iand, 1) := by decide +kernel
theorem dL_up_4 : decode cL_up 4 = .ok (.iload_n 1, 1) := by decide +kernel
theorem dL_up_5 : decode cL_up 5 = .ok (.irem, 1) := by decide +kernel
theorem dL_up_6 : decode cL_up 6 = .ok (.ireturn, 1) := by decide +kernel
theorem dL_size_0 : decode cL_size 0 = .ok (.iload_n 0, 1) := by decide +kernel
theorem dL_size_1 : decode cL_size 1 = .ok (.ifCond .ge 8, 3) := by decide +kernel
theorem dL_size_4 : decode cL_size 4 = .ok (.iload_n 0, 1) := by decide +kernel
theorem dL_size_5 : decode cL_size 5 = .ok (.ineg, 1) := by decide +kernel
theorem dL_size_6 : decode cL_size 6 = .ok (.goto 4, 3) := by decide +kernel
theorem dL_size_9 : decode cL_size 9 = .ok (.iload_n 0, 1) := by decide +kernel
theorem dL_size_10 : decode cL_size 10 = .ok (.ireturn, 1) := by decide +kernel
theorem dL_wears_0 : decode cL_wears 0 = .ok (.iconst 0, 1) := by decide +kernel
theorem dL_wears_1 : decode cL_wears 1 = .ok (.istore_n 1, 1) := by decide +kernel
theorem dL_wears_2 : decode cL_wears 2 = .ok (.iconst 0, 1) := by decide +kernel
theorem dL_wears_3 : decode cL_wears 3 = .ok (.istore_n 2, 1) := by decide +kernel
theorem dL_wears_4 : decode cL_wears 4 = .ok (.iload_n 2, 1) := by decide +kernel
theorem dL_wears_5 : decode cL_wears 5 = .ok (.bipush 6, 2) := by decide +kernel
theorem dL_wears_7 : decode cL_wears 7 = .ok (.if_icmp .ge 17, 3) := by decide +kernel
theorem dL_wears_10 : decode cL_wears 10 = .ok (.iload_n 1, 1) := by decide +kernel
theorem dL_wears_11 : decode cL_wears 11 = .ok (.aload_n 0, 1) := by decide +kernel
theorem dL_wears_12 : decode cL_wears 12 = .ok (.iload_n 2, 1) := by decide +kernel
theorem dL_wears_13 : decode cL_wears 13 = .ok (.invokevirtual 9, 3) := by decide +kernel
theorem dL_wears_16 : decode cL_wears 16 = .ok (.iadd, 1) := by decide +kernel
theorem dL_wears_17 : decode cL_wears 17 = .ok (.istore_n 1, 1) := by decide +kernel
theorem dL_wears_18 : decode cL_wears 18 = .ok (.iinc 2 1, 3) := by decide +kernel
theorem dL_wears_21 : decode cL_wears 21 = .ok (.goto (-17), 3) := by decide +kernel
theorem dL_wears_24 : decode cL_wears 24 = .ok (.iload_n 1, 1) := by decide +kernel
theorem dL_wears_25 : decode cL_wears 25 = .ok (.ireturn, 1) := by decide +kernel
theorem dL_acts_0 : decode cL_acts 0 = .ok (.iload_n 2, 1) := by decide +kernel
theorem dL_acts_1 : decode cL_acts 1 = .ok (.iconst 4, 1) := by decide +kernel
theorem dL_acts_2 : decode cL_acts 2 = .ok (.invokestatic 15, 3) := by decide +kernel
theorem dL_acts_5 : decode cL_acts 5 = .ok (.istore_n 3, 1) := by decide +kernel
theorem dL_acts_6 : decode cL_acts 6 = .ok (.iload_n 2, 1) := by decide +kernel
theorem dL_acts_7 : decode cL_acts 7 = .ok (.bipush 6, 2) := by decide +kernel
theorem dL_acts_9 : decode cL_acts 9 = .ok (.invokestatic 15, 3) := by decide +kernel
theorem dL_acts_12 : decode cL_acts 12 = .ok (.istore 4, 2) := by decide +kernel
theorem dL_acts_14 : decode cL_acts 14 = .ok (.iload_n 1, 1) := by decide +kernel
theorem dL_acts_15 : decode cL_acts 15 = .ok (.bipush 16, 2) := by decide +kernel
theorem dL_acts_17 : decode cL_acts 17 = .ok (.invokestatic 15, 3) := by decide +kernel
theorem dL_acts_20 : decode cL_acts 20 = .ok (.tableswitch 586 0 11 #[64, 81, 125, 163, 201, 247, 336, 368, 435, 470, 510, 563], 64) := by decide +kernel
theorem dL_acts_84 : decode cL_acts 84 = .ok (.aload_n 0, 1) := by decide +kernel
theorem dL_acts_85 : decode cL_acts 85 = .ok (.invokevirtual 21, 3) := by decide +kernel
theorem dL_acts_88 : decode cL_acts 88 = .ok (.aload_n 0, 1) := by decide +kernel
theorem dL_acts_89 : decode cL_acts 89 = .ok (.invokevirtual 25, 3) := by decide +kernel
theorem dL_acts_92 : decode cL_acts 92 = .ok (.if_icmp .ne 7, 3) := by decide +kernel
theorem dL_acts_95 : decode cL_acts 95 = .ok (.iconst 1, 1) := by decide +kernel
theorem dL_acts_96 : decode cL_acts 96 = .ok (.goto 4, 3) := by decide +kernel
theorem dL_acts_99 : decode cL_acts 99 = .ok (.iconst 0, 1) := by decide +kernel
theorem dL_acts_100 : decode cL_acts 100 = .ok (.ireturn, 1) := by decide +kernel
theorem dL_acts_101 : decode cL_acts 101 = .ok (.aload_n 0, 1) := by decide +kernel
theorem dL_acts_102 : decode cL_acts 102 = .ok (.iload_n 2, 1) := by decide +kernel
theorem dL_acts_103 : decode cL_acts 103 = .ok (.iconst 1, 1) := by decide +kernel
theorem dL_acts_104 : decode cL_acts 104 = .ok (.iand, 1) := by decide +kernel
theorem dL_acts_105 : decode cL_acts 105 = .ok (.iconst 1, 1) := by decide +kernel
theorem dL_acts_106 : decode cL_acts 106 = .ok (.if_icmp .ne 7, 3) := by decide +kernel
theorem dL_acts_109 : decode cL_acts 109 = .ok (.iconst 1, 1) := by decide +kernel
theorem dL_acts_110 : decode cL_acts 110 = .ok (.goto 4, 3) := by decide +kernel
theorem dL_acts_113 : decode cL_acts 113 = .ok (.iconst 0, 1) := by decide +kernel
theorem dL_acts_114 : decode cL_acts 114 = .ok (.invokevirtual 28, 3) := by decide +kernel
theorem dL_acts_117 : decode cL_acts 117 = .ok (.ifCond .ne 22, 3) := by decide +kernel
theorem dL_acts_120 : decode cL_acts 120 = .ok (.aload_n 0, 1) := by decide +kernel
theorem dL_acts_121 : decode cL_acts 121 = .ok (.invokevirtual 32, 3) := by decide +kernel
theorem dL_acts_124 : decode cL_acts 124 = .ok (.iload_n 2, 1) := by decide +kernel
theorem dL_acts_125 : decode cL_acts 125 = .ok (.iconst 1, 1) := by decide +kernel
theorem dL_acts_126 : decode cL_acts 126 = .ok (.iand, 1) := by decide +kernel
theorem dL_acts_127 : decode cL_acts 127 = .ok (.iconst 1, 1) := by decide +kernel
theorem dL_acts_128 : decode cL_acts 128 = .ok (.if_icmp .ne 7, 3) := by decide +kernel
theorem dL_acts_131 : decode cL_acts 131 = .ok (.iconst 1, 1) := by decide +kernel
theorem dL_acts_132 : decode cL_acts 132 = .ok (.goto 4, 3) := by decide +kernel
theorem dL_acts_135 : decode cL_acts 135 = .ok (.iconst 0, 1) := by decide +kernel
theorem dL_acts_136 : decode cL_acts 136 = .ok (.if_icmp .ne 7, 3) := by decide +kernel
theorem dL_acts_139 : decode cL_acts 139 = .ok (.iconst 1, 1) := by decide +kernel
theorem dL_acts_140 : decode cL_acts 140 = .ok (.goto 4, 3) := by decide +kernel
theorem dL_acts_143 : decode cL_acts 143 = .ok (.iconst 0, 1) := by decide +kernel
theorem dL_acts_144 : decode cL_acts 144 = .ok (.ireturn, 1) := by decide +kernel
theorem dL_acts_145 : decode cL_acts 145 = .ok (.aload_n 0, 1) := by decide +kernel
theorem dL_acts_146 : decode cL_acts 146 = .ok (.iload_n 3, 1) := by decide +kernel
theorem dL_acts_147 : decode cL_acts 147 = .ok (.iload_n 2, 1) := by decide +kernel
theorem dL_acts_148 : decode cL_acts 148 = .ok (.iconst 2, 1) := by decide +kernel
theorem dL_acts_149 : decode cL_acts 149 = .ok (.ishr, 1) := by decide +kernel
theorem dL_acts_150 : decode cL_acts 150 = .ok (.bipush 126, 2) := by decide +kernel
theorem dL_acts_152 : decode cL_acts 152 = .ok (.invokestatic 15, 3) := by decide +kernel
theorem dL_acts_155 : decode cL_acts 155 = .ok (.invokevirtual 35, 3) := by decide +kernel
theorem dL_acts_158 : decode cL_acts 158 = .ok (.ifCond .lt 23, 3) := by decide +kernel
theorem dL_acts_161 : decode cL_acts 161 = .ok (.aload_n 0, 1) := by decide +kernel
theorem dL_acts_162 : decode cL_acts 162 = .ok (.iload_n 3, 1) := by decide +kernel
theorem dL_acts_163 : decode cL_acts 163 = .ok (.invokevirtual 38, 3) := by decide +kernel
theorem dL_acts_166 : decode cL_acts 166 = .ok (.iload_n 2, 1) := by decide +kernel
theorem dL_acts_167 : decode cL_acts 167 = .ok (.iconst 2, 1) := by decide +kernel
theorem dL_acts_168 : decode cL_acts 168 = .ok (.ishr, 1) := by decide +kernel
theorem dL_acts_169 : decode cL_acts 169 = .ok (.bipush 126, 2) := by decide +kernel
theorem dL_acts_171 : decode cL_acts 171 = .ok (.invokestatic 15, 3) := by decide +kernel
theorem dL_acts_174 : decode cL_acts 174 = .ok (.if_icmp .ne 7, 3) := by decide +kernel
theorem dL_acts_177 : decode cL_acts 177 = .ok (.iconst 1, 1) := by decide +kernel
theorem dL_acts_178 : decode cL_acts 178 = .ok (.goto 4, 3) := by decide +kernel
theorem dL_acts_181 : decode cL_acts 181 = .ok (.iconst 0, 1) := by decide +kernel
theorem dL_acts_182 : decode cL_acts 182 = .ok (.ireturn, 1) := by decide +kernel
theorem dL_acts_183 : decode cL_acts 183 = .ok (.aload_n 0, 1) := by decide +kernel
theorem dL_acts_184 : decode cL_acts 184 = .ok (.iload_n 3, 1) := by decide +kernel
theorem dL_acts_185 : decode cL_acts 185 = .ok (.iload_n 2, 1) := by decide +kernel
theorem dL_acts_186 : decode cL_acts 186 = .ok (.iconst 2, 1) := by decide +kernel
theorem dL_acts_187 : decode cL_acts 187 = .ok (.ishr, 1) := by decide +kernel
theorem dL_acts_188 : decode cL_acts 188 = .ok (.bipush 101, 2) := by decide +kernel
theorem dL_acts_190 : decode cL_acts 190 = .ok (.invokestatic 15, 3) := by decide +kernel
theorem dL_acts_193 : decode cL_acts 193 = .ok (.invokevirtual 41, 3) := by decide +kernel
theorem dL_acts_196 : decode cL_acts 196 = .ok (.ifCond .lt 23, 3) := by decide +kernel
theorem dL_acts_199 : decode cL_acts 199 = .ok (.aload_n 0, 1) := by decide +kernel
theorem dL_acts_200 : decode cL_acts 200 = .ok (.iload_n 3, 1) := by decide +kernel
theorem dL_acts_201 : decode cL_acts 201 = .ok (.invokevirtual 44, 3) := by decide +kernel
theorem dL_acts_204 : decode cL_acts 204 = .ok (.iload_n 2, 1) := by decide +kernel
theorem dL_acts_205 : decode cL_acts 205 = .ok (.iconst 2, 1) := by decide +kernel
theorem dL_acts_206 : decode cL_acts 206 = .ok (.ishr, 1) := by decide +kernel
theorem dL_acts_207 : decode cL_acts 207 = .ok (.bipush 101, 2) := by decide +kernel
theorem dL_acts_209 : decode cL_acts 209 = .ok (.invokestatic 15, 3) := by decide +kernel
theorem dL_acts_212 : decode cL_acts 212 = .ok (.if_icmp .ne 7, 3) := by decide +kernel
theorem dL_acts_215 : decode cL_acts 215 = .ok (.iconst 1, 1) := by decide +kernel
theorem dL_acts_216 : decode cL_acts 216 = .ok (.goto 4, 3) := by decide +kernel
theorem dL_acts_219 : decode cL_acts 219 = .ok (.iconst 0, 1) := by decide +kernel
theorem dL_acts_220 : decode cL_acts 220 = .ok (.ireturn, 1) := by decide +kernel
theorem dL_acts_221 : decode cL_acts 221 = .ok (.aload_n 0, 1) := by decide +kernel
theorem dL_acts_222 : decode cL_acts 222 = .ok (.iload_n 3, 1) := by decide +kernel
theorem dL_acts_223 : decode cL_acts 223 = .ok (.iload_n 2, 1) := by decide +kernel
theorem dL_acts_224 : decode cL_acts 224 = .ok (.iconst 2, 1) := by decide +kernel
theorem dL_acts_225 : decode cL_acts 225 = .ok (.ishr, 1) := by decide +kernel
theorem dL_acts_226 : decode cL_acts 226 = .ok (.bipush 51, 2) := by decide +kernel
theorem dL_acts_228 : decode cL_acts 228 = .ok (.invokestatic 15, 3) := by decide +kernel
theorem dL_acts_231 : decode cL_acts 231 = .ok (.bipush 25, 2) := by decide +kernel
theorem dL_acts_233 : decode cL_acts 233 = .ok (.isub, 1) := by decide +kernel
theorem dL_acts_234 : decode cL_acts 234 = .ok (.invokevirtual 47, 3) := by decide +kernel
theorem dL_acts_237 : decode cL_acts 237 = .ok (.bipush (-25), 2) := by decide +kernel
theorem dL_acts_239 : decode cL_acts 239 = .ok (.if_icmp .lt 26, 3) := by decide +kernel
theorem dL_acts_242 : decode cL_acts 242 = .ok (.aload_n 0, 1) := by decide +kernel
theorem dL_acts_243 : decode cL_acts 243 = .ok (.iload_n 3, 1) := by decide +kernel
theorem dL_acts_244 : decode cL_acts 244 = .ok (.invokevirtual 50, 3) := by decide +kernel
theorem dL_acts_247 : decode cL_acts 247 = .ok (.iload_n 2, 1) := by decide +kernel
theorem dL_acts_248 : decode cL_acts 248 = .ok (.iconst 2, 1) := by decide +kernel
theorem dL_acts_249 : decode cL_acts 249 = .ok (.ishr, 1) := by decide +kernel
theorem dL_acts_250 : decode cL_acts 250 = .ok (.bipush 51, 2) := by decide +kernel
theorem dL_acts_252 : decode cL_acts 252 = .ok (.invokestatic 15, 3) := by decide +kernel
theorem dL_acts_255 : decode cL_acts 255 = .ok (.bipush 25, 2) := by decide +kernel
theorem dL_acts_257 : decode cL_acts 257 = .ok (.isub, 1) := by decide +kernel
theorem dL_acts_258 : decode cL_acts 258 = .ok (.if_icmp .ne 7, 3) := by decide +kernel
theorem dL_acts_261 : decode cL_acts 261 = .ok (.iconst 1, 1) := by decide +kernel
theorem dL_acts_262 : decode cL_acts 262 = .ok (.goto 4, 3) := by decide +kernel
theorem dL_acts_265 : decode cL_acts 265 = .ok (.iconst 0, 1) := by decide +kernel
theorem dL_acts_266 : decode cL_acts 266 = .ok (.ireturn, 1) := by decide +kernel
theorem dL_acts_267 : decode cL_acts 267 = .ok (.aload_n 0, 1) := by decide +kernel
theorem dL_acts_268 : decode cL_acts 268 = .ok (.invokevirtual 53, 3) := by decide +kernel
theorem dL_acts_271 : decode cL_acts 271 = .ok (.bipush 12, 2) := by decide +kernel
theorem dL_acts_273 : decode cL_acts 273 = .ok (.if_icmp .ne 20, 3) := by decide +kernel
theorem dL_acts_276 : decode cL_acts 276 = .ok (.aload_n 0, 1) := by decide +kernel
theorem dL_acts_277 : decode cL_acts 277 = .ok (.iload 4, 2) := by decide +kernel
theorem dL_acts_279 : decode cL_acts 279 = .ok (.invokevirtual 57, 3) := by decide +kernel
theorem dL_acts_282 : decode cL_acts 282 = .ok (.ifCond .lt 7, 3) := by decide +kernel
theorem dL_acts_285 : decode cL_acts 285 = .ok (.iconst 1, 1) := by decide +kernel
theorem dL_acts_286 : decode cL_acts 286 = .ok (.goto 69, 3) := by decide +kernel
theorem dL_acts_289 : decode cL_acts 289 = .ok (.iconst 0, 1) := by decide +kernel
theorem dL_acts_290 : decode cL_acts 290 = .ok (.goto 65, 3) := by decide +kernel
theorem dL_acts_293 : decode cL_acts 293 = .ok (.aload_n 0, 1) := by decide +kernel
theorem dL_acts_294 : decode cL_acts 294 = .ok (.iload_n 2, 1) := by decide +kernel
theorem dL_acts_295 : decode cL_acts 295 = .ok (.iconst 3, 1) := by decide +kernel
theorem dL_acts_296 : decode cL_acts 296 = .ok (.ishr, 1) := by decide +kernel
theorem dL_acts_297 : decode cL_acts 297 = .ok (.iconst 4, 1) := by decide +kernel
theorem dL_acts_298 : decode cL_acts 298 = .ok (.iload 4, 2) := by decide +kernel
theorem dL_acts_300 : decode cL_acts 300 = .ok (.iadd, 1) := by decide +kernel
theorem dL_acts_301 : decode cL_acts 301 = .ok (.invokestatic 15, 3) := by decide +kernel
theorem dL_acts_304 : decode cL_acts 304 = .ok (.iload 4, 2) := by decide +kernel
theorem dL_acts_306 : decode cL_acts 306 = .ok (.iconst 1, 1) := by decide +kernel
theorem dL_acts_307 : decode cL_acts 307 = .ok (.iload_n 2, 1) := by decide +kernel
theorem dL_acts_308 : decode cL_acts 308 = .ok (.bipush 7, 2) := by decide +kernel
theorem dL_acts_310 : decode cL_acts 310 = .ok (.ishr, 1) := by decide +kernel
theorem dL_acts_311 : decode cL_acts 311 = .ok (.sipush 150, 3) := by decide +kernel
theorem dL_acts_314 : decode cL_acts 314 = .ok (.invokestatic 15, 3) := by decide +kernel
theorem dL_acts_317 : decode cL_acts 317 = .ok (.iadd, 1) := by decide +kernel
theorem dL_acts_318 : decode cL_acts 318 = .ok (.iload_n 2, 1) := by decide +kernel
theorem dL_acts_319 : decode cL_acts 319 = .ok (.bipush 9, 2) := by decide +kernel
theorem dL_acts_321 : decode cL_acts 321 = .ok (.ishr, 1) := by decide +kernel
theorem dL_acts_322 : decode cL_acts 322 = .ok (.bipush 101, 2) := by decide +kernel
theorem dL_acts_324 : decode cL_acts 324 = .ok (.invokestatic 15, 3) := by decide +kernel
theorem dL_acts_327 : decode cL_acts 327 = .ok (.bipush 50, 2) := by decide +kernel
theorem dL_acts_329 : decode cL_acts 329 = .ok (.isub, 1) := by decide +kernel
theorem dL_acts_330 : decode cL_acts 330 = .ok (.iload_n 2, 1) := by decide +kernel
theorem dL_acts_331 : decode cL_acts 331 = .ok (.bipush 12, 2) := by decide +kernel
theorem dL_acts_333 : decode cL_acts 333 = .ok (.ishr, 1) := by decide +kernel
theorem dL_acts_334 : decode cL_acts 334 = .ok (.iconst 3, 1) := by decide +kernel
theorem dL_acts_335 : decode cL_acts 335 = .ok (.invokestatic 15, 3) := by decide +kernel
theorem dL_acts_338 : decode cL_acts 338 = .ok (.invokevirtual 60, 3) := by decide +kernel
theorem dL_acts_341 : decode cL_acts 341 = .ok (.aload_n 0, 1) := by decide +kernel
theorem dL_acts_342 : decode cL_acts 342 = .ok (.invokevirtual 53, 3) := by decide +kernel
theorem dL_acts_345 : decode cL_acts 345 = .ok (.iconst 1, 1) := by decide +kernel
theorem dL_acts_346 : decode cL_acts 346 = .ok (.isub, 1) := by decide +kernel
theorem dL_acts_347 : decode cL_acts 347 = .ok (.if_icmp .ne 7, 3) := by decide +kernel
theorem dL_acts_350 : decode cL_acts 350 = .ok (.iconst 1, 1) := by decide +kernel
theorem dL_acts_351 : decode cL_acts 351 = .ok (.goto 4, 3) := by decide +kernel
theorem dL_acts_354 : decode cL_acts 354 = .ok (.iconst 0, 1) := by decide +kernel
theorem dL_acts_355 : decode cL_acts 355 = .ok (.ireturn, 1) := by decide +kernel
theorem dL_acts_356 : decode cL_acts 356 = .ok (.aload_n 0, 1) := by decide +kernel
theorem dL_acts_357 : decode cL_acts 357 = .ok (.invokevirtual 53, 3) := by decide +kernel
theorem dL_acts_360 : decode cL_acts 360 = .ok (.ifCond .eq 22, 3) := by decide +kernel
theorem dL_acts_363 : decode cL_acts 363 = .ok (.aload_n 0, 1) := by decide +kernel
theorem dL_acts_364 : decode cL_acts 364 = .ok (.iload_n 2, 1) := by decide +kernel
theorem dL_acts_365 : decode cL_acts 365 = .ok (.aload_n 0, 1) := by decide +kernel
theorem dL_acts_366 : decode cL_acts 366 = .ok (.invokevirtual 53, 3) := by decide +kernel
theorem dL_acts_369 : decode cL_acts 369 = .ok (.invokestatic 15, 3) := by decide +kernel
theorem dL_acts_372 : decode cL_acts 372 = .ok (.invokevirtual 64, 3) := by decide +kernel
theorem dL_acts_375 : decode cL_acts 375 = .ok (.aload_n 0, 1) := by decide +kernel
theorem dL_acts_376 : decode cL_acts 376 = .ok (.invokevirtual 53, 3) := by decide +kernel
theorem dL_acts_379 : decode cL_acts 379 = .ok (.if_icmp .ne 7, 3) := by decide +kernel
theorem dL_acts_382 : decode cL_acts 382 = .ok (.iconst 1, 1) := by decide +kernel
theorem dL_acts_383 : decode cL_acts 383 = .ok (.goto 4, 3) := by decide +kernel
theorem dL_acts_386 : decode cL_acts 386 = .ok (.iconst 0, 1) := by decide +kernel
theorem dL_acts_387 : decode cL_acts 387 = .ok (.ireturn, 1) := by decide +kernel
theorem dL_acts_388 : decode cL_acts 388 = .ok (.iload_n 2, 1) := by decide +kernel
theorem dL_acts_389 : decode cL_acts 389 = .ok (.iconst 1, 1) := by decide +kernel
theorem dL_acts_390 : decode cL_acts 390 = .ok (.iand, 1) := by decide +kernel
theorem dL_acts_391 : decode cL_acts 391 = .ok (.iconst 1, 1) := by decide +kernel
theorem dL_acts_392 : decode cL_acts 392 = .ok (.if_icmp .ne 35, 3) := by decide +kernel
theorem dL_acts_395 : decode cL_acts 395 = .ok (.aload_n 0, 1) := by decide +kernel
theorem dL_acts_396 : decode cL_acts 396 = .ok (.iload 4, 2) := by decide +kernel
theorem dL_acts_398 : decode cL_acts 398 = .ok (.invokevirtual 67, 3) := by decide +kernel
theorem dL_acts_401 : decode cL_acts 401 = .ok (.ifCond .ne 18, 3) := by decide +kernel
theorem dL_acts_404 : decode cL_acts 404 = .ok (.aload_n 0, 1) := by decide +kernel
theorem dL_acts_405 : decode cL_acts 405 = .ok (.iload 4, 2) := by decide +kernel
theorem dL_acts_407 : decode cL_acts 407 = .ok (.invokevirtual 71, 3) := by decide +kernel
theorem dL_acts_410 : decode cL_acts 410 = .ok (.invokestatic 74, 3) := by decide +kernel
theorem dL_acts_413 : decode cL_acts 413 = .ok (.sipush 150, 3) := by decide +kernel
theorem dL_acts_416 : decode cL_acts 416 = .ok (.if_icmp .gt 7, 3) := by decide +kernel
theorem dL_acts_419 : decode cL_acts 419 = .ok (.iconst 1, 1) := by decide +kernel
theorem dL_acts_420 : decode cL_acts 420 = .ok (.goto 34, 3) := by decide +kernel
theorem dL_acts_423 : decode cL_acts 423 = .ok (.iconst 0, 1) := by decide +kernel
theorem dL_acts_424 : decode cL_acts 424 = .ok (.goto 30, 3) := by decide +kernel
theorem dL_acts_427 : decode cL_acts 427 = .ok (.aload_n 0, 1) := by decide +kernel
theorem dL_acts_428 : decode cL_acts 428 = .ok (.iload 4, 2) := by decide +kernel
theorem dL_acts_430 : decode cL_acts 430 = .ok (.iload_n 2, 1) := by decide +kernel
theorem dL_acts_431 : decode cL_acts 431 = .ok (.iconst 4, 1) := by decide +kernel
theorem dL_acts_432 : decode cL_acts 432 = .ok (.ishr, 1) := by decide +kernel
theorem dL_acts_433 : decode cL_acts 433 = .ok (.bipush 101, 2) := by decide +kernel
theorem dL_acts_435 : decode cL_acts 435 = .ok (.invokestatic 15, 3) := by decide +kernel
theorem dL_acts_438 : decode cL_acts 438 = .ok (.bipush 50, 2) := by decide +kernel
theorem dL_acts_440 : decode cL_acts 440 = .ok (.isub, 1) := by decide +kernel
theorem dL_acts_441 : decode cL_acts 441 = .ok (.invokevirtual 77, 3) := by decide +kernel
theorem dL_acts_444 : decode cL_acts 444 = .ok (.bipush (-50), 2) := by decide +kernel
theorem dL_acts_446 : decode cL_acts 446 = .ok (.if_icmp .lt 7, 3) := by decide +kernel
theorem dL_acts_449 : decode cL_acts 449 = .ok (.iconst 1, 1) := by decide +kernel
theorem dL_acts_450 : decode cL_acts 450 = .ok (.goto 4, 3) := by decide +kernel
theorem dL_acts_453 : decode cL_acts 453 = .ok (.iconst 0, 1) := by decide +kernel
theorem dL_acts_454 : decode cL_acts 454 = .ok (.ireturn, 1) := by decide +kernel
theorem dL_acts_455 : decode cL_acts 455 = .ok (.aload_n 0, 1) := by decide +kernel
theorem dL_acts_456 : decode cL_acts 456 = .ok (.iload 4, 2) := by decide +kernel
theorem dL_acts_458 : decode cL_acts 458 = .ok (.iload_n 2, 1) := by decide +kernel
theorem dL_acts_459 : decode cL_acts 459 = .ok (.iconst 3, 1) := by decide +kernel
theorem dL_acts_460 : decode cL_acts 460 = .ok (.ishr, 1) := by decide +kernel
theorem dL_acts_461 : decode cL_acts 461 = .ok (.sipush 151, 3) := by decide +kernel
theorem dL_acts_464 : decode cL_acts 464 = .ok (.invokestatic 15, 3) := by decide +kernel
theorem dL_acts_467 : decode cL_acts 467 = .ok (.ineg, 1) := by decide +kernel
theorem dL_acts_468 : decode cL_acts 468 = .ok (.iload_n 2, 1) := by decide +kernel
theorem dL_acts_469 : decode cL_acts 469 = .ok (.bipush 8, 2) := by decide +kernel
theorem dL_acts_471 : decode cL_acts 471 = .ok (.ishr, 1) := by decide +kernel
theorem dL_acts_472 : decode cL_acts 472 = .ok (.sipush 151, 3) := by decide +kernel
theorem dL_acts_475 : decode cL_acts 475 = .ok (.invokestatic 15, 3) := by decide +kernel
theorem dL_acts_478 : decode cL_acts 478 = .ok (.invokevirtual 80, 3) := by decide +kernel
theorem dL_acts_481 : decode cL_acts 481 = .ok (.ifCond .lt 7, 3) := by decide +kernel
theorem dL_acts_484 : decode cL_acts 484 = .ok (.iconst 1, 1) := by decide +kernel
theorem dL_acts_485 : decode cL_acts 485 = .ok (.goto 4, 3) := by decide +kernel
theorem dL_acts_488 : decode cL_acts 488 = .ok (.iconst 0, 1) := by decide +kernel
theorem dL_acts_489 : decode cL_acts 489 = .ok (.ireturn, 1) := by decide +kernel
theorem dL_acts_490 : decode cL_acts 490 = .ok (.aload_n 0, 1) := by decide +kernel
theorem dL_acts_491 : decode cL_acts 491 = .ok (.iload 4, 2) := by decide +kernel
theorem dL_acts_493 : decode cL_acts 493 = .ok (.iconst 1, 1) := by decide +kernel
theorem dL_acts_494 : decode cL_acts 494 = .ok (.iload_n 2, 1) := by decide +kernel
theorem dL_acts_495 : decode cL_acts 495 = .ok (.iconst 3, 1) := by decide +kernel
theorem dL_acts_496 : decode cL_acts 496 = .ok (.ishr, 1) := by decide +kernel
theorem dL_acts_497 : decode cL_acts 497 = .ok (.iload_n 2, 1) := by decide +kernel
theorem dL_acts_498 : decode cL_acts 498 = .ok (.bipush 12, 2) := by decide +kernel
theorem dL_acts_500 : decode cL_acts 500 = .ok (.ishr, 1) := by decide +kernel
theorem dL_acts_501 : decode cL_acts 501 = .ok (.iconst 1, 1) := by decide +kernel
theorem dL_acts_502 : decode cL_acts 502 = .ok (.iand, 1) := by decide +kernel
theorem dL_acts_503 : decode cL_acts 503 = .ok (.ifCond .ne 9, 3) := by decide +kernel
theorem dL_acts_506 : decode cL_acts 506 = .ok (.sipush 300, 3) := by decide +kernel
theorem dL_acts_509 : decode cL_acts 509 = .ok (.goto 5, 3) := by decide +kernel
theorem dL_acts_512 : decode cL_acts 512 = .ok (.bipush 20, 2) := by decide +kernel
theorem dL_acts_514 : decode cL_acts 514 = .ok (.invokestatic 15, 3) := by decide +kernel
theorem dL_acts_517 : decode cL_acts 517 = .ok (.iadd, 1) := by decide +kernel
theorem dL_acts_518 : decode cL_acts 518 = .ok (.invokevirtual 84, 3) := by decide +kernel
theorem dL_acts_521 : decode cL_acts 521 = .ok (.ifCond .le 7, 3) := by decide +kernel
theorem dL_acts_524 : decode cL_acts 524 = .ok (.iconst 1, 1) := by decide +kernel
theorem dL_acts_525 : decode cL_acts 525 = .ok (.goto 4, 3) := by decide +kernel
theorem dL_acts_528 : decode cL_acts 528 = .ok (.iconst 0, 1) := by decide +kernel
theorem dL_acts_529 : decode cL_acts 529 = .ok (.ireturn, 1) := by decide +kernel
theorem dL_acts_530 : decode cL_acts 530 = .ok (.aload_n 0, 1) := by decide +kernel
theorem dL_acts_531 : decode cL_acts 531 = .ok (.iload 4, 2) := by decide +kernel
theorem dL_acts_533 : decode cL_acts 533 = .ok (.iload_n 2, 1) := by decide +kernel
theorem dL_acts_534 : decode cL_acts 534 = .ok (.iconst 3, 1) := by decide +kernel
theorem dL_acts_535 : decode cL_acts 535 = .ok (.ishr, 1) := by decide +kernel
theorem dL_acts_536 : decode cL_acts 536 = .ok (.iconst 3, 1) := by decide +kernel
theorem dL_acts_537 : decode cL_acts 537 = .ok (.invokestatic 15, 3) := by decide +kernel
theorem dL_acts_540 : decode cL_acts 540 = .ok (.iload_n 2, 1) := by decide +kernel
theorem dL_acts_541 : decode cL_acts 541 = .ok (.iconst 5, 1) := by decide +kernel
theorem dL_acts_542 : decode cL_acts 542 = .ok (.ishr, 1) := by decide +kernel
theorem dL_acts_543 : decode cL_acts 543 = .ok (.sipush 301, 3) := by decide +kernel
theorem dL_acts_546 : decode cL_acts 546 = .ok (.invokestatic 15, 3) := by decide +kernel
theorem dL_acts_549 : decode cL_acts 549 = .ok (.sipush 150, 3) := by decide +kernel
theorem dL_acts_552 : decode cL_acts 552 = .ok (.isub, 1) := by decide +kernel
theorem dL_acts_553 : decode cL_acts 553 = .ok (.invokevirtual 87, 3) := by decide +kernel
theorem dL_acts_556 : decode cL_acts 556 = .ok (.ifCond .lt 25, 3) := by decide +kernel
theorem dL_acts_559 : decode cL_acts 559 = .ok (.aload_n 0, 1) := by decide +kernel
theorem dL_acts_560 : decode cL_acts 560 = .ok (.iconst 1, 1) := by decide +kernel
theorem dL_acts_561 : decode cL_acts 561 = .ok (.iload_n 2, 1) := by decide +kernel
theorem dL_acts_562 : decode cL_acts 562 = .ok (.bipush 7, 2) := by decide +kernel
theorem dL_acts_564 : decode cL_acts 564 = .ok (.ishr, 1) := by decide +kernel
theorem dL_acts_565 : decode cL_acts 565 = .ok (.bipush 9, 2) := by decide +kernel
theorem dL_acts_567 : decode cL_acts 567 = .ok (.invokestatic 15, 3) := by decide +kernel
theorem dL_acts_570 : decode cL_acts 570 = .ok (.iadd, 1) := by decide +kernel
theorem dL_acts_571 : decode cL_acts 571 = .ok (.invokevirtual 90, 3) := by decide +kernel
theorem dL_acts_574 : decode cL_acts 574 = .ok (.ifCond .le 7, 3) := by decide +kernel
theorem dL_acts_577 : decode cL_acts 577 = .ok (.iconst 1, 1) := by decide +kernel
theorem dL_acts_578 : decode cL_acts 578 = .ok (.goto 4, 3) := by decide +kernel
theorem dL_acts_581 : decode cL_acts 581 = .ok (.iconst 0, 1) := by decide +kernel
theorem dL_acts_582 : decode cL_acts 582 = .ok (.ireturn, 1) := by decide +kernel
theorem dL_acts_583 : decode cL_acts 583 = .ok (.aload_n 0, 1) := by decide +kernel
theorem dL_acts_584 : decode cL_acts 584 = .ok (.invokevirtual 93, 3) := by decide +kernel
theorem dL_acts_587 : decode cL_acts 587 = .ok (.ifCond .lt 17, 3) := by decide +kernel
theorem dL_acts_590 : decode cL_acts 590 = .ok (.aload_n 0, 1) := by decide +kernel
theorem dL_acts_591 : decode cL_acts 591 = .ok (.invokevirtual 96, 3) := by decide +kernel
theorem dL_acts_594 : decode cL_acts 594 = .ok (.sipush 20000, 3) := by decide +kernel
theorem dL_acts_597 : decode cL_acts 597 = .ok (.if_icmp .ne 7, 3) := by decide +kernel
theorem dL_acts_600 : decode cL_acts 600 = .ok (.iconst 1, 1) := by decide +kernel
theorem dL_acts_601 : decode cL_acts 601 = .ok (.goto 4, 3) := by decide +kernel
theorem dL_acts_604 : decode cL_acts 604 = .ok (.iconst 0, 1) := by decide +kernel
theorem dL_acts_605 : decode cL_acts 605 = .ok (.ireturn, 1) := by decide +kernel
theorem dL_acts_606 : decode cL_acts 606 = .ok (.aload_n 0, 1) := by decide +kernel
theorem dL_acts_607 : decode cL_acts 607 = .ok (.iload_n 3, 1) := by decide +kernel
theorem dL_acts_608 : decode cL_acts 608 = .ok (.iload_n 2, 1) := by decide +kernel
theorem dL_acts_609 : decode cL_acts 609 = .ok (.iconst 2, 1) := by decide +kernel
theorem dL_acts_610 : decode cL_acts 610 = .ok (.ishr, 1) := by decide +kernel
theorem dL_acts_611 : decode cL_acts 611 = .ok (.sipush 201, 3) := by decide +kernel
theorem dL_acts_614 : decode cL_acts 614 = .ok (.invokestatic 15, 3) := by decide +kernel
theorem dL_acts_617 : decode cL_acts 617 = .ok (.bipush 100, 2) := by decide +kernel
theorem dL_acts_619 : decode cL_acts 619 = .ok (.isub, 1) := by decide +kernel
theorem dL_acts_620 : decode cL_acts 620 = .ok (.invokevirtual 99, 3) := by decide +kernel
theorem dL_acts_623 : decode cL_acts 623 = .ok (.bipush (-100), 2) := by decide +kernel
theorem dL_acts_625 : decode cL_acts 625 = .ok (.if_icmp .lt 27, 3) := by decide +kernel
theorem dL_acts_628 : decode cL_acts 628 = .ok (.aload_n 0, 1) := by decide +kernel
theorem dL_acts_629 : decode cL_acts 629 = .ok (.iload_n 3, 1) := by decide +kernel
theorem dL_acts_630 : decode cL_acts 630 = .ok (.invokevirtual 102, 3) := by decide +kernel
theorem dL_acts_633 : decode cL_acts 633 = .ok (.iload_n 2, 1) := by decide +kernel
theorem dL_acts_634 : decode cL_acts 634 = .ok (.iconst 2, 1) := by decide +kernel
theorem dL_acts_635 : decode cL_acts 635 = .ok (.ishr, 1) := by decide +kernel
theorem dL_acts_636 : decode cL_acts 636 = .ok (.sipush 201, 3) := by decide +kernel
theorem dL_acts_639 : decode cL_acts 639 = .ok (.invokestatic 15, 3) := by decide +kernel
theorem dL_acts_642 : decode cL_acts 642 = .ok (.bipush 100, 2) := by decide +kernel
theorem dL_acts_644 : decode cL_acts 644 = .ok (.isub, 1) := by decide +kernel
theorem dL_acts_645 : decode cL_acts 645 = .ok (.if_icmp .ne 7, 3) := by decide +kernel
theorem dL_acts_648 : decode cL_acts 648 = .ok (.iconst 1, 1) := by decide +kernel
theorem dL_acts_649 : decode cL_acts 649 = .ok (.goto 4, 3) := by decide +kernel
theorem dL_acts_652 : decode cL_acts 652 = .ok (.iconst 0, 1) := by decide +kernel
theorem dL_acts_653 : decode cL_acts 653 = .ok (.ireturn, 1) := by decide +kernel
theorem dL_holds_0 : decode cL_holds 0 = .ok (.aload_n 0, 1) := by decide +kernel
theorem dL_holds_1 : decode cL_holds 1 = .ok (.invokevirtual 96, 3) := by decide +kernel
theorem dL_holds_4 : decode cL_holds 4 = .ok (.aload_n 0, 1) := by decide +kernel
theorem dL_holds_5 : decode cL_holds 5 = .ok (.invokestatic 105, 3) := by decide +kernel
theorem dL_holds_8 : decode cL_holds 8 = .ok (.iadd, 1) := by decide +kernel
theorem dL_holds_9 : decode cL_holds 9 = .ok (.aload_n 0, 1) := by decide +kernel
theorem dL_holds_10 : decode cL_holds 10 = .ok (.invokevirtual 109, 3) := by decide +kernel
theorem dL_holds_13 : decode cL_holds 13 = .ok (.iadd, 1) := by decide +kernel
theorem dL_holds_14 : decode cL_holds 14 = .ok (.aload_n 0, 1) := by decide +kernel
theorem dL_holds_15 : decode cL_holds 15 = .ok (.invokevirtual 112, 3) := by decide +kernel
theorem dL_holds_18 : decode cL_holds 18 = .ok (.isub, 1) := by decide +kernel
theorem dL_holds_19 : decode cL_holds 19 = .ok (.sipush 20000, 3) := by decide +kernel
theorem dL_holds_22 : decode cL_holds 22 = .ok (.aload_n 0, 1) := by decide +kernel
theorem dL_holds_23 : decode cL_holds 23 = .ok (.invokevirtual 115, 3) := by decide +kernel
theorem dL_holds_26 : decode cL_holds 26 = .ok (.iadd, 1) := by decide +kernel
theorem dL_holds_27 : decode cL_holds 27 = .ok (.if_icmp .ne 57, 3) := by decide +kernel
theorem dL_holds_30 : decode cL_holds 30 = .ok (.aload_n 0, 1) := by decide +kernel
theorem dL_holds_31 : decode cL_holds 31 = .ok (.invokevirtual 96, 3) := by decide +kernel
theorem dL_holds_34 : decode cL_holds 34 = .ok (.ifCond .lt 50, 3) := by decide +kernel
theorem dL_holds_37 : decode cL_holds 37 = .ok (.aload_n 0, 1) := by decide +kernel
theorem dL_holds_38 : decode cL_holds 38 = .ok (.invokevirtual 96, 3) := by decide +kernel
theorem dL_holds_41 : decode cL_holds 41 = .ok (.sipush 20000, 3) := by decide +kernel
theorem dL_holds_44 : decode cL_holds 44 = .ok (.if_icmp .gt 40, 3) := by decide +kernel
theorem dL_holds_47 : decode cL_holds 47 = .ok (.aload_n 0, 1) := by decide +kernel
theorem dL_holds_48 : decode cL_holds 48 = .ok (.invokevirtual 118, 3) := by decide +kernel
theorem dL_holds_51 : decode cL_holds 51 = .ok (.aload_n 0, 1) := by decide +kernel
theorem dL_holds_52 : decode cL_holds 52 = .ok (.invokevirtual 112, 3) := by decide +kernel
theorem dL_holds_55 : decode cL_holds 55 = .ok (.if_icmp .lt 29, 3) := by decide +kernel
theorem dL_holds_58 : decode cL_holds 58 = .ok (.aload_n 0, 1) := by decide +kernel
theorem dL_holds_59 : decode cL_holds 59 = .ok (.invokevirtual 118, 3) := by decide +kernel
theorem dL_holds_62 : decode cL_holds 62 = .ok (.aload_n 0, 1) := by decide +kernel
theorem dL_holds_63 : decode cL_holds 63 = .ok (.invokevirtual 109, 3) := by decide +kernel
theorem dL_holds_66 : decode cL_holds 66 = .ok (.if_icmp .gt 18, 3) := by decide +kernel
theorem dL_holds_69 : decode cL_holds 69 = .ok (.aload_n 0, 1) := by decide +kernel
theorem dL_holds_70 : decode cL_holds 70 = .ok (.invokevirtual 121, 3) := by decide +kernel
theorem dL_holds_73 : decode cL_holds 73 = .ok (.aload_n 0, 1) := by decide +kernel
theorem dL_holds_74 : decode cL_holds 74 = .ok (.invokevirtual 118, 3) := by decide +kernel
theorem dL_holds_77 : decode cL_holds 77 = .ok (.if_icmp .gt 7, 3) := by decide +kernel
theorem dL_holds_80 : decode cL_holds 80 = .ok (.iconst 1, 1) := by decide +kernel
theorem dL_holds_81 : decode cL_holds 81 = .ok (.goto 4, 3) := by decide +kernel
theorem dL_holds_84 : decode cL_holds 84 = .ok (.iconst 0, 1) := by decide +kernel
theorem dL_holds_85 : decode cL_holds 85 = .ok (.istore_n 1, 1) := by decide +kernel
theorem dL_holds_86 : decode cL_holds 86 = .ok (.iconst 0, 1) := by decide +kernel
theorem dL_holds_87 : decode cL_holds 87 = .ok (.istore_n 2, 1) := by decide +kernel
theorem dL_holds_88 : decode cL_holds 88 = .ok (.iload_n 2, 1) := by decide +kernel
theorem dL_holds_89 : decode cL_holds 89 = .ok (.iconst 4, 1) := by decide +kernel
theorem dL_holds_90 : decode cL_holds 90 = .ok (.if_icmp .ge 33, 3) := by decide +kernel
theorem dL_holds_93 : decode cL_holds 93 = .ok (.iload_n 1, 1) := by decide +kernel
theorem dL_holds_94 : decode cL_holds 94 = .ok (.ifCond .eq 21, 3) := by decide +kernel
theorem dL_holds_97 : decode cL_holds 97 = .ok (.aload_n 0, 1) := by decide +kernel
theorem dL_holds_98 : decode cL_holds 98 = .ok (.iload_n 2, 1) := by decide +kernel
theorem dL_holds_99 : decode cL_holds 99 = .ok (.invokevirtual 124, 3) := by decide +kernel
theorem dL_holds_102 : decode cL_holds 102 = .ok (.invokestatic 74, 3) := by decide +kernel
theorem dL_holds_105 : decode cL_holds 105 = .ok (.sipush 150, 3) := by decide +kernel
theorem dL_holds_108 : decode cL_holds 108 = .ok (.if_icmp .gt 7, 3) := by decide +kernel
theorem dL_holds_111 : decode cL_holds 111 = .ok (.iconst 1, 1) := by decide +kernel
theorem dL_holds_112 : decode cL_holds 112 = .ok (.goto 4, 3) := by decide +kernel
theorem dL_holds_115 : decode cL_holds 115 = .ok (.iconst 0, 1) := by decide +kernel
theorem dL_holds_116 : decode cL_holds 116 = .ok (.istore_n 1, 1) := by decide +kernel
theorem dL_holds_117 : decode cL_holds 117 = .ok (.iinc 2 1, 3) := by decide +kernel
theorem dL_holds_120 : decode cL_holds 120 = .ok (.goto (-32), 3) := by decide +kernel
theorem dL_holds_123 : decode cL_holds 123 = .ok (.iconst 0, 1) := by decide +kernel
theorem dL_holds_124 : decode cL_holds 124 = .ok (.istore_n 2, 1) := by decide +kernel
theorem dL_holds_125 : decode cL_holds 125 = .ok (.iload_n 2, 1) := by decide +kernel
theorem dL_holds_126 : decode cL_holds 126 = .ok (.bipush 6, 2) := by decide +kernel
theorem dL_holds_128 : decode cL_holds 128 = .ok (.if_icmp .ge 253, 3) := by decide +kernel
theorem dL_holds_131 : decode cL_holds 131 = .ok (.iconst 0, 1) := by decide +kernel
theorem dL_holds_132 : decode cL_holds 132 = .ok (.istore_n 3, 1) := by decide +kernel
theorem dL_holds_133 : decode cL_holds 133 = .ok (.iconst 0, 1) := by decide +kernel
theorem dL_holds_134 : decode cL_holds 134 = .ok (.istore 4, 2) := by decide +kernel
theorem dL_holds_136 : decode cL_holds 136 = .ok (.iload 4, 2) := by decide +kernel
theorem dL_holds_138 : decode cL_holds 138 = .ok (.aload_n 0, 1) := by decide +kernel
theorem dL_holds_139 : decode cL_holds 139 = .ok (.invokevirtual 53, 3) := by decide +kernel
theorem dL_holds_142 : decode cL_holds 142 = .ok (.if_icmp .ge 87, 3) := by decide +kernel
theorem dL_holds_145 : decode cL_holds 145 = .ok (.iload_n 3, 1) := by decide +kernel
theorem dL_holds_146 : decode cL_holds 146 = .ok (.aload_n 0, 1) := by decide +kernel
theorem dL_holds_147 : decode cL_holds 147 = .ok (.iload 4, 2) := by decide +kernel
theorem dL_holds_149 : decode cL_holds 149 = .ok (.invokevirtual 127, 3) := by decide +kernel
theorem dL_holds_152 : decode cL_holds 152 = .ok (.iload_n 2, 1) := by decide +kernel
theorem dL_holds_153 : decode cL_holds 153 = .ok (.if_icmp .ne 12, 3) := by decide +kernel
theorem dL_holds_156 : decode cL_holds 156 = .ok (.aload_n 0, 1) := by decide +kernel
theorem dL_holds_157 : decode cL_holds 157 = .ok (.iload 4, 2) := by decide +kernel
theorem dL_holds_159 : decode cL_holds 159 = .ok (.invokevirtual 130, 3) := by decide +kernel
theorem dL_holds_162 : decode cL_holds 162 = .ok (.goto 4, 3) := by decide +kernel
theorem dL_holds_165 : decode cL_holds 165 = .ok (.iconst 0, 1) := by decide +kernel
theorem dL_holds_166 : decode cL_holds 166 = .ok (.iadd, 1) := by decide +kernel
theorem dL_holds_167 : decode cL_holds 167 = .ok (.istore_n 3, 1) := by decide +kernel
theorem dL_holds_168 : decode cL_holds 168 = .ok (.iload_n 1, 1) := by decide +kernel
theorem dL_holds_169 : decode cL_holds 169 = .ok (.ifCond .eq 52, 3) := by decide +kernel
theorem dL_holds_172 : decode cL_holds 172 = .ok (.aload_n 0, 1) := by decide +kernel
theorem dL_holds_173 : decode cL_holds 173 = .ok (.iload 4, 2) := by decide +kernel
theorem dL_holds_175 : decode cL_holds 175 = .ok (.invokevirtual 133, 3) := by decide +kernel
theorem dL_holds_178 : decode cL_holds 178 = .ok (.ifCond .ne 12, 3) := by decide +kernel
theorem dL_holds_181 : decode cL_holds 181 = .ok (.aload_n 0, 1) := by decide +kernel
theorem dL_holds_182 : decode cL_holds 182 = .ok (.iload 4, 2) := by decide +kernel
theorem dL_holds_184 : decode cL_holds 184 = .ok (.invokevirtual 130, 3) := by decide +kernel
theorem dL_holds_187 : decode cL_holds 187 = .ok (.ifCond .ne 34, 3) := by decide +kernel
theorem dL_holds_190 : decode cL_holds 190 = .ok (.aload_n 0, 1) := by decide +kernel
theorem dL_holds_191 : decode cL_holds 191 = .ok (.iload 4, 2) := by decide +kernel
theorem dL_holds_193 : decode cL_holds 193 = .ok (.invokevirtual 136, 3) := by decide +kernel
theorem dL_holds_196 : decode cL_holds 196 = .ok (.iconst 4, 1) := by decide +kernel
theorem dL_holds_197 : decode cL_holds 197 = .ok (.if_icmp .lt 20, 3) := by decide +kernel
theorem dL_holds_200 : decode cL_holds 200 = .ok (.aload_n 0, 1) := by decide +kernel
theorem dL_holds_201 : decode cL_holds 201 = .ok (.iload 4, 2) := by decide +kernel
theorem dL_holds_203 : decode cL_holds 203 = .ok (.invokevirtual 136, 3) := by decide +kernel
theorem dL_holds_206 : decode cL_holds 206 = .ok (.iconst 4, 1) := by decide +kernel
theorem dL_holds_207 : decode cL_holds 207 = .ok (.isub, 1) := by decide +kernel
theorem dL_holds_208 : decode cL_holds 208 = .ok (.aload_n 0, 1) := by decide +kernel
theorem dL_holds_209 : decode cL_holds 209 = .ok (.iload 4, 2) := by decide +kernel
theorem dL_holds_211 : decode cL_holds 211 = .ok (.invokevirtual 127, 3) := by decide +kernel
theorem dL_holds_214 : decode cL_holds 214 = .ok (.if_icmp .ge 7, 3) := by decide +kernel
theorem dL_holds_217 : decode cL_holds 217 = .ok (.iconst 1, 1) := by decide +kernel
theorem dL_holds_218 : decode cL_holds 218 = .ok (.goto 4, 3) := by decide +kernel
theorem dL_holds_221 : decode cL_holds 221 = .ok (.iconst 0, 1) := by decide +kernel
theorem dL_holds_222 : decode cL_holds 222 = .ok (.istore_n 1, 1) := by decide +kernel
theorem dL_holds_223 : decode cL_holds 223 = .ok (.iinc 4 1, 3) := by decide +kernel
theorem dL_holds_226 : decode cL_holds 226 = .ok (.goto (-90), 3) := by decide +kernel
theorem dL_holds_229 : decode cL_holds 229 = .ok (.iload_n 3, 1) := by decide +kernel
theorem dL_holds_230 : decode cL_holds 230 = .ok (.sipush (-300), 3) := by decide +kernel
theorem dL_holds_233 : decode cL_holds 233 = .ok (.if_icmp .ge 9, 3) := by decide +kernel
theorem dL_holds_236 : decode cL_holds 236 = .ok (.sipush (-300), 3) := by decide +kernel
theorem dL_holds_239 : decode cL_holds 239 = .ok (.goto 17, 3) := by decide +kernel
theorem dL_holds_242 : decode cL_holds 242 = .ok (.iload_n 3, 1) := by decide +kernel
theorem dL_holds_243 : decode cL_holds 243 = .ok (.sipush 300, 3) := by decide +kernel
theorem dL_holds_246 : decode cL_holds 246 = .ok (.if_icmp .le 9, 3) := by decide +kernel
theorem dL_holds_249 : decode cL_holds 249 = .ok (.sipush 300, 3) := by decide +kernel
theorem dL_holds_252 : decode cL_holds 252 = .ok (.goto 4, 3) := by decide +kernel
theorem dL_holds_255 : decode cL_holds 255 = .ok (.iload_n 3, 1) := by decide +kernel
theorem dL_holds_256 : decode cL_holds 256 = .ok (.istore_n 3, 1) := by decide +kernel
theorem dL_holds_257 : decode cL_holds 257 = .ok (.aload_n 0, 1) := by decide +kernel
theorem dL_holds_258 : decode cL_holds 258 = .ok (.iload_n 2, 1) := by decide +kernel
theorem dL_holds_259 : decode cL_holds 259 = .ok (.invokevirtual 71, 3) := by decide +kernel
theorem dL_holds_262 : decode cL_holds 262 = .ok (.aload_n 0, 1) := by decide +kernel
theorem dL_holds_263 : decode cL_holds 263 = .ok (.iload_n 2, 1) := by decide +kernel
theorem dL_holds_264 : decode cL_holds 264 = .ok (.invokevirtual 139, 3) := by decide +kernel
theorem dL_holds_267 : decode cL_holds 267 = .ok (.iadd, 1) := by decide +kernel
theorem dL_holds_268 : decode cL_holds 268 = .ok (.istore 4, 2) := by decide +kernel
theorem dL_holds_270 : decode cL_holds 270 = .ok (.iload_n 1, 1) := by decide +kernel
theorem dL_holds_271 : decode cL_holds 271 = .ok (.ifCond .eq 102, 3) := by decide +kernel
theorem dL_holds_274 : decode cL_holds 274 = .ok (.aload_n 0, 1) := by decide +kernel
theorem dL_holds_275 : decode cL_holds 275 = .ok (.iload_n 2, 1) := by decide +kernel
theorem dL_holds_276 : decode cL_holds 276 = .ok (.invokevirtual 142, 3) := by decide +kernel
theorem dL_holds_279 : decode cL_holds 279 = .ok (.iload_n 3, 1) := by decide +kernel
theorem dL_holds_280 : decode cL_holds 280 = .ok (.if_icmp .ne 93, 3) := by decide +kernel
theorem dL_holds_283 : decode cL_holds 283 = .ok (.iload 4, 2) := by decide +kernel
theorem dL_holds_285 : decode cL_holds 285 = .ok (.iload_n 3, 1) := by decide +kernel
theorem dL_holds_286 : decode cL_holds 286 = .ok (.isub, 1) := by decide +kernel
theorem dL_holds_287 : decode cL_holds 287 = .ok (.invokestatic 74, 3) := by decide +kernel
theorem dL_holds_290 : decode cL_holds 290 = .ok (.bipush 50, 2) := by decide +kernel
theorem dL_holds_292 : decode cL_holds 292 = .ok (.if_icmp .le 15, 3) := by decide +kernel
theorem dL_holds_295 : decode cL_holds 295 = .ok (.iload 4, 2) := by decide +kernel
theorem dL_holds_297 : decode cL_holds 297 = .ok (.iload_n 3, 1) := by decide +kernel
theorem dL_holds_298 : decode cL_holds 298 = .ok (.iadd, 1) := by decide +kernel
theorem dL_holds_299 : decode cL_holds 299 = .ok (.invokestatic 74, 3) := by decide +kernel
theorem dL_holds_302 : decode cL_holds 302 = .ok (.bipush 50, 2) := by decide +kernel
theorem dL_holds_304 : decode cL_holds 304 = .ok (.if_icmp .gt 69, 3) := by decide +kernel
theorem dL_holds_307 : decode cL_holds 307 = .ok (.aload_n 0, 1) := by decide +kernel
theorem dL_holds_308 : decode cL_holds 308 = .ok (.iload_n 2, 1) := by decide +kernel
theorem dL_holds_309 : decode cL_holds 309 = .ok (.invokevirtual 145, 3) := by decide +kernel
theorem dL_holds_312 : decode cL_holds 312 = .ok (.ifCond .ne 7, 3) := by decide +kernel
theorem dL_holds_315 : decode cL_holds 315 = .ok (.iconst 1, 1) := by decide +kernel
theorem dL_holds_316 : decode cL_holds 316 = .ok (.goto 4, 3) := by decide +kernel
theorem dL_holds_319 : decode cL_holds 319 = .ok (.iconst 0, 1) := by decide +kernel
theorem dL_holds_320 : decode cL_holds 320 = .ok (.aload_n 0, 1) := by decide +kernel
theorem dL_holds_321 : decode cL_holds 321 = .ok (.iload_n 2, 1) := by decide +kernel
theorem dL_holds_322 : decode cL_holds 322 = .ok (.invokevirtual 148, 3) := by decide +kernel
theorem dL_holds_325 : decode cL_holds 325 = .ok (.aload_n 0, 1) := by decide +kernel
theorem dL_holds_326 : decode cL_holds 326 = .ok (.iload_n 2, 1) := by decide +kernel
theorem dL_holds_327 : decode cL_holds 327 = .ok (.invokevirtual 71, 3) := by decide +kernel
theorem dL_holds_330 : decode cL_holds 330 = .ok (.if_icmp .ne 7, 3) := by decide +kernel
theorem dL_holds_333 : decode cL_holds 333 = .ok (.iconst 1, 1) := by decide +kernel
theorem dL_holds_334 : decode cL_holds 334 = .ok (.goto 4, 3) := by decide +kernel
theorem dL_holds_337 : decode cL_holds 337 = .ok (.iconst 0, 1) := by decide +kernel
theorem dL_holds_338 : decode cL_holds 338 = .ok (.if_icmp .ne 35, 3) := by decide +kernel
theorem dL_holds_341 : decode cL_holds 341 = .ok (.aload_n 0, 1) := by decide +kernel
theorem dL_holds_342 : decode cL_holds 342 = .ok (.iload_n 2, 1) := by decide +kernel
theorem dL_holds_343 : decode cL_holds 343 = .ok (.invokevirtual 148, 3) := by decide +kernel
theorem dL_holds_346 : decode cL_holds 346 = .ok (.invokestatic 74, 3) := by decide +kernel
theorem dL_holds_349 : decode cL_holds 349 = .ok (.sipush 150, 3) := by decide +kernel
theorem dL_holds_352 : decode cL_holds 352 = .ok (.if_icmp .gt 21, 3) := by decide +kernel
theorem dL_holds_355 : decode cL_holds 355 = .ok (.aload_n 0, 1) := by decide +kernel
theorem dL_holds_356 : decode cL_holds 356 = .ok (.iload_n 2, 1) := by decide +kernel
theorem dL_holds_357 : decode cL_holds 357 = .ok (.invokevirtual 151, 3) := by decide +kernel
theorem dL_holds_360 : decode cL_holds 360 = .ok (.invokestatic 74, 3) := by decide +kernel
theorem dL_holds_363 : decode cL_holds 363 = .ok (.sipush 150, 3) := by decide +kernel
theorem dL_holds_366 : decode cL_holds 366 = .ok (.if_icmp .gt 7, 3) := by decide +kernel
theorem dL_holds_369 : decode cL_holds 369 = .ok (.iconst 1, 1) := by decide +kernel
theorem dL_holds_370 : decode cL_holds 370 = .ok (.goto 4, 3) := by decide +kernel
theorem dL_holds_373 : decode cL_holds 373 = .ok (.iconst 0, 1) := by decide +kernel
theorem dL_holds_374 : decode cL_holds 374 = .ok (.istore_n 1, 1) := by decide +kernel
theorem dL_holds_375 : decode cL_holds 375 = .ok (.iinc 2 1, 3) := by decide +kernel
theorem dL_holds_378 : decode cL_holds 378 = .ok (.goto (-253), 3) := by decide +kernel
theorem dL_holds_381 : decode cL_holds 381 = .ok (.aload_n 0, 1) := by decide +kernel
theorem dL_holds_382 : decode cL_holds 382 = .ok (.invokevirtual 154, 3) := by decide +kernel
theorem dL_holds_385 : decode cL_holds 385 = .ok (.dstore_n 2, 1) := by decide +kernel
theorem dL_holds_386 : decode cL_holds 386 = .ok (.iload_n 1, 1) := by decide +kernel
theorem dL_holds_387 : decode cL_holds 387 = .ok (.ifCond .eq 64, 3) := by decide +kernel
theorem dL_holds_390 : decode cL_holds 390 = .ok (.aload_n 0, 1) := by decide +kernel
theorem dL_holds_391 : decode cL_holds 391 = .ok (.invokevirtual 158, 3) := by decide +kernel
theorem dL_holds_394 : decode cL_holds 394 = .ok (.iconst (-1), 1) := by decide +kernel
theorem dL_holds_395 : decode cL_holds 395 = .ok (.if_icmp .ne 7, 3) := by decide +kernel
theorem dL_holds_398 : decode cL_holds 398 = .ok (.iconst 1, 1) := by decide +kernel
theorem dL_holds_399 : decode cL_holds 399 = .ok (.goto 4, 3) := by decide +kernel
theorem dL_holds_402 : decode cL_holds 402 = .ok (.iconst 0, 1) := by decide +kernel
theorem dL_holds_403 : decode cL_holds 403 = .ok (.aload_n 0, 1) := by decide +kernel
theorem dL_holds_404 : decode cL_holds 404 = .ok (.invokestatic 105, 3) := by decide +kernel
theorem dL_holds_407 : decode cL_holds 407 = .ok (.ifCond .ne 7, 3) := by decide +kernel
theorem dL_holds_410 : decode cL_holds 410 = .ok (.iconst 1, 1) := by decide +kernel
theorem dL_holds_411 : decode cL_holds 411 = .ok (.goto 4, 3) := by decide +kernel
theorem dL_holds_414 : decode cL_holds 414 = .ok (.iconst 0, 1) := by decide +kernel
theorem dL_holds_415 : decode cL_holds 415 = .ok (.if_icmp .ne 36, 3) := by decide +kernel
theorem dL_holds_418 : decode cL_holds 418 = .ok (.dload_n 2, 1) := by decide +kernel
theorem dL_holds_419 : decode cL_holds 419 = .ok (.dconst 0, 1) := by decide +kernel
theorem dL_holds_420 : decode cL_holds 420 = .ok (.dcmp .l, 1) := by decide +kernel
theorem dL_holds_421 : decode cL_holds 421 = .ok (.ifCond .lt 30, 3) := by decide +kernel
theorem dL_holds_424 : decode cL_holds 424 = .ok (.dload_n 2, 1) := by decide +kernel
theorem dL_holds_425 : decode cL_holds 425 = .ok (.dconst 1, 1) := by decide +kernel
theorem dL_holds_426 : decode cL_holds 426 = .ok (.dcmp .g, 1) := by decide +kernel
theorem dL_holds_427 : decode cL_holds 427 = .ok (.ifCond .gt 24, 3) := by decide +kernel
theorem dL_holds_430 : decode cL_holds 430 = .ok (.aload_n 0, 1) := by decide +kernel
theorem dL_holds_431 : decode cL_holds 431 = .ok (.invokevirtual 32, 3) := by decide +kernel
theorem dL_holds_434 : decode cL_holds 434 = .ok (.ifCond .eq 13, 3) := by decide +kernel
theorem dL_holds_437 : decode cL_holds 437 = .ok (.aload_n 0, 1) := by decide +kernel
theorem dL_holds_438 : decode cL_holds 438 = .ok (.iconst 2, 1) := by decide +kernel
theorem dL_holds_439 : decode cL_holds 439 = .ok (.invokevirtual 124, 3) := by decide +kernel
theorem dL_holds_442 : decode cL_holds 442 = .ok (.bipush (-100), 2) := by decide +kernel
theorem dL_holds_444 : decode cL_holds 444 = .ok (.if_icmp .ne 7, 3) := by decide +kernel
theorem dL_holds_447 : decode cL_holds 447 = .ok (.iconst 1, 1) := by decide +kernel
theorem dL_holds_448 : decode cL_holds 448 = .ok (.goto 4, 3) := by decide +kernel
theorem dL_holds_451 : decode cL_holds 451 = .ok (.iconst 0, 1) := by decide +kernel
theorem dL_holds_452 : decode cL_holds 452 = .ok (.ireturn, 1) := by decide +kernel
theorem dL_areFrames_0 : decode cL_areFrames 0 = .ok (.aload_n 0, 1) := by decide +kernel
theorem dL_areFrames_1 : decode cL_areFrames 1 = .ok (.invokestatic 105, 3) := by decide +kernel
theorem dL_areFrames_4 : decode cL_areFrames 4 = .ok (.istore 4, 2) := by decide +kernel
theorem dL_areFrames_6 : decode cL_areFrames 6 = .ok (.iload_n 3, 1) := by decide +kernel
theorem dL_areFrames_7 : decode cL_areFrames 7 = .ok (.ifCond .eq 11, 3) := by decide +kernel
theorem dL_areFrames_10 : decode cL_areFrames 10 = .ok (.aload_n 0, 1) := by decide +kernel
theorem dL_areFrames_11 : decode cL_areFrames 11 = .ok (.iload_n 1, 1) := by decide +kernel
theorem dL_areFrames_12 : decode cL_areFrames 12 = .ok (.invokevirtual 161, 3) := by decide +kernel
theorem dL_areFrames_15 : decode cL_areFrames 15 = .ok (.goto 8, 3) := by decide +kernel
theorem dL_areFrames_18 : decode cL_areFrames 18 = .ok (.aload_n 0, 1) := by decide +kernel
theorem dL_areFrames_19 : decode cL_areFrames 19 = .ok (.iload_n 1, 1) := by decide +kernel
theorem dL_areFrames_20 : decode cL_areFrames 20 = .ok (.invokevirtual 164, 3) := by decide +kernel
theorem dL_areFrames_23 : decode cL_areFrames 23 = .ok (.istore 5, 2) := by decide +kernel
theorem dL_areFrames_25 : decode cL_areFrames 25 = .ok (.iload 5, 2) := by decide +kernel
theorem dL_areFrames_27 : decode cL_areFrames 27 = .ok (.ifCond .lt 19, 3) := by decide +kernel
theorem dL_areFrames_30 : decode cL_areFrames 30 = .ok (.aload_n 0, 1) := by decide +kernel
theorem dL_areFrames_31 : decode cL_areFrames 31 = .ok (.invokestatic 105, 3) := by decide +kernel
theorem dL_areFrames_34 : decode cL_areFrames 34 = .ok (.iload 4, 2) := by decide +kernel
theorem dL_areFrames_36 : decode cL_areFrames 36 = .ok (.iload 5, 2) := by decide +kernel
theorem dL_areFrames_38 : decode cL_areFrames 38 = .ok (.iadd, 1) := by decide +kernel
theorem dL_areFrames_39 : decode cL_areFrames 39 = .ok (.if_icmp .ne 7, 3) := by decide +kernel
theorem dL_areFrames_42 : decode cL_areFrames 42 = .ok (.iconst 1, 1) := by decide +kernel
theorem dL_areFrames_43 : decode cL_areFrames 43 = .ok (.goto 4, 3) := by decide +kernel
theorem dL_areFrames_46 : decode cL_areFrames 46 = .ok (.iconst 0, 1) := by decide +kernel
theorem dL_areFrames_47 : decode cL_areFrames 47 = .ok (.istore 6, 2) := by decide +kernel
theorem dL_areFrames_49 : decode cL_areFrames 49 = .ok (.aload_n 0, 1) := by decide +kernel
theorem dL_areFrames_50 : decode cL_areFrames 50 = .ok (.iload_n 2, 1) := by decide +kernel
theorem dL_areFrames_51 : decode cL_areFrames 51 = .ok (.invokevirtual 167, 3) := by decide +kernel
theorem dL_areFrames_54 : decode cL_areFrames 54 = .ok (.istore 7, 2) := by decide +kernel
theorem dL_areFrames_56 : decode cL_areFrames 56 = .ok (.iload_n 3, 1) := by decide +kernel
theorem dL_areFrames_57 : decode cL_areFrames 57 = .ok (.ifCond .eq 190, 3) := by decide +kernel
theorem dL_areFrames_60 : decode cL_areFrames 60 = .ok (.aload_n 0, 1) := by decide +kernel
theorem dL_areFrames_61 : decode cL_areFrames 61 = .ok (.invokevirtual 96, 3) := by decide +kernel
theorem dL_areFrames_64 : decode cL_areFrames 64 = .ok (.ifCond .le 183, 3) := by decide +kernel
theorem dL_areFrames_67 : decode cL_areFrames 67 = .ok (.iload 6, 2) := by decide +kernel
theorem dL_areFrames_69 : decode cL_areFrames 69 = .ok (.ifCond .eq 178, 3) := by decide +kernel
theorem dL_areFrames_72 : decode cL_areFrames 72 = .ok (.aload_n 0, 1) := by decide +kernel
theorem dL_areFrames_73 : decode cL_areFrames 73 = .ok (.iconst 1, 1) := by decide +kernel
theorem dL_areFrames_74 : decode cL_areFrames 74 = .ok (.invokevirtual 161, 3) := by decide +kernel
theorem dL_areFrames_77 : decode cL_areFrames 77 = .ok (.ifCond .lt 21, 3) := by decide +kernel
theorem dL_areFrames_80 : decode cL_areFrames 80 = .ok (.aload_n 0, 1) := by decide +kernel
theorem dL_areFrames_81 : decode cL_areFrames 81 = .ok (.invokevirtual 121, 3) := by decide +kernel
theorem dL_areFrames_84 : decode cL_areFrames 84 = .ok (.ifCond .ne 14, 3) := by decide +kernel
theorem dL_areFrames_87 : decode cL_areFrames 87 = .ok (.aload_n 0, 1) := by decide +kernel
theorem dL_areFrames_88 : decode cL_areFrames 88 = .ok (.invokevirtual 170, 3) := by decide +kernel
theorem dL_areFrames_91 : decode cL_areFrames 91 = .ok (.ifCond .ne 7, 3) := by decide +kernel
theorem dL_areFrames_94 : decode cL_areFrames 94 = .ok (.iconst 1, 1) := by decide +kernel
theorem dL_areFrames_95 : decode cL_areFrames 95 = .ok (.goto 4, 3) := by decide +kernel
theorem dL_areFrames_98 : decode cL_areFrames 98 = .ok (.iconst 0, 1) := by decide +kernel
theorem dL_areFrames_99 : decode cL_areFrames 99 = .ok (.istore 6, 2) := by decide +kernel
theorem dL_areFrames_101 : decode cL_areFrames 101 = .ok (.iconst 0, 1) := by decide +kernel
theorem dL_areFrames_102 : decode cL_areFrames 102 = .ok (.istore 8, 2) := by decide +kernel
theorem dL_areFrames_104 : decode cL_areFrames 104 = .ok (.iload 8, 2) := by decide +kernel
theorem dL_areFrames_106 : decode cL_areFrames 106 = .ok (.bipush 6, 2) := by decide +kernel
theorem dL_areFrames_108 : decode cL_areFrames 108 = .ok (.if_icmp .ge 36, 3) := by decide +kernel
theorem dL_areFrames_111 : decode cL_areFrames 111 = .ok (.iload 6, 2) := by decide +kernel
theorem dL_areFrames_113 : decode cL_areFrames 113 = .ok (.ifCond .eq 22, 3) := by decide +kernel
theorem dL_areFrames_116 : decode cL_areFrames 116 = .ok (.aload_n 0, 1) := by decide +kernel
theorem dL_areFrames_117 : decode cL_areFrames 117 = .ok (.iload 8, 2) := by decide +kernel
theorem dL_areFrames_119 : decode cL_areFrames 119 = .ok (.invokevirtual 151, 3) := by decide +kernel
theorem dL_areFrames_122 : decode cL_areFrames 122 = .ok (.aload_n 0, 1) := by decide +kernel
theorem dL_areFrames_123 : decode cL_areFrames 123 = .ok (.iload 8, 2) := by decide +kernel
theorem dL_areFrames_125 : decode cL_areFrames 125 = .ok (.invokevirtual 71, 3) := by decide +kernel
theorem dL_areFrames_128 : decode cL_areFrames 128 = .ok (.if_icmp .ne 7, 3) := by decide +kernel
theorem dL_areFrames_131 : decode cL_areFrames 131 = .ok (.iconst 1, 1) := by decide +kernel
theorem dL_areFrames_132 : decode cL_areFrames 132 = .ok (.goto 4, 3) := by decide +kernel
theorem dL_areFrames_135 : decode cL_areFrames 135 = .ok (.iconst 0, 1) := by decide +kernel
theorem dL_areFrames_136 : decode cL_areFrames 136 = .ok (.istore 6, 2) := by decide +kernel
theorem dL_areFrames_138 : decode cL_areFrames 138 = .ok (.iinc 8 1, 3) := by decide +kernel
theorem dL_areFrames_141 : decode cL_areFrames 141 = .ok (.goto (-37), 3) := by decide +kernel
theorem dL_areFrames_144 : decode cL_areFrames 144 = .ok (.aload_n 0, 1) := by decide +kernel
theorem dL_areFrames_145 : decode cL_areFrames 145 = .ok (.iload_n 2, 1) := by decide +kernel
theorem dL_areFrames_146 : decode cL_areFrames 146 = .ok (.invokevirtual 167, 3) := by decide +kernel
theorem dL_areFrames_149 : decode cL_areFrames 149 = .ok (.istore 7, 2) := by decide +kernel
theorem dL_areFrames_151 : decode cL_areFrames 151 = .ok (.iload 6, 2) := by decide +kernel
theorem dL_areFrames_153 : decode cL_areFrames 153 = .ok (.ifCond .eq 94, 3) := by decide +kernel
theorem dL_areFrames_156 : decode cL_areFrames 156 = .ok (.iload 7, 2) := by decide +kernel
theorem dL_areFrames_158 : decode cL_areFrames 158 = .ok (.ifCond .le 89, 3) := by decide +kernel
theorem dL_areFrames_161 : decode cL_areFrames 161 = .ok (.iload 7, 2) := by decide +kernel
theorem dL_areFrames_163 : decode cL_areFrames 163 = .ok (.bipush 50, 2) := by decide +kernel
theorem dL_areFrames_165 : decode cL_areFrames 165 = .ok (.if_icmp .gt 82, 3) := by decide +kernel
theorem dL_areFrames_168 : decode cL_areFrames 168 = .ok (.aload_n 0, 1) := by decide +kernel
theorem dL_areFrames_169 : decode cL_areFrames 169 = .ok (.invokevirtual 96, 3) := by decide +kernel
theorem dL_areFrames_172 : decode cL_areFrames 172 = .ok (.sipush 1801, 3) := by decide +kernel
theorem dL_areFrames_175 : decode cL_areFrames 175 = .ok (.iload 7, 2) := by decide +kernel
theorem dL_areFrames_177 : decode cL_areFrames 177 = .ok (.imul, 1) := by decide +kernel
theorem dL_areFrames_178 : decode cL_areFrames 178 = .ok (.if_icmp .lt 69, 3) := by decide +kernel
theorem dL_areFrames_181 : decode cL_areFrames 181 = .ok (.aload_n 0, 1) := by decide +kernel
theorem dL_areFrames_182 : decode cL_areFrames 182 = .ok (.iload 7, 2) := by decide +kernel
theorem dL_areFrames_184 : decode cL_areFrames 184 = .ok (.invokevirtual 161, 3) := by decide +kernel
theorem dL_areFrames_187 : decode cL_areFrames 187 = .ok (.ifCond .le 57, 3) := by decide +kernel
theorem dL_areFrames_190 : decode cL_areFrames 190 = .ok (.aload_n 0, 1) := by decide +kernel
theorem dL_areFrames_191 : decode cL_areFrames 191 = .ok (.iload_n 2, 1) := by decide +kernel
theorem dL_areFrames_192 : decode cL_areFrames 192 = .ok (.invokevirtual 148, 3) := by decide +kernel
theorem dL_areFrames_195 : decode cL_areFrames 195 = .ok (.aload_n 0, 1) := by decide +kernel
theorem dL_areFrames_196 : decode cL_areFrames 196 = .ok (.iload_n 2, 1) := by decide +kernel
theorem dL_areFrames_197 : decode cL_areFrames 197 = .ok (.invokevirtual 71, 3) := by decide +kernel
theorem dL_areFrames_200 : decode cL_areFrames 200 = .ok (.if_icmp .ne 44, 3) := by decide +kernel
theorem dL_areFrames_203 : decode cL_areFrames 203 = .ok (.aload_n 0, 1) := by decide +kernel
theorem dL_areFrames_204 : decode cL_areFrames 204 = .ok (.invokevirtual 173, 3) := by decide +kernel
theorem dL_areFrames_207 : decode cL_areFrames 207 = .ok (.ifCond .lt 37, 3) := by decide +kernel
theorem dL_areFrames_210 : decode cL_areFrames 210 = .ok (.iload 7, 2) := by decide +kernel
theorem dL_areFrames_212 : decode cL_areFrames 212 = .ok (.iconst 1, 1) := by decide +kernel
theorem dL_areFrames_213 : decode cL_areFrames 213 = .ok (.if_icmp .eq 27, 3) := by decide +kernel
theorem dL_areFrames_216 : decode cL_areFrames 216 = .ok (.aload_n 0, 1) := by decide +kernel
theorem dL_areFrames_217 : decode cL_areFrames 217 = .ok (.iload 7, 2) := by decide +kernel
theorem dL_areFrames_219 : decode cL_areFrames 219 = .ok (.iconst 1, 1) := by decide +kernel
theorem dL_areFrames_220 : decode cL_areFrames 220 = .ok (.isub, 1) := by decide +kernel
theorem dL_areFrames_221 : decode cL_areFrames 221 = .ok (.invokevirtual 161, 3) := by decide +kernel
theorem dL_areFrames_224 : decode cL_areFrames 224 = .ok (.ifCond .lt 20, 3) := by decide +kernel
theorem dL_areFrames_227 : decode cL_areFrames 227 = .ok (.aload_n 0, 1) := by decide +kernel
theorem dL_areFrames_228 : decode cL_areFrames 228 = .ok (.iload_n 2, 1) := by decide +kernel
theorem dL_areFrames_229 : decode cL_areFrames 229 = .ok (.invokevirtual 148, 3) := by decide +kernel
theorem dL_areFrames_232 : decode cL_areFrames 232 = .ok (.aload_n 0, 1) := by decide +kernel
theorem dL_areFrames_233 : decode cL_areFrames 233 = .ok (.iload_n 2, 1) := by decide +kernel
theorem dL_areFrames_234 : decode cL_areFrames 234 = .ok (.invokevirtual 71, 3) := by decide +kernel
theorem dL_areFrames_237 : decode cL_areFrames 237 = .ok (.if_icmp .eq 7, 3) := by decide +kernel
theorem dL_areFrames_240 : decode cL_areFrames 240 = .ok (.iconst 1, 1) := by decide +kernel
theorem dL_areFrames_241 : decode cL_areFrames 241 = .ok (.goto 4, 3) := by decide +kernel
theorem dL_areFrames_244 : decode cL_areFrames 244 = .ok (.iconst 0, 1) := by decide +kernel
theorem dL_areFrames_245 : decode cL_areFrames 245 = .ok (.istore 6, 2) := by decide +kernel
theorem dL_areFrames_247 : decode cL_areFrames 247 = .ok (.iload 6, 2) := by decide +kernel
theorem dL_areFrames_249 : decode cL_areFrames 249 = .ok (.ireturn, 1) := by decide +kernel
theorem dL_isAhead_0 : decode cL_isAhead 0 = .ok (.aload_n 0, 1) := by decide +kernel
theorem dL_isAhead_1 : decode cL_isAhead 1 = .ok (.iload_n 1, 1) := by decide +kernel
theorem dL_isAhead_2 : decode cL_isAhead 2 = .ok (.invokevirtual 176, 3) := by decide +kernel
theorem dL_isAhead_5 : decode cL_isAhead 5 = .ok (.istore_n 3, 1) := by decide +kernel
theorem dL_isAhead_6 : decode cL_isAhead 6 = .ok (.iload_n 2, 1) := by decide +kernel
theorem dL_isAhead_7 : decode cL_isAhead 7 = .ok (.sipush 201, 3) := by decide +kernel
theorem dL_isAhead_10 : decode cL_isAhead 10 = .ok (.invokestatic 15, 3) := by decide +kernel
theorem dL_isAhead_13 : decode cL_isAhead 13 = .ok (.bipush 100, 2) := by decide +kernel
theorem dL_isAhead_15 : decode cL_isAhead 15 = .ok (.isub, 1) := by decide +kernel
theorem dL_isAhead_16 : decode cL_isAhead 16 = .ok (.istore 4, 2) := by decide +kernel
theorem dL_isAhead_18 : decode cL_isAhead 18 = .ok (.iload_n 2, 1) := by decide +kernel
theorem dL_isAhead_19 : decode cL_isAhead 19 = .ok (.iconst 4, 1) := by decide +kernel
theorem dL_isAhead_20 : decode cL_isAhead 20 = .ok (.ishr, 1) := by decide +kernel
theorem dL_isAhead_21 : decode cL_isAhead 21 = .ok (.bipush 51, 2) := by decide +kernel
theorem dL_isAhead_23 : decode cL_isAhead 23 = .ok (.invokestatic 15, 3) := by decide +kernel
theorem dL_isAhead_26 : decode cL_isAhead 26 = .ok (.bipush 25, 2) := by decide +kernel
theorem dL_isAhead_28 : decode cL_isAhead 28 = .ok (.isub, 1) := by decide +kernel
theorem dL_isAhead_29 : decode cL_isAhead 29 = .ok (.istore 5, 2) := by decide +kernel
theorem dL_isAhead_31 : decode cL_isAhead 31 = .ok (.iload_n 2, 1) := by decide +kernel
theorem dL_isAhead_32 : decode cL_isAhead 32 = .ok (.bipush 6, 2) := by decide +kernel
theorem dL_isAhead_34 : decode cL_isAhead 34 = .ok (.ishr, 1) := by decide +kernel
theorem dL_isAhead_35 : decode cL_isAhead 35 = .ok (.bipush 6, 2) := by decide +kernel
theorem dL_isAhead_37 : decode cL_isAhead 37 = .ok (.invokestatic 15, 3) := by decide +kernel
theorem dL_isAhead_40 : decode cL_isAhead 40 = .ok (.istore 6, 2) := by decide +kernel
theorem dL_isAhead_42 : decode cL_isAhead 42 = .ok (.aload_n 0, 1) := by decide +kernel
theorem dL_isAhead_43 : decode cL_isAhead 43 = .ok (.iload_n 1, 1) := by decide +kernel
theorem dL_isAhead_44 : decode cL_isAhead 44 = .ok (.iload 6, 2) := by decide +kernel
theorem dL_isAhead_46 : decode cL_isAhead 46 = .ok (.invokevirtual 179, 3) := by decide +kernel
theorem dL_isAhead_49 : decode cL_isAhead 49 = .ok (.bipush 100, 2) := by decide +kernel
theorem dL_isAhead_51 : decode cL_isAhead 51 = .ok (.isub, 1) := by decide +kernel
theorem dL_isAhead_52 : decode cL_isAhead 52 = .ok (.istore 7, 2) := by decide +kernel
theorem dL_isAhead_54 : decode cL_isAhead 54 = .ok (.aload_n 0, 1) := by decide +kernel
theorem dL_isAhead_55 : decode cL_isAhead 55 = .ok (.iload_n 1, 1) := by decide +kernel
theorem dL_isAhead_56 : decode cL_isAhead 56 = .ok (.iload 4, 2) := by decide +kernel
theorem dL_isAhead_58 : decode cL_isAhead 58 = .ok (.iload 6, 2) := by decide +kernel
theorem dL_isAhead_60 : decode cL_isAhead 60 = .ok (.invokevirtual 182, 3) := by decide +kernel
theorem dL_isAhead_63 : decode cL_isAhead 63 = .ok (.istore 8, 2) := by decide +kernel
theorem dL_isAhead_65 : decode cL_isAhead 65 = .ok (.aload_n 0, 1) := by decide +kernel
theorem dL_isAhead_66 : decode cL_isAhead 66 = .ok (.iload 6, 2) := by decide +kernel
theorem dL_isAhead_68 : decode cL_isAhead 68 = .ok (.invokevirtual 71, 3) := by decide +kernel
theorem dL_isAhead_71 : decode cL_isAhead 71 = .ok (.istore 9, 2) := by decide +kernel
theorem dL_isAhead_73 : decode cL_isAhead 73 = .ok (.iload_n 3, 1) := by decide +kernel
theorem dL_isAhead_74 : decode cL_isAhead 74 = .ok (.iload 6, 2) := by decide +kernel
theorem dL_isAhead_76 : decode cL_isAhead 76 = .ok (.ishr, 1) := by decide +kernel
theorem dL_isAhead_77 : decode cL_isAhead 77 = .ok (.iconst 1, 1) := by decide +kernel
theorem dL_isAhead_78 : decode cL_isAhead 78 = .ok (.iand, 1) := by decide +kernel
theorem dL_isAhead_79 : decode cL_isAhead 79 = .ok (.iconst 1, 1) := by decide +kernel
theorem dL_isAhead_80 : decode cL_isAhead 80 = .ok (.if_icmp .ne 7, 3) := by decide +kernel
theorem dL_isAhead_83 : decode cL_isAhead 83 = .ok (.iconst 1, 1) := by decide +kernel
theorem dL_isAhead_84 : decode cL_isAhead 84 = .ok (.goto 4, 3) := by decide +kernel
theorem dL_isAhead_87 : decode cL_isAhead 87 = .ok (.iconst 0, 1) := by decide +kernel
theorem dL_isAhead_88 : decode cL_isAhead 88 = .ok (.istore 10, 2) := by decide +kernel
theorem dL_isAhead_90 : decode cL_isAhead 90 = .ok (.aload_n 0, 1) := by decide +kernel
theorem dL_isAhead_91 : decode cL_isAhead 91 = .ok (.invokevirtual 185, 3) := by decide +kernel
theorem dL_isAhead_94 : decode cL_isAhead 94 = .ok (.lstore 11, 2) := by decide +kernel
theorem dL_isAhead_96 : decode cL_isAhead 96 = .ok (.iload 10, 2) := by decide +kernel
theorem dL_isAhead_98 : decode cL_isAhead 98 = .ok (.ifCond .ne 10, 3) := by decide +kernel
theorem dL_isAhead_101 : decode cL_isAhead 101 = .ok (.iload 8, 2) := by decide +kernel
theorem dL_isAhead_103 : decode cL_isAhead 103 = .ok (.iload 9, 2) := by decide +kernel
theorem dL_isAhead_105 : decode cL_isAhead 105 = .ok (.if_icmp .ne 47, 3) := by decide +kernel
theorem dL_isAhead_108 : decode cL_isAhead 108 = .ok (.aload_n 0, 1) := by decide +kernel
theorem dL_isAhead_109 : decode cL_isAhead 109 = .ok (.iload_n 1, 1) := by decide +kernel
theorem dL_isAhead_110 : decode cL_isAhead 110 = .ok (.iload 4, 2) := by decide +kernel
theorem dL_isAhead_112 : decode cL_isAhead 112 = .ok (.invokevirtual 99, 3) := by decide +kernel
theorem dL_isAhead_115 : decode cL_isAhead 115 = .ok (.bipush (-100), 2) := by decide +kernel
theorem dL_isAhead_117 : decode cL_isAhead 117 = .ok (.if_icmp .lt 35, 3) := by decide +kernel
theorem dL_isAhead_120 : decode cL_isAhead 120 = .ok (.aload_n 0, 1) := by decide +kernel
theorem dL_isAhead_121 : decode cL_isAhead 121 = .ok (.iload 6, 2) := by decide +kernel
theorem dL_isAhead_123 : decode cL_isAhead 123 = .ok (.invokevirtual 71, 3) := by decide +kernel
theorem dL_isAhead_126 : decode cL_isAhead 126 = .ok (.iload 8, 2) := by decide +kernel
theorem dL_isAhead_128 : decode cL_isAhead 128 = .ok (.if_icmp .ne 24, 3) := by decide +kernel
theorem dL_isAhead_131 : decode cL_isAhead 131 = .ok (.aload_n 0, 1) := by decide +kernel
theorem dL_isAhead_132 : decode cL_isAhead 132 = .ok (.invokevirtual 173, 3) := by decide +kernel
theorem dL_isAhead_135 : decode cL_isAhead 135 = .ok (.ifCond .lt 17, 3) := by decide +kernel
theorem dL_isAhead_138 : decode cL_isAhead 138 = .ok (.aload_n 0, 1) := by decide +kernel
theorem dL_isAhead_139 : decode cL_isAhead 139 = .ok (.invokevirtual 185, 3) := by decide +kernel
theorem dL_isAhead_142 : decode cL_isAhead 142 = .ok (.lload 11, 2) := by decide +kernel
theorem dL_isAhead_144 : decode cL_isAhead 144 = .ok (.lcmp, 1) := by decide +kernel
theorem dL_isAhead_145 : decode cL_isAhead 145 = .ok (.ifCond .ne 7, 3) := by decide +kernel
theorem dL_isAhead_148 : decode cL_isAhead 148 = .ok (.iconst 1, 1) := by decide +kernel
theorem dL_isAhead_149 : decode cL_isAhead 149 = .ok (.goto 4, 3) := by decide +kernel
theorem dL_isAhead_152 : decode cL_isAhead 152 = .ok (.iconst 0, 1) := by decide +kernel
theorem dL_isAhead_153 : decode cL_isAhead 153 = .ok (.istore 13, 2) := by decide +kernel
theorem dL_isAhead_155 : decode cL_isAhead 155 = .ok (.iload 13, 2) := by decide +kernel
theorem dL_isAhead_157 : decode cL_isAhead 157 = .ok (.ifCond .eq 35, 3) := by decide +kernel
theorem dL_isAhead_160 : decode cL_isAhead 160 = .ok (.aload_n 0, 1) := by decide +kernel
theorem dL_isAhead_161 : decode cL_isAhead 161 = .ok (.iload_n 1, 1) := by decide +kernel
theorem dL_isAhead_162 : decode cL_isAhead 162 = .ok (.iload 5, 2) := by decide +kernel
theorem dL_isAhead_164 : decode cL_isAhead 164 = .ok (.invokevirtual 47, 3) := by decide +kernel
theorem dL_isAhead_167 : decode cL_isAhead 167 = .ok (.bipush (-25), 2) := by decide +kernel
theorem dL_isAhead_169 : decode cL_isAhead 169 = .ok (.if_icmp .lt 23, 3) := by decide +kernel
theorem dL_isAhead_172 : decode cL_isAhead 172 = .ok (.iload 10, 2) := by decide +kernel
theorem dL_isAhead_174 : decode cL_isAhead 174 = .ok (.ifCond .ne 14, 3) := by decide +kernel
theorem dL_isAhead_177 : decode cL_isAhead 177 = .ok (.aload_n 0, 1) := by decide +kernel
theorem dL_isAhead_178 : decode cL_isAhead 178 = .ok (.iload 6, 2) := by decide +kernel
theorem dL_isAhead_180 : decode cL_isAhead 180 = .ok (.invokevirtual 71, 3) := by decide +kernel
theorem dL_isAhead_183 : decode cL_isAhead 183 = .ok (.iload 9, 2) := by decide +kernel
theorem dL_isAhead_185 : decode cL_isAhead 185 = .ok (.if_icmp .ne 7, 3) := by decide +kernel
theorem dL_isAhead_188 : decode cL_isAhead 188 = .ok (.iconst 1, 1) := by decide +kernel
theorem dL_isAhead_189 : decode cL_isAhead 189 = .ok (.goto 4, 3) := by decide +kernel
theorem dL_isAhead_192 : decode cL_isAhead 192 = .ok (.iconst 0, 1) := by decide +kernel
theorem dL_isAhead_193 : decode cL_isAhead 193 = .ok (.istore 13, 2) := by decide +kernel
theorem dL_isAhead_195 : decode cL_isAhead 195 = .ok (.aload_n 0, 1) := by decide +kernel
theorem dL_isAhead_196 : decode cL_isAhead 196 = .ok (.iload 6, 2) := by decide +kernel
theorem dL_isAhead_198 : decode cL_isAhead 198 = .ok (.invokevirtual 71, 3) := by decide +kernel
theorem dL_isAhead_201 : decode cL_isAhead 201 = .ok (.invokestatic 74, 3) := by decide +kernel
theorem dL_isAhead_204 : decode cL_isAhead 204 = .ok (.istore 14, 2) := by decide +kernel
theorem dL_isAhead_206 : decode cL_isAhead 206 = .ok (.iload 13, 2) := by decide +kernel
theorem dL_isAhead_208 : decode cL_isAhead 208 = .ok (.ifCond .eq 84, 3) := by decide +kernel
theorem dL_isAhead_211 : decode cL_isAhead 211 = .ok (.aload_n 0, 1) := by decide +kernel
theorem dL_isAhead_212 : decode cL_isAhead 212 = .ok (.invokevirtual 173, 3) := by decide +kernel
theorem dL_isAhead_215 : decode cL_isAhead 215 = .ok (.ifCond .lt 77, 3) := by decide +kernel
theorem dL_isAhead_218 : decode cL_isAhead 218 = .ok (.aload_n 0, 1) := by decide +kernel
theorem dL_isAhead_219 : decode cL_isAhead 219 = .ok (.iload_n 1, 1) := by decide +kernel
theorem dL_isAhead_220 : decode cL_isAhead 220 = .ok (.iload 7, 2) := by decide +kernel
theorem dL_isAhead_222 : decode cL_isAhead 222 = .ok (.invokevirtual 47, 3) := by decide +kernel
theorem dL_isAhead_225 : decode cL_isAhead 225 = .ok (.bipush (-25), 2) := by decide +kernel
theorem dL_isAhead_227 : decode cL_isAhead 227 = .ok (.if_icmp .lt 65, 3) := by decide +kernel
theorem dL_isAhead_230 : decode cL_isAhead 230 = .ok (.aload_n 0, 1) := by decide +kernel
theorem dL_isAhead_231 : decode cL_isAhead 231 = .ok (.iload 6, 2) := by decide +kernel
theorem dL_isAhead_233 : decode cL_isAhead 233 = .ok (.invokevirtual 71, 3) := by decide +kernel
theorem dL_isAhead_236 : decode cL_isAhead 236 = .ok (.invokestatic 74, 3) := by decide +kernel
theorem dL_isAhead_239 : decode cL_isAhead 239 = .ok (.iload 14, 2) := by decide +kernel
theorem dL_isAhead_241 : decode cL_isAhead 241 = .ok (.if_icmp .gt 51, 3) := by decide +kernel
theorem dL_isAhead_244 : decode cL_isAhead 244 = .ok (.aload_n 0, 1) := by decide +kernel
theorem dL_isAhead_245 : decode cL_isAhead 245 = .ok (.iload 6, 2) := by decide +kernel
theorem dL_isAhead_247 : decode cL_isAhead 247 = .ok (.invokevirtual 71, 3) := by decide +kernel
theorem dL_isAhead_250 : decode cL_isAhead 250 = .ok (.invokestatic 74, 3) := by decide +kernel
theorem dL_isAhead_253 : decode cL_isAhead 253 = .ok (.iload 9, 2) := by decide +kernel
theorem dL_isAhead_255 : decode cL_isAhead 255 = .ok (.invokestatic 74, 3) := by decide +kernel
theorem dL_isAhead_258 : decode cL_isAhead 258 = .ok (.if_icmp .gt 34, 3) := by decide +kernel
theorem dL_isAhead_261 : decode cL_isAhead 261 = .ok (.aload_n 0, 1) := by decide +kernel
theorem dL_isAhead_262 : decode cL_isAhead 262 = .ok (.iload 6, 2) := by decide +kernel
theorem dL_isAhead_264 : decode cL_isAhead 264 = .ok (.invokevirtual 71, 3) := by decide +kernel
theorem dL_isAhead_267 : decode cL_isAhead 267 = .ok (.invokestatic 74, 3) := by decide +kernel
theorem dL_isAhead_270 : decode cL_isAhead 270 = .ok (.iload 14, 2) := by decide +kernel
theorem dL_isAhead_272 : decode cL_isAhead 272 = .ok (.if_icmp .lt 16, 3) := by decide +kernel
theorem dL_isAhead_275 : decode cL_isAhead 275 = .ok (.iload 7, 2) := by decide +kernel
theorem dL_isAhead_277 : decode cL_isAhead 277 = .ok (.invokestatic 74, 3) := by decide +kernel
theorem dL_isAhead_280 : decode cL_isAhead 280 = .ok (.iload 5, 2) := by decide +kernel
theorem dL_isAhead_282 : decode cL_isAhead 282 = .ok (.invokestatic 74, 3) := by decide +kernel
theorem dL_isAhead_285 : decode cL_isAhead 285 = .ok (.if_icmp .gt 7, 3) := by decide +kernel
theorem dL_isAhead_288 : decode cL_isAhead 288 = .ok (.iconst 1, 1) := by decide +kernel
theorem dL_isAhead_289 : decode cL_isAhead 289 = .ok (.goto 4, 3) := by decide +kernel
theorem dL_isAhead_292 : decode cL_isAhead 292 = .ok (.iconst 0, 1) := by decide +kernel
theorem dL_isAhead_293 : decode cL_isAhead 293 = .ok (.istore 13, 2) := by decide +kernel
theorem dL_isAhead_295 : decode cL_isAhead 295 = .ok (.iload 13, 2) := by decide +kernel
theorem dL_isAhead_297 : decode cL_isAhead 297 = .ok (.ifCond .eq 24, 3) := by decide +kernel
theorem dL_isAhead_300 : decode cL_isAhead 300 = .ok (.aload_n 0, 1) := by decide +kernel
theorem dL_isAhead_301 : decode cL_isAhead 301 = .ok (.invokevirtual 173, 3) := by decide +kernel
theorem dL_isAhead_304 : decode cL_isAhead 304 = .ok (.ifCond .lt 17, 3) := by decide +kernel
theorem dL_isAhead_307 : decode cL_isAhead 307 = .ok (.aload_n 0, 1) := by decide +kernel
theorem dL_isAhead_308 : decode cL_isAhead 308 = .ok (.invokevirtual 185, 3) := by decide +kernel
theorem dL_isAhead_311 : decode cL_isAhead 311 = .ok (.lload 11, 2) := by decide +kernel
theorem dL_isAhead_313 : decode cL_isAhead 313 = .ok (.lcmp, 1) := by decide +kernel
theorem dL_isAhead_314 : decode cL_isAhead 314 = .ok (.ifCond .ne 7, 3) := by decide +kernel
theorem dL_isAhead_317 : decode cL_isAhead 317 = .ok (.iconst 1, 1) := by decide +kernel
theorem dL_isAhead_318 : decode cL_isAhead 318 = .ok (.goto 4, 3) := by decide +kernel
theorem dL_isAhead_321 : decode cL_isAhead 321 = .ok (.iconst 0, 1) := by decide +kernel
theorem dL_isAhead_322 : decode cL_isAhead 322 = .ok (.ireturn, 1) := by decide +kernel
theorem dL_areElevons_0 : decode cL_areElevons 0 = .ok (.iload_n 1, 1) := by decide +kernel
theorem dL_areElevons_1 : decode cL_areElevons 1 = .ok (.bipush 6, 2) := by decide +kernel
theorem dL_areElevons_3 : decode cL_areElevons 3 = .ok (.invokestatic 15, 3) := by decide +kernel
theorem dL_areElevons_6 : decode cL_areElevons 6 = .ok (.istore_n 2, 1) := by decide +kernel
theorem dL_areElevons_7 : decode cL_areElevons 7 = .ok (.iload_n 2, 1) := by decide +kernel
theorem dL_areElevons_8 : decode cL_areElevons 8 = .ok (.iconst 1, 1) := by decide +kernel
theorem dL_areElevons_9 : decode cL_areElevons 9 = .ok (.iadd, 1) := by decide +kernel
theorem dL_areElevons_10 : decode cL_areElevons 10 = .ok (.iload_n 1, 1) := by decide +kernel
theorem dL_areElevons_11 : decode cL_areElevons 11 = .ok (.iconst 3, 1) := by decide +kernel
theorem dL_areElevons_12 : decode cL_areElevons 12 = .ok (.ishr, 1) := by decide +kernel
theorem dL_areElevons_13 : decode cL_areElevons 13 = .ok (.iconst 5, 1) := by decide +kernel
theorem dL_areElevons_14 : decode cL_areElevons 14 = .ok (.invokestatic 15, 3) := by decide +kernel
theorem dL_areElevons_17 : decode cL_areElevons 17 = .ok (.iadd, 1) := by decide +kernel
theorem dL_areElevons_18 : decode cL_areElevons 18 = .ok (.bipush 6, 2) := by decide +kernel
theorem dL_areElevons_20 : decode cL_areElevons 20 = .ok (.irem, 1) := by decide +kernel
theorem dL_areElevons_21 : decode cL_areElevons 21 = .ok (.istore_n 3, 1) := by decide +kernel
theorem dL_areElevons_22 : decode cL_areElevons 22 = .ok (.iconst 1, 1) := by decide +kernel
theorem dL_areElevons_23 : decode cL_areElevons 23 = .ok (.iload_n 1, 1) := by decide +kernel
theorem dL_areElevons_24 : decode cL_areElevons 24 = .ok (.iconst 5, 1) := by decide +kernel
theorem dL_areElevons_25 : decode cL_areElevons 25 = .ok (.ishr, 1) := by decide +kernel
theorem dL_areElevons_26 : decode cL_areElevons 26 = .ok (.sipush 150, 3) := by decide +kernel
theorem dL_areElevons_29 : decode cL_areElevons 29 = .ok (.invokestatic 15, 3) := by decide +kernel
theorem dL_areElevons_32 : decode cL_areElevons 32 = .ok (.iadd, 1) := by decide +kernel
theorem dL_areElevons_33 : decode cL_areElevons 33 = .ok (.istore 4, 2) := by decide +kernel
theorem dL_areElevons_35 : decode cL_areElevons 35 = .ok (.aload_n 0, 1) := by decide +kernel
theorem dL_areElevons_36 : decode cL_areElevons 36 = .ok (.iconst 1, 1) := by decide +kernel
theorem dL_areElevons_37 : decode cL_areElevons 37 = .ok (.invokevirtual 189, 3) := by decide +kernel
theorem dL_areElevons_40 : decode cL_areElevons 40 = .ok (.aload_n 0, 1) := by decide +kernel
theorem dL_areElevons_41 : decode cL_areElevons 41 = .ok (.invokevirtual 53, 3) := by decide +kernel
theorem dL_areElevons_44 : decode cL_areElevons 44 = .ok (.if_icmp .ne 7, 3) := by decide +kernel
theorem dL_areElevons_47 : decode cL_areElevons 47 = .ok (.iconst 1, 1) := by decide +kernel
theorem dL_areElevons_48 : decode cL_areElevons 48 = .ok (.goto 4, 3) := by decide +kernel
theorem dL_areElevons_51 : decode cL_areElevons 51 = .ok (.iconst 0, 1) := by decide +kernel
theorem dL_areElevons_52 : decode cL_areElevons 52 = .ok (.istore 5, 2) := by decide +kernel
theorem dL_areElevons_54 : decode cL_areElevons 54 = .ok (.aload_n 0, 1) := by decide +kernel
theorem dL_areElevons_55 : decode cL_areElevons 55 = .ok (.invokevirtual 53, 3) := by decide +kernel
theorem dL_areElevons_58 : decode cL_areElevons 58 = .ok (.ifCond .le 30, 3) := by decide +kernel
theorem dL_areElevons_61 : decode cL_areElevons 61 = .ok (.iload 5, 2) := by decide +kernel
theorem dL_areElevons_63 : decode cL_areElevons 63 = .ok (.ifCond .eq 25, 3) := by decide +kernel
theorem dL_areElevons_66 : decode cL_areElevons 66 = .ok (.aload_n 0, 1) := by decide +kernel
theorem dL_areElevons_67 : decode cL_areElevons 67 = .ok (.aload_n 0, 1) := by decide +kernel
theorem dL_areElevons_68 : decode cL_areElevons 68 = .ok (.iconst 0, 1) := by decide +kernel
theorem dL_areElevons_69 : decode cL_areElevons 69 = .ok (.invokevirtual 127, 3) := by decide +kernel
theorem dL_areElevons_72 : decode cL_areElevons 72 = .ok (.invokevirtual 57, 3) := by decide +kernel
theorem dL_areElevons_75 : decode cL_areElevons 75 = .ok (.ifCond .le 7, 3) := by decide +kernel
theorem dL_areElevons_78 : decode cL_areElevons 78 = .ok (.iconst 1, 1) := by decide +kernel
theorem dL_areElevons_79 : decode cL_areElevons 79 = .ok (.goto 4, 3) := by decide +kernel
theorem dL_areElevons_82 : decode cL_areElevons 82 = .ok (.iconst 0, 1) := by decide +kernel
theorem dL_areElevons_83 : decode cL_areElevons 83 = .ok (.istore 5, 2) := by decide +kernel
theorem dL_areElevons_85 : decode cL_areElevons 85 = .ok (.goto (-31), 3) := by decide +kernel
theorem dL_areElevons_88 : decode cL_areElevons 88 = .ok (.iload 5, 2) := by decide +kernel
theorem dL_areElevons_90 : decode cL_areElevons 90 = .ok (.ifCond .eq 19, 3) := by decide +kernel
theorem dL_areElevons_93 : decode cL_areElevons 93 = .ok (.aload_n 0, 1) := by decide +kernel
theorem dL_areElevons_94 : decode cL_areElevons 94 = .ok (.iload_n 2, 1) := by decide +kernel
theorem dL_areElevons_95 : decode cL_areElevons 95 = .ok (.iload_n 3, 1) := by decide +kernel
theorem dL_areElevons_96 : decode cL_areElevons 96 = .ok (.iload 4, 2) := by decide +kernel
theorem dL_areElevons_98 : decode cL_areElevons 98 = .ok (.invokevirtual 192, 3) := by decide +kernel
theorem dL_areElevons_101 : decode cL_areElevons 101 = .ok (.iconst 4, 1) := by decide +kernel
theorem dL_areElevons_102 : decode cL_areElevons 102 = .ok (.if_icmp .ne 7, 3) := by decide +kernel
theorem dL_areElevons_105 : decode cL_areElevons 105 = .ok (.iconst 1, 1) := by decide +kernel
theorem dL_areElevons_106 : decode cL_areElevons 106 = .ok (.goto 4, 3) := by decide +kernel
theorem dL_areElevons_109 : decode cL_areElevons 109 = .ok (.iconst 0, 1) := by decide +kernel
theorem dL_areElevons_110 : decode cL_areElevons 110 = .ok (.istore 5, 2) := by decide +kernel
theorem dL_areElevons_112 : decode cL_areElevons 112 = .ok (.aload_n 0, 1) := by decide +kernel
theorem dL_areElevons_113 : decode cL_areElevons 113 = .ok (.iload_n 2, 1) := by decide +kernel
theorem dL_areElevons_114 : decode cL_areElevons 114 = .ok (.invokevirtual 142, 3) := by decide +kernel
theorem dL_areElevons_117 : decode cL_areElevons 117 = .ok (.istore 6, 2) := by decide +kernel
theorem dL_areElevons_119 : decode cL_areElevons 119 = .ok (.aload_n 0, 1) := by decide +kernel
theorem dL_areElevons_120 : decode cL_areElevons 120 = .ok (.iload_n 3, 1) := by decide +kernel
theorem dL_areElevons_121 : decode cL_areElevons 121 = .ok (.invokevirtual 142, 3) := by decide +kernel
theorem dL_areElevons_124 : decode cL_areElevons 124 = .ok (.istore 7, 2) := by decide +kernel
theorem dL_areElevons_126 : decode cL_areElevons 126 = .ok (.iload 6, 2) := by decide +kernel
theorem dL_areElevons_128 : decode cL_areElevons 128 = .ok (.invokestatic 74, 3) := by decide +kernel
theorem dL_areElevons_131 : decode cL_areElevons 131 = .ok (.sipush 300, 3) := by decide +kernel
theorem dL_areElevons_134 : decode cL_areElevons 134 = .ok (.if_icmp .eq 14, 3) := by decide +kernel
theorem dL_areElevons_137 : decode cL_areElevons 137 = .ok (.iload 7, 2) := by decide +kernel
theorem dL_areElevons_139 : decode cL_areElevons 139 = .ok (.invokestatic 74, 3) := by decide +kernel
theorem dL_areElevons_142 : decode cL_areElevons 142 = .ok (.sipush 300, 3) := by decide +kernel
theorem dL_areElevons_145 : decode cL_areElevons 145 = .ok (.if_icmp .ne 7, 3) := by decide +kernel
theorem dL_areElevons_148 : decode cL_areElevons 148 = .ok (.iconst 1, 1) := by decide +kernel
theorem dL_areElevons_149 : decode cL_areElevons 149 = .ok (.goto 4, 3) := by decide +kernel
theorem dL_areElevons_152 : decode cL_areElevons 152 = .ok (.iconst 0, 1) := by decide +kernel
theorem dL_areElevons_153 : decode cL_areElevons 153 = .ok (.istore 8, 2) := by decide +kernel
theorem dL_areElevons_155 : decode cL_areElevons 155 = .ok (.iload 5, 2) := by decide +kernel
theorem dL_areElevons_157 : decode cL_areElevons 157 = .ok (.ifCond .eq 77, 3) := by decide +kernel
theorem dL_areElevons_160 : decode cL_areElevons 160 = .ok (.iload 8, 2) := by decide +kernel
theorem dL_areElevons_162 : decode cL_areElevons 162 = .ok (.ifCond .ne 45, 3) := by decide +kernel
theorem dL_areElevons_165 : decode cL_areElevons 165 = .ok (.iload 6, 2) := by decide +kernel
theorem dL_areElevons_167 : decode cL_areElevons 167 = .ok (.iload 7, 2) := by decide +kernel
theorem dL_areElevons_169 : decode cL_areElevons 169 = .ok (.iadd, 1) := by decide +kernel
theorem dL_areElevons_170 : decode cL_areElevons 170 = .ok (.iconst 2, 1) := by decide +kernel
theorem dL_areElevons_171 : decode cL_areElevons 171 = .ok (.aload_n 0, 1) := by decide +kernel
theorem dL_areElevons_172 : decode cL_areElevons 172 = .ok (.iconst 1, 1) := by decide +kernel
theorem dL_areElevons_173 : decode cL_areElevons 173 = .ok (.invokevirtual 124, 3) := by decide +kernel
theorem dL_areElevons_176 : decode cL_areElevons 176 = .ok (.iload 4, 2) := by decide +kernel
theorem dL_areElevons_178 : decode cL_areElevons 178 = .ok (.imul, 1) := by decide +kernel
theorem dL_areElevons_179 : decode cL_areElevons 179 = .ok (.bipush 100, 2) := by decide +kernel
theorem dL_areElevons_181 : decode cL_areElevons 181 = .ok (.idiv, 1) := by decide +kernel
theorem dL_areElevons_182 : decode cL_areElevons 182 = .ok (.imul, 1) := by decide +kernel
theorem dL_areElevons_183 : decode cL_areElevons 183 = .ok (.if_icmp .ne 51, 3) := by decide +kernel
theorem dL_areElevons_186 : decode cL_areElevons 186 = .ok (.iload 6, 2) := by decide +kernel
theorem dL_areElevons_188 : decode cL_areElevons 188 = .ok (.iload 7, 2) := by decide +kernel
theorem dL_areElevons_190 : decode cL_areElevons 190 = .ok (.isub, 1) := by decide +kernel
theorem dL_areElevons_191 : decode cL_areElevons 191 = .ok (.iconst 2, 1) := by decide +kernel
theorem dL_areElevons_192 : decode cL_areElevons 192 = .ok (.aload_n 0, 1) := by decide +kernel
theorem dL_areElevons_193 : decode cL_areElevons 193 = .ok (.iconst 0, 1) := by decide +kernel
theorem dL_areElevons_194 : decode cL_areElevons 194 = .ok (.invokevirtual 124, 3) := by decide +kernel
theorem dL_areElevons_197 : decode cL_areElevons 197 = .ok (.iload 4, 2) := by decide +kernel
theorem dL_areElevons_199 : decode cL_areElevons 199 = .ok (.imul, 1) := by decide +kernel
theorem dL_areElevons_200 : decode cL_areElevons 200 = .ok (.bipush 100, 2) := by decide +kernel
theorem dL_areElevons_202 : decode cL_areElevons 202 = .ok (.idiv, 1) := by decide +kernel
theorem dL_areElevons_203 : decode cL_areElevons 203 = .ok (.imul, 1) := by decide +kernel
theorem dL_areElevons_204 : decode cL_areElevons 204 = .ok (.if_icmp .ne 30, 3) := by decide +kernel
theorem dL_areElevons_207 : decode cL_areElevons 207 = .ok (.aload_n 0, 1) := by decide +kernel
theorem dL_areElevons_208 : decode cL_areElevons 208 = .ok (.iconst 0, 1) := by decide +kernel
theorem dL_areElevons_209 : decode cL_areElevons 209 = .ok (.invokevirtual 176, 3) := by decide +kernel
theorem dL_areElevons_212 : decode cL_areElevons 212 = .ok (.iconst 1, 1) := by decide +kernel
theorem dL_areElevons_213 : decode cL_areElevons 213 = .ok (.iload_n 2, 1) := by decide +kernel
theorem dL_areElevons_214 : decode cL_areElevons 214 = .ok (.ishl, 1) := by decide +kernel
theorem dL_areElevons_215 : decode cL_areElevons 215 = .ok (.iconst 1, 1) := by decide +kernel
theorem dL_areElevons_216 : decode cL_areElevons 216 = .ok (.iload_n 3, 1) := by decide +kernel
theorem dL_areElevons_217 : decode cL_areElevons 217 = .ok (.ishl, 1) := by decide +kernel
theorem dL_areElevons_218 : decode cL_areElevons 218 = .ok (.ior, 1) := by decide +kernel
theorem dL_areElevons_219 : decode cL_areElevons 219 = .ok (.if_icmp .ne 15, 3) := by decide +kernel
theorem dL_areElevons_222 : decode cL_areElevons 222 = .ok (.aload_n 0, 1) := by decide +kernel
theorem dL_areElevons_223 : decode cL_areElevons 223 = .ok (.iconst 2, 1) := by decide +kernel
theorem dL_areElevons_224 : decode cL_areElevons 224 = .ok (.invokevirtual 176, 3) := by decide +kernel
theorem dL_areElevons_227 : decode cL_areElevons 227 = .ok (.ifCond .ne 7, 3) := by decide +kernel
theorem dL_areElevons_230 : decode cL_areElevons 230 = .ok (.iconst 1, 1) := by decide +kernel
theorem dL_areElevons_231 : decode cL_areElevons 231 = .ok (.goto 4, 3) := by decide +kernel
theorem dL_areElevons_234 : decode cL_areElevons 234 = .ok (.iconst 0, 1) := by decide +kernel
theorem dL_areElevons_235 : decode cL_areElevons 235 = .ok (.istore 5, 2) := by decide +kernel
theorem dL_areElevons_237 : decode cL_areElevons 237 = .ok (.iload 5, 2) := by decide +kernel
theorem dL_areElevons_239 : decode cL_areElevons 239 = .ok (.ifCond .eq 19, 3) := by decide +kernel
theorem dL_areElevons_242 : decode cL_areElevons 242 = .ok (.aload_n 0, 1) := by decide +kernel
theorem dL_areElevons_243 : decode cL_areElevons 243 = .ok (.iconst 1, 1) := by decide +kernel
theorem dL_areElevons_244 : decode cL_areElevons 244 = .ok (.invokevirtual 195, 3) := by decide +kernel
theorem dL_areElevons_247 : decode cL_areElevons 247 = .ok (.aload_n 0, 1) := by decide +kernel
theorem dL_areElevons_248 : decode cL_areElevons 248 = .ok (.invokevirtual 53, 3) := by decide +kernel
theorem dL_areElevons_251 : decode cL_areElevons 251 = .ok (.if_icmp .ne 7, 3) := by decide +kernel
theorem dL_areElevons_254 : decode cL_areElevons 254 = .ok (.iconst 1, 1) := by decide +kernel
theorem dL_areElevons_255 : decode cL_areElevons 255 = .ok (.goto 4, 3) := by decide +kernel
theorem dL_areElevons_258 : decode cL_areElevons 258 = .ok (.iconst 0, 1) := by decide +kernel
theorem dL_areElevons_259 : decode cL_areElevons 259 = .ok (.ireturn, 1) := by decide +kernel
theorem dL_law_0 : decode cL_law 0 = .ok (.new 10, 3) := by decide +kernel
theorem dL_law_3 : decode cL_law 3 = .ok (.dup, 1) := by decide +kernel
theorem dL_law_4 : decode cL_law 4 = .ok (.invokespecial 198, 3) := by decide +kernel
theorem dL_law_7 : decode cL_law 7 = .ok (.astore_n 1, 1) := by decide +kernel
theorem dL_law_8 : decode cL_law 8 = .ok (.aload_n 1, 1) := by decide +kernel
theorem dL_law_9 : decode cL_law 9 = .ok (.iconst 0, 1) := by decide +kernel
theorem dL_law_10 : decode cL_law 10 = .ok (.invokevirtual 189, 3) := by decide +kernel
theorem dL_law_13 : decode cL_law 13 = .ok (.iconst 4, 1) := by decide +kernel
theorem dL_law_14 : decode cL_law 14 = .ok (.if_icmp .ne 14, 3) := by decide +kernel
theorem dL_law_17 : decode cL_law 17 = .ok (.aload_n 1, 1) := by decide +kernel
theorem dL_law_18 : decode cL_law 18 = .ok (.invokestatic 199, 3) := by decide +kernel
theorem dL_law_21 : decode cL_law 21 = .ok (.ifCond .eq 7, 3) := by decide +kernel
theorem dL_law_24 : decode cL_law 24 = .ok (.iconst 1, 1) := by decide +kernel
theorem dL_law_25 : decode cL_law 25 = .ok (.goto 4, 3) := by decide +kernel
theorem dL_law_28 : decode cL_law 28 = .ok (.iconst 0, 1) := by decide +kernel
theorem dL_law_29 : decode cL_law 29 = .ok (.istore_n 2, 1) := by decide +kernel
theorem dL_law_30 : decode cL_law 30 = .ok (.iconst 0, 1) := by decide +kernel
theorem dL_law_31 : decode cL_law 31 = .ok (.istore_n 3, 1) := by decide +kernel
theorem dL_law_32 : decode cL_law 32 = .ok (.iload_n 3, 1) := by decide +kernel
theorem dL_law_33 : decode cL_law 33 = .ok (.bipush 40, 2) := by decide +kernel
theorem dL_law_35 : decode cL_law 35 = .ok (.if_icmp .ge 300, 3) := by decide +kernel
theorem dL_law_38 : decode cL_law 38 = .ok (.iload_n 2, 1) := by decide +kernel
theorem dL_law_39 : decode cL_law 39 = .ok (.ifCond .eq 296, 3) := by decide +kernel
theorem dL_law_42 : decode cL_law 42 = .ok (.aload_n 0, 1) := by decide +kernel
theorem dL_law_43 : decode cL_law 43 = .ok (.iconst 2, 1) := by decide +kernel
theorem dL_law_44 : decode cL_law 44 = .ok (.iload_n 3, 1) := by decide +kernel
theorem dL_law_45 : decode cL_law 45 = .ok (.imul, 1) := by decide +kernel
theorem dL_law_46 : decode cL_law 46 = .ok (.invokestatic 203, 3) := by decide +kernel
theorem dL_law_49 : decode cL_law 49 = .ok (.istore 4, 2) := by decide +kernel
theorem dL_law_51 : decode cL_law 51 = .ok (.aload_n 0, 1) := by decide +kernel
theorem dL_law_52 : decode cL_law 52 = .ok (.iconst 2, 1) := by decide +kernel
theorem dL_law_53 : decode cL_law 53 = .ok (.iload_n 3, 1) := by decide +kernel
theorem dL_law_54 : decode cL_law 54 = .ok (.imul, 1) := by decide +kernel
theorem dL_law_55 : decode cL_law 55 = .ok (.iconst 1, 1) := by decide +kernel
theorem dL_law_56 : decode cL_law 56 = .ok (.iadd, 1) := by decide +kernel
theorem dL_law_57 : decode cL_law 57 = .ok (.invokestatic 203, 3) := by decide +kernel
theorem dL_law_60 : decode cL_law 60 = .ok (.istore 5, 2) := by decide +kernel
theorem dL_law_62 : decode cL_law 62 = .ok (.aload_n 1, 1) := by decide +kernel
theorem dL_law_63 : decode cL_law 63 = .ok (.invokevirtual 185, 3) := by decide +kernel
theorem dL_law_66 : decode cL_law 66 = .ok (.lstore 6, 2) := by decide +kernel
theorem dL_law_68 : decode cL_law 68 = .ok (.aload_n 1, 1) := by decide +kernel
theorem dL_law_69 : decode cL_law 69 = .ok (.invokevirtual 207, 3) := by decide +kernel
theorem dL_law_72 : decode cL_law 72 = .ok (.istore 8, 2) := by decide +kernel
theorem dL_law_74 : decode cL_law 74 = .ok (.iload 4, 2) := by decide +kernel
theorem dL_law_76 : decode cL_law 76 = .ok (.bipush 8, 2) := by decide +kernel
theorem dL_law_78 : decode cL_law 78 = .ok (.ishr, 1) := by decide +kernel
theorem dL_law_79 : decode cL_law 79 = .ok (.iconst 3, 1) := by decide +kernel
theorem dL_law_80 : decode cL_law 80 = .ok (.iand, 1) := by decide +kernel
theorem dL_law_81 : decode cL_law 81 = .ok (.ifCond .ne 7, 3) := by decide +kernel
theorem dL_law_84 : decode cL_law 84 = .ok (.iconst 1, 1) := by decide +kernel
theorem dL_law_85 : decode cL_law 85 = .ok (.goto 4, 3) := by decide +kernel
theorem dL_law_88 : decode cL_law 88 = .ok (.iconst 0, 1) := by decide +kernel
theorem dL_law_89 : decode cL_law 89 = .ok (.istore 9, 2) := by decide +kernel
theorem dL_law_91 : decode cL_law 91 = .ok (.iload 9, 2) := by decide +kernel
theorem dL_law_93 : decode cL_law 93 = .ok (.ifCond .eq 58, 3) := by decide +kernel
theorem dL_law_96 : decode cL_law 96 = .ok (.aload_n 1, 1) := by decide +kernel
theorem dL_law_97 : decode cL_law 97 = .ok (.iconst 1, 1) := by decide +kernel
theorem dL_law_98 : decode cL_law 98 = .ok (.iload 5, 2) := by decide +kernel
theorem dL_law_100 : decode cL_law 100 = .ok (.iload 5, 2) := by decide +kernel
theorem dL_law_102 : decode cL_law 102 = .ok (.bipush 9, 2) := by decide +kernel
theorem dL_law_104 : decode cL_law 104 = .ok (.ishr, 1) := by decide +kernel
theorem dL_law_105 : decode cL_law 105 = .ok (.iconst 1, 1) := by decide +kernel
theorem dL_law_106 : decode cL_law 106 = .ok (.iand, 1) := by decide +kernel
theorem dL_law_107 : decode cL_law 107 = .ok (.ifCond .ne 8, 3) := by decide +kernel
theorem dL_law_110 : decode cL_law 110 = .ok (.bipush 50, 2) := by decide +kernel
theorem dL_law_112 : decode cL_law 112 = .ok (.goto 5, 3) := by decide +kernel
theorem dL_law_115 : decode cL_law 115 = .ok (.bipush 7, 2) := by decide +kernel
theorem dL_law_117 : decode cL_law 117 = .ok (.invokestatic 15, 3) := by decide +kernel
theorem dL_law_120 : decode cL_law 120 = .ok (.iadd, 1) := by decide +kernel
theorem dL_law_121 : decode cL_law 121 = .ok (.iload 5, 2) := by decide +kernel
theorem dL_law_123 : decode cL_law 123 = .ok (.iconst 3, 1) := by decide +kernel
theorem dL_law_124 : decode cL_law 124 = .ok (.ishr, 1) := by decide +kernel
theorem dL_law_125 : decode cL_law 125 = .ok (.bipush 6, 2) := by decide +kernel
theorem dL_law_127 : decode cL_law 127 = .ok (.invokestatic 15, 3) := by decide +kernel
theorem dL_law_130 : decode cL_law 130 = .ok (.iload 4, 2) := by decide +kernel
theorem dL_law_132 : decode cL_law 132 = .ok (.bipush 10, 2) := by decide +kernel
theorem dL_law_134 : decode cL_law 134 = .ok (.ishr, 1) := by decide +kernel
theorem dL_law_135 : decode cL_law 135 = .ok (.iconst 1, 1) := by decide +kernel
theorem dL_law_136 : decode cL_law 136 = .ok (.iand, 1) := by decide +kernel
theorem dL_law_137 : decode cL_law 137 = .ok (.ifCond .ne 7, 3) := by decide +kernel
theorem dL_law_140 : decode cL_law 140 = .ok (.iconst 1, 1) := by decide +kernel
theorem dL_law_141 : decode cL_law 141 = .ok (.goto 4, 3) := by decide +kernel
theorem dL_law_144 : decode cL_law 144 = .ok (.iconst 0, 1) := by decide +kernel
theorem dL_law_145 : decode cL_law 145 = .ok (.invokestatic 210, 3) := by decide +kernel
theorem dL_law_148 : decode cL_law 148 = .ok (.goto 11, 3) := by decide +kernel
theorem dL_law_151 : decode cL_law 151 = .ok (.aload_n 1, 1) := by decide +kernel
theorem dL_law_152 : decode cL_law 152 = .ok (.iload 4, 2) := by decide +kernel
theorem dL_law_154 : decode cL_law 154 = .ok (.iload 5, 2) := by decide +kernel
theorem dL_law_156 : decode cL_law 156 = .ok (.invokestatic 214, 3) := by decide +kernel
theorem dL_law_159 : decode cL_law 159 = .ok (.istore_n 2, 1) := by decide +kernel
theorem dL_law_160 : decode cL_law 160 = .ok (.iload_n 2, 1) := by decide +kernel
theorem dL_law_161 : decode cL_law 161 = .ok (.ifCond .eq 77, 3) := by decide +kernel
theorem dL_law_164 : decode cL_law 164 = .ok (.iload 9, 2) := by decide +kernel
theorem dL_law_166 : decode cL_law 166 = .ok (.ifCond .ne 72, 3) := by decide +kernel
theorem dL_law_169 : decode cL_law 169 = .ok (.iload 4, 2) := by decide +kernel
theorem dL_law_171 : decode cL_law 171 = .ok (.bipush 16, 2) := by decide +kernel
theorem dL_law_173 : decode cL_law 173 = .ok (.invokestatic 15, 3) := by decide +kernel
theorem dL_law_176 : decode cL_law 176 = .ok (.bipush 11, 2) := by decide +kernel
theorem dL_law_178 : decode cL_law 178 = .ok (.if_icmp .le 60, 3) := by decide +kernel
theorem dL_law_181 : decode cL_law 181 = .ok (.aload_n 1, 1) := by decide +kernel
theorem dL_law_182 : decode cL_law 182 = .ok (.invokevirtual 207, 3) := by decide +kernel
theorem dL_law_185 : decode cL_law 185 = .ok (.iload 8, 2) := by decide +kernel
theorem dL_law_187 : decode cL_law 187 = .ok (.bipush 6, 2) := by decide +kernel
theorem dL_law_189 : decode cL_law 189 = .ok (.if_icmp .ge 10, 3) := by decide +kernel
theorem dL_law_192 : decode cL_law 192 = .ok (.iload 8, 2) := by decide +kernel
theorem dL_law_194 : decode cL_law 194 = .ok (.iconst 1, 1) := by decide +kernel
theorem dL_law_195 : decode cL_law 195 = .ok (.iadd, 1) := by decide +kernel
theorem dL_law_196 : decode cL_law 196 = .ok (.goto 5, 3) := by decide +kernel
theorem dL_law_199 : decode cL_law 199 = .ok (.bipush 6, 2) := by decide +kernel
theorem dL_law_201 : decode cL_law 201 = .ok (.if_icmp .ne 35, 3) := by decide +kernel
theorem dL_law_204 : decode cL_law 204 = .ok (.aload_n 1, 1) := by decide +kernel
theorem dL_law_205 : decode cL_law 205 = .ok (.invokevirtual 173, 3) := by decide +kernel
theorem dL_law_208 : decode cL_law 208 = .ok (.ifCond .lt 28, 3) := by decide +kernel
theorem dL_law_211 : decode cL_law 211 = .ok (.aload_n 1, 1) := by decide +kernel
theorem dL_law_212 : decode cL_law 212 = .ok (.invokevirtual 185, 3) := by decide +kernel
theorem dL_law_215 : decode cL_law 215 = .ok (.lload 6, 2) := by decide +kernel
theorem dL_law_217 : decode cL_law 217 = .ok (.lcmp, 1) := by decide +kernel
theorem dL_law_218 : decode cL_law 218 = .ok (.ifCond .ne 18, 3) := by decide +kernel
theorem dL_law_221 : decode cL_law 221 = .ok (.aload_n 1, 1) := by decide +kernel
theorem dL_law_222 : decode cL_law 222 = .ok (.iload 4, 2) := by decide +kernel
theorem dL_law_224 : decode cL_law 224 = .ok (.iload 5, 2) := by decide +kernel
theorem dL_law_226 : decode cL_law 226 = .ok (.invokestatic 214, 3) := by decide +kernel
theorem dL_law_229 : decode cL_law 229 = .ok (.ifCond .eq 7, 3) := by decide +kernel
theorem dL_law_232 : decode cL_law 232 = .ok (.iconst 1, 1) := by decide +kernel
theorem dL_law_233 : decode cL_law 233 = .ok (.goto 4, 3) := by decide +kernel
theorem dL_law_236 : decode cL_law 236 = .ok (.iconst 0, 1) := by decide +kernel
theorem dL_law_237 : decode cL_law 237 = .ok (.istore_n 2, 1) := by decide +kernel
theorem dL_law_238 : decode cL_law 238 = .ok (.iload_n 2, 1) := by decide +kernel
theorem dL_law_239 : decode cL_law 239 = .ok (.ifCond .eq 60, 3) := by decide +kernel
theorem dL_law_242 : decode cL_law 242 = .ok (.aload_n 1, 1) := by decide +kernel
theorem dL_law_243 : decode cL_law 243 = .ok (.invokestatic 199, 3) := by decide +kernel
theorem dL_law_246 : decode cL_law 246 = .ok (.ifCond .eq 53, 3) := by decide +kernel
theorem dL_law_249 : decode cL_law 249 = .ok (.iload_n 3, 1) := by decide +kernel
theorem dL_law_250 : decode cL_law 250 = .ok (.iconst 3, 1) := by decide +kernel
theorem dL_law_251 : decode cL_law 251 = .ok (.irem, 1) := by decide +kernel
theorem dL_law_252 : decode cL_law 252 = .ok (.iconst 1, 1) := by decide +kernel
theorem dL_law_253 : decode cL_law 253 = .ok (.if_icmp .ne 23, 3) := by decide +kernel
theorem dL_law_256 : decode cL_law 256 = .ok (.aload_n 1, 1) := by decide +kernel
theorem dL_law_257 : decode cL_law 257 = .ok (.iload 4, 2) := by decide +kernel
theorem dL_law_259 : decode cL_law 259 = .ok (.iconst 4, 1) := by decide +kernel
theorem dL_law_260 : decode cL_law 260 = .ok (.ishr, 1) := by decide +kernel
theorem dL_law_261 : decode cL_law 261 = .ok (.iconst 4, 1) := by decide +kernel
theorem dL_law_262 : decode cL_law 262 = .ok (.invokestatic 15, 3) := by decide +kernel
theorem dL_law_265 : decode cL_law 265 = .ok (.iload 4, 2) := by decide +kernel
theorem dL_law_267 : decode cL_law 267 = .ok (.bipush 6, 2) := by decide +kernel
theorem dL_law_269 : decode cL_law 269 = .ok (.ishr, 1) := by decide +kernel
theorem dL_law_270 : decode cL_law 270 = .ok (.invokestatic 218, 3) := by decide +kernel
theorem dL_law_273 : decode cL_law 273 = .ok (.ifCond .eq 26, 3) := by decide +kernel
theorem dL_law_276 : decode cL_law 276 = .ok (.iload_n 3, 1) := by decide +kernel
theorem dL_law_277 : decode cL_law 277 = .ok (.bipush 7, 2) := by decide +kernel
theorem dL_law_279 : decode cL_law 279 = .ok (.irem, 1) := by decide +kernel
theorem dL_law_280 : decode cL_law 280 = .ok (.iconst 4, 1) := by decide +kernel
theorem dL_law_281 : decode cL_law 281 = .ok (.if_icmp .ne 14, 3) := by decide +kernel
theorem dL_law_284 : decode cL_law 284 = .ok (.aload_n 1, 1) := by decide +kernel
theorem dL_law_285 : decode cL_law 285 = .ok (.iload 4, 2) := by decide +kernel
theorem dL_law_287 : decode cL_law 287 = .ok (.iconst 5, 1) := by decide +kernel
theorem dL_law_288 : decode cL_law 288 = .ok (.ishr, 1) := by decide +kernel
theorem dL_law_289 : decode cL_law 289 = .ok (.invokestatic 221, 3) := by decide +kernel
theorem dL_law_292 : decode cL_law 292 = .ok (.ifCond .eq 7, 3) := by decide +kernel
theorem dL_law_295 : decode cL_law 295 = .ok (.iconst 1, 1) := by decide +kernel
theorem dL_law_296 : decode cL_law 296 = .ok (.goto 4, 3) := by decide +kernel
theorem dL_law_299 : decode cL_law 299 = .ok (.iconst 0, 1) := by decide +kernel
theorem dL_law_300 : decode cL_law 300 = .ok (.istore_n 2, 1) := by decide +kernel
theorem dL_law_301 : decode cL_law 301 = .ok (.iload_n 2, 1) := by decide +kernel
theorem dL_law_302 : decode cL_law 302 = .ok (.ifCond .eq 25, 3) := by decide +kernel
theorem dL_law_305 : decode cL_law 305 = .ok (.iload_n 3, 1) := by decide +kernel
theorem dL_law_306 : decode cL_law 306 = .ok (.bipush 19, 2) := by decide +kernel
theorem dL_law_308 : decode cL_law 308 = .ok (.irem, 1) := by decide +kernel
theorem dL_law_309 : decode cL_law 309 = .ok (.bipush 17, 2) := by decide +kernel
theorem dL_law_311 : decode cL_law 311 = .ok (.if_icmp .ne 12, 3) := by decide +kernel
theorem dL_law_314 : decode cL_law 314 = .ok (.aload_n 1, 1) := by decide +kernel
theorem dL_law_315 : decode cL_law 315 = .ok (.iconst 0, 1) := by decide +kernel
theorem dL_law_316 : decode cL_law 316 = .ok (.invokevirtual 195, 3) := by decide +kernel
theorem dL_law_319 : decode cL_law 319 = .ok (.iconst 4, 1) := by decide +kernel
theorem dL_law_320 : decode cL_law 320 = .ok (.if_icmp .ne 7, 3) := by decide +kernel
theorem dL_law_323 : decode cL_law 323 = .ok (.iconst 1, 1) := by decide +kernel
theorem dL_law_324 : decode cL_law 324 = .ok (.goto 4, 3) := by decide +kernel
theorem dL_law_327 : decode cL_law 327 = .ok (.iconst 0, 1) := by decide +kernel
theorem dL_law_328 : decode cL_law 328 = .ok (.istore_n 2, 1) := by decide +kernel
theorem dL_law_329 : decode cL_law 329 = .ok (.iinc 3 1, 3) := by decide +kernel
theorem dL_law_332 : decode cL_law 332 = .ok (.goto (-300), 3) := by decide +kernel
theorem dL_law_335 : decode cL_law 335 = .ok (.iload_n 2, 1) := by decide +kernel
theorem dL_law_336 : decode cL_law 336 = .ok (.ifCond .eq 14, 3) := by decide +kernel
theorem dL_law_339 : decode cL_law 339 = .ok (.aload_n 1, 1) := by decide +kernel
theorem dL_law_340 : decode cL_law 340 = .ok (.invokestatic 199, 3) := by decide +kernel
theorem dL_law_343 : decode cL_law 343 = .ok (.ifCond .eq 7, 3) := by decide +kernel
theorem dL_law_346 : decode cL_law 346 = .ok (.iconst 1, 1) := by decide +kernel
theorem dL_law_347 : decode cL_law 347 = .ok (.goto 4, 3) := by decide +kernel
theorem dL_law_350 : decode cL_law 350 = .ok (.iconst 0, 1) := by decide +kernel
theorem dL_law_351 : decode cL_law 351 = .ok (.ireturn, 1) := by decide +kernel
