theorem dL_isNavigator_17 : decode cL_isNavigator 17 = .ok (.invokevirtual 91, 3) := by decide +kernel
theorem dL_isNavigator_20 : decode cL_isNavigator 20 = .ok (.aload 5, 2) := by decide +kernel
theorem dL_isNavigator_22 : decode cL_isNavigator 22 = .ok (.iload 6, 2) := by decide +kernel
theorem dL_isNavigator_24 : decode cL_isNavigator 24 = .ok (.iaload, 1) := by decide +kernel
theorem dL_isNavigator_25 : decode cL_isNavigator 25 = .ok (.if_icmp .ne 177, 3) := by decide +kernel
theorem dL_isNavigator_28 : decode cL_isNavigator 28 = .ok (.aload_n 0, 1) := by decide +kernel
theorem dL_isNavigator_29 : decode cL_isNavigator 29 = .ok (.iload_n 1, 1) := by decide +kernel
theorem dL_isNavigator_30 : decode cL_isNavigator 30 = .ok (.iconst 1, 1) := by decide +kernel
theorem dL_isNavigator_31 : decode cL_isNavigator 31 = .ok (.invokevirtual 91, 3) := by decide +kernel
theorem dL_isNavigator_34 : decode cL_isNavigator 34 = .ok (.aload 5, 2) := by decide +kernel
theorem dL_isNavigator_36 : decode cL_isNavigator 36 = .ok (.iload 6, 2) := by decide +kernel
theorem dL_isNavigator_38 : decode cL_isNavigator 38 = .ok (.iconst 1, 1) := by decide +kernel
theorem dL_isNavigator_39 : decode cL_isNavigator 39 = .ok (.iadd, 1) := by decide +kernel
theorem dL_isNavigator_40 : decode cL_isNavigator 40 = .ok (.iaload, 1) := by decide +kernel
theorem dL_isNavigator_41 : decode cL_isNavigator 41 = .ok (.bipush 60, 2) := by decide +kernel
theorem dL_isNavigator_43 : decode cL_isNavigator 43 = .ok (.iadd, 1) := by decide +kernel
theorem dL_isNavigator_44 : decode cL_isNavigator 44 = .ok (.if_icmp .ne 158, 3) := by decide +kernel
theorem dL_isNavigator_47 : decode cL_isNavigator 47 = .ok (.aload_n 0, 1) := by decide +kernel
theorem dL_isNavigator_48 : decode cL_isNavigator 48 = .ok (.iload_n 1, 1) := by decide +kernel
theorem dL_isNavigator_49 : decode cL_isNavigator 49 = .ok (.iconst 2, 1) := by decide +kernel
theorem dL_isNavigator_50 : decode cL_isNavigator 50 = .ok (.invokevirtual 91, 3) := by decide +kernel
theorem dL_isNavigator_53 : decode cL_isNavigator 53 = .ok (.aload 5, 2) := by decide +kernel
theorem dL_isNavigator_55 : decode cL_isNavigator 55 = .ok (.iload 6, 2) := by decide +kernel
theorem dL_isNavigator_57 : decode cL_isNavigator 57 = .ok (.iconst 2, 1) := by decide +kernel
theorem dL_isNavigator_58 : decode cL_isNavigator 58 = .ok (.iadd, 1) := by decide +kernel
theorem dL_isNavigator_59 : decode cL_isNavigator 59 = .ok (.iaload, 1) := by decide +kernel
theorem dL_isNavigator_60 : decode cL_isNavigator 60 = .ok (.if_icmp .ne 142, 3) := by decide +kernel
theorem dL_isNavigator_63 : decode cL_isNavigator 63 = .ok (.aload_n 0, 1) := by decide +kernel
theorem dL_isNavigator_64 : decode cL_isNavigator 64 = .ok (.iload_n 1, 1) := by decide +kernel
theorem dL_isNavigator_65 : decode cL_isNavigator 65 = .ok (.iconst 3, 1) := by decide +kernel
theorem dL_isNavigator_66 : decode cL_isNavigator 66 = .ok (.invokevirtual 91, 3) := by decide +kernel
theorem dL_isNavigator_69 : decode cL_isNavigator 69 = .ok (.aload 5, 2) := by decide +kernel
theorem dL_isNavigator_71 : decode cL_isNavigator 71 = .ok (.iload 6, 2) := by decide +kernel
theorem dL_isNavigator_73 : decode cL_isNavigator 73 = .ok (.iconst 3, 1) := by decide +kernel
theorem dL_isNavigator_74 : decode cL_isNavigator 74 = .ok (.iadd, 1) := by decide +kernel
theorem dL_isNavigator_75 : decode cL_isNavigator 75 = .ok (.iaload, 1) := by decide +kernel
theorem dL_isNavigator_76 : decode cL_isNavigator 76 = .ok (.if_icmp .ne 126, 3) := by decide +kernel
theorem dL_isNavigator_79 : decode cL_isNavigator 79 = .ok (.aload_n 0, 1) := by decide +kernel
theorem dL_isNavigator_80 : decode cL_isNavigator 80 = .ok (.iload_n 1, 1) := by decide +kernel
theorem dL_isNavigator_81 : decode cL_isNavigator 81 = .ok (.iconst 4, 1) := by decide +kernel
theorem dL_isNavigator_82 : decode cL_isNavigator 82 = .ok (.invokevirtual 91, 3) := by decide +kernel
theorem dL_isNavigator_85 : decode cL_isNavigator 85 = .ok (.aload 5, 2) := by decide +kernel
theorem dL_isNavigator_87 : decode cL_isNavigator 87 = .ok (.iload 6, 2) := by decide +kernel
theorem dL_isNavigator_89 : decode cL_isNavigator 89 = .ok (.iconst 4, 1) := by decide +kernel
theorem dL_isNavigator_90 : decode cL_isNavigator 90 = .ok (.iadd, 1) := by decide +kernel
theorem dL_isNavigator_91 : decode cL_isNavigator 91 = .ok (.iaload, 1) := by decide +kernel
theorem dL_isNavigator_92 : decode cL_isNavigator 92 = .ok (.if_icmp .ne 110, 3) := by decide +kernel
theorem dL_isNavigator_95 : decode cL_isNavigator 95 = .ok (.aload_n 0, 1) := by decide +kernel
theorem dL_isNavigator_96 : decode cL_isNavigator 96 = .ok (.iload_n 1, 1) := by decide +kernel
theorem dL_isNavigator_97 : decode cL_isNavigator 97 = .ok (.iconst 5, 1) := by decide +kernel
theorem dL_isNavigator_98 : decode cL_isNavigator 98 = .ok (.invokevirtual 91, 3) := by decide +kernel
theorem dL_isNavigator_101 : decode cL_isNavigator 101 = .ok (.aload 5, 2) := by decide +kernel
theorem dL_isNavigator_103 : decode cL_isNavigator 103 = .ok (.iload 6, 2) := by decide +kernel
theorem dL_isNavigator_105 : decode cL_isNavigator 105 = .ok (.iconst 5, 1) := by decide +kernel
theorem dL_isNavigator_106 : decode cL_isNavigator 106 = .ok (.iadd, 1) := by decide +kernel
theorem dL_isNavigator_107 : decode cL_isNavigator 107 = .ok (.iaload, 1) := by decide +kernel
theorem dL_isNavigator_108 : decode cL_isNavigator 108 = .ok (.sipush 9999, 3) := by decide +kernel
theorem dL_isNavigator_111 : decode cL_isNavigator 111 = .ok (.if_icmp .ne 8, 3) := by decide +kernel
theorem dL_isNavigator_114 : decode cL_isNavigator 114 = .ok (.bipush (-6), 2) := by decide +kernel
theorem dL_isNavigator_116 : decode cL_isNavigator 116 = .ok (.goto 14, 3) := by decide +kernel
theorem dL_isNavigator_119 : decode cL_isNavigator 119 = .ok (.aload 5, 2) := by decide +kernel
theorem dL_isNavigator_121 : decode cL_isNavigator 121 = .ok (.iload 6, 2) := by decide +kernel
theorem dL_isNavigator_123 : decode cL_isNavigator 123 = .ok (.iconst 5, 1) := by decide +kernel
theorem dL_isNavigator_124 : decode cL_isNavigator 124 = .ok (.iadd, 1) := by decide +kernel
theorem dL_isNavigator_125 : decode cL_isNavigator 125 = .ok (.iaload, 1) := by decide +kernel
theorem dL_isNavigator_126 : decode cL_isNavigator 126 = .ok (.sipush 5400, 3) := by decide +kernel
theorem dL_isNavigator_129 : decode cL_isNavigator 129 = .ok (.iadd, 1) := by decide +kernel
theorem dL_isNavigator_130 : decode cL_isNavigator 130 = .ok (.if_icmp .ne 72, 3) := by decide +kernel
theorem dL_isNavigator_133 : decode cL_isNavigator 133 = .ok (.aload_n 0, 1) := by decide +kernel
theorem dL_isNavigator_134 : decode cL_isNavigator 134 = .ok (.iload_n 1, 1) := by decide +kernel
theorem dL_isNavigator_135 : decode cL_isNavigator 135 = .ok (.bipush 6, 2) := by decide +kernel
theorem dL_isNavigator_137 : decode cL_isNavigator 137 = .ok (.invokevirtual 91, 3) := by decide +kernel
theorem dL_isNavigator_140 : decode cL_isNavigator 140 = .ok (.aload 5, 2) := by decide +kernel
theorem dL_isNavigator_142 : decode cL_isNavigator 142 = .ok (.iload 6, 2) := by decide +kernel
theorem dL_isNavigator_144 : decode cL_isNavigator 144 = .ok (.bipush 6, 2) := by decide +kernel
theorem dL_isNavigator_146 : decode cL_isNavigator 146 = .ok (.iadd, 1) := by decide +kernel
theorem dL_isNavigator_147 : decode cL_isNavigator 147 = .ok (.iaload, 1) := by decide +kernel
theorem dL_isNavigator_148 : decode cL_isNavigator 148 = .ok (.if_icmp .ne 54, 3) := by decide +kernel
theorem dL_isNavigator_151 : decode cL_isNavigator 151 = .ok (.aload_n 0, 1) := by decide +kernel
theorem dL_isNavigator_152 : decode cL_isNavigator 152 = .ok (.iload_n 1, 1) := by decide +kernel
theorem dL_isNavigator_153 : decode cL_isNavigator 153 = .ok (.bipush 7, 2) := by decide +kernel
theorem dL_isNavigator_155 : decode cL_isNavigator 155 = .ok (.invokevirtual 91, 3) := by decide +kernel
theorem dL_isNavigator_158 : decode cL_isNavigator 158 = .ok (.iload_n 1, 1) := by decide +kernel
theorem dL_isNavigator_159 : decode cL_isNavigator 159 = .ok (.aload 5, 2) := by decide +kernel
theorem dL_isNavigator_161 : decode cL_isNavigator 161 = .ok (.invokestatic 24, 3) := by decide +kernel
theorem dL_isNavigator_164 : decode cL_isNavigator 164 = .ok (.sipush 999, 3) := by decide +kernel
theorem dL_isNavigator_167 : decode cL_isNavigator 167 = .ok (.iadd, 1) := by decide +kernel
theorem dL_isNavigator_168 : decode cL_isNavigator 168 = .ok (.if_icmp .ne 34, 3) := by decide +kernel
theorem dL_isNavigator_171 : decode cL_isNavigator 171 = .ok (.aload_n 0, 1) := by decide +kernel
theorem dL_isNavigator_172 : decode cL_isNavigator 172 = .ok (.iload_n 1, 1) := by decide +kernel
theorem dL_isNavigator_173 : decode cL_isNavigator 173 = .ok (.invokevirtual 94, 3) := by decide +kernel
theorem dL_isNavigator_176 : decode cL_isNavigator 176 = .ok (.iload 7, 2) := by decide +kernel
theorem dL_isNavigator_178 : decode cL_isNavigator 178 = .ok (.sipush 9999, 3) := by decide +kernel
theorem dL_isNavigator_181 : decode cL_isNavigator 181 = .ok (.if_icmp .ne 8, 3) := by decide +kernel
theorem dL_isNavigator_184 : decode cL_isNavigator 184 = .ok (.bipush (-5), 2) := by decide +kernel
theorem dL_isNavigator_186 : decode cL_isNavigator 186 = .ok (.goto 9, 3) := by decide +kernel
theorem dL_isNavigator_189 : decode cL_isNavigator 189 = .ok (.iload 7, 2) := by decide +kernel
theorem dL_isNavigator_191 : decode cL_isNavigator 191 = .ok (.sipush 5400, 3) := by decide +kernel
theorem dL_isNavigator_194 : decode cL_isNavigator 194 = .ok (.iadd, 1) := by decide +kernel
theorem dL_isNavigator_195 : decode cL_isNavigator 195 = .ok (.if_icmp .ne 7, 3) := by decide +kernel
theorem dL_isNavigator_198 : decode cL_isNavigator 198 = .ok (.iconst 1, 1) := by decide +kernel
theorem dL_isNavigator_199 : decode cL_isNavigator 199 = .ok (.goto 4, 3) := by decide +kernel
theorem dL_isNavigator_202 : decode cL_isNavigator 202 = .ok (.iconst 0, 1) := by decide +kernel
theorem dL_isNavigator_203 : decode cL_isNavigator 203 = .ok (.istore 8, 2) := by decide +kernel
theorem dL_isNavigator_205 : decode cL_isNavigator 205 = .ok (.iload_n 2, 1) := by decide +kernel
theorem dL_isNavigator_206 : decode cL_isNavigator 206 = .ok (.aload_n 3, 1) := by decide +kernel
theorem dL_isNavigator_207 : decode cL_isNavigator 207 = .ok (.bipush 12, 2) := by decide +kernel
theorem dL_isNavigator_209 : decode cL_isNavigator 209 = .ok (.iaload, 1) := by decide +kernel
theorem dL_isNavigator_210 : decode cL_isNavigator 210 = .ok (.if_icmp .lt 44, 3) := by decide +kernel
theorem dL_isNavigator_213 : decode cL_isNavigator 213 = .ok (.iload 8, 2) := by decide +kernel
theorem dL_isNavigator_215 : decode cL_isNavigator 215 = .ok (.ifCond .eq 37, 3) := by decide +kernel
theorem dL_isNavigator_218 : decode cL_isNavigator 218 = .ok (.aload_n 0, 1) := by decide +kernel
theorem dL_isNavigator_219 : decode cL_isNavigator 219 = .ok (.iload_n 1, 1) := by decide +kernel
theorem dL_isNavigator_220 : decode cL_isNavigator 220 = .ok (.iload_n 2, 1) := by decide +kernel
theorem dL_isNavigator_221 : decode cL_isNavigator 221 = .ok (.invokevirtual 96, 3) := by decide +kernel
theorem dL_isNavigator_224 : decode cL_isNavigator 224 = .ok (.iconst (-1), 1) := by decide +kernel
theorem dL_isNavigator_225 : decode cL_isNavigator 225 = .ok (.if_icmp .ne 27, 3) := by decide +kernel
theorem dL_isNavigator_228 : decode cL_isNavigator 228 = .ok (.aload_n 0, 1) := by decide +kernel
theorem dL_isNavigator_229 : decode cL_isNavigator 229 = .ok (.iload_n 1, 1) := by decide +kernel
theorem dL_isNavigator_230 : decode cL_isNavigator 230 = .ok (.iload_n 2, 1) := by decide +kernel
theorem dL_isNavigator_231 : decode cL_isNavigator 231 = .ok (.invokevirtual 98, 3) := by decide +kernel
theorem dL_isNavigator_234 : decode cL_isNavigator 234 = .ok (.iconst (-1), 1) := by decide +kernel
theorem dL_isNavigator_235 : decode cL_isNavigator 235 = .ok (.if_icmp .ne 17, 3) := by decide +kernel
theorem dL_isNavigator_238 : decode cL_isNavigator 238 = .ok (.aload_n 0, 1) := by decide +kernel
theorem dL_isNavigator_239 : decode cL_isNavigator 239 = .ok (.iload_n 2, 1) := by decide +kernel
theorem dL_isNavigator_240 : decode cL_isNavigator 240 = .ok (.iconst 0, 1) := by decide +kernel
theorem dL_isNavigator_241 : decode cL_isNavigator 241 = .ok (.invokevirtual 101, 3) := by decide +kernel
theorem dL_isNavigator_244 : decode cL_isNavigator 244 = .ok (.iconst (-1), 1) := by decide +kernel
theorem dL_isNavigator_245 : decode cL_isNavigator 245 = .ok (.if_icmp .ne 7, 3) := by decide +kernel
theorem dL_isNavigator_248 : decode cL_isNavigator 248 = .ok (.iconst 1, 1) := by decide +kernel
theorem dL_isNavigator_249 : decode cL_isNavigator 249 = .ok (.goto 4, 3) := by decide +kernel
theorem dL_isNavigator_252 : decode cL_isNavigator 252 = .ok (.iconst 0, 1) := by decide +kernel
theorem dL_isNavigator_253 : decode cL_isNavigator 253 = .ok (.ireturn, 1) := by decide +kernel
theorem dL_isNavigator_254 : decode cL_isNavigator 254 = .ok (.iconst 0, 1) := by decide +kernel
theorem dL_isNavigator_255 : decode cL_isNavigator 255 = .ok (.istore 9, 2) := by decide +kernel
theorem dL_isNavigator_257 : decode cL_isNavigator 257 = .ok (.iconst 0, 1) := by decide +kernel
theorem dL_isNavigator_258 : decode cL_isNavigator 258 = .ok (.istore 10, 2) := by decide +kernel
theorem dL_isNavigator_260 : decode cL_isNavigator 260 = .ok (.iload 10, 2) := by decide +kernel
theorem dL_isNavigator_262 : decode cL_isNavigator 262 = .ok (.bipush 7, 2) := by decide +kernel
theorem dL_isNavigator_264 : decode cL_isNavigator 264 = .ok (.if_icmp .ge 36, 3) := by decide +kernel
theorem dL_isNavigator_267 : decode cL_isNavigator 267 = .ok (.iload 9, 2) := by decide +kernel
theorem dL_isNavigator_269 : decode cL_isNavigator 269 = .ok (.iload 10, 2) := by decide +kernel
theorem dL_isNavigator_271 : decode cL_isNavigator 271 = .ok (.iload_n 2, 1) := by decide +kernel
theorem dL_isNavigator_272 : decode cL_isNavigator 272 = .ok (.aload_n 3, 1) := by decide +kernel
theorem dL_isNavigator_273 : decode cL_isNavigator 273 = .ok (.aload 4, 2) := by decide +kernel
theorem dL_isNavigator_275 : decode cL_isNavigator 275 = .ok (.aload 5, 2) := by decide +kernel
theorem dL_isNavigator_277 : decode cL_isNavigator 277 = .ok (.invokestatic 72, 3) := by decide +kernel
theorem dL_isNavigator_280 : decode cL_isNavigator 280 = .ok (.ifCond .ne 10, 3) := by decide +kernel
theorem dL_isNavigator_283 : decode cL_isNavigator 283 = .ok (.iconst 1, 1) := by decide +kernel
theorem dL_isNavigator_284 : decode cL_isNavigator 284 = .ok (.iload 10, 2) := by decide +kernel
theorem dL_isNavigator_286 : decode cL_isNavigator 286 = .ok (.ishl, 1) := by decide +kernel
theorem dL_isNavigator_287 : decode cL_isNavigator 287 = .ok (.goto 4, 3) := by decide +kernel
theorem dL_isNavigator_290 : decode cL_isNavigator 290 = .ok (.iconst 0, 1) := by decide +kernel
theorem dL_isNavigator_291 : decode cL_isNavigator 291 = .ok (.ior, 1) := by decide +kernel
theorem dL_isNavigator_292 : decode cL_isNavigator 292 = .ok (.istore 9, 2) := by decide +kernel
theorem dL_isNavigator_294 : decode cL_isNavigator 294 = .ok (.iinc 10 1, 3) := by decide +kernel
theorem dL_isNavigator_297 : decode cL_isNavigator 297 = .ok (.goto (-37), 3) := by decide +kernel
theorem dL_isNavigator_300 : decode cL_isNavigator 300 = .ok (.iload_n 1, 1) := by decide +kernel
theorem dL_isNavigator_301 : decode cL_isNavigator 301 = .ok (.iload_n 2, 1) := by decide +kernel
theorem dL_isNavigator_302 : decode cL_isNavigator 302 = .ok (.aload_n 3, 1) := by decide +kernel
theorem dL_isNavigator_303 : decode cL_isNavigator 303 = .ok (.aload 4, 2) := by decide +kernel
theorem dL_isNavigator_305 : decode cL_isNavigator 305 = .ok (.aload 5, 2) := by decide +kernel
theorem dL_isNavigator_307 : decode cL_isNavigator 307 = .ok (.invokestatic 72, 3) := by decide +kernel
theorem dL_isNavigator_310 : decode cL_isNavigator 310 = .ok (.istore 10, 2) := by decide +kernel
theorem dL_isNavigator_312 : decode cL_isNavigator 312 = .ok (.iload 8, 2) := by decide +kernel
theorem dL_isNavigator_314 : decode cL_isNavigator 314 = .ok (.ifCond .eq 51, 3) := by decide +kernel
theorem dL_isNavigator_317 : decode cL_isNavigator 317 = .ok (.aload_n 0, 1) := by decide +kernel
theorem dL_isNavigator_318 : decode cL_isNavigator 318 = .ok (.iload_n 1, 1) := by decide +kernel
theorem dL_isNavigator_319 : decode cL_isNavigator 319 = .ok (.iload_n 2, 1) := by decide +kernel
theorem dL_isNavigator_320 : decode cL_isNavigator 320 = .ok (.invokevirtual 96, 3) := by decide +kernel
theorem dL_isNavigator_323 : decode cL_isNavigator 323 = .ok (.iload 10, 2) := by decide +kernel
theorem dL_isNavigator_325 : decode cL_isNavigator 325 = .ok (.if_icmp .ne 40, 3) := by decide +kernel
theorem dL_isNavigator_328 : decode cL_isNavigator 328 = .ok (.aload_n 0, 1) := by decide +kernel
theorem dL_isNavigator_329 : decode cL_isNavigator 329 = .ok (.iload_n 1, 1) := by decide +kernel
theorem dL_isNavigator_330 : decode cL_isNavigator 330 = .ok (.iload_n 2, 1) := by decide +kernel
theorem dL_isNavigator_331 : decode cL_isNavigator 331 = .ok (.invokevirtual 98, 3) := by decide +kernel
theorem dL_isNavigator_334 : decode cL_isNavigator 334 = .ok (.iload 10, 2) := by decide +kernel
theorem dL_isNavigator_336 : decode cL_isNavigator 336 = .ok (.ifCond .le 8, 3) := by decide +kernel
theorem dL_isNavigator_339 : decode cL_isNavigator 339 = .ok (.bipush (-5), 2) := by decide +kernel
theorem dL_isNavigator_341 : decode cL_isNavigator 341 = .ok (.goto 17, 3) := by decide +kernel
theorem dL_isNavigator_344 : decode cL_isNavigator 344 = .ok (.iload_n 1, 1) := by decide +kernel
theorem dL_isNavigator_345 : decode cL_isNavigator 345 = .ok (.iload_n 2, 1) := by decide +kernel
theorem dL_isNavigator_346 : decode cL_isNavigator 346 = .ok (.aload_n 3, 1) := by decide +kernel
theorem dL_isNavigator_347 : decode cL_isNavigator 347 = .ok (.aload 4, 2) := by decide +kernel
theorem dL_isNavigator_349 : decode cL_isNavigator 349 = .ok (.aload 5, 2) := by decide +kernel
theorem dL_isNavigator_351 : decode cL_isNavigator 351 = .ok (.invokestatic 76, 3) := by decide +kernel
theorem dL_isNavigator_354 : decode cL_isNavigator 354 = .ok (.sipush 5400, 3) := by decide +kernel
theorem dL_isNavigator_357 : decode cL_isNavigator 357 = .ok (.iadd, 1) := by decide +kernel
theorem dL_isNavigator_358 : decode cL_isNavigator 358 = .ok (.if_icmp .ne 7, 3) := by decide +kernel
theorem dL_isNavigator_361 : decode cL_isNavigator 361 = .ok (.iconst 1, 1) := by decide +kernel
theorem dL_isNavigator_362 : decode cL_isNavigator 362 = .ok (.goto 4, 3) := by decide +kernel
theorem dL_isNavigator_365 : decode cL_isNavigator 365 = .ok (.iconst 0, 1) := by decide +kernel
theorem dL_isNavigator_366 : decode cL_isNavigator 366 = .ok (.istore 8, 2) := by decide +kernel
theorem dL_isNavigator_368 : decode cL_isNavigator 368 = .ok (.iload 8, 2) := by decide +kernel
theorem dL_isNavigator_370 : decode cL_isNavigator 370 = .ok (.ifCond .eq 81, 3) := by decide +kernel
theorem dL_isNavigator_373 : decode cL_isNavigator 373 = .ok (.aload_n 0, 1) := by decide +kernel
theorem dL_isNavigator_374 : decode cL_isNavigator 374 = .ok (.iload_n 2, 1) := by decide +kernel
theorem dL_isNavigator_375 : decode cL_isNavigator 375 = .ok (.iconst 0, 1) := by decide +kernel
theorem dL_isNavigator_376 : decode cL_isNavigator 376 = .ok (.invokevirtual 101, 3) := by decide +kernel
theorem dL_isNavigator_379 : decode cL_isNavigator 379 = .ok (.iload_n 2, 1) := by decide +kernel
theorem dL_isNavigator_380 : decode cL_isNavigator 380 = .ok (.aload 4, 2) := by decide +kernel
theorem dL_isNavigator_382 : decode cL_isNavigator 382 = .ok (.invokestatic 10, 3) := by decide +kernel
theorem dL_isNavigator_385 : decode cL_isNavigator 385 = .ok (.sipush 5400, 3) := by decide +kernel
theorem dL_isNavigator_388 : decode cL_isNavigator 388 = .ok (.iadd, 1) := by decide +kernel
theorem dL_isNavigator_389 : decode cL_isNavigator 389 = .ok (.if_icmp .ne 62, 3) := by decide +kernel
theorem dL_isNavigator_392 : decode cL_isNavigator 392 = .ok (.aload_n 0, 1) := by decide +kernel
theorem dL_isNavigator_393 : decode cL_isNavigator 393 = .ok (.iload_n 2, 1) := by decide +kernel
theorem dL_isNavigator_394 : decode cL_isNavigator 394 = .ok (.iconst 1, 1) := by decide +kernel
theorem dL_isNavigator_395 : decode cL_isNavigator 395 = .ok (.invokevirtual 101, 3) := by decide +kernel
theorem dL_isNavigator_398 : decode cL_isNavigator 398 = .ok (.aload 4, 2) := by decide +kernel
theorem dL_isNavigator_400 : decode cL_isNavigator 400 = .ok (.iload_n 2, 1) := by decide +kernel
theorem dL_isNavigator_401 : decode cL_isNavigator 401 = .ok (.iaload, 1) := by decide +kernel
theorem dL_isNavigator_402 : decode cL_isNavigator 402 = .ok (.sipush 9000, 3) := by decide +kernel
theorem dL_isNavigator_405 : decode cL_isNavigator 405 = .ok (.if_icmp .le 7, 3) := by decide +kernel
theorem dL_isNavigator_408 : decode cL_isNavigator 408 = .ok (.iconst 1, 1) := by decide +kernel
theorem dL_isNavigator_409 : decode cL_isNavigator 409 = .ok (.goto 4, 3) := by decide +kernel
theorem dL_isNavigator_412 : decode cL_isNavigator 412 = .ok (.iconst 0, 1) := by decide +kernel
theorem dL_isNavigator_413 : decode cL_isNavigator 413 = .ok (.if_icmp .ne 38, 3) := by decide +kernel
theorem dL_isNavigator_416 : decode cL_isNavigator 416 = .ok (.aload_n 0, 1) := by decide +kernel
theorem dL_isNavigator_417 : decode cL_isNavigator 417 = .ok (.iload_n 2, 1) := by decide +kernel
theorem dL_isNavigator_418 : decode cL_isNavigator 418 = .ok (.iconst 2, 1) := by decide +kernel
theorem dL_isNavigator_419 : decode cL_isNavigator 419 = .ok (.invokevirtual 101, 3) := by decide +kernel
theorem dL_isNavigator_422 : decode cL_isNavigator 422 = .ok (.iload_n 2, 1) := by decide +kernel
theorem dL_isNavigator_423 : decode cL_isNavigator 423 = .ok (.aload_n 3, 1) := by decide +kernel
theorem dL_isNavigator_424 : decode cL_isNavigator 424 = .ok (.aload 4, 2) := by decide +kernel
theorem dL_isNavigator_426 : decode cL_isNavigator 426 = .ok (.invokestatic 20, 3) := by decide +kernel
theorem dL_isNavigator_429 : decode cL_isNavigator 429 = .ok (.sipush 5400, 3) := by decide +kernel
theorem dL_isNavigator_432 : decode cL_isNavigator 432 = .ok (.iadd, 1) := by decide +kernel
theorem dL_isNavigator_433 : decode cL_isNavigator 433 = .ok (.if_icmp .ne 18, 3) := by decide +kernel
theorem dL_isNavigator_436 : decode cL_isNavigator 436 = .ok (.aload_n 0, 1) := by decide +kernel
theorem dL_isNavigator_437 : decode cL_isNavigator 437 = .ok (.iload_n 2, 1) := by decide +kernel
theorem dL_isNavigator_438 : decode cL_isNavigator 438 = .ok (.iconst 3, 1) := by decide +kernel
theorem dL_isNavigator_439 : decode cL_isNavigator 439 = .ok (.invokevirtual 101, 3) := by decide +kernel
theorem dL_isNavigator_442 : decode cL_isNavigator 442 = .ok (.iload 9, 2) := by decide +kernel
theorem dL_isNavigator_444 : decode cL_isNavigator 444 = .ok (.if_icmp .ne 7, 3) := by decide +kernel
theorem dL_isNavigator_447 : decode cL_isNavigator 447 = .ok (.iconst 1, 1) := by decide +kernel
theorem dL_isNavigator_448 : decode cL_isNavigator 448 = .ok (.goto 4, 3) := by decide +kernel
theorem dL_isNavigator_451 : decode cL_isNavigator 451 = .ok (.iconst 0, 1) := by decide +kernel
theorem dL_isNavigator_452 : decode cL_isNavigator 452 = .ok (.ireturn, 1) := by decide +kernel
theorem dL_isSo_0 : decode cL_isSo 0 = .ok (.iconst 0, 1) := by decide +kernel
theorem dL_isSo_1 : decode cL_isSo 1 = .ok (.istore 6, 2) := by decide +kernel
theorem dL_isSo_3 : decode cL_isSo 3 = .ok (.iconst 0, 1) := by decide +kernel
theorem dL_isSo_4 : decode cL_isSo 4 = .ok (.istore 7, 2) := by decide +kernel
theorem dL_isSo_6 : decode cL_isSo 6 = .ok (.bipush (-6), 2) := by decide +kernel
theorem dL_isSo_8 : decode cL_isSo 8 = .ok (.istore 8, 2) := by decide +kernel
theorem dL_isSo_10 : decode cL_isSo 10 = .ok (.bipush (-6), 2) := by decide +kernel
theorem dL_isSo_12 : decode cL_isSo 12 = .ok (.istore 9, 2) := by decide +kernel
theorem dL_isSo_14 : decode cL_isSo 14 = .ok (.bipush (-6), 2) := by decide +kernel
theorem dL_isSo_16 : decode cL_isSo 16 = .ok (.istore 10, 2) := by decide +kernel
theorem dL_isSo_18 : decode cL_isSo 18 = .ok (.iconst 0, 1) := by decide +kernel
theorem dL_isSo_19 : decode cL_isSo 19 = .ok (.istore 11, 2) := by decide +kernel
theorem dL_isSo_21 : decode cL_isSo 21 = .ok (.iload 11, 2) := by decide +kernel
theorem dL_isSo_23 : decode cL_isSo 23 = .ok (.bipush 7, 2) := by decide +kernel
theorem dL_isSo_25 : decode cL_isSo 25 = .ok (.if_icmp .ge 149, 3) := by decide +kernel
theorem dL_isSo_28 : decode cL_isSo 28 = .ok (.aload 4, 2) := by decide +kernel
theorem dL_isSo_30 : decode cL_isSo 30 = .ok (.bipush 7, 2) := by decide +kernel
theorem dL_isSo_32 : decode cL_isSo 32 = .ok (.iload 11, 2) := by decide +kernel
theorem dL_isSo_34 : decode cL_isSo 34 = .ok (.imul, 1) := by decide +kernel
theorem dL_isSo_35 : decode cL_isSo 35 = .ok (.iconst 5, 1) := by decide +kernel
theorem dL_isSo_36 : decode cL_isSo 36 = .ok (.iadd, 1) := by decide +kernel
theorem dL_isSo_37 : decode cL_isSo 37 = .ok (.iaload, 1) := by decide +kernel
theorem dL_isSo_38 : decode cL_isSo 38 = .ok (.sipush 9999, 3) := by decide +kernel
theorem dL_isSo_41 : decode cL_isSo 41 = .ok (.if_icmp .eq 7, 3) := by decide +kernel
theorem dL_isSo_44 : decode cL_isSo 44 = .ok (.iconst 1, 1) := by decide +kernel
theorem dL_isSo_45 : decode cL_isSo 45 = .ok (.goto 4, 3) := by decide +kernel
theorem dL_isSo_48 : decode cL_isSo 48 = .ok (.iconst 0, 1) := by decide +kernel
theorem dL_isSo_49 : decode cL_isSo 49 = .ok (.istore 12, 2) := by decide +kernel
theorem dL_isSo_51 : decode cL_isSo 51 = .ok (.aload 4, 2) := by decide +kernel
theorem dL_isSo_53 : decode cL_isSo 53 = .ok (.bipush 7, 2) := by decide +kernel
theorem dL_isSo_55 : decode cL_isSo 55 = .ok (.iload 11, 2) := by decide +kernel
theorem dL_isSo_57 : decode cL_isSo 57 = .ok (.imul, 1) := by decide +kernel
theorem dL_isSo_58 : decode cL_isSo 58 = .ok (.iconst 5, 1) := by decide +kernel
theorem dL_isSo_59 : decode cL_isSo 59 = .ok (.iadd, 1) := by decide +kernel
theorem dL_isSo_60 : decode cL_isSo 60 = .ok (.iaload, 1) := by decide +kernel
theorem dL_isSo_61 : decode cL_isSo 61 = .ok (.aload_n 2, 1) := by decide +kernel
theorem dL_isSo_62 : decode cL_isSo 62 = .ok (.iconst 4, 1) := by decide +kernel
theorem dL_isSo_63 : decode cL_isSo 63 = .ok (.iaload, 1) := by decide +kernel
theorem dL_isSo_64 : decode cL_isSo 64 = .ok (.isub, 1) := by decide +kernel
theorem dL_isSo_65 : decode cL_isSo 65 = .ok (.invokestatic 16, 3) := by decide +kernel
theorem dL_isSo_68 : decode cL_isSo 68 = .ok (.istore 13, 2) := by decide +kernel
theorem dL_isSo_70 : decode cL_isSo 70 = .ok (.iload 6, 2) := by decide +kernel
theorem dL_isSo_72 : decode cL_isSo 72 = .ok (.iload 12, 2) := by decide +kernel
theorem dL_isSo_74 : decode cL_isSo 74 = .ok (.ifCond .eq 10, 3) := by decide +kernel
theorem dL_isSo_77 : decode cL_isSo 77 = .ok (.iconst 1, 1) := by decide +kernel
theorem dL_isSo_78 : decode cL_isSo 78 = .ok (.iload 11, 2) := by decide +kernel
theorem dL_isSo_80 : decode cL_isSo 80 = .ok (.ishl, 1) := by decide +kernel
theorem dL_isSo_81 : decode cL_isSo 81 = .ok (.goto 4, 3) := by decide +kernel
theorem dL_isSo_84 : decode cL_isSo 84 = .ok (.iconst 0, 1) := by decide +kernel
theorem dL_isSo_85 : decode cL_isSo 85 = .ok (.ior, 1) := by decide +kernel
theorem dL_isSo_86 : decode cL_isSo 86 = .ok (.istore 6, 2) := by decide +kernel
theorem dL_isSo_88 : decode cL_isSo 88 = .ok (.iload 7, 2) := by decide +kernel
theorem dL_isSo_90 : decode cL_isSo 90 = .ok (.aload 4, 2) := by decide +kernel
theorem dL_isSo_92 : decode cL_isSo 92 = .ok (.bipush 7, 2) := by decide +kernel
theorem dL_isSo_94 : decode cL_isSo 94 = .ok (.iload 11, 2) := by decide +kernel
theorem dL_isSo_96 : decode cL_isSo 96 = .ok (.imul, 1) := by decide +kernel
theorem dL_isSo_97 : decode cL_isSo 97 = .ok (.bipush 6, 2) := by decide +kernel
theorem dL_isSo_99 : decode cL_isSo 99 = .ok (.iadd, 1) := by decide +kernel
theorem dL_isSo_100 : decode cL_isSo 100 = .ok (.iaload, 1) := by decide +kernel
theorem dL_isSo_101 : decode cL_isSo 101 = .ok (.iconst 2, 1) := by decide +kernel
theorem dL_isSo_102 : decode cL_isSo 102 = .ok (.if_icmp .ne 10, 3) := by decide +kernel
theorem dL_isSo_105 : decode cL_isSo 105 = .ok (.iconst 1, 1) := by decide +kernel
theorem dL_isSo_106 : decode cL_isSo 106 = .ok (.iload 11, 2) := by decide +kernel
theorem dL_isSo_108 : decode cL_isSo 108 = .ok (.ishl, 1) := by decide +kernel
theorem dL_isSo_109 : decode cL_isSo 109 = .ok (.goto 4, 3) := by decide +kernel
theorem dL_isSo_112 : decode cL_isSo 112 = .ok (.iconst 0, 1) := by decide +kernel
theorem dL_isSo_113 : decode cL_isSo 113 = .ok (.ior, 1) := by decide +kernel
theorem dL_isSo_114 : decode cL_isSo 114 = .ok (.istore 7, 2) := by decide +kernel
theorem dL_isSo_116 : decode cL_isSo 116 = .ok (.iload 12, 2) := by decide +kernel
theorem dL_isSo_118 : decode cL_isSo 118 = .ok (.ifCond .eq 19, 3) := by decide +kernel
theorem dL_isSo_121 : decode cL_isSo 121 = .ok (.iload 8, 2) := by decide +kernel
theorem dL_isSo_123 : decode cL_isSo 123 = .ok (.ifCond .lt 10, 3) := by decide +kernel
theorem dL_isSo_126 : decode cL_isSo 126 = .ok (.iload 13, 2) := by decide +kernel
theorem dL_isSo_128 : decode cL_isSo 128 = .ok (.iload 9, 2) := by decide +kernel
theorem dL_isSo_130 : decode cL_isSo 130 = .ok (.if_icmp .ge 7, 3) := by decide +kernel
theorem dL_isSo_133 : decode cL_isSo 133 = .ok (.iconst 1, 1) := by decide +kernel
theorem dL_isSo_134 : decode cL_isSo 134 = .ok (.goto 4, 3) := by decide +kernel
theorem dL_isSo_137 : decode cL_isSo 137 = .ok (.iconst 0, 1) := by decide +kernel
theorem dL_isSo_138 : decode cL_isSo 138 = .ok (.istore 14, 2) := by decide +kernel
theorem dL_isSo_140 : decode cL_isSo 140 = .ok (.iload 14, 2) := by decide +kernel
theorem dL_isSo_142 : decode cL_isSo 142 = .ok (.ifCond .eq 8, 3) := by decide +kernel
theorem dL_isSo_145 : decode cL_isSo 145 = .ok (.iload 11, 2) := by decide +kernel
theorem dL_isSo_147 : decode cL_isSo 147 = .ok (.goto 5, 3) := by decide +kernel
theorem dL_isSo_150 : decode cL_isSo 150 = .ok (.iload 8, 2) := by decide +kernel
theorem dL_isSo_152 : decode cL_isSo 152 = .ok (.istore 8, 2) := by decide +kernel
theorem dL_isSo_154 : decode cL_isSo 154 = .ok (.iload 14, 2) := by decide +kernel
theorem dL_isSo_156 : decode cL_isSo 156 = .ok (.ifCond .eq 8, 3) := by decide +kernel
theorem dL_isSo_159 : decode cL_isSo 159 = .ok (.iload 13, 2) := by decide +kernel
theorem dL_isSo_161 : decode cL_isSo 161 = .ok (.goto 5, 3) := by decide +kernel
theorem dL_isSo_164 : decode cL_isSo 164 = .ok (.iload 9, 2) := by decide +kernel
theorem dL_isSo_166 : decode cL_isSo 166 = .ok (.istore 9, 2) := by decide +kernel
theorem dL_isSo_168 : decode cL_isSo 168 = .ok (.iinc 11 1, 3) := by decide +kernel
theorem dL_isSo_171 : decode cL_isSo 171 = .ok (.goto (-150), 3) := by decide +kernel
theorem dL_isSo_174 : decode cL_isSo 174 = .ok (.aload_n 2, 1) := by decide +kernel
theorem dL_isSo_175 : decode cL_isSo 175 = .ok (.bipush 12, 2) := by decide +kernel
theorem dL_isSo_177 : decode cL_isSo 177 = .ok (.iaload, 1) := by decide +kernel
theorem dL_isSo_178 : decode cL_isSo 178 = .ok (.iconst 1, 1) := by decide +kernel
theorem dL_isSo_179 : decode cL_isSo 179 = .ok (.isub, 1) := by decide +kernel
theorem dL_isSo_180 : decode cL_isSo 180 = .ok (.istore 11, 2) := by decide +kernel
theorem dL_isSo_182 : decode cL_isSo 182 = .ok (.iload 11, 2) := by decide +kernel
theorem dL_isSo_184 : decode cL_isSo 184 = .ok (.ifCond .lt 75, 3) := by decide +kernel
theorem dL_isSo_187 : decode cL_isSo 187 = .ok (.aload_n 3, 1) := by decide +kernel
theorem dL_isSo_188 : decode cL_isSo 188 = .ok (.iload 11, 2) := by decide +kernel
theorem dL_isSo_190 : decode cL_isSo 190 = .ok (.iaload, 1) := by decide +kernel
theorem dL_isSo_191 : decode cL_isSo 191 = .ok (.sipush 9000, 3) := by decide +kernel
theorem dL_isSo_194 : decode cL_isSo 194 = .ok (.if_icmp .ge 20, 3) := by decide +kernel
theorem dL_isSo_197 : decode cL_isSo 197 = .ok (.iload 11, 2) := by decide +kernel
theorem dL_isSo_199 : decode cL_isSo 199 = .ok (.aload_n 2, 1) := by decide +kernel
theorem dL_isSo_200 : decode cL_isSo 200 = .ok (.aload_n 3, 1) := by decide +kernel
theorem dL_isSo_201 : decode cL_isSo 201 = .ok (.invokestatic 20, 3) := by decide +kernel
theorem dL_isSo_204 : decode cL_isSo 204 = .ok (.aload_n 2, 1) := by decide +kernel
theorem dL_isSo_205 : decode cL_isSo 205 = .ok (.iconst 3, 1) := by decide +kernel
theorem dL_isSo_206 : decode cL_isSo 206 = .ok (.iaload, 1) := by decide +kernel
theorem dL_isSo_207 : decode cL_isSo 207 = .ok (.if_icmp .lt 7, 3) := by decide +kernel
theorem dL_isSo_210 : decode cL_isSo 210 = .ok (.iconst 1, 1) := by decide +kernel
theorem dL_isSo_211 : decode cL_isSo 211 = .ok (.goto 4, 3) := by decide +kernel
theorem dL_isSo_214 : decode cL_isSo 214 = .ok (.iconst 0, 1) := by decide +kernel
theorem dL_isSo_215 : decode cL_isSo 215 = .ok (.istore 12, 2) := by decide +kernel
theorem dL_isSo_217 : decode cL_isSo 217 = .ok (.iload 12, 2) := by decide +kernel
theorem dL_isSo_219 : decode cL_isSo 219 = .ok (.ifCond .eq 30, 3) := by decide +kernel
theorem dL_isSo_222 : decode cL_isSo 222 = .ok (.iload 10, 2) := by decide +kernel
theorem dL_isSo_224 : decode cL_isSo 224 = .ok (.ifCond .lt 20, 3) := by decide +kernel
theorem dL_isSo_227 : decode cL_isSo 227 = .ok (.iload 11, 2) := by decide +kernel
theorem dL_isSo_229 : decode cL_isSo 229 = .ok (.aload_n 2, 1) := by decide +kernel
theorem dL_isSo_230 : decode cL_isSo 230 = .ok (.aload_n 3, 1) := by decide +kernel
theorem dL_isSo_231 : decode cL_isSo 231 = .ok (.invokestatic 20, 3) := by decide +kernel
theorem dL_isSo_234 : decode cL_isSo 234 = .ok (.iload 10, 2) := by decide +kernel
theorem dL_isSo_236 : decode cL_isSo 236 = .ok (.aload_n 2, 1) := by decide +kernel
theorem dL_isSo_237 : decode cL_isSo 237 = .ok (.aload_n 3, 1) := by decide +kernel
theorem dL_isSo_238 : decode cL_isSo 238 = .ok (.invokestatic 20, 3) := by decide +kernel
theorem dL_isSo_241 : decode cL_isSo 241 = .ok (.if_icmp .lt 8, 3) := by decide +kernel
theorem dL_isSo_244 : decode cL_isSo 244 = .ok (.iload 11, 2) := by decide +kernel
theorem dL_isSo_246 : decode cL_isSo 246 = .ok (.goto 5, 3) := by decide +kernel
theorem dL_isSo_249 : decode cL_isSo 249 = .ok (.iload 10, 2) := by decide +kernel
theorem dL_isSo_251 : decode cL_isSo 251 = .ok (.istore 10, 2) := by decide +kernel
theorem dL_isSo_253 : decode cL_isSo 253 = .ok (.iinc 11 (-1), 3) := by decide +kernel
theorem dL_isSo_256 : decode cL_isSo 256 = .ok (.goto (-74), 3) := by decide +kernel
theorem dL_isSo_259 : decode cL_isSo 259 = .ok (.iconst (-1), 1) := by decide +kernel
theorem dL_isSo_260 : decode cL_isSo 260 = .ok (.aload 4, 2) := by decide +kernel
theorem dL_isSo_262 : decode cL_isSo 262 = .ok (.invokestatic 34, 3) := by decide +kernel
theorem dL_isSo_265 : decode cL_isSo 265 = .ok (.istore 11, 2) := by decide +kernel
theorem dL_isSo_267 : decode cL_isSo 267 = .ok (.aload_n 0, 1) := by decide +kernel
theorem dL_isSo_268 : decode cL_isSo 268 = .ok (.iconst 0, 1) := by decide +kernel
theorem dL_isSo_269 : decode cL_isSo 269 = .ok (.invokevirtual 104, 3) := by decide +kernel
theorem dL_isSo_272 : decode cL_isSo 272 = .ok (.aload_n 2, 1) := by decide +kernel
theorem dL_isSo_273 : decode cL_isSo 273 = .ok (.iconst 4, 1) := by decide +kernel
theorem dL_isSo_274 : decode cL_isSo 274 = .ok (.iaload, 1) := by decide +kernel
theorem dL_isSo_275 : decode cL_isSo 275 = .ok (.sipush 5400, 3) := by decide +kernel
theorem dL_isSo_278 : decode cL_isSo 278 = .ok (.iadd, 1) := by decide +kernel
theorem dL_isSo_279 : decode cL_isSo 279 = .ok (.if_icmp .ne 158, 3) := by decide +kernel
theorem dL_isSo_282 : decode cL_isSo 282 = .ok (.aload_n 0, 1) := by decide +kernel
theorem dL_isSo_283 : decode cL_isSo 283 = .ok (.iconst 1, 1) := by decide +kernel
theorem dL_isSo_284 : decode cL_isSo 284 = .ok (.invokevirtual 104, 3) := by decide +kernel
theorem dL_isSo_287 : decode cL_isSo 287 = .ok (.aload_n 2, 1) := by decide +kernel
theorem dL_isSo_288 : decode cL_isSo 288 = .ok (.iconst 5, 1) := by decide +kernel
theorem dL_isSo_289 : decode cL_isSo 289 = .ok (.iaload, 1) := by decide +kernel
theorem dL_isSo_290 : decode cL_isSo 290 = .ok (.sipush 9999, 3) := by decide +kernel
theorem dL_isSo_293 : decode cL_isSo 293 = .ok (.if_icmp .ne 8, 3) := by decide +kernel
theorem dL_isSo_296 : decode cL_isSo 296 = .ok (.bipush (-6), 2) := by decide +kernel
theorem dL_isSo_298 : decode cL_isSo 298 = .ok (.goto 10, 3) := by decide +kernel
theorem dL_isSo_301 : decode cL_isSo 301 = .ok (.aload_n 2, 1) := by decide +kernel
theorem dL_isSo_302 : decode cL_isSo 302 = .ok (.iconst 5, 1) := by decide +kernel
theorem dL_isSo_303 : decode cL_isSo 303 = .ok (.iaload, 1) := by decide +kernel
theorem dL_isSo_304 : decode cL_isSo 304 = .ok (.sipush 5400, 3) := by decide +kernel
theorem dL_isSo_307 : decode cL_isSo 307 = .ok (.iadd, 1) := by decide +kernel
theorem dL_isSo_308 : decode cL_isSo 308 = .ok (.if_icmp .ne 129, 3) := by decide +kernel
theorem dL_isSo_311 : decode cL_isSo 311 = .ok (.aload_n 0, 1) := by decide +kernel
theorem dL_isSo_312 : decode cL_isSo 312 = .ok (.iconst 2, 1) := by decide +kernel
theorem dL_isSo_313 : decode cL_isSo 313 = .ok (.invokevirtual 104, 3) := by decide +kernel
theorem dL_isSo_316 : decode cL_isSo 316 = .ok (.aload_n 2, 1) := by decide +kernel
theorem dL_isSo_317 : decode cL_isSo 317 = .ok (.bipush 6, 2) := by decide +kernel
theorem dL_isSo_319 : decode cL_isSo 319 = .ok (.iaload, 1) := by decide +kernel
theorem dL_isSo_320 : decode cL_isSo 320 = .ok (.sipush 5400, 3) := by decide +kernel
theorem dL_isSo_323 : decode cL_isSo 323 = .ok (.iadd, 1) := by decide +kernel
theorem dL_isSo_324 : decode cL_isSo 324 = .ok (.if_icmp .ne 113, 3) := by decide +kernel
theorem dL_isSo_327 : decode cL_isSo 327 = .ok (.aload_n 0, 1) := by decide +kernel
theorem dL_isSo_328 : decode cL_isSo 328 = .ok (.bipush 8, 2) := by decide +kernel
theorem dL_isSo_330 : decode cL_isSo 330 = .ok (.invokevirtual 104, 3) := by decide +kernel
theorem dL_isSo_333 : decode cL_isSo 333 = .ok (.iload 6, 2) := by decide +kernel
theorem dL_isSo_335 : decode cL_isSo 335 = .ok (.if_icmp .ne 102, 3) := by decide +kernel
theorem dL_isSo_338 : decode cL_isSo 338 = .ok (.aload_n 0, 1) := by decide +kernel
theorem dL_isSo_339 : decode cL_isSo 339 = .ok (.bipush 9, 2) := by decide +kernel
theorem dL_isSo_341 : decode cL_isSo 341 = .ok (.invokevirtual 104, 3) := by decide +kernel
theorem dL_isSo_344 : decode cL_isSo 344 = .ok (.iload 7, 2) := by decide +kernel
theorem dL_isSo_346 : decode cL_isSo 346 = .ok (.if_icmp .ne 91, 3) := by decide +kernel
theorem dL_isSo_349 : decode cL_isSo 349 = .ok (.aload_n 0, 1) := by decide +kernel
theorem dL_isSo_350 : decode cL_isSo 350 = .ok (.bipush 10, 2) := by decide +kernel
theorem dL_isSo_352 : decode cL_isSo 352 = .ok (.invokevirtual 104, 3) := by decide +kernel
theorem dL_isSo_355 : decode cL_isSo 355 = .ok (.aload_n 2, 1) := by decide +kernel
theorem dL_isSo_356 : decode cL_isSo 356 = .ok (.iconst 5, 1) := by decide +kernel
theorem dL_isSo_357 : decode cL_isSo 357 = .ok (.iaload, 1) := by decide +kernel
theorem dL_isSo_358 : decode cL_isSo 358 = .ok (.sipush 9999, 3) := by decide +kernel
theorem dL_isSo_361 : decode cL_isSo 361 = .ok (.if_icmp .ne 8, 3) := by decide +kernel
theorem dL_isSo_364 : decode cL_isSo 364 = .ok (.bipush (-6), 2) := by decide +kernel
theorem dL_isSo_366 : decode cL_isSo 366 = .ok (.goto 13, 3) := by decide +kernel
theorem dL_isSo_369 : decode cL_isSo 369 = .ok (.aload_n 2, 1) := by decide +kernel
theorem dL_isSo_370 : decode cL_isSo 370 = .ok (.iconst 5, 1) := by decide +kernel
theorem dL_isSo_371 : decode cL_isSo 371 = .ok (.iaload, 1) := by decide +kernel
theorem dL_isSo_372 : decode cL_isSo 372 = .ok (.aload_n 2, 1) := by decide +kernel
theorem dL_isSo_373 : decode cL_isSo 373 = .ok (.iconst 4, 1) := by decide +kernel
theorem dL_isSo_374 : decode cL_isSo 374 = .ok (.iaload, 1) := by decide +kernel
theorem dL_isSo_375 : decode cL_isSo 375 = .ok (.isub, 1) := by decide +kernel
theorem dL_isSo_376 : decode cL_isSo 376 = .ok (.invokestatic 16, 3) := by decide +kernel
theorem dL_isSo_379 : decode cL_isSo 379 = .ok (.if_icmp .ne 58, 3) := by decide +kernel
theorem dL_isSo_382 : decode cL_isSo 382 = .ok (.aload_n 0, 1) := by decide +kernel
theorem dL_isSo_383 : decode cL_isSo 383 = .ok (.bipush 11, 2) := by decide +kernel
theorem dL_isSo_385 : decode cL_isSo 385 = .ok (.invokevirtual 104, 3) := by decide +kernel
theorem dL_isSo_388 : decode cL_isSo 388 = .ok (.aload_n 2, 1) := by decide +kernel
theorem dL_isSo_389 : decode cL_isSo 389 = .ok (.iconst 0, 1) := by decide +kernel
theorem dL_isSo_390 : decode cL_isSo 390 = .ok (.iaload, 1) := by decide +kernel
theorem dL_isSo_391 : decode cL_isSo 391 = .ok (.bipush 30, 2) := by decide +kernel
theorem dL_isSo_393 : decode cL_isSo 393 = .ok (.iadd, 1) := by decide +kernel
theorem dL_isSo_394 : decode cL_isSo 394 = .ok (.if_icmp .ne 43, 3) := by decide +kernel
theorem dL_isSo_397 : decode cL_isSo 397 = .ok (.aload_n 0, 1) := by decide +kernel
theorem dL_isSo_398 : decode cL_isSo 398 = .ok (.bipush 12, 2) := by decide +kernel
theorem dL_isSo_400 : decode cL_isSo 400 = .ok (.invokevirtual 104, 3) := by decide +kernel
theorem dL_isSo_403 : decode cL_isSo 403 = .ok (.aload_n 2, 1) := by decide +kernel
theorem dL_isSo_404 : decode cL_isSo 404 = .ok (.iconst 1, 1) := by decide +kernel
theorem dL_isSo_405 : decode cL_isSo 405 = .ok (.iaload, 1) := by decide +kernel
theorem dL_isSo_406 : decode cL_isSo 406 = .ok (.if_icmp .ne 31, 3) := by decide +kernel
theorem dL_isSo_409 : decode cL_isSo 409 = .ok (.aload_n 0, 1) := by decide +kernel
theorem dL_isSo_410 : decode cL_isSo 410 = .ok (.bipush 13, 2) := by decide +kernel
theorem dL_isSo_412 : decode cL_isSo 412 = .ok (.invokevirtual 104, 3) := by decide +kernel
theorem dL_isSo_415 : decode cL_isSo 415 = .ok (.aload_n 2, 1) := by decide +kernel
theorem dL_isSo_416 : decode cL_isSo 416 = .ok (.iconst 2, 1) := by decide +kernel
theorem dL_isSo_417 : decode cL_isSo 417 = .ok (.iaload, 1) := by decide +kernel
theorem dL_isSo_418 : decode cL_isSo 418 = .ok (.if_icmp .ne 19, 3) := by decide +kernel
theorem dL_isSo_421 : decode cL_isSo 421 = .ok (.aload_n 0, 1) := by decide +kernel
theorem dL_isSo_422 : decode cL_isSo 422 = .ok (.bipush 14, 2) := by decide +kernel
theorem dL_isSo_424 : decode cL_isSo 424 = .ok (.invokevirtual 104, 3) := by decide +kernel
theorem dL_isSo_427 : decode cL_isSo 427 = .ok (.aload_n 2, 1) := by decide +kernel
theorem dL_isSo_428 : decode cL_isSo 428 = .ok (.iconst 3, 1) := by decide +kernel
theorem dL_isSo_429 : decode cL_isSo 429 = .ok (.iaload, 1) := by decide +kernel
theorem dL_isSo_430 : decode cL_isSo 430 = .ok (.if_icmp .ne 7, 3) := by decide +kernel
theorem dL_isSo_433 : decode cL_isSo 433 = .ok (.iconst 1, 1) := by decide +kernel
theorem dL_isSo_434 : decode cL_isSo 434 = .ok (.goto 4, 3) := by decide +kernel
theorem dL_isSo_437 : decode cL_isSo 437 = .ok (.iconst 0, 1) := by decide +kernel
theorem dL_isSo_438 : decode cL_isSo 438 = .ok (.istore 12, 2) := by decide +kernel
theorem dL_isSo_440 : decode cL_isSo 440 = .ok (.iconst 0, 1) := by decide +kernel
theorem dL_isSo_441 : decode cL_isSo 441 = .ok (.istore 13, 2) := by decide +kernel
theorem dL_isSo_443 : decode cL_isSo 443 = .ok (.iload 13, 2) := by decide +kernel
theorem dL_isSo_445 : decode cL_isSo 445 = .ok (.iconst 5, 1) := by decide +kernel
theorem dL_isSo_446 : decode cL_isSo 446 = .ok (.if_icmp .ge 39, 3) := by decide +kernel
theorem dL_isSo_449 : decode cL_isSo 449 = .ok (.iload 12, 2) := by decide +kernel
theorem dL_isSo_451 : decode cL_isSo 451 = .ok (.ifCond .eq 25, 3) := by decide +kernel
theorem dL_isSo_454 : decode cL_isSo 454 = .ok (.aload_n 0, 1) := by decide +kernel
theorem dL_isSo_455 : decode cL_isSo 455 = .ok (.iconst 3, 1) := by decide +kernel
theorem dL_isSo_456 : decode cL_isSo 456 = .ok (.iload 13, 2) := by decide +kernel
theorem dL_isSo_458 : decode cL_isSo 458 = .ok (.iadd, 1) := by decide +kernel
theorem dL_isSo_459 : decode cL_isSo 459 = .ok (.invokevirtual 104, 3) := by decide +kernel
theorem dL_isSo_462 : decode cL_isSo 462 = .ok (.aload_n 2, 1) := by decide +kernel
theorem dL_isSo_463 : decode cL_isSo 463 = .ok (.bipush 7, 2) := by decide +kernel
theorem dL_isSo_465 : decode cL_isSo 465 = .ok (.iload 13, 2) := by decide +kernel
theorem dL_isSo_467 : decode cL_isSo 467 = .ok (.iadd, 1) := by decide +kernel
theorem dL_isSo_468 : decode cL_isSo 468 = .ok (.iaload, 1) := by decide +kernel
theorem dL_isSo_469 : decode cL_isSo 469 = .ok (.if_icmp .ne 7, 3) := by decide +kernel
theorem dL_isSo_472 : decode cL_isSo 472 = .ok (.iconst 1, 1) := by decide +kernel
theorem dL_isSo_473 : decode cL_isSo 473 = .ok (.goto 4, 3) := by decide +kernel
theorem dL_isSo_476 : decode cL_isSo 476 = .ok (.iconst 0, 1) := by decide +kernel
theorem dL_isSo_477 : decode cL_isSo 477 = .ok (.istore 12, 2) := by decide +kernel
theorem dL_isSo_479 : decode cL_isSo 479 = .ok (.iinc 13 1, 3) := by decide +kernel
theorem dL_isSo_482 : decode cL_isSo 482 = .ok (.goto (-39), 3) := by decide +kernel
theorem dL_isSo_485 : decode cL_isSo 485 = .ok (.iload_n 1, 1) := by decide +kernel
theorem dL_isSo_486 : decode cL_isSo 486 = .ok (.bipush 9, 2) := by decide +kernel
theorem dL_isSo_488 : decode cL_isSo 488 = .ok (.invokestatic 107, 3) := by decide +kernel
theorem dL_isSo_491 : decode cL_isSo 491 = .ok (.istore 13, 2) := by decide +kernel
theorem dL_isSo_493 : decode cL_isSo 493 = .ok (.iload_n 1, 1) := by decide +kernel
theorem dL_isSo_494 : decode cL_isSo 494 = .ok (.iconst 4, 1) := by decide +kernel
theorem dL_isSo_495 : decode cL_isSo 495 = .ok (.ishr, 1) := by decide +kernel
theorem dL_isSo_496 : decode cL_isSo 496 = .ok (.iconst 4, 1) := by decide +kernel
theorem dL_isSo_497 : decode cL_isSo 497 = .ok (.invokestatic 107, 3) := by decide +kernel
theorem dL_isSo_500 : decode cL_isSo 500 = .ok (.istore 14, 2) := by decide +kernel
theorem dL_isSo_502 : decode cL_isSo 502 = .ok (.iload 12, 2) := by decide +kernel
theorem dL_isSo_504 : decode cL_isSo 504 = .ok (.ifCond .eq 98, 3) := by decide +kernel
theorem dL_isSo_507 : decode cL_isSo 507 = .ok (.aload_n 0, 1) := by decide +kernel
theorem dL_isSo_508 : decode cL_isSo 508 = .ok (.iload 13, 2) := by decide +kernel
theorem dL_isSo_510 : decode cL_isSo 510 = .ok (.iload 14, 2) := by decide +kernel
theorem dL_isSo_512 : decode cL_isSo 512 = .ok (.invokevirtual 110, 3) := by decide +kernel
theorem dL_isSo_515 : decode cL_isSo 515 = .ok (.iload 13, 2) := by decide +kernel
theorem dL_isSo_517 : decode cL_isSo 517 = .ok (.aload_n 2, 1) := by decide +kernel
theorem dL_isSo_518 : decode cL_isSo 518 = .ok (.bipush 13, 2) := by decide +kernel
theorem dL_isSo_520 : decode cL_isSo 520 = .ok (.iaload, 1) := by decide +kernel
theorem dL_isSo_521 : decode cL_isSo 521 = .ok (.if_icmp .ge 16, 3) := by decide +kernel
theorem dL_isSo_524 : decode cL_isSo 524 = .ok (.aload 5, 2) := by decide +kernel
theorem dL_isSo_526 : decode cL_isSo 526 = .ok (.iconst 4, 1) := by decide +kernel
theorem dL_isSo_527 : decode cL_isSo 527 = .ok (.iload 13, 2) := by decide +kernel
theorem dL_isSo_529 : decode cL_isSo 529 = .ok (.imul, 1) := by decide +kernel
theorem dL_isSo_530 : decode cL_isSo 530 = .ok (.iload 14, 2) := by decide +kernel
theorem dL_isSo_532 : decode cL_isSo 532 = .ok (.iadd, 1) := by decide +kernel
theorem dL_isSo_533 : decode cL_isSo 533 = .ok (.iaload, 1) := by decide +kernel
theorem dL_isSo_534 : decode cL_isSo 534 = .ok (.goto 4, 3) := by decide +kernel
theorem dL_isSo_537 : decode cL_isSo 537 = .ok (.iconst (-1), 1) := by decide +kernel
theorem dL_isSo_538 : decode cL_isSo 538 = .ok (.if_icmp .ne 64, 3) := by decide +kernel
theorem dL_isSo_541 : decode cL_isSo 541 = .ok (.aload_n 0, 1) := by decide +kernel
theorem dL_isSo_542 : decode cL_isSo 542 = .ok (.iconst 0, 1) := by decide +kernel
theorem dL_isSo_543 : decode cL_isSo 543 = .ok (.invokevirtual 113, 3) := by decide +kernel
theorem dL_isSo_546 : decode cL_isSo 546 = .ok (.iload 8, 2) := by decide +kernel
theorem dL_isSo_548 : decode cL_isSo 548 = .ok (.if_icmp .ne 54, 3) := by decide +kernel
theorem dL_isSo_551 : decode cL_isSo 551 = .ok (.aload_n 0, 1) := by decide +kernel
theorem dL_isSo_552 : decode cL_isSo 552 = .ok (.iconst 1, 1) := by decide +kernel
theorem dL_isSo_553 : decode cL_isSo 553 = .ok (.invokevirtual 113, 3) := by decide +kernel
theorem dL_isSo_556 : decode cL_isSo 556 = .ok (.iload 9, 2) := by decide +kernel
theorem dL_isSo_558 : decode cL_isSo 558 = .ok (.if_icmp .ne 44, 3) := by decide +kernel
theorem dL_isSo_561 : decode cL_isSo 561 = .ok (.aload_n 0, 1) := by decide +kernel
theorem dL_isSo_562 : decode cL_isSo 562 = .ok (.invokevirtual 116, 3) := by decide +kernel
theorem dL_isSo_565 : decode cL_isSo 565 = .ok (.iload 10, 2) := by decide +kernel
theorem dL_isSo_567 : decode cL_isSo 567 = .ok (.if_icmp .ne 35, 3) := by decide +kernel
theorem dL_isSo_570 : decode cL_isSo 570 = .ok (.aload_n 0, 1) := by decide +kernel
theorem dL_isSo_571 : decode cL_isSo 571 = .ok (.bipush (-6), 2) := by decide +kernel
theorem dL_isSo_573 : decode cL_isSo 573 = .ok (.invokevirtual 94, 3) := by decide +kernel
theorem dL_isSo_576 : decode cL_isSo 576 = .ok (.iload 11, 2) := by decide +kernel
theorem dL_isSo_578 : decode cL_isSo 578 = .ok (.sipush 9999, 3) := by decide +kernel
theorem dL_isSo_581 : decode cL_isSo 581 = .ok (.if_icmp .ne 8, 3) := by decide +kernel
theorem dL_isSo_584 : decode cL_isSo 584 = .ok (.bipush (-5), 2) := by decide +kernel
theorem dL_isSo_586 : decode cL_isSo 586 = .ok (.goto 9, 3) := by decide +kernel
theorem dL_isSo_589 : decode cL_isSo 589 = .ok (.iload 11, 2) := by decide +kernel
theorem dL_isSo_591 : decode cL_isSo 591 = .ok (.sipush 5400, 3) := by decide +kernel
theorem dL_isSo_594 : decode cL_isSo 594 = .ok (.iadd, 1) := by decide +kernel
theorem dL_isSo_595 : decode cL_isSo 595 = .ok (.if_icmp .ne 7, 3) := by decide +kernel
theorem dL_isSo_598 : decode cL_isSo 598 = .ok (.iconst 1, 1) := by decide +kernel
theorem dL_isSo_599 : decode cL_isSo 599 = .ok (.goto 4, 3) := by decide +kernel
theorem dL_isSo_602 : decode cL_isSo 602 = .ok (.iconst 0, 1) := by decide +kernel
theorem dL_isSo_603 : decode cL_isSo 603 = .ok (.istore 12, 2) := by decide +kernel
theorem dL_isSo_605 : decode cL_isSo 605 = .ok (.iload 12, 2) := by decide +kernel
theorem dL_isSo_607 : decode cL_isSo 607 = .ok (.ifCond .eq 36, 3) := by decide +kernel
theorem dL_isSo_610 : decode cL_isSo 610 = .ok (.aload_n 0, 1) := by decide +kernel
theorem dL_isSo_611 : decode cL_isSo 611 = .ok (.iload_n 1, 1) := by decide +kernel
theorem dL_isSo_612 : decode cL_isSo 612 = .ok (.bipush 6, 2) := by decide +kernel
theorem dL_isSo_614 : decode cL_isSo 614 = .ok (.ishr, 1) := by decide +kernel
theorem dL_isSo_615 : decode cL_isSo 615 = .ok (.bipush 7, 2) := by decide +kernel
theorem dL_isSo_617 : decode cL_isSo 617 = .ok (.invokestatic 107, 3) := by decide +kernel
theorem dL_isSo_620 : decode cL_isSo 620 = .ok (.iload_n 1, 1) := by decide +kernel
theorem dL_isSo_621 : decode cL_isSo 621 = .ok (.bipush 9, 2) := by decide +kernel
theorem dL_isSo_623 : decode cL_isSo 623 = .ok (.ishr, 1) := by decide +kernel
theorem dL_isSo_624 : decode cL_isSo 624 = .ok (.bipush 9, 2) := by decide +kernel
theorem dL_isSo_626 : decode cL_isSo 626 = .ok (.invokestatic 107, 3) := by decide +kernel
theorem dL_isSo_629 : decode cL_isSo 629 = .ok (.aload_n 2, 1) := by decide +kernel
theorem dL_isSo_630 : decode cL_isSo 630 = .ok (.aload_n 3, 1) := by decide +kernel
theorem dL_isSo_631 : decode cL_isSo 631 = .ok (.aload 4, 2) := by decide +kernel
theorem dL_isSo_633 : decode cL_isSo 633 = .ok (.invokestatic 119, 3) := by decide +kernel
theorem dL_isSo_636 : decode cL_isSo 636 = .ok (.ifCond .eq 7, 3) := by decide +kernel
theorem dL_isSo_639 : decode cL_isSo 639 = .ok (.iconst 1, 1) := by decide +kernel
theorem dL_isSo_640 : decode cL_isSo 640 = .ok (.goto 4, 3) := by decide +kernel
theorem dL_isSo_643 : decode cL_isSo 643 = .ok (.iconst 0, 1) := by decide +kernel
theorem dL_isSo_644 : decode cL_isSo 644 = .ok (.ireturn, 1) := by decide +kernel
theorem dL_told_0 : decode cL_told 0 = .ok (.ldc2_w 123, 3) := by decide +kernel
theorem dL_told_3 : decode cL_told 3 = .ok (.lstore_n 1, 1) := by decide +kernel
theorem dL_told_4 : decode cL_told 4 = .ok (.iconst 0, 1) := by decide +kernel
theorem dL_told_5 : decode cL_told 5 = .ok (.istore_n 3, 1) := by decide +kernel
theorem dL_told_6 : decode cL_told 6 = .ok (.iload_n 3, 1) := by decide +kernel
theorem dL_told_7 : decode cL_told 7 = .ok (.bipush 15, 2) := by decide +kernel
theorem dL_told_9 : decode cL_told 9 = .ok (.if_icmp .ge 22, 3) := by decide +kernel
theorem dL_told_12 : decode cL_told 12 = .ok (.ldc2_w 125, 3) := by decide +kernel
theorem dL_told_15 : decode cL_told 15 = .ok (.lload_n 1, 1) := by decide +kernel
theorem dL_told_16 : decode cL_told 16 = .ok (.lmul, 1) := by decide +kernel
theorem dL_told_17 : decode cL_told 17 = .ok (.aload_n 0, 1) := by decide +kernel
theorem dL_told_18 : decode cL_told 18 = .ok (.iload_n 3, 1) := by decide +kernel
theorem dL_told_19 : decode cL_told 19 = .ok (.invokevirtual 104, 3) := by decide +kernel
theorem dL_told_22 : decode cL_told 22 = .ok (.i2l, 1) := by decide +kernel
theorem dL_told_23 : decode cL_told 23 = .ok (.ladd, 1) := by decide +kernel
theorem dL_told_24 : decode cL_told 24 = .ok (.lstore_n 1, 1) := by decide +kernel
theorem dL_told_25 : decode cL_told 25 = .ok (.iinc 3 1, 3) := by decide +kernel
theorem dL_told_28 : decode cL_told 28 = .ok (.goto (-22), 3) := by decide +kernel
theorem dL_told_31 : decode cL_told 31 = .ok (.iconst 0, 1) := by decide +kernel
theorem dL_told_32 : decode cL_told 32 = .ok (.istore_n 3, 1) := by decide +kernel
theorem dL_told_33 : decode cL_told 33 = .ok (.iload_n 3, 1) := by decide +kernel
theorem dL_told_34 : decode cL_told 34 = .ok (.bipush 56, 2) := by decide +kernel
theorem dL_told_36 : decode cL_told 36 = .ok (.if_icmp .ge 46, 3) := by decide +kernel
theorem dL_told_39 : decode cL_told 39 = .ok (.ldc2_w 125, 3) := by decide +kernel
theorem dL_told_42 : decode cL_told 42 = .ok (.ldc2_w 125, 3) := by decide +kernel
theorem dL_told_45 : decode cL_told 45 = .ok (.lload_n 1, 1) := by decide +kernel
theorem dL_told_46 : decode cL_told 46 = .ok (.lmul, 1) := by decide +kernel
theorem dL_told_47 : decode cL_told 47 = .ok (.aload_n 0, 1) := by decide +kernel
theorem dL_told_48 : decode cL_told 48 = .ok (.iload_n 3, 1) := by decide +kernel
theorem dL_told_49 : decode cL_told 49 = .ok (.bipush 8, 2) := by decide +kernel
theorem dL_told_51 : decode cL_told 51 = .ok (.idiv, 1) := by decide +kernel
theorem dL_told_52 : decode cL_told 52 = .ok (.iload_n 3, 1) := by decide +kernel
theorem dL_told_53 : decode cL_told 53 = .ok (.bipush 8, 2) := by decide +kernel
theorem dL_told_55 : decode cL_told 55 = .ok (.irem, 1) := by decide +kernel
theorem dL_told_56 : decode cL_told 56 = .ok (.invokevirtual 91, 3) := by decide +kernel
theorem dL_told_59 : decode cL_told 59 = .ok (.i2l, 1) := by decide +kernel
theorem dL_told_60 : decode cL_told 60 = .ok (.ladd, 1) := by decide +kernel
theorem dL_told_61 : decode cL_told 61 = .ok (.lmul, 1) := by decide +kernel
theorem dL_told_62 : decode cL_told 62 = .ok (.aload_n 0, 1) := by decide +kernel
theorem dL_told_63 : decode cL_told 63 = .ok (.iload_n 3, 1) := by decide +kernel
theorem dL_told_64 : decode cL_told 64 = .ok (.bipush 8, 2) := by decide +kernel
theorem dL_told_66 : decode cL_told 66 = .ok (.idiv, 1) := by decide +kernel
theorem dL_told_67 : decode cL_told 67 = .ok (.iload_n 3, 1) := by decide +kernel
theorem dL_told_68 : decode cL_told 68 = .ok (.iconst 4, 1) := by decide +kernel
theorem dL_told_69 : decode cL_told 69 = .ok (.irem, 1) := by decide +kernel
theorem dL_told_70 : decode cL_told 70 = .ok (.invokevirtual 101, 3) := by decide +kernel
theorem dL_told_73 : decode cL_told 73 = .ok (.i2l, 1) := by decide +kernel
theorem dL_told_74 : decode cL_told 74 = .ok (.ladd, 1) := by decide +kernel
theorem dL_told_75 : decode cL_told 75 = .ok (.lstore_n 1, 1) := by decide +kernel
theorem dL_told_76 : decode cL_told 76 = .ok (.iinc 3 1, 3) := by decide +kernel
theorem dL_told_79 : decode cL_told 79 = .ok (.goto (-46), 3) := by decide +kernel
theorem dL_told_82 : decode cL_told 82 = .ok (.iconst 0, 1) := by decide +kernel
theorem dL_told_83 : decode cL_told 83 = .ok (.istore_n 3, 1) := by decide +kernel
theorem dL_told_84 : decode cL_told 84 = .ok (.iload_n 3, 1) := by decide +kernel
theorem dL_told_85 : decode cL_told 85 = .ok (.bipush 32, 2) := by decide +kernel
theorem dL_told_87 : decode cL_told 87 = .ok (.if_icmp .ge 27, 3) := by decide +kernel
theorem dL_told_90 : decode cL_told 90 = .ok (.ldc2_w 125, 3) := by decide +kernel
theorem dL_told_93 : decode cL_told 93 = .ok (.lload_n 1, 1) := by decide +kernel
theorem dL_told_94 : decode cL_told 94 = .ok (.lmul, 1) := by decide +kernel
theorem dL_told_95 : decode cL_told 95 = .ok (.aload_n 0, 1) := by decide +kernel
theorem dL_told_96 : decode cL_told 96 = .ok (.iload_n 3, 1) := by decide +kernel
theorem dL_told_97 : decode cL_told 97 = .ok (.iconst 4, 1) := by decide +kernel
theorem dL_told_98 : decode cL_told 98 = .ok (.idiv, 1) := by decide +kernel
theorem dL_told_99 : decode cL_told 99 = .ok (.iload_n 3, 1) := by decide +kernel
theorem dL_told_100 : decode cL_told 100 = .ok (.iconst 4, 1) := by decide +kernel
theorem dL_told_101 : decode cL_told 101 = .ok (.irem, 1) := by decide +kernel
theorem dL_told_102 : decode cL_told 102 = .ok (.invokevirtual 110, 3) := by decide +kernel
theorem dL_told_105 : decode cL_told 105 = .ok (.i2l, 1) := by decide +kernel
theorem dL_told_106 : decode cL_told 106 = .ok (.ladd, 1) := by decide +kernel
theorem dL_told_107 : decode cL_told 107 = .ok (.lstore_n 1, 1) := by decide +kernel
theorem dL_told_108 : decode cL_told 108 = .ok (.iinc 3 1, 3) := by decide +kernel
theorem dL_told_111 : decode cL_told 111 = .ok (.goto (-27), 3) := by decide +kernel
theorem dL_told_114 : decode cL_told 114 = .ok (.lload_n 1, 1) := by decide +kernel
theorem dL_told_115 : decode cL_told 115 = .ok (.lreturn, 1) := by decide +kernel
theorem dL_law_0 : decode cL_law 0 = .ok (.new 38, 3) := by decide +kernel
theorem dL_law_3 : decode cL_law 3 = .ok (.dup, 1) := by decide +kernel
theorem dL_law_4 : decode cL_law 4 = .ok (.invokespecial 127, 3) := by decide +kernel
theorem dL_law_7 : decode cL_law 7 = .ok (.astore_n 1, 1) := by decide +kernel
theorem dL_law_8 : decode cL_law 8 = .ok (.bipush 14, 2) := by decide +kernel
theorem dL_law_10 : decode cL_law 10 = .ok (.newarray .int, 2) := by decide +kernel
theorem dL_law_12 : decode cL_law 12 = .ok (.astore_n 2, 1) := by decide +kernel
theorem dL_law_13 : decode cL_law 13 = .ok (.bipush 9, 2) := by decide +kernel
theorem dL_law_15 : decode cL_law 15 = .ok (.newarray .int, 2) := by decide +kernel
theorem dL_law_17 : decode cL_law 17 = .ok (.astore_n 3, 1) := by decide +kernel
theorem dL_law_18 : decode cL_law 18 = .ok (.bipush 49, 2) := by decide +kernel
theorem dL_law_20 : decode cL_law 20 = .ok (.newarray .int, 2) := by decide +kernel
theorem dL_law_22 : decode cL_law 22 = .ok (.astore 4, 2) := by decide +kernel
theorem dL_law_24 : decode cL_law 24 = .ok (.bipush 32, 2) := by decide +kernel
theorem dL_law_26 : decode cL_law 26 = .ok (.newarray .int, 2) := by decide +kernel
theorem dL_law_28 : decode cL_law 28 = .ok (.astore 5, 2) := by decide +kernel
theorem dL_law_30 : decode cL_law 30 = .ok (.aload_n 2, 1) := by decide +kernel
theorem dL_law_31 : decode cL_law 31 = .ok (.iconst 0, 1) := by decide +kernel
theorem dL_law_32 : decode cL_law 32 = .ok (.iconst 4, 1) := by decide +kernel
theorem dL_law_33 : decode cL_law 33 = .ok (.iastore, 1) := by decide +kernel
theorem dL_law_34 : decode cL_law 34 = .ok (.aload_n 2, 1) := by decide +kernel
theorem dL_law_35 : decode cL_law 35 = .ok (.iconst 1, 1) := by decide +kernel
theorem dL_law_36 : decode cL_law 36 = .ok (.bipush 6, 2) := by decide +kernel
theorem dL_law_38 : decode cL_law 38 = .ok (.iastore, 1) := by decide +kernel
theorem dL_law_39 : decode cL_law 39 = .ok (.aload_n 2, 1) := by decide +kernel
theorem dL_law_40 : decode cL_law 40 = .ok (.iconst 2, 1) := by decide +kernel
theorem dL_law_41 : decode cL_law 41 = .ok (.bipush 60, 2) := by decide +kernel
theorem dL_law_43 : decode cL_law 43 = .ok (.iastore, 1) := by decide +kernel
theorem dL_law_44 : decode cL_law 44 = .ok (.aload_n 2, 1) := by decide +kernel
theorem dL_law_45 : decode cL_law 45 = .ok (.iconst 3, 1) := by decide +kernel
theorem dL_law_46 : decode cL_law 46 = .ok (.sipush 300, 3) := by decide +kernel
theorem dL_law_49 : decode cL_law 49 = .ok (.iastore, 1) := by decide +kernel
theorem dL_law_50 : decode cL_law 50 = .ok (.aload_n 2, 1) := by decide +kernel
theorem dL_law_51 : decode cL_law 51 = .ok (.iconst 5, 1) := by decide +kernel
theorem dL_law_52 : decode cL_law 52 = .ok (.sipush 9999, 3) := by decide +kernel
theorem dL_law_55 : decode cL_law 55 = .ok (.iastore, 1) := by decide +kernel
theorem dL_law_56 : decode cL_law 56 = .ok (.iconst 0, 1) := by decide +kernel
theorem dL_law_57 : decode cL_law 57 = .ok (.istore 6, 2) := by decide +kernel
theorem dL_law_59 : decode cL_law 59 = .ok (.iload 6, 2) := by decide +kernel
theorem dL_law_61 : decode cL_law 61 = .ok (.bipush 7, 2) := by decide +kernel
theorem dL_law_63 : decode cL_law 63 = .ok (.if_icmp .ge 42, 3) := by decide +kernel
theorem dL_law_66 : decode cL_law 66 = .ok (.aload 4, 2) := by decide +kernel
