theorem dX11_findRows_85 : decode cX11_findRows 85 = .ok (.lconst 1, 1) := by decide +kernel
theorem dX11_findRows_86 : decode cX11_findRows 86 = .ok (.lstore 5, 2) := by decide +kernel
theorem dX11_findRows_88 : decode cX11_findRows 88 = .ok (.iconst 0, 1) := by decide +kernel
theorem dX11_findRows_89 : decode cX11_findRows 89 = .ok (.istore 7, 2) := by decide +kernel
theorem dX11_findRows_91 : decode cX11_findRows 91 = .ok (.iload 7, 2) := by decide +kernel
theorem dX11_findRows_93 : decode cX11_findRows 93 = .ok (.iload_n 2, 1) := by decide +kernel
theorem dX11_findRows_94 : decode cX11_findRows 94 = .ok (.if_icmp .ge 45, 3) := by decide +kernel
theorem dX11_findRows_97 : decode cX11_findRows 97 = .ok (.lload_n 3, 1) := by decide +kernel
theorem dX11_findRows_98 : decode cX11_findRows 98 = .ok (.aload_n 0, 1) := by decide +kernel
theorem dX11_findRows_99 : decode cX11_findRows 99 = .ok (.iload_n 1, 1) := by decide +kernel
theorem dX11_findRows_100 : decode cX11_findRows 100 = .ok (.iload 7, 2) := by decide +kernel
theorem dX11_findRows_102 : decode cX11_findRows 102 = .ok (.invokevirtual 90, 3) := by decide +kernel
theorem dX11_findRows_105 : decode cX11_findRows 105 = .ok (.i2l, 1) := by decide +kernel
theorem dX11_findRows_106 : decode cX11_findRows 106 = .ok (.lmul, 1) := by decide +kernel
theorem dX11_findRows_107 : decode cX11_findRows 107 = .ok (.lload 5, 2) := by decide +kernel
theorem dX11_findRows_109 : decode cX11_findRows 109 = .ok (.aload_n 0, 1) := by decide +kernel
theorem dX11_findRows_110 : decode cX11_findRows 110 = .ok (.iload_n 1, 1) := by decide +kernel
theorem dX11_findRows_111 : decode cX11_findRows 111 = .ok (.iload 7, 2) := by decide +kernel
theorem dX11_findRows_113 : decode cX11_findRows 113 = .ok (.invokevirtual 93, 3) := by decide +kernel
theorem dX11_findRows_116 : decode cX11_findRows 116 = .ok (.i2l, 1) := by decide +kernel
theorem dX11_findRows_117 : decode cX11_findRows 117 = .ok (.lmul, 1) := by decide +kernel
theorem dX11_findRows_118 : decode cX11_findRows 118 = .ok (.ladd, 1) := by decide +kernel
theorem dX11_findRows_119 : decode cX11_findRows 119 = .ok (.lstore_n 3, 1) := by decide +kernel
theorem dX11_findRows_120 : decode cX11_findRows 120 = .ok (.lload 5, 2) := by decide +kernel
theorem dX11_findRows_122 : decode cX11_findRows 122 = .ok (.aload_n 0, 1) := by decide +kernel
theorem dX11_findRows_123 : decode cX11_findRows 123 = .ok (.iload_n 1, 1) := by decide +kernel
theorem dX11_findRows_124 : decode cX11_findRows 124 = .ok (.iload 7, 2) := by decide +kernel
theorem dX11_findRows_126 : decode cX11_findRows 126 = .ok (.invokevirtual 90, 3) := by decide +kernel
theorem dX11_findRows_129 : decode cX11_findRows 129 = .ok (.i2l, 1) := by decide +kernel
theorem dX11_findRows_130 : decode cX11_findRows 130 = .ok (.lmul, 1) := by decide +kernel
theorem dX11_findRows_131 : decode cX11_findRows 131 = .ok (.lstore 5, 2) := by decide +kernel
theorem dX11_findRows_133 : decode cX11_findRows 133 = .ok (.iinc 7 1, 3) := by decide +kernel
theorem dX11_findRows_136 : decode cX11_findRows 136 = .ok (.goto (-45), 3) := by decide +kernel
theorem dX11_findRows_139 : decode cX11_findRows 139 = .ok (.lload_n 3, 1) := by decide +kernel
theorem dX11_findRows_140 : decode cX11_findRows 140 = .ok (.lconst 0, 1) := by decide +kernel
theorem dX11_findRows_141 : decode cX11_findRows 141 = .ok (.lcmp, 1) := by decide +kernel
theorem dX11_findRows_142 : decode cX11_findRows 142 = .ok (.ifCond .ge 8, 3) := by decide +kernel
theorem dX11_findRows_145 : decode cX11_findRows 145 = .ok (.lload_n 3, 1) := by decide +kernel
theorem dX11_findRows_146 : decode cX11_findRows 146 = .ok (.lneg, 1) := by decide +kernel
theorem dX11_findRows_147 : decode cX11_findRows 147 = .ok (.goto 4, 3) := by decide +kernel
theorem dX11_findRows_150 : decode cX11_findRows 150 = .ok (.lload_n 3, 1) := by decide +kernel
theorem dX11_findRows_151 : decode cX11_findRows 151 = .ok (.lstore_n 3, 1) := by decide +kernel
theorem dX11_findRows_152 : decode cX11_findRows 152 = .ok (.iload_n 2, 1) := by decide +kernel
theorem dX11_findRows_153 : decode cX11_findRows 153 = .ok (.iconst 2, 1) := by decide +kernel
theorem dX11_findRows_154 : decode cX11_findRows 154 = .ok (.if_icmp .ge 7, 3) := by decide +kernel
theorem dX11_findRows_157 : decode cX11_findRows 157 = .ok (.iconst 0, 1) := by decide +kernel
theorem dX11_findRows_158 : decode cX11_findRows 158 = .ok (.goto 6, 3) := by decide +kernel
theorem dX11_findRows_161 : decode cX11_findRows 161 = .ok (.iload_n 2, 1) := by decide +kernel
theorem dX11_findRows_162 : decode cX11_findRows 162 = .ok (.iconst 2, 1) := by decide +kernel
theorem dX11_findRows_163 : decode cX11_findRows 163 = .ok (.isub, 1) := by decide +kernel
theorem dX11_findRows_164 : decode cX11_findRows 164 = .ok (.istore 7, 2) := by decide +kernel
theorem dX11_findRows_166 : decode cX11_findRows 166 = .ok (.iconst 0, 1) := by decide +kernel
theorem dX11_findRows_167 : decode cX11_findRows 167 = .ok (.istore 8, 2) := by decide +kernel
theorem dX11_findRows_169 : decode cX11_findRows 169 = .ok (.iload 8, 2) := by decide +kernel
theorem dX11_findRows_171 : decode cX11_findRows 171 = .ok (.iload 7, 2) := by decide +kernel
theorem dX11_findRows_173 : decode cX11_findRows 173 = .ok (.if_icmp .ge 19, 3) := by decide +kernel
theorem dX11_findRows_176 : decode cX11_findRows 176 = .ok (.lload_n 3, 1) := by decide +kernel
theorem dX11_findRows_177 : decode cX11_findRows 177 = .ok (.aload_n 0, 1) := by decide +kernel
theorem dX11_findRows_178 : decode cX11_findRows 178 = .ok (.getfield 32, 3) := by decide +kernel
theorem dX11_findRows_181 : decode cX11_findRows 181 = .ok (.iload 8, 2) := by decide +kernel
theorem dX11_findRows_183 : decode cX11_findRows 183 = .ok (.laload, 1) := by decide +kernel
theorem dX11_findRows_184 : decode cX11_findRows 184 = .ok (.ldiv, 1) := by decide +kernel
theorem dX11_findRows_185 : decode cX11_findRows 185 = .ok (.lstore_n 3, 1) := by decide +kernel
theorem dX11_findRows_186 : decode cX11_findRows 186 = .ok (.iinc 8 1, 3) := by decide +kernel
theorem dX11_findRows_189 : decode cX11_findRows 189 = .ok (.goto (-20), 3) := by decide +kernel
theorem dX11_findRows_192 : decode cX11_findRows 192 = .ok (.iload 7, 2) := by decide +kernel
theorem dX11_findRows_194 : decode cX11_findRows 194 = .ok (.istore 8, 2) := by decide +kernel
theorem dX11_findRows_196 : decode cX11_findRows 196 = .ok (.iload 8, 2) := by decide +kernel
theorem dX11_findRows_198 : decode cX11_findRows 198 = .ok (.bipush 8, 2) := by decide +kernel
theorem dX11_findRows_200 : decode cX11_findRows 200 = .ok (.if_icmp .ge 17, 3) := by decide +kernel
theorem dX11_findRows_203 : decode cX11_findRows 203 = .ok (.aload_n 0, 1) := by decide +kernel
theorem dX11_findRows_204 : decode cX11_findRows 204 = .ok (.getfield 32, 3) := by decide +kernel
theorem dX11_findRows_207 : decode cX11_findRows 207 = .ok (.iload 8, 2) := by decide +kernel
theorem dX11_findRows_209 : decode cX11_findRows 209 = .ok (.lconst 1, 1) := by decide +kernel
theorem dX11_findRows_210 : decode cX11_findRows 210 = .ok (.lastore, 1) := by decide +kernel
theorem dX11_findRows_211 : decode cX11_findRows 211 = .ok (.iinc 8 1, 3) := by decide +kernel
theorem dX11_findRows_214 : decode cX11_findRows 214 = .ok (.goto (-18), 3) := by decide +kernel
theorem dX11_findRows_217 : decode cX11_findRows 217 = .ok (.aload_n 0, 1) := by decide +kernel
theorem dX11_findRows_218 : decode cX11_findRows 218 = .ok (.getfield 32, 3) := by decide +kernel
theorem dX11_findRows_221 : decode cX11_findRows 221 = .ok (.iload 7, 2) := by decide +kernel
theorem dX11_findRows_223 : decode cX11_findRows 223 = .ok (.lload_n 3, 1) := by decide +kernel
theorem dX11_findRows_224 : decode cX11_findRows 224 = .ok (.lconst 0, 1) := by decide +kernel
theorem dX11_findRows_225 : decode cX11_findRows 225 = .ok (.lcmp, 1) := by decide +kernel
theorem dX11_findRows_226 : decode cX11_findRows 226 = .ok (.ifCond .ne 7, 3) := by decide +kernel
theorem dX11_findRows_229 : decode cX11_findRows 229 = .ok (.lconst 1, 1) := by decide +kernel
theorem dX11_findRows_230 : decode cX11_findRows 230 = .ok (.goto 4, 3) := by decide +kernel
theorem dX11_findRows_233 : decode cX11_findRows 233 = .ok (.lload_n 3, 1) := by decide +kernel
theorem dX11_findRows_234 : decode cX11_findRows 234 = .ok (.lastore, 1) := by decide +kernel
theorem dX11_findRows_235 : decode cX11_findRows 235 = .ok (.goto 181, 3) := by decide +kernel
theorem dX11_findRows_238 : decode cX11_findRows 238 = .ok (.iconst 0, 1) := by decide +kernel
theorem dX11_findRows_239 : decode cX11_findRows 239 = .ok (.istore_n 3, 1) := by decide +kernel
theorem dX11_findRows_240 : decode cX11_findRows 240 = .ok (.iload_n 3, 1) := by decide +kernel
theorem dX11_findRows_241 : decode cX11_findRows 241 = .ok (.iload_n 2, 1) := by decide +kernel
theorem dX11_findRows_242 : decode cX11_findRows 242 = .ok (.if_icmp .ge 47, 3) := by decide +kernel
theorem dX11_findRows_245 : decode cX11_findRows 245 = .ok (.aload_n 0, 1) := by decide +kernel
theorem dX11_findRows_246 : decode cX11_findRows 246 = .ok (.iload_n 1, 1) := by decide +kernel
theorem dX11_findRows_247 : decode cX11_findRows 247 = .ok (.iload_n 3, 1) := by decide +kernel
theorem dX11_findRows_248 : decode cX11_findRows 248 = .ok (.invokevirtual 90, 3) := by decide +kernel
theorem dX11_findRows_251 : decode cX11_findRows 251 = .ok (.istore 4, 2) := by decide +kernel
theorem dX11_findRows_253 : decode cX11_findRows 253 = .ok (.iload 4, 2) := by decide +kernel
theorem dX11_findRows_255 : decode cX11_findRows 255 = .ok (.iconst 2, 1) := by decide +kernel
theorem dX11_findRows_256 : decode cX11_findRows 256 = .ok (.irem, 1) := by decide +kernel
theorem dX11_findRows_257 : decode cX11_findRows 257 = .ok (.ifCond .ne 12, 3) := by decide +kernel
theorem dX11_findRows_260 : decode cX11_findRows 260 = .ok (.iload 4, 2) := by decide +kernel
theorem dX11_findRows_262 : decode cX11_findRows 262 = .ok (.iconst 2, 1) := by decide +kernel
theorem dX11_findRows_263 : decode cX11_findRows 263 = .ok (.idiv, 1) := by decide +kernel
theorem dX11_findRows_264 : decode cX11_findRows 264 = .ok (.istore 4, 2) := by decide +kernel
theorem dX11_findRows_266 : decode cX11_findRows 266 = .ok (.goto (-13), 3) := by decide +kernel
theorem dX11_findRows_269 : decode cX11_findRows 269 = .ok (.aload_n 0, 1) := by decide +kernel
theorem dX11_findRows_270 : decode cX11_findRows 270 = .ok (.getfield 32, 3) := by decide +kernel
theorem dX11_findRows_273 : decode cX11_findRows 273 = .ok (.bipush 8, 2) := by decide +kernel
theorem dX11_findRows_275 : decode cX11_findRows 275 = .ok (.iload_n 2, 1) := by decide +kernel
theorem dX11_findRows_276 : decode cX11_findRows 276 = .ok (.isub, 1) := by decide +kernel
theorem dX11_findRows_277 : decode cX11_findRows 277 = .ok (.iload_n 3, 1) := by decide +kernel
theorem dX11_findRows_278 : decode cX11_findRows 278 = .ok (.iadd, 1) := by decide +kernel
theorem dX11_findRows_279 : decode cX11_findRows 279 = .ok (.iload 4, 2) := by decide +kernel
theorem dX11_findRows_281 : decode cX11_findRows 281 = .ok (.i2l, 1) := by decide +kernel
theorem dX11_findRows_282 : decode cX11_findRows 282 = .ok (.lastore, 1) := by decide +kernel
theorem dX11_findRows_283 : decode cX11_findRows 283 = .ok (.iinc 3 1, 3) := by decide +kernel
theorem dX11_findRows_286 : decode cX11_findRows 286 = .ok (.goto (-46), 3) := by decide +kernel
theorem dX11_findRows_289 : decode cX11_findRows 289 = .ok (.bipush 8, 2) := by decide +kernel
theorem dX11_findRows_291 : decode cX11_findRows 291 = .ok (.iload_n 2, 1) := by decide +kernel
theorem dX11_findRows_292 : decode cX11_findRows 292 = .ok (.isub, 1) := by decide +kernel
theorem dX11_findRows_293 : decode cX11_findRows 293 = .ok (.istore_n 3, 1) := by decide +kernel
theorem dX11_findRows_294 : decode cX11_findRows 294 = .ok (.iload_n 3, 1) := by decide +kernel
theorem dX11_findRows_295 : decode cX11_findRows 295 = .ok (.bipush 8, 2) := by decide +kernel
theorem dX11_findRows_297 : decode cX11_findRows 297 = .ok (.if_icmp .ge 77, 3) := by decide +kernel
theorem dX11_findRows_300 : decode cX11_findRows 300 = .ok (.iload_n 3, 1) := by decide +kernel
theorem dX11_findRows_301 : decode cX11_findRows 301 = .ok (.iconst 1, 1) := by decide +kernel
theorem dX11_findRows_302 : decode cX11_findRows 302 = .ok (.iadd, 1) := by decide +kernel
theorem dX11_findRows_303 : decode cX11_findRows 303 = .ok (.istore 4, 2) := by decide +kernel
theorem dX11_findRows_305 : decode cX11_findRows 305 = .ok (.iload 4, 2) := by decide +kernel
theorem dX11_findRows_307 : decode cX11_findRows 307 = .ok (.bipush 8, 2) := by decide +kernel
theorem dX11_findRows_309 : decode cX11_findRows 309 = .ok (.if_icmp .ge 59, 3) := by decide +kernel
theorem dX11_findRows_312 : decode cX11_findRows 312 = .ok (.aload_n 0, 1) := by decide +kernel
theorem dX11_findRows_313 : decode cX11_findRows 313 = .ok (.getfield 32, 3) := by decide +kernel
theorem dX11_findRows_316 : decode cX11_findRows 316 = .ok (.iload_n 3, 1) := by decide +kernel
theorem dX11_findRows_317 : decode cX11_findRows 317 = .ok (.laload, 1) := by decide +kernel
theorem dX11_findRows_318 : decode cX11_findRows 318 = .ok (.aload_n 0, 1) := by decide +kernel
theorem dX11_findRows_319 : decode cX11_findRows 319 = .ok (.getfield 32, 3) := by decide +kernel
theorem dX11_findRows_322 : decode cX11_findRows 322 = .ok (.iload 4, 2) := by decide +kernel
theorem dX11_findRows_324 : decode cX11_findRows 324 = .ok (.laload, 1) := by decide +kernel
theorem dX11_findRows_325 : decode cX11_findRows 325 = .ok (.invokestatic 143, 3) := by decide +kernel
theorem dX11_findRows_328 : decode cX11_findRows 328 = .ok (.lstore 5, 2) := by decide +kernel
theorem dX11_findRows_330 : decode cX11_findRows 330 = .ok (.aload_n 0, 1) := by decide +kernel
theorem dX11_findRows_331 : decode cX11_findRows 331 = .ok (.getfield 32, 3) := by decide +kernel
theorem dX11_findRows_334 : decode cX11_findRows 334 = .ok (.iload 4, 2) := by decide +kernel
theorem dX11_findRows_336 : decode cX11_findRows 336 = .ok (.aload_n 0, 1) := by decide +kernel
theorem dX11_findRows_337 : decode cX11_findRows 337 = .ok (.getfield 32, 3) := by decide +kernel
theorem dX11_findRows_340 : decode cX11_findRows 340 = .ok (.iload_n 3, 1) := by decide +kernel
theorem dX11_findRows_341 : decode cX11_findRows 341 = .ok (.laload, 1) := by decide +kernel
theorem dX11_findRows_342 : decode cX11_findRows 342 = .ok (.lload 5, 2) := by decide +kernel
theorem dX11_findRows_344 : decode cX11_findRows 344 = .ok (.ldiv, 1) := by decide +kernel
theorem dX11_findRows_345 : decode cX11_findRows 345 = .ok (.aload_n 0, 1) := by decide +kernel
theorem dX11_findRows_346 : decode cX11_findRows 346 = .ok (.getfield 32, 3) := by decide +kernel
theorem dX11_findRows_349 : decode cX11_findRows 349 = .ok (.iload 4, 2) := by decide +kernel
theorem dX11_findRows_351 : decode cX11_findRows 351 = .ok (.laload, 1) := by decide +kernel
theorem dX11_findRows_352 : decode cX11_findRows 352 = .ok (.lmul, 1) := by decide +kernel
theorem dX11_findRows_353 : decode cX11_findRows 353 = .ok (.lastore, 1) := by decide +kernel
theorem dX11_findRows_354 : decode cX11_findRows 354 = .ok (.aload_n 0, 1) := by decide +kernel
theorem dX11_findRows_355 : decode cX11_findRows 355 = .ok (.getfield 32, 3) := by decide +kernel
theorem dX11_findRows_358 : decode cX11_findRows 358 = .ok (.iload_n 3, 1) := by decide +kernel
theorem dX11_findRows_359 : decode cX11_findRows 359 = .ok (.lload 5, 2) := by decide +kernel
theorem dX11_findRows_361 : decode cX11_findRows 361 = .ok (.lastore, 1) := by decide +kernel
theorem dX11_findRows_362 : decode cX11_findRows 362 = .ok (.iinc 4 1, 3) := by decide +kernel
theorem dX11_findRows_365 : decode cX11_findRows 365 = .ok (.goto (-60), 3) := by decide +kernel
theorem dX11_findRows_368 : decode cX11_findRows 368 = .ok (.iinc 3 1, 3) := by decide +kernel
theorem dX11_findRows_371 : decode cX11_findRows 371 = .ok (.goto (-77), 3) := by decide +kernel
theorem dX11_findRows_374 : decode cX11_findRows 374 = .ok (.aload_n 0, 1) := by decide +kernel
theorem dX11_findRows_375 : decode cX11_findRows 375 = .ok (.iload_n 1, 1) := by decide +kernel
theorem dX11_findRows_376 : decode cX11_findRows 376 = .ok (.invokevirtual 208, 3) := by decide +kernel
theorem dX11_findRows_379 : decode cX11_findRows 379 = .ok (.iconst 0, 1) := by decide +kernel
theorem dX11_findRows_380 : decode cX11_findRows 380 = .ok (.istore_n 3, 1) := by decide +kernel
theorem dX11_findRows_381 : decode cX11_findRows 381 = .ok (.iload_n 3, 1) := by decide +kernel
theorem dX11_findRows_382 : decode cX11_findRows 382 = .ok (.iload_n 2, 1) := by decide +kernel
theorem dX11_findRows_383 : decode cX11_findRows 383 = .ok (.iconst 2, 1) := by decide +kernel
theorem dX11_findRows_384 : decode cX11_findRows 384 = .ok (.iadd, 1) := by decide +kernel
theorem dX11_findRows_385 : decode cX11_findRows 385 = .ok (.if_icmp .ge 31, 3) := by decide +kernel
theorem dX11_findRows_388 : decode cX11_findRows 388 = .ok (.aload_n 0, 1) := by decide +kernel
theorem dX11_findRows_389 : decode cX11_findRows 389 = .ok (.getfield 32, 3) := by decide +kernel
theorem dX11_findRows_392 : decode cX11_findRows 392 = .ok (.bipush 6, 2) := by decide +kernel
theorem dX11_findRows_394 : decode cX11_findRows 394 = .ok (.iload_n 2, 1) := by decide +kernel
theorem dX11_findRows_395 : decode cX11_findRows 395 = .ok (.isub, 1) := by decide +kernel
theorem dX11_findRows_396 : decode cX11_findRows 396 = .ok (.iload_n 3, 1) := by decide +kernel
theorem dX11_findRows_397 : decode cX11_findRows 397 = .ok (.iadd, 1) := by decide +kernel
theorem dX11_findRows_398 : decode cX11_findRows 398 = .ok (.dup2, 1) := by decide +kernel
theorem dX11_findRows_399 : decode cX11_findRows 399 = .ok (.laload, 1) := by decide +kernel
theorem dX11_findRows_400 : decode cX11_findRows 400 = .ok (.lconst 1, 1) := by decide +kernel
theorem dX11_findRows_401 : decode cX11_findRows 401 = .ok (.aload_n 0, 1) := by decide +kernel
theorem dX11_findRows_402 : decode cX11_findRows 402 = .ok (.getfield 39, 3) := by decide +kernel
theorem dX11_findRows_405 : decode cX11_findRows 405 = .ok (.iload_n 3, 1) := by decide +kernel
theorem dX11_findRows_406 : decode cX11_findRows 406 = .ok (.iaload, 1) := by decide +kernel
theorem dX11_findRows_407 : decode cX11_findRows 407 = .ok (.lshl, 1) := by decide +kernel
theorem dX11_findRows_408 : decode cX11_findRows 408 = .ok (.lmul, 1) := by decide +kernel
theorem dX11_findRows_409 : decode cX11_findRows 409 = .ok (.lastore, 1) := by decide +kernel
theorem dX11_findRows_410 : decode cX11_findRows 410 = .ok (.iinc 3 1, 3) := by decide +kernel
theorem dX11_findRows_413 : decode cX11_findRows 413 = .ok (.goto (-32), 3) := by decide +kernel
theorem dX11_findRows_416 : decode cX11_findRows 416 = .ok (.aload_n 0, 1) := by decide +kernel
theorem dX11_findRows_417 : decode cX11_findRows 417 = .ok (.invokevirtual 211, 3) := by decide +kernel
theorem dX11_findRows_420 : decode cX11_findRows 420 = .ok (.return_, 1) := by decide +kernel
theorem dX11_dropOnes_0 : decode cX11_dropOnes 0 = .ok (.aload_n 0, 1) := by decide +kernel
theorem dX11_dropOnes_1 : decode cX11_dropOnes 1 = .ok (.iconst 0, 1) := by decide +kernel
theorem dX11_dropOnes_2 : decode cX11_dropOnes 2 = .ok (.putfield 214, 3) := by decide +kernel
theorem dX11_dropOnes_5 : decode cX11_dropOnes 5 = .ok (.iconst 0, 1) := by decide +kernel
theorem dX11_dropOnes_6 : decode cX11_dropOnes 6 = .ok (.istore_n 1, 1) := by decide +kernel
theorem dX11_dropOnes_7 : decode cX11_dropOnes 7 = .ok (.iload_n 1, 1) := by decide +kernel
theorem dX11_dropOnes_8 : decode cX11_dropOnes 8 = .ok (.bipush 8, 2) := by decide +kernel
theorem dX11_dropOnes_10 : decode cX11_dropOnes 10 = .ok (.if_icmp .ge 45, 3) := by decide +kernel
theorem dX11_dropOnes_13 : decode cX11_dropOnes 13 = .ok (.aload_n 0, 1) := by decide +kernel
theorem dX11_dropOnes_14 : decode cX11_dropOnes 14 = .ok (.getfield 32, 3) := by decide +kernel
theorem dX11_dropOnes_17 : decode cX11_dropOnes 17 = .ok (.iload_n 1, 1) := by decide +kernel
theorem dX11_dropOnes_18 : decode cX11_dropOnes 18 = .ok (.laload, 1) := by decide +kernel
theorem dX11_dropOnes_19 : decode cX11_dropOnes 19 = .ok (.lconst 1, 1) := by decide +kernel
theorem dX11_dropOnes_20 : decode cX11_dropOnes 20 = .ok (.lcmp, 1) := by decide +kernel
theorem dX11_dropOnes_21 : decode cX11_dropOnes 21 = .ok (.ifCond .le 28, 3) := by decide +kernel
theorem dX11_dropOnes_24 : decode cX11_dropOnes 24 = .ok (.aload_n 0, 1) := by decide +kernel
theorem dX11_dropOnes_25 : decode cX11_dropOnes 25 = .ok (.getfield 32, 3) := by decide +kernel
theorem dX11_dropOnes_28 : decode cX11_dropOnes 28 = .ok (.aload_n 0, 1) := by decide +kernel
theorem dX11_dropOnes_29 : decode cX11_dropOnes 29 = .ok (.getfield 214, 3) := by decide +kernel
theorem dX11_dropOnes_32 : decode cX11_dropOnes 32 = .ok (.aload_n 0, 1) := by decide +kernel
theorem dX11_dropOnes_33 : decode cX11_dropOnes 33 = .ok (.getfield 32, 3) := by decide +kernel
theorem dX11_dropOnes_36 : decode cX11_dropOnes 36 = .ok (.iload_n 1, 1) := by decide +kernel
theorem dX11_dropOnes_37 : decode cX11_dropOnes 37 = .ok (.laload, 1) := by decide +kernel
theorem dX11_dropOnes_38 : decode cX11_dropOnes 38 = .ok (.lastore, 1) := by decide +kernel
theorem dX11_dropOnes_39 : decode cX11_dropOnes 39 = .ok (.aload_n 0, 1) := by decide +kernel
theorem dX11_dropOnes_40 : decode cX11_dropOnes 40 = .ok (.dup, 1) := by decide +kernel
theorem dX11_dropOnes_41 : decode cX11_dropOnes 41 = .ok (.getfield 214, 3) := by decide +kernel
theorem dX11_dropOnes_44 : decode cX11_dropOnes 44 = .ok (.iconst 1, 1) := by decide +kernel
theorem dX11_dropOnes_45 : decode cX11_dropOnes 45 = .ok (.iadd, 1) := by decide +kernel
theorem dX11_dropOnes_46 : decode cX11_dropOnes 46 = .ok (.putfield 214, 3) := by decide +kernel
theorem dX11_dropOnes_49 : decode cX11_dropOnes 49 = .ok (.iinc 1 1, 3) := by decide +kernel
theorem dX11_dropOnes_52 : decode cX11_dropOnes 52 = .ok (.goto (-45), 3) := by decide +kernel
theorem dX11_dropOnes_55 : decode cX11_dropOnes 55 = .ok (.return_, 1) := by decide +kernel
theorem dX11_twosOf_0 : decode cX11_twosOf 0 = .ok (.iconst 0, 1) := by decide +kernel
theorem dX11_twosOf_1 : decode cX11_twosOf 1 = .ok (.istore_n 1, 1) := by decide +kernel
theorem dX11_twosOf_2 : decode cX11_twosOf 2 = .ok (.iload_n 1, 1) := by decide +kernel
theorem dX11_twosOf_3 : decode cX11_twosOf 3 = .ok (.bipush 8, 2) := by decide +kernel
theorem dX11_twosOf_5 : decode cX11_twosOf 5 = .ok (.if_icmp .ge 17, 3) := by decide +kernel
theorem dX11_twosOf_8 : decode cX11_twosOf 8 = .ok (.iload_n 0, 1) := by decide +kernel
theorem dX11_twosOf_9 : decode cX11_twosOf 9 = .ok (.iload_n 1, 1) := by decide +kernel
theorem dX11_twosOf_10 : decode cX11_twosOf 10 = .ok (.ishr, 1) := by decide +kernel
theorem dX11_twosOf_11 : decode cX11_twosOf 11 = .ok (.iconst 1, 1) := by decide +kernel
theorem dX11_twosOf_12 : decode cX11_twosOf 12 = .ok (.iand, 1) := by decide +kernel
theorem dX11_twosOf_13 : decode cX11_twosOf 13 = .ok (.ifCond .ne 9, 3) := by decide +kernel
theorem dX11_twosOf_16 : decode cX11_twosOf 16 = .ok (.iinc 1 1, 3) := by decide +kernel
theorem dX11_twosOf_19 : decode cX11_twosOf 19 = .ok (.goto (-17), 3) := by decide +kernel
theorem dX11_twosOf_22 : decode cX11_twosOf 22 = .ok (.iload_n 1, 1) := by decide +kernel
theorem dX11_twosOf_23 : decode cX11_twosOf 23 = .ok (.ireturn, 1) := by decide +kernel
theorem dX11_inverse_0 : decode cX11_inverse 0 = .ok (.iconst 1, 1) := by decide +kernel
theorem dX11_inverse_1 : decode cX11_inverse 1 = .ok (.istore_n 1, 1) := by decide +kernel
theorem dX11_inverse_2 : decode cX11_inverse 2 = .ok (.iload_n 1, 1) := by decide +kernel
theorem dX11_inverse_3 : decode cX11_inverse 3 = .ok (.iload_n 0, 1) := by decide +kernel
theorem dX11_inverse_4 : decode cX11_inverse 4 = .ok (.imul, 1) := by decide +kernel
theorem dX11_inverse_5 : decode cX11_inverse 5 = .ok (.sipush 256, 3) := by decide +kernel
theorem dX11_inverse_8 : decode cX11_inverse 8 = .ok (.irem, 1) := by decide +kernel
theorem dX11_inverse_9 : decode cX11_inverse 9 = .ok (.iconst 1, 1) := by decide +kernel
theorem dX11_inverse_10 : decode cX11_inverse 10 = .ok (.if_icmp .eq 9, 3) := by decide +kernel
theorem dX11_inverse_13 : decode cX11_inverse 13 = .ok (.iinc 1 2, 3) := by decide +kernel
theorem dX11_inverse_16 : decode cX11_inverse 16 = .ok (.goto (-14), 3) := by decide +kernel
theorem dX11_inverse_19 : decode cX11_inverse 19 = .ok (.iload_n 1, 1) := by decide +kernel
theorem dX11_inverse_20 : decode cX11_inverse 20 = .ok (.ireturn, 1) := by decide +kernel
theorem dX11_findTwos_0 : decode cX11_findTwos 0 = .ok (.aload_n 0, 1) := by decide +kernel
theorem dX11_findTwos_1 : decode cX11_findTwos 1 = .ok (.iload_n 1, 1) := by decide +kernel
theorem dX11_findTwos_2 : decode cX11_findTwos 2 = .ok (.invokevirtual 100, 3) := by decide +kernel
theorem dX11_findTwos_5 : decode cX11_findTwos 5 = .ok (.istore_n 2, 1) := by decide +kernel
theorem dX11_findTwos_6 : decode cX11_findTwos 6 = .ok (.iload_n 2, 1) := by decide +kernel
theorem dX11_findTwos_7 : decode cX11_findTwos 7 = .ok (.iconst 2, 1) := by decide +kernel
theorem dX11_findTwos_8 : decode cX11_findTwos 8 = .ok (.iadd, 1) := by decide +kernel
theorem dX11_findTwos_9 : decode cX11_findTwos 9 = .ok (.istore_n 3, 1) := by decide +kernel
theorem dX11_findTwos_10 : decode cX11_findTwos 10 = .ok (.iconst 0, 1) := by decide +kernel
theorem dX11_findTwos_11 : decode cX11_findTwos 11 = .ok (.istore 4, 2) := by decide +kernel
theorem dX11_findTwos_13 : decode cX11_findTwos 13 = .ok (.iload 4, 2) := by decide +kernel
theorem dX11_findTwos_15 : decode cX11_findTwos 15 = .ok (.bipush 64, 2) := by decide +kernel
theorem dX11_findTwos_17 : decode cX11_findTwos 17 = .ok (.if_icmp .ge 17, 3) := by decide +kernel
theorem dX11_findTwos_20 : decode cX11_findTwos 20 = .ok (.aload_n 0, 1) := by decide +kernel
theorem dX11_findTwos_21 : decode cX11_findTwos 21 = .ok (.getfield 36, 3) := by decide +kernel
theorem dX11_findTwos_24 : decode cX11_findTwos 24 = .ok (.iload 4, 2) := by decide +kernel
theorem dX11_findTwos_26 : decode cX11_findTwos 26 = .ok (.iconst 0, 1) := by decide +kernel
theorem dX11_findTwos_27 : decode cX11_findTwos 27 = .ok (.iastore, 1) := by decide +kernel
theorem dX11_findTwos_28 : decode cX11_findTwos 28 = .ok (.iinc 4 1, 3) := by decide +kernel
theorem dX11_findTwos_31 : decode cX11_findTwos 31 = .ok (.goto (-18), 3) := by decide +kernel
theorem dX11_findTwos_34 : decode cX11_findTwos 34 = .ok (.aload_n 0, 1) := by decide +kernel
theorem dX11_findTwos_35 : decode cX11_findTwos 35 = .ok (.getfield 36, 3) := by decide +kernel
theorem dX11_findTwos_38 : decode cX11_findTwos 38 = .ok (.iconst 0, 1) := by decide +kernel
theorem dX11_findTwos_39 : decode cX11_findTwos 39 = .ok (.iconst 2, 1) := by decide +kernel
theorem dX11_findTwos_40 : decode cX11_findTwos 40 = .ok (.iastore, 1) := by decide +kernel
theorem dX11_findTwos_41 : decode cX11_findTwos 41 = .ok (.iconst 0, 1) := by decide +kernel
theorem dX11_findTwos_42 : decode cX11_findTwos 42 = .ok (.istore 4, 2) := by decide +kernel
theorem dX11_findTwos_44 : decode cX11_findTwos 44 = .ok (.iload 4, 2) := by decide +kernel
theorem dX11_findTwos_46 : decode cX11_findTwos 46 = .ok (.iload_n 2, 1) := by decide +kernel
theorem dX11_findTwos_47 : decode cX11_findTwos 47 = .ok (.if_icmp .ge 69, 3) := by decide +kernel
theorem dX11_findTwos_50 : decode cX11_findTwos 50 = .ok (.aload_n 0, 1) := by decide +kernel
theorem dX11_findTwos_51 : decode cX11_findTwos 51 = .ok (.getfield 36, 3) := by decide +kernel
theorem dX11_findTwos_54 : decode cX11_findTwos 54 = .ok (.bipush 8, 2) := by decide +kernel
theorem dX11_findTwos_56 : decode cX11_findTwos 56 = .ok (.iload 4, 2) := by decide +kernel
theorem dX11_findTwos_58 : decode cX11_findTwos 58 = .ok (.iconst 1, 1) := by decide +kernel
theorem dX11_findTwos_59 : decode cX11_findTwos 59 = .ok (.iadd, 1) := by decide +kernel
theorem dX11_findTwos_60 : decode cX11_findTwos 60 = .ok (.imul, 1) := by decide +kernel
theorem dX11_findTwos_61 : decode cX11_findTwos 61 = .ok (.aload_n 0, 1) := by decide +kernel
theorem dX11_findTwos_62 : decode cX11_findTwos 62 = .ok (.iload_n 1, 1) := by decide +kernel
theorem dX11_findTwos_63 : decode cX11_findTwos 63 = .ok (.iload 4, 2) := by decide +kernel
theorem dX11_findTwos_65 : decode cX11_findTwos 65 = .ok (.invokevirtual 93, 3) := by decide +kernel
theorem dX11_findTwos_68 : decode cX11_findTwos 68 = .ok (.iastore, 1) := by decide +kernel
theorem dX11_findTwos_69 : decode cX11_findTwos 69 = .ok (.aload_n 0, 1) := by decide +kernel
theorem dX11_findTwos_70 : decode cX11_findTwos 70 = .ok (.getfield 36, 3) := by decide +kernel
theorem dX11_findTwos_73 : decode cX11_findTwos 73 = .ok (.bipush 8, 2) := by decide +kernel
theorem dX11_findTwos_75 : decode cX11_findTwos 75 = .ok (.iload 4, 2) := by decide +kernel
theorem dX11_findTwos_77 : decode cX11_findTwos 77 = .ok (.iconst 1, 1) := by decide +kernel
theorem dX11_findTwos_78 : decode cX11_findTwos 78 = .ok (.iadd, 1) := by decide +kernel
theorem dX11_findTwos_79 : decode cX11_findTwos 79 = .ok (.imul, 1) := by decide +kernel
theorem dX11_findTwos_80 : decode cX11_findTwos 80 = .ok (.iload 4, 2) := by decide +kernel
theorem dX11_findTwos_82 : decode cX11_findTwos 82 = .ok (.iadd, 1) := by decide +kernel
theorem dX11_findTwos_83 : decode cX11_findTwos 83 = .ok (.iconst 1, 1) := by decide +kernel
theorem dX11_findTwos_84 : decode cX11_findTwos 84 = .ok (.iadd, 1) := by decide +kernel
theorem dX11_findTwos_85 : decode cX11_findTwos 85 = .ok (.aload_n 0, 1) := by decide +kernel
theorem dX11_findTwos_86 : decode cX11_findTwos 86 = .ok (.iload_n 1, 1) := by decide +kernel
theorem dX11_findTwos_87 : decode cX11_findTwos 87 = .ok (.iload 4, 2) := by decide +kernel
theorem dX11_findTwos_89 : decode cX11_findTwos 89 = .ok (.invokevirtual 90, 3) := by decide +kernel
theorem dX11_findTwos_92 : decode cX11_findTwos 92 = .ok (.iastore, 1) := by decide +kernel
theorem dX11_findTwos_93 : decode cX11_findTwos 93 = .ok (.aload_n 0, 1) := by decide +kernel
theorem dX11_findTwos_94 : decode cX11_findTwos 94 = .ok (.getfield 36, 3) := by decide +kernel
theorem dX11_findTwos_97 : decode cX11_findTwos 97 = .ok (.bipush 8, 2) := by decide +kernel
theorem dX11_findTwos_99 : decode cX11_findTwos 99 = .ok (.iload_n 3, 1) := by decide +kernel
theorem dX11_findTwos_100 : decode cX11_findTwos 100 = .ok (.iconst 1, 1) := by decide +kernel
theorem dX11_findTwos_101 : decode cX11_findTwos 101 = .ok (.isub, 1) := by decide +kernel
theorem dX11_findTwos_102 : decode cX11_findTwos 102 = .ok (.imul, 1) := by decide +kernel
theorem dX11_findTwos_103 : decode cX11_findTwos 103 = .ok (.iload 4, 2) := by decide +kernel
theorem dX11_findTwos_105 : decode cX11_findTwos 105 = .ok (.iadd, 1) := by decide +kernel
theorem dX11_findTwos_106 : decode cX11_findTwos 106 = .ok (.iconst 1, 1) := by decide +kernel
theorem dX11_findTwos_107 : decode cX11_findTwos 107 = .ok (.iadd, 1) := by decide +kernel
theorem dX11_findTwos_108 : decode cX11_findTwos 108 = .ok (.iconst 1, 1) := by decide +kernel
theorem dX11_findTwos_109 : decode cX11_findTwos 109 = .ok (.iastore, 1) := by decide +kernel
theorem dX11_findTwos_110 : decode cX11_findTwos 110 = .ok (.iinc 4 1, 3) := by decide +kernel
theorem dX11_findTwos_113 : decode cX11_findTwos 113 = .ok (.goto (-69), 3) := by decide +kernel
theorem dX11_findTwos_116 : decode cX11_findTwos 116 = .ok (.aload_n 0, 1) := by decide +kernel
theorem dX11_findTwos_117 : decode cX11_findTwos 117 = .ok (.getfield 36, 3) := by decide +kernel
theorem dX11_findTwos_120 : decode cX11_findTwos 120 = .ok (.bipush 8, 2) := by decide +kernel
theorem dX11_findTwos_122 : decode cX11_findTwos 122 = .ok (.iload_n 3, 1) := by decide +kernel
theorem dX11_findTwos_123 : decode cX11_findTwos 123 = .ok (.iconst 1, 1) := by decide +kernel
theorem dX11_findTwos_124 : decode cX11_findTwos 124 = .ok (.isub, 1) := by decide +kernel
theorem dX11_findTwos_125 : decode cX11_findTwos 125 = .ok (.imul, 1) := by decide +kernel
theorem dX11_findTwos_126 : decode cX11_findTwos 126 = .ok (.aload_n 0, 1) := by decide +kernel
theorem dX11_findTwos_127 : decode cX11_findTwos 127 = .ok (.getfield 7, 3) := by decide +kernel
theorem dX11_findTwos_130 : decode cX11_findTwos 130 = .ok (.bipush 16, 2) := by decide +kernel
theorem dX11_findTwos_132 : decode cX11_findTwos 132 = .ok (.iload_n 1, 1) := by decide +kernel
theorem dX11_findTwos_133 : decode cX11_findTwos 133 = .ok (.imul, 1) := by decide +kernel
theorem dX11_findTwos_134 : decode cX11_findTwos 134 = .ok (.iconst 2, 1) := by decide +kernel
theorem dX11_findTwos_135 : decode cX11_findTwos 135 = .ok (.iadd, 1) := by decide +kernel
theorem dX11_findTwos_136 : decode cX11_findTwos 136 = .ok (.iaload, 1) := by decide +kernel
theorem dX11_findTwos_137 : decode cX11_findTwos 137 = .ok (.ineg, 1) := by decide +kernel
theorem dX11_findTwos_138 : decode cX11_findTwos 138 = .ok (.sipush 256, 3) := by decide +kernel
theorem dX11_findTwos_141 : decode cX11_findTwos 141 = .ok (.invokestatic 79, 3) := by decide +kernel
theorem dX11_findTwos_144 : decode cX11_findTwos 144 = .ok (.iastore, 1) := by decide +kernel
theorem dX11_findTwos_145 : decode cX11_findTwos 145 = .ok (.aload_n 0, 1) := by decide +kernel
theorem dX11_findTwos_146 : decode cX11_findTwos 146 = .ok (.getfield 36, 3) := by decide +kernel
theorem dX11_findTwos_149 : decode cX11_findTwos 149 = .ok (.bipush 8, 2) := by decide +kernel
theorem dX11_findTwos_151 : decode cX11_findTwos 151 = .ok (.iload_n 3, 1) := by decide +kernel
theorem dX11_findTwos_152 : decode cX11_findTwos 152 = .ok (.iconst 1, 1) := by decide +kernel
theorem dX11_findTwos_153 : decode cX11_findTwos 153 = .ok (.isub, 1) := by decide +kernel
theorem dX11_findTwos_154 : decode cX11_findTwos 154 = .ok (.imul, 1) := by decide +kernel
theorem dX11_findTwos_155 : decode cX11_findTwos 155 = .ok (.iload_n 3, 1) := by decide +kernel
theorem dX11_findTwos_156 : decode cX11_findTwos 156 = .ok (.iadd, 1) := by decide +kernel
theorem dX11_findTwos_157 : decode cX11_findTwos 157 = .ok (.iconst 1, 1) := by decide +kernel
theorem dX11_findTwos_158 : decode cX11_findTwos 158 = .ok (.isub, 1) := by decide +kernel
theorem dX11_findTwos_159 : decode cX11_findTwos 159 = .ok (.iconst 2, 1) := by decide +kernel
theorem dX11_findTwos_160 : decode cX11_findTwos 160 = .ok (.iastore, 1) := by decide +kernel
theorem dX11_findTwos_161 : decode cX11_findTwos 161 = .ok (.iconst 0, 1) := by decide +kernel
theorem dX11_findTwos_162 : decode cX11_findTwos 162 = .ok (.istore 4, 2) := by decide +kernel
theorem dX11_findTwos_164 : decode cX11_findTwos 164 = .ok (.iload 4, 2) := by decide +kernel
theorem dX11_findTwos_166 : decode cX11_findTwos 166 = .ok (.iload_n 3, 1) := by decide +kernel
theorem dX11_findTwos_167 : decode cX11_findTwos 167 = .ok (.if_icmp .ge 23, 3) := by decide +kernel
theorem dX11_findTwos_170 : decode cX11_findTwos 170 = .ok (.aload_n 0, 1) := by decide +kernel
theorem dX11_findTwos_171 : decode cX11_findTwos 171 = .ok (.getfield 39, 3) := by decide +kernel
theorem dX11_findTwos_174 : decode cX11_findTwos 174 = .ok (.iload 4, 2) := by decide +kernel
theorem dX11_findTwos_176 : decode cX11_findTwos 176 = .ok (.aload_n 0, 1) := by decide +kernel
theorem dX11_findTwos_177 : decode cX11_findTwos 177 = .ok (.iload 4, 2) := by decide +kernel
theorem dX11_findTwos_179 : decode cX11_findTwos 179 = .ok (.iload_n 3, 1) := by decide +kernel
theorem dX11_findTwos_180 : decode cX11_findTwos 180 = .ok (.invokevirtual 217, 3) := by decide +kernel
theorem dX11_findTwos_183 : decode cX11_findTwos 183 = .ok (.iastore, 1) := by decide +kernel
theorem dX11_findTwos_184 : decode cX11_findTwos 184 = .ok (.iinc 4 1, 3) := by decide +kernel
theorem dX11_findTwos_187 : decode cX11_findTwos 187 = .ok (.goto (-23), 3) := by decide +kernel
theorem dX11_findTwos_190 : decode cX11_findTwos 190 = .ok (.return_, 1) := by decide +kernel
theorem dX11_clears_0 : decode cX11_clears 0 = .ok (.bipush 9, 2) := by decide +kernel
theorem dX11_clears_2 : decode cX11_clears 2 = .ok (.iload_n 1, 1) := by decide +kernel
theorem dX11_clears_3 : decode cX11_clears 3 = .ok (.imul, 1) := by decide +kernel
theorem dX11_clears_4 : decode cX11_clears 4 = .ok (.istore_n 3, 1) := by decide +kernel
theorem dX11_clears_5 : decode cX11_clears 5 = .ok (.iload_n 1, 1) := by decide +kernel
theorem dX11_clears_6 : decode cX11_clears 6 = .ok (.istore 4, 2) := by decide +kernel
theorem dX11_clears_8 : decode cX11_clears 8 = .ok (.iload 4, 2) := by decide +kernel
theorem dX11_clears_10 : decode cX11_clears 10 = .ok (.iload_n 2, 1) := by decide +kernel
theorem dX11_clears_11 : decode cX11_clears 11 = .ok (.if_icmp .ge 65, 3) := by decide +kernel
theorem dX11_clears_14 : decode cX11_clears 14 = .ok (.iload_n 1, 1) := by decide +kernel
theorem dX11_clears_15 : decode cX11_clears 15 = .ok (.istore 5, 2) := by decide +kernel
theorem dX11_clears_17 : decode cX11_clears 17 = .ok (.iload 5, 2) := by decide +kernel
theorem dX11_clears_19 : decode cX11_clears 19 = .ok (.iload_n 2, 1) := by decide +kernel
theorem dX11_clears_20 : decode cX11_clears 20 = .ok (.if_icmp .ge 50, 3) := by decide +kernel
theorem dX11_clears_23 : decode cX11_clears 23 = .ok (.aload_n 0, 1) := by decide +kernel
theorem dX11_clears_24 : decode cX11_clears 24 = .ok (.getfield 36, 3) := by decide +kernel
theorem dX11_clears_27 : decode cX11_clears 27 = .ok (.bipush 8, 2) := by decide +kernel
theorem dX11_clears_29 : decode cX11_clears 29 = .ok (.iload 4, 2) := by decide +kernel
theorem dX11_clears_31 : decode cX11_clears 31 = .ok (.imul, 1) := by decide +kernel
theorem dX11_clears_32 : decode cX11_clears 32 = .ok (.iload 5, 2) := by decide +kernel
theorem dX11_clears_34 : decode cX11_clears 34 = .ok (.iadd, 1) := by decide +kernel
theorem dX11_clears_35 : decode cX11_clears 35 = .ok (.iaload, 1) := by decide +kernel
theorem dX11_clears_36 : decode cX11_clears 36 = .ok (.invokestatic 220, 3) := by decide +kernel
theorem dX11_clears_39 : decode cX11_clears 39 = .ok (.aload_n 0, 1) := by decide +kernel
theorem dX11_clears_40 : decode cX11_clears 40 = .ok (.getfield 36, 3) := by decide +kernel
theorem dX11_clears_43 : decode cX11_clears 43 = .ok (.iload_n 3, 1) := by decide +kernel
theorem dX11_clears_44 : decode cX11_clears 44 = .ok (.iaload, 1) := by decide +kernel
theorem dX11_clears_45 : decode cX11_clears 45 = .ok (.invokestatic 220, 3) := by decide +kernel
theorem dX11_clears_48 : decode cX11_clears 48 = .ok (.if_icmp .ge 14, 3) := by decide +kernel
theorem dX11_clears_51 : decode cX11_clears 51 = .ok (.bipush 8, 2) := by decide +kernel
theorem dX11_clears_53 : decode cX11_clears 53 = .ok (.iload 4, 2) := by decide +kernel
theorem dX11_clears_55 : decode cX11_clears 55 = .ok (.imul, 1) := by decide +kernel
theorem dX11_clears_56 : decode cX11_clears 56 = .ok (.iload 5, 2) := by decide +kernel
theorem dX11_clears_58 : decode cX11_clears 58 = .ok (.iadd, 1) := by decide +kernel
theorem dX11_clears_59 : decode cX11_clears 59 = .ok (.goto 4, 3) := by decide +kernel
theorem dX11_clears_62 : decode cX11_clears 62 = .ok (.iload_n 3, 1) := by decide +kernel
theorem dX11_clears_63 : decode cX11_clears 63 = .ok (.istore_n 3, 1) := by decide +kernel
theorem dX11_clears_64 : decode cX11_clears 64 = .ok (.iinc 5 1, 3) := by decide +kernel
theorem dX11_clears_67 : decode cX11_clears 67 = .ok (.goto (-50), 3) := by decide +kernel
theorem dX11_clears_70 : decode cX11_clears 70 = .ok (.iinc 4 1, 3) := by decide +kernel
theorem dX11_clears_73 : decode cX11_clears 73 = .ok (.goto (-65), 3) := by decide +kernel
theorem dX11_clears_76 : decode cX11_clears 76 = .ok (.iload_n 3, 1) := by decide +kernel
theorem dX11_clears_77 : decode cX11_clears 77 = .ok (.bipush 8, 2) := by decide +kernel
theorem dX11_clears_79 : decode cX11_clears 79 = .ok (.idiv, 1) := by decide +kernel
theorem dX11_clears_80 : decode cX11_clears 80 = .ok (.istore 4, 2) := by decide +kernel
theorem dX11_clears_82 : decode cX11_clears 82 = .ok (.iload_n 3, 1) := by decide +kernel
theorem dX11_clears_83 : decode cX11_clears 83 = .ok (.bipush 8, 2) := by decide +kernel
theorem dX11_clears_85 : decode cX11_clears 85 = .ok (.irem, 1) := by decide +kernel
theorem dX11_clears_86 : decode cX11_clears 86 = .ok (.istore 5, 2) := by decide +kernel
theorem dX11_clears_88 : decode cX11_clears 88 = .ok (.iconst 0, 1) := by decide +kernel
theorem dX11_clears_89 : decode cX11_clears 89 = .ok (.istore 6, 2) := by decide +kernel
theorem dX11_clears_91 : decode cX11_clears 91 = .ok (.iload 6, 2) := by decide +kernel
theorem dX11_clears_93 : decode cX11_clears 93 = .ok (.bipush 8, 2) := by decide +kernel
theorem dX11_clears_95 : decode cX11_clears 95 = .ok (.if_icmp .ge 63, 3) := by decide +kernel
theorem dX11_clears_98 : decode cX11_clears 98 = .ok (.aload_n 0, 1) := by decide +kernel
theorem dX11_clears_99 : decode cX11_clears 99 = .ok (.getfield 36, 3) := by decide +kernel
theorem dX11_clears_102 : decode cX11_clears 102 = .ok (.bipush 8, 2) := by decide +kernel
theorem dX11_clears_104 : decode cX11_clears 104 = .ok (.iload 4, 2) := by decide +kernel
theorem dX11_clears_106 : decode cX11_clears 106 = .ok (.imul, 1) := by decide +kernel
theorem dX11_clears_107 : decode cX11_clears 107 = .ok (.iload 6, 2) := by decide +kernel
theorem dX11_clears_109 : decode cX11_clears 109 = .ok (.iadd, 1) := by decide +kernel
theorem dX11_clears_110 : decode cX11_clears 110 = .ok (.iaload, 1) := by decide +kernel
theorem dX11_clears_111 : decode cX11_clears 111 = .ok (.istore 7, 2) := by decide +kernel
theorem dX11_clears_113 : decode cX11_clears 113 = .ok (.aload_n 0, 1) := by decide +kernel
theorem dX11_clears_114 : decode cX11_clears 114 = .ok (.getfield 36, 3) := by decide +kernel
theorem dX11_clears_117 : decode cX11_clears 117 = .ok (.bipush 8, 2) := by decide +kernel
theorem dX11_clears_119 : decode cX11_clears 119 = .ok (.iload 4, 2) := by decide +kernel
theorem dX11_clears_121 : decode cX11_clears 121 = .ok (.imul, 1) := by decide +kernel
theorem dX11_clears_122 : decode cX11_clears 122 = .ok (.iload 6, 2) := by decide +kernel
theorem dX11_clears_124 : decode cX11_clears 124 = .ok (.iadd, 1) := by decide +kernel
theorem dX11_clears_125 : decode cX11_clears 125 = .ok (.aload_n 0, 1) := by decide +kernel
theorem dX11_clears_126 : decode cX11_clears 126 = .ok (.getfield 36, 3) := by decide +kernel
theorem dX11_clears_129 : decode cX11_clears 129 = .ok (.bipush 8, 2) := by decide +kernel
theorem dX11_clears_131 : decode cX11_clears 131 = .ok (.iload_n 1, 1) := by decide +kernel
theorem dX11_clears_132 : decode cX11_clears 132 = .ok (.imul, 1) := by decide +kernel
theorem dX11_clears_133 : decode cX11_clears 133 = .ok (.iload 6, 2) := by decide +kernel
theorem dX11_clears_135 : decode cX11_clears 135 = .ok (.iadd, 1) := by decide +kernel
theorem dX11_clears_136 : decode cX11_clears 136 = .ok (.iaload, 1) := by decide +kernel
theorem dX11_clears_137 : decode cX11_clears 137 = .ok (.iastore, 1) := by decide +kernel
theorem dX11_clears_138 : decode cX11_clears 138 = .ok (.aload_n 0, 1) := by decide +kernel
theorem dX11_clears_139 : decode cX11_clears 139 = .ok (.getfield 36, 3) := by decide +kernel
theorem dX11_clears_142 : decode cX11_clears 142 = .ok (.bipush 8, 2) := by decide +kernel
theorem dX11_clears_144 : decode cX11_clears 144 = .ok (.iload_n 1, 1) := by decide +kernel
theorem dX11_clears_145 : decode cX11_clears 145 = .ok (.imul, 1) := by decide +kernel
theorem dX11_clears_146 : decode cX11_clears 146 = .ok (.iload 6, 2) := by decide +kernel
theorem dX11_clears_148 : decode cX11_clears 148 = .ok (.iadd, 1) := by decide +kernel
theorem dX11_clears_149 : decode cX11_clears 149 = .ok (.iload 7, 2) := by decide +kernel
theorem dX11_clears_151 : decode cX11_clears 151 = .ok (.iastore, 1) := by decide +kernel
theorem dX11_clears_152 : decode cX11_clears 152 = .ok (.iinc 6 1, 3) := by decide +kernel
theorem dX11_clears_155 : decode cX11_clears 155 = .ok (.goto (-64), 3) := by decide +kernel
theorem dX11_clears_158 : decode cX11_clears 158 = .ok (.iconst 0, 1) := by decide +kernel
theorem dX11_clears_159 : decode cX11_clears 159 = .ok (.istore 6, 2) := by decide +kernel
theorem dX11_clears_161 : decode cX11_clears 161 = .ok (.iload 6, 2) := by decide +kernel
theorem dX11_clears_163 : decode cX11_clears 163 = .ok (.bipush 8, 2) := by decide +kernel
theorem dX11_clears_165 : decode cX11_clears 165 = .ok (.if_icmp .ge 63, 3) := by decide +kernel
theorem dX11_clears_168 : decode cX11_clears 168 = .ok (.aload_n 0, 1) := by decide +kernel
theorem dX11_clears_169 : decode cX11_clears 169 = .ok (.getfield 36, 3) := by decide +kernel
theorem dX11_clears_172 : decode cX11_clears 172 = .ok (.bipush 8, 2) := by decide +kernel
theorem dX11_clears_174 : decode cX11_clears 174 = .ok (.iload 6, 2) := by decide +kernel
theorem dX11_clears_176 : decode cX11_clears 176 = .ok (.imul, 1) := by decide +kernel
theorem dX11_clears_177 : decode cX11_clears 177 = .ok (.iload 5, 2) := by decide +kernel
theorem dX11_clears_179 : decode cX11_clears 179 = .ok (.iadd, 1) := by decide +kernel
theorem dX11_clears_180 : decode cX11_clears 180 = .ok (.iaload, 1) := by decide +kernel
theorem dX11_clears_181 : decode cX11_clears 181 = .ok (.istore 7, 2) := by decide +kernel
theorem dX11_clears_183 : decode cX11_clears 183 = .ok (.aload_n 0, 1) := by decide +kernel
theorem dX11_clears_184 : decode cX11_clears 184 = .ok (.getfield 36, 3) := by decide +kernel
theorem dX11_clears_187 : decode cX11_clears 187 = .ok (.bipush 8, 2) := by decide +kernel
theorem dX11_clears_189 : decode cX11_clears 189 = .ok (.iload 6, 2) := by decide +kernel
theorem dX11_clears_191 : decode cX11_clears 191 = .ok (.imul, 1) := by decide +kernel
theorem dX11_clears_192 : decode cX11_clears 192 = .ok (.iload 5, 2) := by decide +kernel
theorem dX11_clears_194 : decode cX11_clears 194 = .ok (.iadd, 1) := by decide +kernel
theorem dX11_clears_195 : decode cX11_clears 195 = .ok (.aload_n 0, 1) := by decide +kernel
theorem dX11_clears_196 : decode cX11_clears 196 = .ok (.getfield 36, 3) := by decide +kernel
theorem dX11_clears_199 : decode cX11_clears 199 = .ok (.bipush 8, 2) := by decide +kernel
theorem dX11_clears_201 : decode cX11_clears 201 = .ok (.iload 6, 2) := by decide +kernel
theorem dX11_clears_203 : decode cX11_clears 203 = .ok (.imul, 1) := by decide +kernel
theorem dX11_clears_204 : decode cX11_clears 204 = .ok (.iload_n 1, 1) := by decide +kernel
theorem dX11_clears_205 : decode cX11_clears 205 = .ok (.iadd, 1) := by decide +kernel
theorem dX11_clears_206 : decode cX11_clears 206 = .ok (.iaload, 1) := by decide +kernel
theorem dX11_clears_207 : decode cX11_clears 207 = .ok (.iastore, 1) := by decide +kernel
theorem dX11_clears_208 : decode cX11_clears 208 = .ok (.aload_n 0, 1) := by decide +kernel
theorem dX11_clears_209 : decode cX11_clears 209 = .ok (.getfield 36, 3) := by decide +kernel
theorem dX11_clears_212 : decode cX11_clears 212 = .ok (.bipush 8, 2) := by decide +kernel
theorem dX11_clears_214 : decode cX11_clears 214 = .ok (.iload 6, 2) := by decide +kernel
theorem dX11_clears_216 : decode cX11_clears 216 = .ok (.imul, 1) := by decide +kernel
theorem dX11_clears_217 : decode cX11_clears 217 = .ok (.iload_n 1, 1) := by decide +kernel
theorem dX11_clears_218 : decode cX11_clears 218 = .ok (.iadd, 1) := by decide +kernel
theorem dX11_clears_219 : decode cX11_clears 219 = .ok (.iload 7, 2) := by decide +kernel
theorem dX11_clears_221 : decode cX11_clears 221 = .ok (.iastore, 1) := by decide +kernel
theorem dX11_clears_222 : decode cX11_clears 222 = .ok (.iinc 6 1, 3) := by decide +kernel
theorem dX11_clears_225 : decode cX11_clears 225 = .ok (.goto (-64), 3) := by decide +kernel
theorem dX11_clears_228 : decode cX11_clears 228 = .ok (.aload_n 0, 1) := by decide +kernel
theorem dX11_clears_229 : decode cX11_clears 229 = .ok (.getfield 36, 3) := by decide +kernel
theorem dX11_clears_232 : decode cX11_clears 232 = .ok (.bipush 9, 2) := by decide +kernel
theorem dX11_clears_234 : decode cX11_clears 234 = .ok (.iload_n 1, 1) := by decide +kernel
theorem dX11_clears_235 : decode cX11_clears 235 = .ok (.imul, 1) := by decide +kernel
theorem dX11_clears_236 : decode cX11_clears 236 = .ok (.iaload, 1) := by decide +kernel
theorem dX11_clears_237 : decode cX11_clears 237 = .ok (.invokestatic 220, 3) := by decide +kernel
theorem dX11_clears_240 : decode cX11_clears 240 = .ok (.istore 6, 2) := by decide +kernel
theorem dX11_clears_242 : decode cX11_clears 242 = .ok (.iload 6, 2) := by decide +kernel
theorem dX11_clears_244 : decode cX11_clears 244 = .ok (.bipush 8, 2) := by decide +kernel
theorem dX11_clears_246 : decode cX11_clears 246 = .ok (.if_icmp .ne 6, 3) := by decide +kernel
theorem dX11_clears_249 : decode cX11_clears 249 = .ok (.iload 6, 2) := by decide +kernel
theorem dX11_clears_251 : decode cX11_clears 251 = .ok (.ireturn, 1) := by decide +kernel
theorem dX11_clears_252 : decode cX11_clears 252 = .ok (.aload_n 0, 1) := by decide +kernel
theorem dX11_clears_253 : decode cX11_clears 253 = .ok (.getfield 36, 3) := by decide +kernel
theorem dX11_clears_256 : decode cX11_clears 256 = .ok (.bipush 9, 2) := by decide +kernel
theorem dX11_clears_258 : decode cX11_clears 258 = .ok (.iload_n 1, 1) := by decide +kernel
theorem dX11_clears_259 : decode cX11_clears 259 = .ok (.imul, 1) := by decide +kernel
theorem dX11_clears_260 : decode cX11_clears 260 = .ok (.iaload, 1) := by decide +kernel
theorem dX11_clears_261 : decode cX11_clears 261 = .ok (.iload 6, 2) := by decide +kernel
theorem dX11_clears_263 : decode cX11_clears 263 = .ok (.ishr, 1) := by decide +kernel
theorem dX11_clears_264 : decode cX11_clears 264 = .ok (.invokestatic 223, 3) := by decide +kernel
theorem dX11_clears_267 : decode cX11_clears 267 = .ok (.istore 7, 2) := by decide +kernel
theorem dX11_clears_269 : decode cX11_clears 269 = .ok (.iload_n 1, 1) := by decide +kernel
theorem dX11_clears_270 : decode cX11_clears 270 = .ok (.iconst 1, 1) := by decide +kernel
theorem dX11_clears_271 : decode cX11_clears 271 = .ok (.iadd, 1) := by decide +kernel
theorem dX11_clears_272 : decode cX11_clears 272 = .ok (.istore 8, 2) := by decide +kernel
theorem dX11_clears_274 : decode cX11_clears 274 = .ok (.iload 8, 2) := by decide +kernel
theorem dX11_clears_276 : decode cX11_clears 276 = .ok (.iload_n 2, 1) := by decide +kernel
theorem dX11_clears_277 : decode cX11_clears 277 = .ok (.if_icmp .ge 96, 3) := by decide +kernel
theorem dX11_clears_280 : decode cX11_clears 280 = .ok (.aload_n 0, 1) := by decide +kernel
theorem dX11_clears_281 : decode cX11_clears 281 = .ok (.getfield 36, 3) := by decide +kernel
theorem dX11_clears_284 : decode cX11_clears 284 = .ok (.bipush 8, 2) := by decide +kernel
theorem dX11_clears_286 : decode cX11_clears 286 = .ok (.iload 8, 2) := by decide +kernel
theorem dX11_clears_288 : decode cX11_clears 288 = .ok (.imul, 1) := by decide +kernel
theorem dX11_clears_289 : decode cX11_clears 289 = .ok (.iload_n 1, 1) := by decide +kernel
theorem dX11_clears_290 : decode cX11_clears 290 = .ok (.iadd, 1) := by decide +kernel
theorem dX11_clears_291 : decode cX11_clears 291 = .ok (.iaload, 1) := by decide +kernel
theorem dX11_clears_292 : decode cX11_clears 292 = .ok (.iload 6, 2) := by decide +kernel
theorem dX11_clears_294 : decode cX11_clears 294 = .ok (.ishr, 1) := by decide +kernel
theorem dX11_clears_295 : decode cX11_clears 295 = .ok (.iload 7, 2) := by decide +kernel
theorem dX11_clears_297 : decode cX11_clears 297 = .ok (.imul, 1) := by decide +kernel
theorem dX11_clears_298 : decode cX11_clears 298 = .ok (.sipush 256, 3) := by decide +kernel
theorem dX11_clears_301 : decode cX11_clears 301 = .ok (.irem, 1) := by decide +kernel
theorem dX11_clears_302 : decode cX11_clears 302 = .ok (.istore 9, 2) := by decide +kernel
theorem dX11_clears_304 : decode cX11_clears 304 = .ok (.iload_n 1, 1) := by decide +kernel
theorem dX11_clears_305 : decode cX11_clears 305 = .ok (.istore 10, 2) := by decide +kernel
theorem dX11_clears_307 : decode cX11_clears 307 = .ok (.iload 10, 2) := by decide +kernel
theorem dX11_clears_309 : decode cX11_clears 309 = .ok (.iload_n 2, 1) := by decide +kernel
theorem dX11_clears_310 : decode cX11_clears 310 = .ok (.if_icmp .ge 57, 3) := by decide +kernel
theorem dX11_clears_313 : decode cX11_clears 313 = .ok (.aload_n 0, 1) := by decide +kernel
theorem dX11_clears_314 : decode cX11_clears 314 = .ok (.getfield 36, 3) := by decide +kernel
theorem dX11_clears_317 : decode cX11_clears 317 = .ok (.bipush 8, 2) := by decide +kernel
theorem dX11_clears_319 : decode cX11_clears 319 = .ok (.iload 8, 2) := by decide +kernel
theorem dX11_clears_321 : decode cX11_clears 321 = .ok (.imul, 1) := by decide +kernel
theorem dX11_clears_322 : decode cX11_clears 322 = .ok (.iload 10, 2) := by decide +kernel
theorem dX11_clears_324 : decode cX11_clears 324 = .ok (.iadd, 1) := by decide +kernel
theorem dX11_clears_325 : decode cX11_clears 325 = .ok (.aload_n 0, 1) := by decide +kernel
theorem dX11_clears_326 : decode cX11_clears 326 = .ok (.getfield 36, 3) := by decide +kernel
theorem dX11_clears_329 : decode cX11_clears 329 = .ok (.bipush 8, 2) := by decide +kernel
theorem dX11_clears_331 : decode cX11_clears 331 = .ok (.iload 8, 2) := by decide +kernel
theorem dX11_clears_333 : decode cX11_clears 333 = .ok (.imul, 1) := by decide +kernel
theorem dX11_clears_334 : decode cX11_clears 334 = .ok (.iload 10, 2) := by decide +kernel
theorem dX11_clears_336 : decode cX11_clears 336 = .ok (.iadd, 1) := by decide +kernel
theorem dX11_clears_337 : decode cX11_clears 337 = .ok (.iaload, 1) := by decide +kernel
theorem dX11_clears_338 : decode cX11_clears 338 = .ok (.iload 9, 2) := by decide +kernel
theorem dX11_clears_340 : decode cX11_clears 340 = .ok (.aload_n 0, 1) := by decide +kernel
theorem dX11_clears_341 : decode cX11_clears 341 = .ok (.getfield 36, 3) := by decide +kernel
theorem dX11_clears_344 : decode cX11_clears 344 = .ok (.bipush 8, 2) := by decide +kernel
theorem dX11_clears_346 : decode cX11_clears 346 = .ok (.iload_n 1, 1) := by decide +kernel
theorem dX11_clears_347 : decode cX11_clears 347 = .ok (.imul, 1) := by decide +kernel
theorem dX11_clears_348 : decode cX11_clears 348 = .ok (.iload 10, 2) := by decide +kernel
theorem dX11_clears_350 : decode cX11_clears 350 = .ok (.iadd, 1) := by decide +kernel
theorem dX11_clears_351 : decode cX11_clears 351 = .ok (.iaload, 1) := by decide +kernel
theorem dX11_clears_352 : decode cX11_clears 352 = .ok (.imul, 1) := by decide +kernel
theorem dX11_clears_353 : decode cX11_clears 353 = .ok (.isub, 1) := by decide +kernel
theorem dX11_clears_354 : decode cX11_clears 354 = .ok (.sipush 256, 3) := by decide +kernel
theorem dX11_clears_357 : decode cX11_clears 357 = .ok (.invokestatic 79, 3) := by decide +kernel
theorem dX11_clears_360 : decode cX11_clears 360 = .ok (.iastore, 1) := by decide +kernel
theorem dX11_clears_361 : decode cX11_clears 361 = .ok (.iinc 10 1, 3) := by decide +kernel
theorem dX11_clears_364 : decode cX11_clears 364 = .ok (.goto (-57), 3) := by decide +kernel
theorem dX11_clears_367 : decode cX11_clears 367 = .ok (.iinc 8 1, 3) := by decide +kernel
theorem dX11_clears_370 : decode cX11_clears 370 = .ok (.goto (-96), 3) := by decide +kernel
theorem dX11_clears_373 : decode cX11_clears 373 = .ok (.iload 6, 2) := by decide +kernel
theorem dX11_clears_375 : decode cX11_clears 375 = .ok (.ireturn, 1) := by decide +kernel
theorem dX11_order_0 : decode cX11_order 0 = .ok (.aload_n 0, 1) := by decide +kernel
theorem dX11_order_1 : decode cX11_order 1 = .ok (.iload_n 1, 1) := by decide +kernel
theorem dX11_order_2 : decode cX11_order 2 = .ok (.invokevirtual 226, 3) := by decide +kernel
theorem dX11_order_5 : decode cX11_order 5 = .ok (.ifCond .le 5, 3) := by decide +kernel
theorem dX11_order_8 : decode cX11_order 8 = .ok (.lconst 0, 1) := by decide +kernel
theorem dX11_order_9 : decode cX11_order 9 = .ok (.lreturn, 1) := by decide +kernel
theorem dX11_order_10 : decode cX11_order 10 = .ok (.lconst 1, 1) := by decide +kernel
theorem dX11_order_11 : decode cX11_order 11 = .ok (.lstore_n 2, 1) := by decide +kernel
theorem dX11_order_12 : decode cX11_order 12 = .ok (.iconst 0, 1) := by decide +kernel
theorem dX11_order_13 : decode cX11_order 13 = .ok (.istore 4, 2) := by decide +kernel
theorem dX11_order_15 : decode cX11_order 15 = .ok (.iload 4, 2) := by decide +kernel
theorem dX11_order_17 : decode cX11_order 17 = .ok (.aload_n 0, 1) := by decide +kernel
theorem dX11_order_18 : decode cX11_order 18 = .ok (.getfield 214, 3) := by decide +kernel
theorem dX11_order_21 : decode cX11_order 21 = .ok (.if_icmp .ge 19, 3) := by decide +kernel
theorem dX11_order_24 : decode cX11_order 24 = .ok (.lload_n 2, 1) := by decide +kernel
theorem dX11_order_25 : decode cX11_order 25 = .ok (.aload_n 0, 1) := by decide +kernel
theorem dX11_order_26 : decode cX11_order 26 = .ok (.getfield 32, 3) := by decide +kernel
theorem dX11_order_29 : decode cX11_order 29 = .ok (.iload 4, 2) := by decide +kernel
theorem dX11_order_31 : decode cX11_order 31 = .ok (.laload, 1) := by decide +kernel
theorem dX11_order_32 : decode cX11_order 32 = .ok (.lmul, 1) := by decide +kernel
theorem dX11_order_33 : decode cX11_order 33 = .ok (.lstore_n 2, 1) := by decide +kernel
theorem dX11_order_34 : decode cX11_order 34 = .ok (.iinc 4 1, 3) := by decide +kernel
theorem dX11_order_37 : decode cX11_order 37 = .ok (.goto (-22), 3) := by decide +kernel
theorem dX11_order_40 : decode cX11_order 40 = .ok (.lload_n 2, 1) := by decide +kernel
theorem dX11_order_41 : decode cX11_order 41 = .ok (.lreturn, 1) := by decide +kernel
theorem dX11_torsion_0 : decode cX11_torsion 0 = .ok (.iload_n 1, 1) := by decide +kernel
theorem dX11_torsion_1 : decode cX11_torsion 1 = .ok (.invokestatic 147, 3) := by decide +kernel
theorem dX11_torsion_4 : decode cX11_torsion 4 = .ok (.ifCond .eq 8, 3) := by decide +kernel
theorem dX11_torsion_7 : decode cX11_torsion 7 = .ok (.iload_n 2, 1) := by decide +kernel
theorem dX11_torsion_8 : decode cX11_torsion 8 = .ok (.iconst (-1), 1) := by decide +kernel
theorem dX11_torsion_9 : decode cX11_torsion 9 = .ok (.if_icmp .ge 7, 3) := by decide +kernel
theorem dX11_torsion_12 : decode cX11_torsion 12 = .ok (.ldc2_w 229, 3) := by decide +kernel
theorem dX11_torsion_15 : decode cX11_torsion 15 = .ok (.lreturn, 1) := by decide +kernel
theorem dX11_torsion_16 : decode cX11_torsion 16 = .ok (.aload_n 0, 1) := by decide +kernel
theorem dX11_torsion_17 : decode cX11_torsion 17 = .ok (.iload_n 1, 1) := by decide +kernel
theorem dX11_torsion_18 : decode cX11_torsion 18 = .ok (.invokevirtual 231, 3) := by decide +kernel
theorem dX11_torsion_21 : decode cX11_torsion 21 = .ok (.iload_n 2, 1) := by decide +kernel
theorem dX11_torsion_22 : decode cX11_torsion 22 = .ok (.ifCond .ge 11, 3) := by decide +kernel
theorem dX11_torsion_25 : decode cX11_torsion 25 = .ok (.aload_n 0, 1) := by decide +kernel
theorem dX11_torsion_26 : decode cX11_torsion 26 = .ok (.iload_n 1, 1) := by decide +kernel
theorem dX11_torsion_27 : decode cX11_torsion 27 = .ok (.invokevirtual 234, 3) := by decide +kernel
theorem dX11_torsion_30 : decode cX11_torsion 30 = .ok (.goto 23, 3) := by decide +kernel
theorem dX11_torsion_33 : decode cX11_torsion 33 = .ok (.iload_n 2, 1) := by decide +kernel
theorem dX11_torsion_34 : decode cX11_torsion 34 = .ok (.aload_n 0, 1) := by decide +kernel
theorem dX11_torsion_35 : decode cX11_torsion 35 = .ok (.getfield 214, 3) := by decide +kernel
theorem dX11_torsion_38 : decode cX11_torsion 38 = .ok (.if_icmp .ge 12, 3) := by decide +kernel
theorem dX11_torsion_41 : decode cX11_torsion 41 = .ok (.aload_n 0, 1) := by decide +kernel
theorem dX11_torsion_42 : decode cX11_torsion 42 = .ok (.getfield 32, 3) := by decide +kernel
theorem dX11_torsion_45 : decode cX11_torsion 45 = .ok (.iload_n 2, 1) := by decide +kernel
theorem dX11_torsion_46 : decode cX11_torsion 46 = .ok (.laload, 1) := by decide +kernel
theorem dX11_torsion_47 : decode cX11_torsion 47 = .ok (.goto 6, 3) := by decide +kernel
theorem dX11_torsion_50 : decode cX11_torsion 50 = .ok (.ldc2_w 238, 3) := by decide +kernel
theorem dX11_torsion_53 : decode cX11_torsion 53 = .ok (.lreturn, 1) := by decide +kernel
theorem dX11_space_0 : decode cX11_space 0 = .ok (.iload_n 1, 1) := by decide +kernel
theorem dX11_space_1 : decode cX11_space 1 = .ok (.invokestatic 147, 3) := by decide +kernel
theorem dX11_space_4 : decode cX11_space 4 = .ok (.ifCond .eq 15, 3) := by decide +kernel
theorem dX11_space_7 : decode cX11_space 7 = .ok (.iload_n 2, 1) := by decide +kernel
theorem dX11_space_8 : decode cX11_space 8 = .ok (.i2l, 1) := by decide +kernel
theorem dX11_space_9 : decode cX11_space 9 = .ok (.lconst 0, 1) := by decide +kernel
theorem dX11_space_10 : decode cX11_space 10 = .ok (.ldc2_w 240, 3) := by decide +kernel
theorem dX11_space_13 : decode cX11_space 13 = .ok (.invokestatic 63, 3) := by decide +kernel
theorem dX11_space_16 : decode cX11_space 16 = .ok (.ifCond .ne 7, 3) := by decide +kernel
theorem dX11_space_19 : decode cX11_space 19 = .ok (.ldc2_w 193, 3) := by decide +kernel
theorem dX11_space_22 : decode cX11_space 22 = .ok (.lreturn, 1) := by decide +kernel
theorem dX11_space_23 : decode cX11_space 23 = .ok (.iload_n 2, 1) := by decide +kernel
theorem dX11_space_24 : decode cX11_space 24 = .ok (.iconst 4, 1) := by decide +kernel
theorem dX11_space_25 : decode cX11_space 25 = .ok (.if_icmp .ge 16, 3) := by decide +kernel
theorem dX11_space_28 : decode cX11_space 28 = .ok (.aload_n 0, 1) := by decide +kernel
theorem dX11_space_29 : decode cX11_space 29 = .ok (.getfield 7, 3) := by decide +kernel
theorem dX11_space_32 : decode cX11_space 32 = .ok (.bipush 16, 2) := by decide +kernel
theorem dX11_space_34 : decode cX11_space 34 = .ok (.iload_n 1, 1) := by decide +kernel
theorem dX11_space_35 : decode cX11_space 35 = .ok (.imul, 1) := by decide +kernel
theorem dX11_space_36 : decode cX11_space 36 = .ok (.iload_n 2, 1) := by decide +kernel
theorem dX11_space_37 : decode cX11_space 37 = .ok (.iadd, 1) := by decide +kernel
theorem dX11_space_38 : decode cX11_space 38 = .ok (.iaload, 1) := by decide +kernel
theorem dX11_space_39 : decode cX11_space 39 = .ok (.i2l, 1) := by decide +kernel
theorem dX11_space_40 : decode cX11_space 40 = .ok (.lreturn, 1) := by decide +kernel
theorem dX11_space_41 : decode cX11_space 41 = .ok (.iload_n 2, 1) := by decide +kernel
theorem dX11_space_42 : decode cX11_space 42 = .ok (.iconst 5, 1) := by decide +kernel
theorem dX11_space_43 : decode cX11_space 43 = .ok (.if_icmp .ne 14, 3) := by decide +kernel
theorem dX11_space_46 : decode cX11_space 46 = .ok (.aload_n 0, 1) := by decide +kernel
theorem dX11_space_47 : decode cX11_space 47 = .ok (.iload_n 1, 1) := by decide +kernel
theorem dX11_space_48 : decode cX11_space 48 = .ok (.invokevirtual 231, 3) := by decide +kernel
theorem dX11_space_51 : decode cX11_space 51 = .ok (.aload_n 0, 1) := by decide +kernel
theorem dX11_space_52 : decode cX11_space 52 = .ok (.getfield 214, 3) := by decide +kernel
theorem dX11_space_55 : decode cX11_space 55 = .ok (.i2l, 1) := by decide +kernel
theorem dX11_space_56 : decode cX11_space 56 = .ok (.lreturn, 1) := by decide +kernel
theorem dX11_space_57 : decode cX11_space 57 = .ok (.iload_n 2, 1) := by decide +kernel
theorem dX11_space_58 : decode cX11_space 58 = .ok (.iconst 4, 1) := by decide +kernel
theorem dX11_space_59 : decode cX11_space 59 = .ok (.if_icmp .ne 12, 3) := by decide +kernel
theorem dX11_space_62 : decode cX11_space 62 = .ok (.aload_n 0, 1) := by decide +kernel
theorem dX11_space_63 : decode cX11_space 63 = .ok (.iload_n 1, 1) := by decide +kernel
theorem dX11_space_64 : decode cX11_space 64 = .ok (.invokevirtual 226, 3) := by decide +kernel
theorem dX11_space_67 : decode cX11_space 67 = .ok (.i2l, 1) := by decide +kernel
theorem dX11_space_68 : decode cX11_space 68 = .ok (.goto 9, 3) := by decide +kernel
theorem dX11_space_71 : decode cX11_space 71 = .ok (.aload_n 0, 1) := by decide +kernel
theorem dX11_space_72 : decode cX11_space 72 = .ok (.iload_n 1, 1) := by decide +kernel
theorem dX11_space_73 : decode cX11_space 73 = .ok (.invokevirtual 242, 3) := by decide +kernel
theorem dX11_space_76 : decode cX11_space 76 = .ok (.i2l, 1) := by decide +kernel
theorem dX11_space_77 : decode cX11_space 77 = .ok (.lreturn, 1) := by decide +kernel
theorem dX11_fibre_0 : decode cX11_fibre 0 = .ok (.iload_n 1, 1) := by decide +kernel
theorem dX11_fibre_1 : decode cX11_fibre 1 = .ok (.invokestatic 147, 3) := by decide +kernel
theorem dX11_fibre_4 : decode cX11_fibre 4 = .ok (.ifCond .eq 50, 3) := by decide +kernel
theorem dX11_fibre_7 : decode cX11_fibre 7 = .ok (.iload_n 2, 1) := by decide +kernel
theorem dX11_fibre_8 : decode cX11_fibre 8 = .ok (.i2l, 1) := by decide +kernel
theorem dX11_fibre_9 : decode cX11_fibre 9 = .ok (.lconst 0, 1) := by decide +kernel
theorem dX11_fibre_10 : decode cX11_fibre 10 = .ok (.aload_n 0, 1) := by decide +kernel
theorem dX11_fibre_11 : decode cX11_fibre 11 = .ok (.iload_n 1, 1) := by decide +kernel
theorem dX11_fibre_12 : decode cX11_fibre 12 = .ok (.invokevirtual 100, 3) := by decide +kernel
theorem dX11_fibre_15 : decode cX11_fibre 15 = .ok (.iconst 1, 1) := by decide +kernel
theorem dX11_fibre_16 : decode cX11_fibre 16 = .ok (.isub, 1) := by decide +kernel
theorem dX11_fibre_17 : decode cX11_fibre 17 = .ok (.i2l, 1) := by decide +kernel
theorem dX11_fibre_18 : decode cX11_fibre 18 = .ok (.invokestatic 63, 3) := by decide +kernel
theorem dX11_fibre_21 : decode cX11_fibre 21 = .ok (.ifCond .eq 33, 3) := by decide +kernel
theorem dX11_fibre_24 : decode cX11_fibre 24 = .ok (.iload_n 3, 1) := by decide +kernel
theorem dX11_fibre_25 : decode cX11_fibre 25 = .ok (.i2l, 1) := by decide +kernel
theorem dX11_fibre_26 : decode cX11_fibre 26 = .ok (.lconst 0, 1) := by decide +kernel
theorem dX11_fibre_27 : decode cX11_fibre 27 = .ok (.lconst 1, 1) := by decide +kernel
theorem dX11_fibre_28 : decode cX11_fibre 28 = .ok (.invokestatic 63, 3) := by decide +kernel
theorem dX11_fibre_31 : decode cX11_fibre 31 = .ok (.ifCond .eq 23, 3) := by decide +kernel
theorem dX11_fibre_34 : decode cX11_fibre 34 = .ok (.aload_n 0, 1) := by decide +kernel
theorem dX11_fibre_35 : decode cX11_fibre 35 = .ok (.getfield 7, 3) := by decide +kernel
theorem dX11_fibre_38 : decode cX11_fibre 38 = .ok (.bipush 16, 2) := by decide +kernel
theorem dX11_fibre_40 : decode cX11_fibre 40 = .ok (.iload_n 1, 1) := by decide +kernel
theorem dX11_fibre_41 : decode cX11_fibre 41 = .ok (.imul, 1) := by decide +kernel
theorem dX11_fibre_42 : decode cX11_fibre 42 = .ok (.iconst 4, 1) := by decide +kernel
theorem dX11_fibre_43 : decode cX11_fibre 43 = .ok (.iadd, 1) := by decide +kernel
theorem dX11_fibre_44 : decode cX11_fibre 44 = .ok (.iconst 2, 1) := by decide +kernel
theorem dX11_fibre_45 : decode cX11_fibre 45 = .ok (.iload_n 2, 1) := by decide +kernel
theorem dX11_fibre_46 : decode cX11_fibre 46 = .ok (.imul, 1) := by decide +kernel
theorem dX11_fibre_47 : decode cX11_fibre 47 = .ok (.iadd, 1) := by decide +kernel
theorem dX11_fibre_48 : decode cX11_fibre 48 = .ok (.iload_n 3, 1) := by decide +kernel
theorem dX11_fibre_49 : decode cX11_fibre 49 = .ok (.iadd, 1) := by decide +kernel
theorem dX11_fibre_50 : decode cX11_fibre 50 = .ok (.iaload, 1) := by decide +kernel
theorem dX11_fibre_51 : decode cX11_fibre 51 = .ok (.goto 4, 3) := by decide +kernel
theorem dX11_fibre_54 : decode cX11_fibre 54 = .ok (.iconst (-1), 1) := by decide +kernel
theorem dX11_fibre_55 : decode cX11_fibre 55 = .ok (.ireturn, 1) := by decide +kernel
theorem dX11_like_0 : decode cX11_like 0 = .ok (.iload_n 1, 1) := by decide +kernel
theorem dX11_like_1 : decode cX11_like 1 = .ok (.invokestatic 147, 3) := by decide +kernel
theorem dX11_like_4 : decode cX11_like 4 = .ok (.ifCond .eq 10, 3) := by decide +kernel
theorem dX11_like_7 : decode cX11_like 7 = .ok (.iload_n 2, 1) := by decide +kernel
theorem dX11_like_8 : decode cX11_like 8 = .ok (.invokestatic 147, 3) := by decide +kernel
theorem dX11_like_11 : decode cX11_like 11 = .ok (.ifCond .ne 5, 3) := by decide +kernel
theorem dX11_like_14 : decode cX11_like 14 = .ok (.iconst (-1), 1) := by decide +kernel
theorem dX11_like_15 : decode cX11_like 15 = .ok (.ireturn, 1) := by decide +kernel
theorem dX11_like_16 : decode cX11_like 16 = .ok (.aload_n 0, 1) := by decide +kernel
theorem dX11_like_17 : decode cX11_like 17 = .ok (.iload_n 1, 1) := by decide +kernel
theorem dX11_like_18 : decode cX11_like 18 = .ok (.iconst 1, 1) := by decide +kernel
theorem dX11_like_19 : decode cX11_like 19 = .ok (.invokevirtual 160, 3) := by decide +kernel
theorem dX11_like_22 : decode cX11_like 22 = .ok (.aload_n 0, 1) := by decide +kernel
theorem dX11_like_23 : decode cX11_like 23 = .ok (.iload_n 2, 1) := by decide +kernel
theorem dX11_like_24 : decode cX11_like 24 = .ok (.invokevirtual 163, 3) := by decide +kernel
theorem dX11_like_27 : decode cX11_like 27 = .ok (.ifCond .eq 7, 3) := by decide +kernel
theorem dX11_like_30 : decode cX11_like 30 = .ok (.iconst 1, 1) := by decide +kernel
theorem dX11_like_31 : decode cX11_like 31 = .ok (.goto 4, 3) := by decide +kernel
theorem dX11_like_34 : decode cX11_like 34 = .ok (.iconst 0, 1) := by decide +kernel
theorem dX11_like_35 : decode cX11_like 35 = .ok (.aload_n 0, 1) := by decide +kernel
theorem dX11_like_36 : decode cX11_like 36 = .ok (.iload_n 1, 1) := by decide +kernel
theorem dX11_like_37 : decode cX11_like 37 = .ok (.iload_n 2, 1) := by decide +kernel
theorem dX11_like_38 : decode cX11_like 38 = .ok (.invokevirtual 166, 3) := by decide +kernel
theorem dX11_like_41 : decode cX11_like 41 = .ok (.ifCond .eq 7, 3) := by decide +kernel
theorem dX11_like_44 : decode cX11_like 44 = .ok (.iconst 2, 1) := by decide +kernel
theorem dX11_like_45 : decode cX11_like 45 = .ok (.goto 4, 3) := by decide +kernel
theorem dX11_like_48 : decode cX11_like 48 = .ok (.iconst 0, 1) := by decide +kernel
theorem dX11_like_49 : decode cX11_like 49 = .ok (.iadd, 1) := by decide +kernel
theorem dX11_like_50 : decode cX11_like 50 = .ok (.ireturn, 1) := by decide +kernel
theorem dX11_beginWays_0 : decode cX11_beginWays 0 = .ok (.iconst 0, 1) := by decide +kernel
theorem dX11_beginWays_1 : decode cX11_beginWays 1 = .ok (.istore_n 1, 1) := by decide +kernel
theorem dX11_beginWays_2 : decode cX11_beginWays 2 = .ok (.iload_n 1, 1) := by decide +kernel
theorem dX11_beginWays_3 : decode cX11_beginWays 3 = .ok (.bipush 12, 2) := by decide +kernel
theorem dX11_beginWays_5 : decode cX11_beginWays 5 = .ok (.if_icmp .ge 24, 3) := by decide +kernel
theorem dX11_beginWays_8 : decode cX11_beginWays 8 = .ok (.aload_n 0, 1) := by decide +kernel
theorem dX11_beginWays_9 : decode cX11_beginWays 9 = .ok (.getfield 42, 3) := by decide +kernel
theorem dX11_beginWays_12 : decode cX11_beginWays 12 = .ok (.iload_n 1, 1) := by decide +kernel
theorem dX11_beginWays_13 : decode cX11_beginWays 13 = .ok (.iload_n 1, 1) := by decide +kernel
theorem dX11_beginWays_14 : decode cX11_beginWays 14 = .ok (.ifCond .ne 7, 3) := by decide +kernel
theorem dX11_beginWays_17 : decode cX11_beginWays 17 = .ok (.lconst 1, 1) := by decide +kernel
theorem dX11_beginWays_18 : decode cX11_beginWays 18 = .ok (.goto 4, 3) := by decide +kernel
theorem dX11_beginWays_21 : decode cX11_beginWays 21 = .ok (.lconst 0, 1) := by decide +kernel
theorem dX11_beginWays_22 : decode cX11_beginWays 22 = .ok (.lastore, 1) := by decide +kernel
theorem dX11_beginWays_23 : decode cX11_beginWays 23 = .ok (.iinc 1 1, 3) := by decide +kernel
theorem dX11_beginWays_26 : decode cX11_beginWays 26 = .ok (.goto (-24), 3) := by decide +kernel
theorem dX11_beginWays_29 : decode cX11_beginWays 29 = .ok (.return_, 1) := by decide +kernel
theorem dX11_takeThen_0 : decode cX11_takeThen 0 = .ok (.iconst 0, 1) := by decide +kernel
theorem dX11_takeThen_1 : decode cX11_takeThen 1 = .ok (.istore_n 2, 1) := by decide +kernel
theorem dX11_takeThen_2 : decode cX11_takeThen 2 = .ok (.iload_n 2, 1) := by decide +kernel
theorem dX11_takeThen_3 : decode cX11_takeThen 3 = .ok (.iload_n 1, 1) := by decide +kernel
theorem dX11_takeThen_4 : decode cX11_takeThen 4 = .ok (.if_icmp .ge 28, 3) := by decide +kernel
theorem dX11_takeThen_7 : decode cX11_takeThen 7 = .ok (.aload_n 0, 1) := by decide +kernel
theorem dX11_takeThen_8 : decode cX11_takeThen 8 = .ok (.getfield 42, 3) := by decide +kernel
theorem dX11_takeThen_11 : decode cX11_takeThen 11 = .ok (.iload_n 2, 1) := by decide +kernel
theorem dX11_takeThen_12 : decode cX11_takeThen 12 = .ok (.aload_n 0, 1) := by decide +kernel
theorem dX11_takeThen_13 : decode cX11_takeThen 13 = .ok (.getfield 45, 3) := by decide +kernel
theorem dX11_takeThen_16 : decode cX11_takeThen 16 = .ok (.iload_n 2, 1) := by decide +kernel
theorem dX11_takeThen_17 : decode cX11_takeThen 17 = .ok (.laload, 1) := by decide +kernel
theorem dX11_takeThen_18 : decode cX11_takeThen 18 = .ok (.lastore, 1) := by decide +kernel
theorem dX11_takeThen_19 : decode cX11_takeThen 19 = .ok (.aload_n 0, 1) := by decide +kernel
theorem dX11_takeThen_20 : decode cX11_takeThen 20 = .ok (.getfield 45, 3) := by decide +kernel
theorem dX11_takeThen_23 : decode cX11_takeThen 23 = .ok (.iload_n 2, 1) := by decide +kernel
theorem dX11_takeThen_24 : decode cX11_takeThen 24 = .ok (.lconst 0, 1) := by decide +kernel
theorem dX11_takeThen_25 : decode cX11_takeThen 25 = .ok (.lastore, 1) := by decide +kernel
theorem dX11_takeThen_26 : decode cX11_takeThen 26 = .ok (.iinc 2 1, 3) := by decide +kernel
theorem dX11_takeThen_29 : decode cX11_takeThen 29 = .ok (.goto (-27), 3) := by decide +kernel
theorem dX11_takeThen_32 : decode cX11_takeThen 32 = .ok (.return_, 1) := by decide +kernel
theorem dX11_maps_0 : decode cX11_maps 0 = .ok (.iload_n 1, 1) := by decide +kernel
theorem dX11_maps_1 : decode cX11_maps 1 = .ok (.invokestatic 147, 3) := by decide +kernel
theorem dX11_maps_4 : decode cX11_maps 4 = .ok (.ifCond .eq 17, 3) := by decide +kernel
theorem dX11_maps_7 : decode cX11_maps 7 = .ok (.iload_n 2, 1) := by decide +kernel
theorem dX11_maps_8 : decode cX11_maps 8 = .ok (.i2l, 1) := by decide +kernel
theorem dX11_maps_9 : decode cX11_maps 9 = .ok (.ldc2_w 174, 3) := by decide +kernel
theorem dX11_maps_12 : decode cX11_maps 12 = .ok (.ldc2_w 245, 3) := by decide +kernel
theorem dX11_maps_15 : decode cX11_maps 15 = .ok (.invokestatic 63, 3) := by decide +kernel
theorem dX11_maps_18 : decode cX11_maps 18 = .ok (.ifCond .ne 7, 3) := by decide +kernel
theorem dX11_maps_21 : decode cX11_maps 21 = .ok (.ldc2_w 229, 3) := by decide +kernel
theorem dX11_maps_24 : decode cX11_maps 24 = .ok (.lreturn, 1) := by decide +kernel
theorem dX11_maps_25 : decode cX11_maps 25 = .ok (.aload_n 0, 1) := by decide +kernel
theorem dX11_maps_26 : decode cX11_maps 26 = .ok (.iload_n 1, 1) := by decide +kernel
theorem dX11_maps_27 : decode cX11_maps 27 = .ok (.iload_n 2, 1) := by decide +kernel
theorem dX11_maps_28 : decode cX11_maps 28 = .ok (.invokevirtual 247, 3) := by decide +kernel
theorem dX11_maps_31 : decode cX11_maps 31 = .ok (.lreturn, 1) := by decide +kernel
theorem dX11_mapsBy_0 : decode cX11_mapsBy 0 = .ok (.aload_n 0, 1) := by decide +kernel
theorem dX11_mapsBy_1 : decode cX11_mapsBy 1 = .ok (.getfield 7, 3) := by decide +kernel
theorem dX11_mapsBy_4 : decode cX11_mapsBy 4 = .ok (.bipush 16, 2) := by decide +kernel
theorem dX11_mapsBy_6 : decode cX11_mapsBy 6 = .ok (.iload_n 1, 1) := by decide +kernel
theorem dX11_mapsBy_7 : decode cX11_mapsBy 7 = .ok (.imul, 1) := by decide +kernel
theorem dX11_mapsBy_8 : decode cX11_mapsBy 8 = .ok (.iconst 0, 1) := by decide +kernel
theorem dX11_mapsBy_9 : decode cX11_mapsBy 9 = .ok (.iadd, 1) := by decide +kernel
theorem dX11_mapsBy_10 : decode cX11_mapsBy 10 = .ok (.iaload, 1) := by decide +kernel
theorem dX11_mapsBy_11 : decode cX11_mapsBy 11 = .ok (.istore_n 3, 1) := by decide +kernel
theorem dX11_mapsBy_12 : decode cX11_mapsBy 12 = .ok (.aload_n 0, 1) := by decide +kernel
theorem dX11_mapsBy_13 : decode cX11_mapsBy 13 = .ok (.getfield 7, 3) := by decide +kernel
theorem dX11_mapsBy_16 : decode cX11_mapsBy 16 = .ok (.bipush 16, 2) := by decide +kernel
theorem dX11_mapsBy_18 : decode cX11_mapsBy 18 = .ok (.iload_n 1, 1) := by decide +kernel
theorem dX11_mapsBy_19 : decode cX11_mapsBy 19 = .ok (.imul, 1) := by decide +kernel
theorem dX11_mapsBy_20 : decode cX11_mapsBy 20 = .ok (.iconst 1, 1) := by decide +kernel
theorem dX11_mapsBy_21 : decode cX11_mapsBy 21 = .ok (.iadd, 1) := by decide +kernel
theorem dX11_mapsBy_22 : decode cX11_mapsBy 22 = .ok (.iaload, 1) := by decide +kernel
theorem dX11_mapsBy_23 : decode cX11_mapsBy 23 = .ok (.istore 4, 2) := by decide +kernel
theorem dX11_mapsBy_25 : decode cX11_mapsBy 25 = .ok (.lconst 0, 1) := by decide +kernel
theorem dX11_mapsBy_26 : decode cX11_mapsBy 26 = .ok (.lstore 5, 2) := by decide +kernel
theorem dX11_mapsBy_28 : decode cX11_mapsBy 28 = .ok (.iconst 0, 1) := by decide +kernel
theorem dX11_mapsBy_29 : decode cX11_mapsBy 29 = .ok (.istore 7, 2) := by decide +kernel
theorem dX11_mapsBy_31 : decode cX11_mapsBy 31 = .ok (.iload 7, 2) := by decide +kernel
theorem dX11_mapsBy_33 : decode cX11_mapsBy 33 = .ok (.iload_n 2, 1) := by decide +kernel
theorem dX11_mapsBy_34 : decode cX11_mapsBy 34 = .ok (.if_icmp .ge 109, 3) := by decide +kernel
theorem dX11_mapsBy_37 : decode cX11_mapsBy 37 = .ok (.iload_n 3, 1) := by decide +kernel
theorem dX11_mapsBy_38 : decode cX11_mapsBy 38 = .ok (.ifCond .eq 12, 3) := by decide +kernel
theorem dX11_mapsBy_41 : decode cX11_mapsBy 41 = .ok (.iconst 2, 1) := by decide +kernel
theorem dX11_mapsBy_42 : decode cX11_mapsBy 42 = .ok (.iload 7, 2) := by decide +kernel
theorem dX11_mapsBy_44 : decode cX11_mapsBy 44 = .ok (.imul, 1) := by decide +kernel
theorem dX11_mapsBy_45 : decode cX11_mapsBy 45 = .ok (.iload_n 2, 1) := by decide +kernel
theorem dX11_mapsBy_46 : decode cX11_mapsBy 46 = .ok (.irem, 1) := by decide +kernel
theorem dX11_mapsBy_47 : decode cX11_mapsBy 47 = .ok (.ifCond .ne 90, 3) := by decide +kernel
theorem dX11_mapsBy_50 : decode cX11_mapsBy 50 = .ok (.aload_n 0, 1) := by decide +kernel
theorem dX11_mapsBy_51 : decode cX11_mapsBy 51 = .ok (.invokevirtual 251, 3) := by decide +kernel
theorem dX11_mapsBy_54 : decode cX11_mapsBy 54 = .ok (.iconst 0, 1) := by decide +kernel
theorem dX11_mapsBy_55 : decode cX11_mapsBy 55 = .ok (.istore 8, 2) := by decide +kernel
theorem dX11_mapsBy_57 : decode cX11_mapsBy 57 = .ok (.iload 8, 2) := by decide +kernel
theorem dX11_mapsBy_59 : decode cX11_mapsBy 59 = .ok (.aload_n 0, 1) := by decide +kernel
theorem dX11_mapsBy_60 : decode cX11_mapsBy 60 = .ok (.iload_n 1, 1) := by decide +kernel
theorem dX11_mapsBy_61 : decode cX11_mapsBy 61 = .ok (.invokevirtual 100, 3) := by decide +kernel
theorem dX11_mapsBy_64 : decode cX11_mapsBy 64 = .ok (.if_icmp .ge 19, 3) := by decide +kernel
theorem dX11_mapsBy_67 : decode cX11_mapsBy 67 = .ok (.aload_n 0, 1) := by decide +kernel
theorem dX11_mapsBy_68 : decode cX11_mapsBy 68 = .ok (.iload_n 1, 1) := by decide +kernel
theorem dX11_mapsBy_69 : decode cX11_mapsBy 69 = .ok (.iload 8, 2) := by decide +kernel
theorem dX11_mapsBy_71 : decode cX11_mapsBy 71 = .ok (.iload 7, 2) := by decide +kernel
theorem dX11_mapsBy_73 : decode cX11_mapsBy 73 = .ok (.iload_n 2, 1) := by decide +kernel
theorem dX11_mapsBy_74 : decode cX11_mapsBy 74 = .ok (.invokevirtual 254, 3) := by decide +kernel
theorem dX11_mapsBy_77 : decode cX11_mapsBy 77 = .ok (.iinc 8 1, 3) := by decide +kernel
theorem dX11_mapsBy_80 : decode cX11_mapsBy 80 = .ok (.goto (-23), 3) := by decide +kernel
theorem dX11_mapsBy_83 : decode cX11_mapsBy 83 = .ok (.iconst 0, 1) := by decide +kernel
theorem dX11_mapsBy_84 : decode cX11_mapsBy 84 = .ok (.istore 8, 2) := by decide +kernel
theorem dX11_mapsBy_86 : decode cX11_mapsBy 86 = .ok (.iload 8, 2) := by decide +kernel
theorem dX11_mapsBy_88 : decode cX11_mapsBy 88 = .ok (.iload 4, 2) := by decide +kernel
theorem dX11_mapsBy_90 : decode cX11_mapsBy 90 = .ok (.if_icmp .ge 19, 3) := by decide +kernel
theorem dX11_mapsBy_93 : decode cX11_mapsBy 93 = .ok (.iload_n 3, 1) := by decide +kernel
theorem dX11_mapsBy_94 : decode cX11_mapsBy 94 = .ok (.iconst 1, 1) := by decide +kernel
theorem dX11_mapsBy_95 : decode cX11_mapsBy 95 = .ok (.if_icmp .ne 14, 3) := by decide +kernel
theorem dX11_mapsBy_98 : decode cX11_mapsBy 98 = .ok (.aload_n 0, 1) := by decide +kernel
theorem dX11_mapsBy_99 : decode cX11_mapsBy 99 = .ok (.iload_n 2, 1) := by decide +kernel
theorem dX11_mapsBy_100 : decode cX11_mapsBy 100 = .ok (.invokevirtual 258, 3) := by decide +kernel
theorem dX11_mapsBy_103 : decode cX11_mapsBy 103 = .ok (.iinc 8 1, 3) := by decide +kernel
theorem dX11_mapsBy_106 : decode cX11_mapsBy 106 = .ok (.goto (-20), 3) := by decide +kernel
theorem dX11_mapsBy_109 : decode cX11_mapsBy 109 = .ok (.lload 5, 2) := by decide +kernel
theorem dX11_mapsBy_111 : decode cX11_mapsBy 111 = .ok (.aload_n 0, 1) := by decide +kernel
theorem dX11_mapsBy_112 : decode cX11_mapsBy 112 = .ok (.getfield 42, 3) := by decide +kernel
theorem dX11_mapsBy_115 : decode cX11_mapsBy 115 = .ok (.aload_n 0, 1) := by decide +kernel
theorem dX11_mapsBy_116 : decode cX11_mapsBy 116 = .ok (.getfield 7, 3) := by decide +kernel
theorem dX11_mapsBy_119 : decode cX11_mapsBy 119 = .ok (.bipush 16, 2) := by decide +kernel
theorem dX11_mapsBy_121 : decode cX11_mapsBy 121 = .ok (.iload_n 1, 1) := by decide +kernel
theorem dX11_mapsBy_122 : decode cX11_mapsBy 122 = .ok (.imul, 1) := by decide +kernel
theorem dX11_mapsBy_123 : decode cX11_mapsBy 123 = .ok (.iconst 2, 1) := by decide +kernel
theorem dX11_mapsBy_124 : decode cX11_mapsBy 124 = .ok (.iadd, 1) := by decide +kernel
theorem dX11_mapsBy_125 : decode cX11_mapsBy 125 = .ok (.iaload, 1) := by decide +kernel
theorem dX11_mapsBy_126 : decode cX11_mapsBy 126 = .ok (.iload 7, 2) := by decide +kernel
theorem dX11_mapsBy_128 : decode cX11_mapsBy 128 = .ok (.imul, 1) := by decide +kernel
theorem dX11_mapsBy_129 : decode cX11_mapsBy 129 = .ok (.iload_n 2, 1) := by decide +kernel
theorem dX11_mapsBy_130 : decode cX11_mapsBy 130 = .ok (.invokestatic 79, 3) := by decide +kernel
theorem dX11_mapsBy_133 : decode cX11_mapsBy 133 = .ok (.laload, 1) := by decide +kernel
theorem dX11_mapsBy_134 : decode cX11_mapsBy 134 = .ok (.ladd, 1) := by decide +kernel
theorem dX11_mapsBy_135 : decode cX11_mapsBy 135 = .ok (.lstore 5, 2) := by decide +kernel
theorem dX11_mapsBy_137 : decode cX11_mapsBy 137 = .ok (.iinc 7 1, 3) := by decide +kernel
theorem dX11_mapsBy_140 : decode cX11_mapsBy 140 = .ok (.goto (-109), 3) := by decide +kernel
theorem dX11_mapsBy_143 : decode cX11_mapsBy 143 = .ok (.iconst 0, 1) := by decide +kernel
theorem dX11_mapsBy_144 : decode cX11_mapsBy 144 = .ok (.istore 7, 2) := by decide +kernel
theorem dX11_mapsBy_146 : decode cX11_mapsBy 146 = .ok (.iload 7, 2) := by decide +kernel
theorem dX11_mapsBy_148 : decode cX11_mapsBy 148 = .ok (.iconst 2, 1) := by decide +kernel
theorem dX11_mapsBy_149 : decode cX11_mapsBy 149 = .ok (.iload 4, 2) := by decide +kernel
theorem dX11_mapsBy_151 : decode cX11_mapsBy 151 = .ok (.imul, 1) := by decide +kernel
theorem dX11_mapsBy_152 : decode cX11_mapsBy 152 = .ok (.if_icmp .ge 20, 3) := by decide +kernel
theorem dX11_mapsBy_155 : decode cX11_mapsBy 155 = .ok (.iload_n 3, 1) := by decide +kernel
theorem dX11_mapsBy_156 : decode cX11_mapsBy 156 = .ok (.ifCond .ne 16, 3) := by decide +kernel
theorem dX11_mapsBy_159 : decode cX11_mapsBy 159 = .ok (.lload 5, 2) := by decide +kernel
theorem dX11_mapsBy_161 : decode cX11_mapsBy 161 = .ok (.iload_n 2, 1) := by decide +kernel
theorem dX11_mapsBy_162 : decode cX11_mapsBy 162 = .ok (.i2l, 1) := by decide +kernel
theorem dX11_mapsBy_163 : decode cX11_mapsBy 163 = .ok (.lmul, 1) := by decide +kernel
theorem dX11_mapsBy_164 : decode cX11_mapsBy 164 = .ok (.lstore 5, 2) := by decide +kernel
theorem dX11_mapsBy_166 : decode cX11_mapsBy 166 = .ok (.iinc 7 1, 3) := by decide +kernel
theorem dX11_mapsBy_169 : decode cX11_mapsBy 169 = .ok (.goto (-23), 3) := by decide +kernel
theorem dX11_mapsBy_172 : decode cX11_mapsBy 172 = .ok (.lload 5, 2) := by decide +kernel
theorem dX11_mapsBy_174 : decode cX11_mapsBy 174 = .ok (.lreturn, 1) := by decide +kernel
theorem dX11_giveFibre_0 : decode cX11_giveFibre 0 = .ok (.iconst 0, 1) := by decide +kernel
theorem dX11_giveFibre_1 : decode cX11_giveFibre 1 = .ok (.istore 5, 2) := by decide +kernel
theorem dX11_giveFibre_3 : decode cX11_giveFibre 3 = .ok (.iload 5, 2) := by decide +kernel
theorem dX11_giveFibre_5 : decode cX11_giveFibre 5 = .ok (.iload 4, 2) := by decide +kernel
theorem dX11_giveFibre_7 : decode cX11_giveFibre 7 = .ok (.if_icmp .ge 72, 3) := by decide +kernel
theorem dX11_giveFibre_10 : decode cX11_giveFibre 10 = .ok (.aload_n 0, 1) := by decide +kernel
theorem dX11_giveFibre_11 : decode cX11_giveFibre 11 = .ok (.iload_n 1, 1) := by decide +kernel
theorem dX11_giveFibre_12 : decode cX11_giveFibre 12 = .ok (.iload_n 2, 1) := by decide +kernel
theorem dX11_giveFibre_13 : decode cX11_giveFibre 13 = .ok (.invokevirtual 90, 3) := by decide +kernel
theorem dX11_giveFibre_16 : decode cX11_giveFibre 16 = .ok (.iload 5, 2) := by decide +kernel
theorem dX11_giveFibre_18 : decode cX11_giveFibre 18 = .ok (.imul, 1) := by decide +kernel
theorem dX11_giveFibre_19 : decode cX11_giveFibre 19 = .ok (.aload_n 0, 1) := by decide +kernel
theorem dX11_giveFibre_20 : decode cX11_giveFibre 20 = .ok (.iload_n 1, 1) := by decide +kernel
theorem dX11_giveFibre_21 : decode cX11_giveFibre 21 = .ok (.iload_n 2, 1) := by decide +kernel
theorem dX11_giveFibre_22 : decode cX11_giveFibre 22 = .ok (.invokevirtual 93, 3) := by decide +kernel
theorem dX11_giveFibre_25 : decode cX11_giveFibre 25 = .ok (.iload_n 3, 1) := by decide +kernel
theorem dX11_giveFibre_26 : decode cX11_giveFibre 26 = .ok (.imul, 1) := by decide +kernel
theorem dX11_giveFibre_27 : decode cX11_giveFibre 27 = .ok (.iadd, 1) := by decide +kernel
theorem dX11_giveFibre_28 : decode cX11_giveFibre 28 = .ok (.iload 4, 2) := by decide +kernel
theorem dX11_giveFibre_30 : decode cX11_giveFibre 30 = .ok (.irem, 1) := by decide +kernel
theorem dX11_giveFibre_31 : decode cX11_giveFibre 31 = .ok (.ifCond .ne 42, 3) := by decide +kernel
theorem dX11_giveFibre_34 : decode cX11_giveFibre 34 = .ok (.iconst 0, 1) := by decide +kernel
theorem dX11_giveFibre_35 : decode cX11_giveFibre 35 = .ok (.istore 6, 2) := by decide +kernel
theorem dX11_giveFibre_37 : decode cX11_giveFibre 37 = .ok (.iload 6, 2) := by decide +kernel
theorem dX11_giveFibre_39 : decode cX11_giveFibre 39 = .ok (.iload 4, 2) := by decide +kernel
theorem dX11_giveFibre_41 : decode cX11_giveFibre 41 = .ok (.if_icmp .ge 32, 3) := by decide +kernel
theorem dX11_giveFibre_44 : decode cX11_giveFibre 44 = .ok (.aload_n 0, 1) := by decide +kernel
theorem dX11_giveFibre_45 : decode cX11_giveFibre 45 = .ok (.getfield 45, 3) := by decide +kernel
theorem dX11_giveFibre_48 : decode cX11_giveFibre 48 = .ok (.iload 6, 2) := by decide +kernel
theorem dX11_giveFibre_50 : decode cX11_giveFibre 50 = .ok (.iload 5, 2) := by decide +kernel
theorem dX11_giveFibre_52 : decode cX11_giveFibre 52 = .ok (.iadd, 1) := by decide +kernel
theorem dX11_giveFibre_53 : decode cX11_giveFibre 53 = .ok (.iload 4, 2) := by decide +kernel
theorem dX11_giveFibre_55 : decode cX11_giveFibre 55 = .ok (.irem, 1) := by decide +kernel
theorem dX11_giveFibre_56 : decode cX11_giveFibre 56 = .ok (.dup2, 1) := by decide +kernel
theorem dX11_giveFibre_57 : decode cX11_giveFibre 57 = .ok (.laload, 1) := by decide +kernel
theorem dX11_giveFibre_58 : decode cX11_giveFibre 58 = .ok (.aload_n 0, 1) := by decide +kernel
theorem dX11_giveFibre_59 : decode cX11_giveFibre 59 = .ok (.getfield 42, 3) := by decide +kernel
theorem dX11_giveFibre_62 : decode cX11_giveFibre 62 = .ok (.iload 6, 2) := by decide +kernel
theorem dX11_giveFibre_64 : decode cX11_giveFibre 64 = .ok (.laload, 1) := by decide +kernel
theorem dX11_giveFibre_65 : decode cX11_giveFibre 65 = .ok (.ladd, 1) := by decide +kernel
theorem dX11_giveFibre_66 : decode cX11_giveFibre 66 = .ok (.lastore, 1) := by decide +kernel
theorem dX11_giveFibre_67 : decode cX11_giveFibre 67 = .ok (.iinc 6 1, 3) := by decide +kernel
theorem dX11_giveFibre_70 : decode cX11_giveFibre 70 = .ok (.goto (-33), 3) := by decide +kernel
theorem dX11_giveFibre_73 : decode cX11_giveFibre 73 = .ok (.iinc 5 1, 3) := by decide +kernel
theorem dX11_giveFibre_76 : decode cX11_giveFibre 76 = .ok (.goto (-73), 3) := by decide +kernel
theorem dX11_giveFibre_79 : decode cX11_giveFibre 79 = .ok (.aload_n 0, 1) := by decide +kernel
theorem dX11_giveFibre_80 : decode cX11_giveFibre 80 = .ok (.iload 4, 2) := by decide +kernel
theorem dX11_giveFibre_82 : decode cX11_giveFibre 82 = .ok (.invokevirtual 261, 3) := by decide +kernel
theorem dX11_giveFibre_85 : decode cX11_giveFibre 85 = .ok (.return_, 1) := by decide +kernel
theorem dX11_giveTwice_0 : decode cX11_giveTwice 0 = .ok (.iconst 0, 1) := by decide +kernel
theorem dX11_giveTwice_1 : decode cX11_giveTwice 1 = .ok (.istore_n 2, 1) := by decide +kernel
theorem dX11_giveTwice_2 : decode cX11_giveTwice 2 = .ok (.iload_n 2, 1) := by decide +kernel
theorem dX11_giveTwice_3 : decode cX11_giveTwice 3 = .ok (.iload_n 1, 1) := by decide +kernel
theorem dX11_giveTwice_4 : decode cX11_giveTwice 4 = .ok (.if_icmp .ge 43, 3) := by decide +kernel
theorem dX11_giveTwice_7 : decode cX11_giveTwice 7 = .ok (.iconst 0, 1) := by decide +kernel
theorem dX11_giveTwice_8 : decode cX11_giveTwice 8 = .ok (.istore_n 3, 1) := by decide +kernel
theorem dX11_giveTwice_9 : decode cX11_giveTwice 9 = .ok (.iload_n 3, 1) := by decide +kernel
theorem dX11_giveTwice_10 : decode cX11_giveTwice 10 = .ok (.iload_n 1, 1) := by decide +kernel
theorem dX11_giveTwice_11 : decode cX11_giveTwice 11 = .ok (.if_icmp .ge 30, 3) := by decide +kernel
theorem dX11_giveTwice_14 : decode cX11_giveTwice 14 = .ok (.aload_n 0, 1) := by decide +kernel
theorem dX11_giveTwice_15 : decode cX11_giveTwice 15 = .ok (.getfield 45, 3) := by decide +kernel
theorem dX11_giveTwice_18 : decode cX11_giveTwice 18 = .ok (.iload_n 3, 1) := by decide +kernel
theorem dX11_giveTwice_19 : decode cX11_giveTwice 19 = .ok (.iconst 2, 1) := by decide +kernel
theorem dX11_giveTwice_20 : decode cX11_giveTwice 20 = .ok (.iload_n 2, 1) := by decide +kernel
theorem dX11_giveTwice_21 : decode cX11_giveTwice 21 = .ok (.imul, 1) := by decide +kernel
theorem dX11_giveTwice_22 : decode cX11_giveTwice 22 = .ok (.iadd, 1) := by decide +kernel
theorem dX11_giveTwice_23 : decode cX11_giveTwice 23 = .ok (.iload_n 1, 1) := by decide +kernel
theorem dX11_giveTwice_24 : decode cX11_giveTwice 24 = .ok (.irem, 1) := by decide +kernel
theorem dX11_giveTwice_25 : decode cX11_giveTwice 25 = .ok (.dup2, 1) := by decide +kernel
theorem dX11_giveTwice_26 : decode cX11_giveTwice 26 = .ok (.laload, 1) := by decide +kernel
theorem dX11_giveTwice_27 : decode cX11_giveTwice 27 = .ok (.aload_n 0, 1) := by decide +kernel
theorem dX11_giveTwice_28 : decode cX11_giveTwice 28 = .ok (.getfield 42, 3) := by decide +kernel
theorem dX11_giveTwice_31 : decode cX11_giveTwice 31 = .ok (.iload_n 3, 1) := by decide +kernel
theorem dX11_giveTwice_32 : decode cX11_giveTwice 32 = .ok (.laload, 1) := by decide +kernel
theorem dX11_giveTwice_33 : decode cX11_giveTwice 33 = .ok (.ladd, 1) := by decide +kernel
theorem dX11_giveTwice_34 : decode cX11_giveTwice 34 = .ok (.lastore, 1) := by decide +kernel
theorem dX11_giveTwice_35 : decode cX11_giveTwice 35 = .ok (.iinc 3 1, 3) := by decide +kernel
theorem dX11_giveTwice_38 : decode cX11_giveTwice 38 = .ok (.goto (-29), 3) := by decide +kernel
theorem dX11_giveTwice_41 : decode cX11_giveTwice 41 = .ok (.iinc 2 1, 3) := by decide +kernel
theorem dX11_giveTwice_44 : decode cX11_giveTwice 44 = .ok (.goto (-42), 3) := by decide +kernel
theorem dX11_giveTwice_47 : decode cX11_giveTwice 47 = .ok (.aload_n 0, 1) := by decide +kernel
theorem dX11_giveTwice_48 : decode cX11_giveTwice 48 = .ok (.iload_n 1, 1) := by decide +kernel
theorem dX11_giveTwice_49 : decode cX11_giveTwice 49 = .ok (.invokevirtual 261, 3) := by decide +kernel
theorem dX11_giveTwice_52 : decode cX11_giveTwice 52 = .ok (.return_, 1) := by decide +kernel
theorem dX11_times_0 : decode cX11_times 0 = .ok (.iload_n 0, 1) := by decide +kernel
theorem dX11_times_1 : decode cX11_times 1 = .ok (.iconst 3, 1) := by decide +kernel
theorem dX11_times_2 : decode cX11_times 2 = .ok (.if_icmp .ge 9, 3) := by decide +kernel
theorem dX11_times_5 : decode cX11_times 5 = .ok (.iload_n 0, 1) := by decide +kernel
theorem dX11_times_6 : decode cX11_times 6 = .ok (.iload_n 1, 1) := by decide +kernel
theorem dX11_times_7 : decode cX11_times 7 = .ok (.iadd, 1) := by decide +kernel
theorem dX11_times_8 : decode cX11_times 8 = .ok (.goto 9, 3) := by decide +kernel
theorem dX11_times_11 : decode cX11_times 11 = .ok (.iload_n 0, 1) := by decide +kernel
theorem dX11_times_12 : decode cX11_times 12 = .ok (.iload_n 1, 1) := by decide +kernel
theorem dX11_times_13 : decode cX11_times 13 = .ok (.isub, 1) := by decide +kernel
theorem dX11_times_14 : decode cX11_times 14 = .ok (.bipush 9, 2) := by decide +kernel
theorem dX11_times_16 : decode cX11_times 16 = .ok (.iadd, 1) := by decide +kernel
theorem dX11_times_17 : decode cX11_times 17 = .ok (.istore_n 2, 1) := by decide +kernel
theorem dX11_times_18 : decode cX11_times 18 = .ok (.iload_n 2, 1) := by decide +kernel
theorem dX11_times_19 : decode cX11_times 19 = .ok (.iconst 3, 1) := by decide +kernel
theorem dX11_times_20 : decode cX11_times 20 = .ok (.irem, 1) := by decide +kernel
theorem dX11_times_21 : decode cX11_times 21 = .ok (.iload_n 0, 1) := by decide +kernel
theorem dX11_times_22 : decode cX11_times 22 = .ok (.iconst 3, 1) := by decide +kernel
theorem dX11_times_23 : decode cX11_times 23 = .ok (.if_icmp .ge 7, 3) := by decide +kernel
theorem dX11_times_26 : decode cX11_times 26 = .ok (.iconst 1, 1) := by decide +kernel
theorem dX11_times_27 : decode cX11_times 27 = .ok (.goto 4, 3) := by decide +kernel
theorem dX11_times_30 : decode cX11_times 30 = .ok (.iconst 0, 1) := by decide +kernel
theorem dX11_times_31 : decode cX11_times 31 = .ok (.iload_n 1, 1) := by decide +kernel
theorem dX11_times_32 : decode cX11_times 32 = .ok (.iconst 3, 1) := by decide +kernel
theorem dX11_times_33 : decode cX11_times 33 = .ok (.if_icmp .ge 7, 3) := by decide +kernel
theorem dX11_times_36 : decode cX11_times 36 = .ok (.iconst 1, 1) := by decide +kernel
theorem dX11_times_37 : decode cX11_times 37 = .ok (.goto 4, 3) := by decide +kernel
theorem dX11_times_40 : decode cX11_times 40 = .ok (.iconst 0, 1) := by decide +kernel
theorem dX11_times_41 : decode cX11_times 41 = .ok (.if_icmp .ne 7, 3) := by decide +kernel
theorem dX11_times_44 : decode cX11_times 44 = .ok (.iconst 0, 1) := by decide +kernel
theorem dX11_times_45 : decode cX11_times 45 = .ok (.goto 4, 3) := by decide +kernel
theorem dX11_times_48 : decode cX11_times 48 = .ok (.iconst 3, 1) := by decide +kernel
theorem dX11_times_49 : decode cX11_times 49 = .ok (.iadd, 1) := by decide +kernel
theorem dX11_times_50 : decode cX11_times 50 = .ok (.ireturn, 1) := by decide +kernel
theorem dX11_inverted_0 : decode cX11_inverted 0 = .ok (.iload_n 0, 1) := by decide +kernel
theorem dX11_inverted_1 : decode cX11_inverted 1 = .ok (.iconst 3, 1) := by decide +kernel
theorem dX11_inverted_2 : decode cX11_inverted 2 = .ok (.if_icmp .ge 11, 3) := by decide +kernel
theorem dX11_inverted_5 : decode cX11_inverted 5 = .ok (.iconst 3, 1) := by decide +kernel
theorem dX11_inverted_6 : decode cX11_inverted 6 = .ok (.iload_n 0, 1) := by decide +kernel
theorem dX11_inverted_7 : decode cX11_inverted 7 = .ok (.isub, 1) := by decide +kernel
theorem dX11_inverted_8 : decode cX11_inverted 8 = .ok (.iconst 3, 1) := by decide +kernel
theorem dX11_inverted_9 : decode cX11_inverted 9 = .ok (.irem, 1) := by decide +kernel
theorem dX11_inverted_10 : decode cX11_inverted 10 = .ok (.goto 4, 3) := by decide +kernel
theorem dX11_inverted_13 : decode cX11_inverted 13 = .ok (.iload_n 0, 1) := by decide +kernel
theorem dX11_inverted_14 : decode cX11_inverted 14 = .ok (.ireturn, 1) := by decide +kernel
theorem dX11_power_0 : decode cX11_power 0 = .ok (.iconst 0, 1) := by decide +kernel
theorem dX11_power_1 : decode cX11_power 1 = .ok (.istore_n 2, 1) := by decide +kernel
theorem dX11_power_2 : decode cX11_power 2 = .ok (.iconst 0, 1) := by decide +kernel
theorem dX11_power_3 : decode cX11_power 3 = .ok (.istore_n 3, 1) := by decide +kernel
theorem dX11_power_4 : decode cX11_power 4 = .ok (.iload_n 3, 1) := by decide +kernel
theorem dX11_power_5 : decode cX11_power 5 = .ok (.iload_n 1, 1) := by decide +kernel
theorem dX11_power_6 : decode cX11_power 6 = .ok (.bipush 6, 2) := by decide +kernel
theorem dX11_power_8 : decode cX11_power 8 = .ok (.invokestatic 79, 3) := by decide +kernel
theorem dX11_power_11 : decode cX11_power 11 = .ok (.if_icmp .ge 15, 3) := by decide +kernel
theorem dX11_power_14 : decode cX11_power 14 = .ok (.iload_n 2, 1) := by decide +kernel
theorem dX11_power_15 : decode cX11_power 15 = .ok (.iload_n 0, 1) := by decide +kernel
theorem dX11_power_16 : decode cX11_power 16 = .ok (.invokestatic 264, 3) := by decide +kernel
theorem dX11_power_19 : decode cX11_power 19 = .ok (.istore_n 2, 1) := by decide +kernel
theorem dX11_power_20 : decode cX11_power 20 = .ok (.iinc 3 1, 3) := by decide +kernel
theorem dX11_power_23 : decode cX11_power 23 = .ok (.goto (-19), 3) := by decide +kernel
theorem dX11_power_26 : decode cX11_power 26 = .ok (.iload_n 2, 1) := by decide +kernel
theorem dX11_power_27 : decode cX11_power 27 = .ok (.ireturn, 1) := by decide +kernel
theorem dX11_commute_0 : decode cX11_commute 0 = .ok (.iload_n 0, 1) := by decide +kernel
theorem dX11_commute_1 : decode cX11_commute 1 = .ok (.iload_n 1, 1) := by decide +kernel
theorem dX11_commute_2 : decode cX11_commute 2 = .ok (.invokestatic 264, 3) := by decide +kernel
theorem dX11_commute_5 : decode cX11_commute 5 = .ok (.iload_n 1, 1) := by decide +kernel
theorem dX11_commute_6 : decode cX11_commute 6 = .ok (.iload_n 0, 1) := by decide +kernel
theorem dX11_commute_7 : decode cX11_commute 7 = .ok (.invokestatic 264, 3) := by decide +kernel
theorem dX11_commute_10 : decode cX11_commute 10 = .ok (.if_icmp .ne 7, 3) := by decide +kernel
theorem dX11_commute_13 : decode cX11_commute 13 = .ok (.iconst 1, 1) := by decide +kernel
theorem dX11_commute_14 : decode cX11_commute 14 = .ok (.goto 4, 3) := by decide +kernel
theorem dX11_commute_17 : decode cX11_commute 17 = .ok (.iconst 0, 1) := by decide +kernel
theorem dX11_commute_18 : decode cX11_commute 18 = .ok (.ireturn, 1) := by decide +kernel
theorem dX11_threes_0 : decode cX11_threes 0 = .ok (.iload_n 1, 1) := by decide +kernel
theorem dX11_threes_1 : decode cX11_threes 1 = .ok (.invokestatic 147, 3) := by decide +kernel
theorem dX11_threes_4 : decode cX11_threes 4 = .ok (.ifCond .ne 7, 3) := by decide +kernel
theorem dX11_threes_7 : decode cX11_threes 7 = .ok (.ldc2_w 229, 3) := by decide +kernel
theorem dX11_threes_10 : decode cX11_threes 10 = .ok (.lreturn, 1) := by decide +kernel
theorem dX11_threes_11 : decode cX11_threes 11 = .ok (.aload_n 0, 1) := by decide +kernel
theorem dX11_threes_12 : decode cX11_threes 12 = .ok (.getfield 7, 3) := by decide +kernel
theorem dX11_threes_15 : decode cX11_threes 15 = .ok (.bipush 16, 2) := by decide +kernel
theorem dX11_threes_17 : decode cX11_threes 17 = .ok (.iload_n 1, 1) := by decide +kernel
theorem dX11_threes_18 : decode cX11_threes 18 = .ok (.imul, 1) := by decide +kernel
theorem dX11_threes_19 : decode cX11_threes 19 = .ok (.iconst 0, 1) := by decide +kernel
theorem dX11_threes_20 : decode cX11_threes 20 = .ok (.iadd, 1) := by decide +kernel
theorem dX11_threes_21 : decode cX11_threes 21 = .ok (.iaload, 1) := by decide +kernel
theorem dX11_threes_22 : decode cX11_threes 22 = .ok (.istore_n 2, 1) := by decide +kernel
theorem dX11_threes_23 : decode cX11_threes 23 = .ok (.lconst 0, 1) := by decide +kernel
theorem dX11_threes_24 : decode cX11_threes 24 = .ok (.lstore_n 3, 1) := by decide +kernel
theorem dX11_threes_25 : decode cX11_threes 25 = .ok (.iconst 0, 1) := by decide +kernel
theorem dX11_threes_26 : decode cX11_threes 26 = .ok (.istore 5, 2) := by decide +kernel
theorem dX11_threes_28 : decode cX11_threes 28 = .ok (.iload 5, 2) := by decide +kernel
theorem dX11_threes_30 : decode cX11_threes 30 = .ok (.bipush 6, 2) := by decide +kernel
theorem dX11_threes_32 : decode cX11_threes 32 = .ok (.if_icmp .ge 175, 3) := by decide +kernel
theorem dX11_threes_35 : decode cX11_threes 35 = .ok (.aload_n 0, 1) := by decide +kernel
theorem dX11_threes_36 : decode cX11_threes 36 = .ok (.invokevirtual 251, 3) := by decide +kernel
theorem dX11_threes_39 : decode cX11_threes 39 = .ok (.iconst 0, 1) := by decide +kernel
theorem dX11_threes_40 : decode cX11_threes 40 = .ok (.istore 6, 2) := by decide +kernel
theorem dX11_threes_42 : decode cX11_threes 42 = .ok (.iload 6, 2) := by decide +kernel
theorem dX11_threes_44 : decode cX11_threes 44 = .ok (.aload_n 0, 1) := by decide +kernel
theorem dX11_threes_45 : decode cX11_threes 45 = .ok (.iload_n 1, 1) := by decide +kernel
theorem dX11_threes_46 : decode cX11_threes 46 = .ok (.invokevirtual 100, 3) := by decide +kernel
theorem dX11_threes_49 : decode cX11_threes 49 = .ok (.if_icmp .ge 78, 3) := by decide +kernel
theorem dX11_threes_52 : decode cX11_threes 52 = .ok (.iconst 0, 1) := by decide +kernel
theorem dX11_threes_53 : decode cX11_threes 53 = .ok (.istore 7, 2) := by decide +kernel
theorem dX11_threes_55 : decode cX11_threes 55 = .ok (.iload 7, 2) := by decide +kernel
theorem dX11_threes_57 : decode cX11_threes 57 = .ok (.bipush 6, 2) := by decide +kernel
theorem dX11_threes_59 : decode cX11_threes 59 = .ok (.if_icmp .ge 56, 3) := by decide +kernel
theorem dX11_threes_62 : decode cX11_threes 62 = .ok (.iload 7, 2) := by decide +kernel
theorem dX11_threes_64 : decode cX11_threes 64 = .ok (.iload 5, 2) := by decide +kernel
theorem dX11_threes_66 : decode cX11_threes 66 = .ok (.invokestatic 267, 3) := by decide +kernel
theorem dX11_threes_69 : decode cX11_threes 69 = .ok (.ifCond .eq 40, 3) := by decide +kernel
theorem dX11_threes_72 : decode cX11_threes 72 = .ok (.iload 7, 2) := by decide +kernel
theorem dX11_threes_74 : decode cX11_threes 74 = .ok (.aload_n 0, 1) := by decide +kernel
theorem dX11_threes_75 : decode cX11_threes 75 = .ok (.iload_n 1, 1) := by decide +kernel
theorem dX11_threes_76 : decode cX11_threes 76 = .ok (.iload 6, 2) := by decide +kernel
theorem dX11_threes_78 : decode cX11_threes 78 = .ok (.invokevirtual 90, 3) := by decide +kernel
theorem dX11_threes_81 : decode cX11_threes 81 = .ok (.invokestatic 270, 3) := by decide +kernel
theorem dX11_threes_84 : decode cX11_threes 84 = .ok (.iload 5, 2) := by decide +kernel
theorem dX11_threes_86 : decode cX11_threes 86 = .ok (.aload_n 0, 1) := by decide +kernel
theorem dX11_threes_87 : decode cX11_threes 87 = .ok (.iload_n 1, 1) := by decide +kernel
theorem dX11_threes_88 : decode cX11_threes 88 = .ok (.iload 6, 2) := by decide +kernel
theorem dX11_threes_90 : decode cX11_threes 90 = .ok (.invokevirtual 93, 3) := by decide +kernel
theorem dX11_threes_93 : decode cX11_threes 93 = .ok (.invokestatic 270, 3) := by decide +kernel
theorem dX11_threes_96 : decode cX11_threes 96 = .ok (.invokestatic 264, 3) := by decide +kernel
theorem dX11_threes_99 : decode cX11_threes 99 = .ok (.ifCond .ne 10, 3) := by decide +kernel
theorem dX11_threes_102 : decode cX11_threes 102 = .ok (.aload_n 0, 1) := by decide +kernel
theorem dX11_threes_103 : decode cX11_threes 103 = .ok (.iload 7, 2) := by decide +kernel
theorem dX11_threes_105 : decode cX11_threes 105 = .ok (.lconst 1, 1) := by decide +kernel
theorem dX11_threes_106 : decode cX11_threes 106 = .ok (.invokevirtual 273, 3) := by decide +kernel
theorem dX11_threes_109 : decode cX11_threes 109 = .ok (.iinc 7 1, 3) := by decide +kernel
theorem dX11_threes_112 : decode cX11_threes 112 = .ok (.goto (-57), 3) := by decide +kernel
theorem dX11_threes_115 : decode cX11_threes 115 = .ok (.aload_n 0, 1) := by decide +kernel
theorem dX11_threes_116 : decode cX11_threes 116 = .ok (.bipush 6, 2) := by decide +kernel
theorem dX11_threes_118 : decode cX11_threes 118 = .ok (.invokevirtual 261, 3) := by decide +kernel
theorem dX11_threes_121 : decode cX11_threes 121 = .ok (.iinc 6 1, 3) := by decide +kernel
theorem dX11_threes_124 : decode cX11_threes 124 = .ok (.goto (-82), 3) := by decide +kernel
theorem dX11_threes_127 : decode cX11_threes 127 = .ok (.iconst 0, 1) := by decide +kernel
theorem dX11_threes_128 : decode cX11_threes 128 = .ok (.istore 6, 2) := by decide +kernel
theorem dX11_threes_130 : decode cX11_threes 130 = .ok (.iload 6, 2) := by decide +kernel
theorem dX11_threes_132 : decode cX11_threes 132 = .ok (.aload_n 0, 1) := by decide +kernel
theorem dX11_threes_133 : decode cX11_threes 133 = .ok (.getfield 7, 3) := by decide +kernel
theorem dX11_threes_136 : decode cX11_threes 136 = .ok (.bipush 16, 2) := by decide +kernel
theorem dX11_threes_138 : decode cX11_threes 138 = .ok (.iload_n 1, 1) := by decide +kernel
theorem dX11_threes_139 : decode cX11_threes 139 = .ok (.imul, 1) := by decide +kernel
theorem dX11_threes_140 : decode cX11_threes 140 = .ok (.iconst 1, 1) := by decide +kernel
theorem dX11_threes_141 : decode cX11_threes 141 = .ok (.iadd, 1) := by decide +kernel
theorem dX11_threes_142 : decode cX11_threes 142 = .ok (.iaload, 1) := by decide +kernel
theorem dX11_threes_143 : decode cX11_threes 143 = .ok (.if_icmp .ge 34, 3) := by decide +kernel
theorem dX11_threes_146 : decode cX11_threes 146 = .ok (.iload_n 2, 1) := by decide +kernel
theorem dX11_threes_147 : decode cX11_threes 147 = .ok (.ifCond .ne 12, 3) := by decide +kernel
theorem dX11_threes_150 : decode cX11_threes 150 = .ok (.aload_n 0, 1) := by decide +kernel
theorem dX11_threes_151 : decode cX11_threes 151 = .ok (.iload 5, 2) := by decide +kernel
theorem dX11_threes_153 : decode cX11_threes 153 = .ok (.invokevirtual 277, 3) := by decide +kernel
theorem dX11_threes_156 : decode cX11_threes 156 = .ok (.goto 9, 3) := by decide +kernel
theorem dX11_threes_159 : decode cX11_threes 159 = .ok (.aload_n 0, 1) := by decide +kernel
theorem dX11_threes_160 : decode cX11_threes 160 = .ok (.iload 5, 2) := by decide +kernel
theorem dX11_threes_162 : decode cX11_threes 162 = .ok (.invokevirtual 280, 3) := by decide +kernel
theorem dX11_threes_165 : decode cX11_threes 165 = .ok (.aload_n 0, 1) := by decide +kernel
theorem dX11_threes_166 : decode cX11_threes 166 = .ok (.bipush 6, 2) := by decide +kernel
theorem dX11_threes_168 : decode cX11_threes 168 = .ok (.invokevirtual 261, 3) := by decide +kernel
theorem dX11_threes_171 : decode cX11_threes 171 = .ok (.iinc 6 1, 3) := by decide +kernel
theorem dX11_threes_174 : decode cX11_threes 174 = .ok (.goto (-44), 3) := by decide +kernel
theorem dX11_threes_177 : decode cX11_threes 177 = .ok (.lload_n 3, 1) := by decide +kernel
theorem dX11_threes_178 : decode cX11_threes 178 = .ok (.aload_n 0, 1) := by decide +kernel
theorem dX11_threes_179 : decode cX11_threes 179 = .ok (.getfield 42, 3) := by decide +kernel
theorem dX11_threes_182 : decode cX11_threes 182 = .ok (.iload 5, 2) := by decide +kernel
theorem dX11_threes_184 : decode cX11_threes 184 = .ok (.aload_n 0, 1) := by decide +kernel
theorem dX11_threes_185 : decode cX11_threes 185 = .ok (.getfield 7, 3) := by decide +kernel
theorem dX11_threes_188 : decode cX11_threes 188 = .ok (.bipush 16, 2) := by decide +kernel
theorem dX11_threes_190 : decode cX11_threes 190 = .ok (.iload_n 1, 1) := by decide +kernel
theorem dX11_threes_191 : decode cX11_threes 191 = .ok (.imul, 1) := by decide +kernel
theorem dX11_threes_192 : decode cX11_threes 192 = .ok (.iconst 2, 1) := by decide +kernel
theorem dX11_threes_193 : decode cX11_threes 193 = .ok (.iadd, 1) := by decide +kernel
theorem dX11_threes_194 : decode cX11_threes 194 = .ok (.iaload, 1) := by decide +kernel
theorem dX11_threes_195 : decode cX11_threes 195 = .ok (.invokestatic 270, 3) := by decide +kernel
theorem dX11_threes_198 : decode cX11_threes 198 = .ok (.laload, 1) := by decide +kernel
theorem dX11_threes_199 : decode cX11_threes 199 = .ok (.ladd, 1) := by decide +kernel
theorem dX11_threes_200 : decode cX11_threes 200 = .ok (.lstore_n 3, 1) := by decide +kernel
theorem dX11_threes_201 : decode cX11_threes 201 = .ok (.iinc 5 1, 3) := by decide +kernel
theorem dX11_threes_204 : decode cX11_threes 204 = .ok (.goto (-176), 3) := by decide +kernel
theorem dX11_threes_207 : decode cX11_threes 207 = .ok (.lload_n 3, 1) := by decide +kernel
theorem dX11_threes_208 : decode cX11_threes 208 = .ok (.lreturn, 1) := by decide +kernel
theorem dX11_give_0 : decode cX11_give 0 = .ok (.iconst 0, 1) := by decide +kernel
theorem dX11_give_1 : decode cX11_give 1 = .ok (.istore 4, 2) := by decide +kernel
theorem dX11_give_3 : decode cX11_give 3 = .ok (.iload 4, 2) := by decide +kernel
theorem dX11_give_5 : decode cX11_give 5 = .ok (.bipush 6, 2) := by decide +kernel
theorem dX11_give_7 : decode cX11_give 7 = .ok (.if_icmp .ge 32, 3) := by decide +kernel
theorem dX11_give_10 : decode cX11_give 10 = .ok (.aload_n 0, 1) := by decide +kernel
theorem dX11_give_11 : decode cX11_give 11 = .ok (.getfield 45, 3) := by decide +kernel
theorem dX11_give_14 : decode cX11_give 14 = .ok (.iload 4, 2) := by decide +kernel
theorem dX11_give_16 : decode cX11_give 16 = .ok (.iload_n 1, 1) := by decide +kernel
theorem dX11_give_17 : decode cX11_give 17 = .ok (.invokestatic 264, 3) := by decide +kernel
theorem dX11_give_20 : decode cX11_give 20 = .ok (.dup2, 1) := by decide +kernel
theorem dX11_give_21 : decode cX11_give 21 = .ok (.laload, 1) := by decide +kernel
theorem dX11_give_22 : decode cX11_give 22 = .ok (.aload_n 0, 1) := by decide +kernel
theorem dX11_give_23 : decode cX11_give 23 = .ok (.getfield 42, 3) := by decide +kernel
theorem dX11_give_26 : decode cX11_give 26 = .ok (.iload 4, 2) := by decide +kernel
theorem dX11_give_28 : decode cX11_give 28 = .ok (.laload, 1) := by decide +kernel
theorem dX11_give_29 : decode cX11_give 29 = .ok (.lload_n 2, 1) := by decide +kernel
theorem dX11_give_30 : decode cX11_give 30 = .ok (.lmul, 1) := by decide +kernel
theorem dX11_give_31 : decode cX11_give 31 = .ok (.ladd, 1) := by decide +kernel
theorem dX11_give_32 : decode cX11_give 32 = .ok (.lastore, 1) := by decide +kernel
theorem dX11_give_33 : decode cX11_give 33 = .ok (.iinc 4 1, 3) := by decide +kernel
theorem dX11_give_36 : decode cX11_give 36 = .ok (.goto (-33), 3) := by decide +kernel
theorem dX11_give_39 : decode cX11_give 39 = .ok (.return_, 1) := by decide +kernel
theorem dX11_giveTwo_0 : decode cX11_giveTwo 0 = .ok (.iconst 0, 1) := by decide +kernel
theorem dX11_giveTwo_1 : decode cX11_giveTwo 1 = .ok (.istore_n 2, 1) := by decide +kernel
theorem dX11_giveTwo_2 : decode cX11_giveTwo 2 = .ok (.iload_n 2, 1) := by decide +kernel
theorem dX11_giveTwo_3 : decode cX11_giveTwo 3 = .ok (.bipush 6, 2) := by decide +kernel
theorem dX11_giveTwo_5 : decode cX11_giveTwo 5 = .ok (.if_icmp .ge 63, 3) := by decide +kernel
theorem dX11_giveTwo_8 : decode cX11_giveTwo 8 = .ok (.iconst 0, 1) := by decide +kernel
theorem dX11_giveTwo_9 : decode cX11_giveTwo 9 = .ok (.istore_n 3, 1) := by decide +kernel
theorem dX11_giveTwo_10 : decode cX11_giveTwo 10 = .ok (.iload_n 3, 1) := by decide +kernel
theorem dX11_giveTwo_11 : decode cX11_giveTwo 11 = .ok (.bipush 6, 2) := by decide +kernel
theorem dX11_giveTwo_13 : decode cX11_giveTwo 13 = .ok (.if_icmp .ge 49, 3) := by decide +kernel
theorem dX11_giveTwo_16 : decode cX11_giveTwo 16 = .ok (.iload_n 2, 1) := by decide +kernel
theorem dX11_giveTwo_17 : decode cX11_giveTwo 17 = .ok (.iload_n 1, 1) := by decide +kernel
theorem dX11_giveTwo_18 : decode cX11_giveTwo 18 = .ok (.invokestatic 267, 3) := by decide +kernel
theorem dX11_giveTwo_21 : decode cX11_giveTwo 21 = .ok (.ifCond .eq 35, 3) := by decide +kernel
theorem dX11_giveTwo_24 : decode cX11_giveTwo 24 = .ok (.iload_n 3, 1) := by decide +kernel
theorem dX11_giveTwo_25 : decode cX11_giveTwo 25 = .ok (.iload_n 1, 1) := by decide +kernel
theorem dX11_giveTwo_26 : decode cX11_giveTwo 26 = .ok (.invokestatic 267, 3) := by decide +kernel
theorem dX11_giveTwo_29 : decode cX11_giveTwo 29 = .ok (.ifCond .eq 27, 3) := by decide +kernel
theorem dX11_giveTwo_32 : decode cX11_giveTwo 32 = .ok (.aload_n 0, 1) := by decide +kernel
theorem dX11_giveTwo_33 : decode cX11_giveTwo 33 = .ok (.iload_n 2, 1) := by decide +kernel
theorem dX11_giveTwo_34 : decode cX11_giveTwo 34 = .ok (.iload_n 3, 1) := by decide +kernel
theorem dX11_giveTwo_35 : decode cX11_giveTwo 35 = .ok (.invokestatic 264, 3) := by decide +kernel
theorem dX11_giveTwo_38 : decode cX11_giveTwo 38 = .ok (.iload_n 2, 1) := by decide +kernel
theorem dX11_giveTwo_39 : decode cX11_giveTwo 39 = .ok (.invokestatic 283, 3) := by decide +kernel
theorem dX11_giveTwo_42 : decode cX11_giveTwo 42 = .ok (.iload_n 3, 1) := by decide +kernel
theorem dX11_giveTwo_43 : decode cX11_giveTwo 43 = .ok (.invokestatic 283, 3) := by decide +kernel
theorem dX11_giveTwo_46 : decode cX11_giveTwo 46 = .ok (.invokestatic 264, 3) := by decide +kernel
theorem dX11_giveTwo_49 : decode cX11_giveTwo 49 = .ok (.invokestatic 264, 3) := by decide +kernel
theorem dX11_giveTwo_52 : decode cX11_giveTwo 52 = .ok (.lconst 1, 1) := by decide +kernel
theorem dX11_giveTwo_53 : decode cX11_giveTwo 53 = .ok (.invokevirtual 273, 3) := by decide +kernel
theorem dX11_giveTwo_56 : decode cX11_giveTwo 56 = .ok (.iinc 3 1, 3) := by decide +kernel
theorem dX11_giveTwo_59 : decode cX11_giveTwo 59 = .ok (.goto (-49), 3) := by decide +kernel
theorem dX11_giveTwo_62 : decode cX11_giveTwo 62 = .ok (.iinc 2 1, 3) := by decide +kernel
theorem dX11_giveTwo_65 : decode cX11_giveTwo 65 = .ok (.goto (-63), 3) := by decide +kernel
theorem dX11_giveTwo_68 : decode cX11_giveTwo 68 = .ok (.return_, 1) := by decide +kernel
theorem dX11_giveOne_0 : decode cX11_giveOne 0 = .ok (.iconst 0, 1) := by decide +kernel
theorem dX11_giveOne_1 : decode cX11_giveOne 1 = .ok (.istore_n 2, 1) := by decide +kernel
theorem dX11_giveOne_2 : decode cX11_giveOne 2 = .ok (.iload_n 2, 1) := by decide +kernel
theorem dX11_giveOne_3 : decode cX11_giveOne 3 = .ok (.bipush 6, 2) := by decide +kernel
theorem dX11_giveOne_5 : decode cX11_giveOne 5 = .ok (.if_icmp .ge 35, 3) := by decide +kernel
theorem dX11_giveOne_8 : decode cX11_giveOne 8 = .ok (.iload_n 2, 1) := by decide +kernel
theorem dX11_giveOne_9 : decode cX11_giveOne 9 = .ok (.iload_n 1, 1) := by decide +kernel
theorem dX11_giveOne_10 : decode cX11_giveOne 10 = .ok (.invokestatic 264, 3) := by decide +kernel
theorem dX11_giveOne_13 : decode cX11_giveOne 13 = .ok (.iload_n 1, 1) := by decide +kernel
theorem dX11_giveOne_14 : decode cX11_giveOne 14 = .ok (.invokestatic 283, 3) := by decide +kernel
theorem dX11_giveOne_17 : decode cX11_giveOne 17 = .ok (.iload_n 2, 1) := by decide +kernel
theorem dX11_giveOne_18 : decode cX11_giveOne 18 = .ok (.invokestatic 264, 3) := by decide +kernel
theorem dX11_giveOne_21 : decode cX11_giveOne 21 = .ok (.if_icmp .ne 13, 3) := by decide +kernel
theorem dX11_giveOne_24 : decode cX11_giveOne 24 = .ok (.aload_n 0, 1) := by decide +kernel
theorem dX11_giveOne_25 : decode cX11_giveOne 25 = .ok (.iload_n 2, 1) := by decide +kernel
theorem dX11_giveOne_26 : decode cX11_giveOne 26 = .ok (.iload_n 2, 1) := by decide +kernel
theorem dX11_giveOne_27 : decode cX11_giveOne 27 = .ok (.invokestatic 264, 3) := by decide +kernel
theorem dX11_giveOne_30 : decode cX11_giveOne 30 = .ok (.lconst 1, 1) := by decide +kernel
theorem dX11_giveOne_31 : decode cX11_giveOne 31 = .ok (.invokevirtual 273, 3) := by decide +kernel
theorem dX11_giveOne_34 : decode cX11_giveOne 34 = .ok (.iinc 2 1, 3) := by decide +kernel
theorem dX11_giveOne_37 : decode cX11_giveOne 37 = .ok (.goto (-35), 3) := by decide +kernel
theorem dX11_giveOne_40 : decode cX11_giveOne 40 = .ok (.return_, 1) := by decide +kernel
theorem dX11_rest_0 : decode cX11_rest 0 = .ok (.lload_n 0, 1) := by decide +kernel
theorem dX11_rest_1 : decode cX11_rest 1 = .ok (.lload_n 2, 1) := by decide +kernel
theorem dX11_rest_2 : decode cX11_rest 2 = .ok (.lrem, 1) := by decide +kernel
theorem dX11_rest_3 : decode cX11_rest 3 = .ok (.lstore 4, 2) := by decide +kernel
theorem dX11_rest_5 : decode cX11_rest 5 = .ok (.lload 4, 2) := by decide +kernel
theorem dX11_rest_7 : decode cX11_rest 7 = .ok (.lconst 0, 1) := by decide +kernel
theorem dX11_rest_8 : decode cX11_rest 8 = .ok (.lcmp, 1) := by decide +kernel
theorem dX11_rest_9 : decode cX11_rest 9 = .ok (.ifCond .ge 10, 3) := by decide +kernel
theorem dX11_rest_12 : decode cX11_rest 12 = .ok (.lload 4, 2) := by decide +kernel
theorem dX11_rest_14 : decode cX11_rest 14 = .ok (.lload_n 2, 1) := by decide +kernel
theorem dX11_rest_15 : decode cX11_rest 15 = .ok (.ladd, 1) := by decide +kernel
theorem dX11_rest_16 : decode cX11_rest 16 = .ok (.goto 5, 3) := by decide +kernel
theorem dX11_rest_19 : decode cX11_rest 19 = .ok (.lload 4, 2) := by decide +kernel
theorem dX11_rest_21 : decode cX11_rest 21 = .ok (.lreturn, 1) := by decide +kernel
theorem dX11_inverseOver_0 : decode cX11_inverseOver 0 = .ok (.lload_n 2, 1) := by decide +kernel
theorem dX11_inverseOver_1 : decode cX11_inverseOver 1 = .ok (.lstore 4, 2) := by decide +kernel
theorem dX11_inverseOver_3 : decode cX11_inverseOver 3 = .ok (.lload_n 0, 1) := by decide +kernel
theorem dX11_inverseOver_4 : decode cX11_inverseOver 4 = .ok (.lstore 6, 2) := by decide +kernel
theorem dX11_inverseOver_6 : decode cX11_inverseOver 6 = .ok (.lconst 0, 1) := by decide +kernel
theorem dX11_inverseOver_7 : decode cX11_inverseOver 7 = .ok (.lstore 8, 2) := by decide +kernel
theorem dX11_inverseOver_9 : decode cX11_inverseOver 9 = .ok (.lconst 1, 1) := by decide +kernel
theorem dX11_inverseOver_10 : decode cX11_inverseOver 10 = .ok (.lstore 10, 2) := by decide +kernel
theorem dX11_inverseOver_12 : decode cX11_inverseOver 12 = .ok (.lload 6, 2) := by decide +kernel
theorem dX11_inverseOver_14 : decode cX11_inverseOver 14 = .ok (.lconst 0, 1) := by decide +kernel
theorem dX11_inverseOver_15 : decode cX11_inverseOver 15 = .ok (.lcmp, 1) := by decide +kernel
theorem dX11_inverseOver_16 : decode cX11_inverseOver 16 = .ok (.ifCond .eq 49, 3) := by decide +kernel
theorem dX11_inverseOver_19 : decode cX11_inverseOver 19 = .ok (.lload 4, 2) := by decide +kernel
theorem dX11_inverseOver_21 : decode cX11_inverseOver 21 = .ok (.lload 6, 2) := by decide +kernel
theorem dX11_inverseOver_23 : decode cX11_inverseOver 23 = .ok (.ldiv, 1) := by decide +kernel
theorem dX11_inverseOver_24 : decode cX11_inverseOver 24 = .ok (.lstore 12, 2) := by decide +kernel
theorem dX11_inverseOver_26 : decode cX11_inverseOver 26 = .ok (.lload 4, 2) := by decide +kernel
theorem dX11_inverseOver_28 : decode cX11_inverseOver 28 = .ok (.lload 12, 2) := by decide +kernel
theorem dX11_inverseOver_30 : decode cX11_inverseOver 30 = .ok (.lload 6, 2) := by decide +kernel
theorem dX11_inverseOver_32 : decode cX11_inverseOver 32 = .ok (.lmul, 1) := by decide +kernel
theorem dX11_inverseOver_33 : decode cX11_inverseOver 33 = .ok (.lsub, 1) := by decide +kernel
theorem dX11_inverseOver_34 : decode cX11_inverseOver 34 = .ok (.lstore 14, 2) := by decide +kernel
theorem dX11_inverseOver_36 : decode cX11_inverseOver 36 = .ok (.lload 6, 2) := by decide +kernel
theorem dX11_inverseOver_38 : decode cX11_inverseOver 38 = .ok (.lstore 4, 2) := by decide +kernel
theorem dX11_inverseOver_40 : decode cX11_inverseOver 40 = .ok (.lload 14, 2) := by decide +kernel
theorem dX11_inverseOver_42 : decode cX11_inverseOver 42 = .ok (.lstore 6, 2) := by decide +kernel
theorem dX11_inverseOver_44 : decode cX11_inverseOver 44 = .ok (.lload 8, 2) := by decide +kernel
theorem dX11_inverseOver_46 : decode cX11_inverseOver 46 = .ok (.lload 12, 2) := by decide +kernel
theorem dX11_inverseOver_48 : decode cX11_inverseOver 48 = .ok (.lload 10, 2) := by decide +kernel
theorem dX11_inverseOver_50 : decode cX11_inverseOver 50 = .ok (.lmul, 1) := by decide +kernel
theorem dX11_inverseOver_51 : decode cX11_inverseOver 51 = .ok (.lsub, 1) := by decide +kernel
theorem dX11_inverseOver_52 : decode cX11_inverseOver 52 = .ok (.lstore 14, 2) := by decide +kernel
theorem dX11_inverseOver_54 : decode cX11_inverseOver 54 = .ok (.lload 10, 2) := by decide +kernel
theorem dX11_inverseOver_56 : decode cX11_inverseOver 56 = .ok (.lstore 8, 2) := by decide +kernel
theorem dX11_inverseOver_58 : decode cX11_inverseOver 58 = .ok (.lload 14, 2) := by decide +kernel
theorem dX11_inverseOver_60 : decode cX11_inverseOver 60 = .ok (.lstore 10, 2) := by decide +kernel
theorem dX11_inverseOver_62 : decode cX11_inverseOver 62 = .ok (.goto (-50), 3) := by decide +kernel
theorem dX11_inverseOver_65 : decode cX11_inverseOver 65 = .ok (.lload 8, 2) := by decide +kernel
theorem dX11_inverseOver_67 : decode cX11_inverseOver 67 = .ok (.lload_n 2, 1) := by decide +kernel
theorem dX11_inverseOver_68 : decode cX11_inverseOver 68 = .ok (.invokestatic 286, 3) := by decide +kernel
theorem dX11_inverseOver_71 : decode cX11_inverseOver 71 = .ok (.lreturn, 1) := by decide +kernel
theorem dX11_findLens_0 : decode cX11_findLens 0 = .ok (.lconst 1, 1) := by decide +kernel
theorem dX11_findLens_1 : decode cX11_findLens 1 = .ok (.lstore_n 2, 1) := by decide +kernel
theorem dX11_findLens_2 : decode cX11_findLens 2 = .ok (.aload_n 0, 1) := by decide +kernel
theorem dX11_findLens_3 : decode cX11_findLens 3 = .ok (.getfield 7, 3) := by decide +kernel
theorem dX11_findLens_6 : decode cX11_findLens 6 = .ok (.bipush 16, 2) := by decide +kernel
theorem dX11_findLens_8 : decode cX11_findLens 8 = .ok (.iload_n 1, 1) := by decide +kernel
theorem dX11_findLens_9 : decode cX11_findLens 9 = .ok (.imul, 1) := by decide +kernel
theorem dX11_findLens_10 : decode cX11_findLens 10 = .ok (.iconst 2, 1) := by decide +kernel
theorem dX11_findLens_11 : decode cX11_findLens 11 = .ok (.iadd, 1) := by decide +kernel
theorem dX11_findLens_12 : decode cX11_findLens 12 = .ok (.iaload, 1) := by decide +kernel
theorem dX11_findLens_13 : decode cX11_findLens 13 = .ok (.i2l, 1) := by decide +kernel
theorem dX11_findLens_14 : decode cX11_findLens 14 = .ok (.lstore 4, 2) := by decide +kernel
theorem dX11_findLens_16 : decode cX11_findLens 16 = .ok (.lconst 1, 1) := by decide +kernel
theorem dX11_findLens_17 : decode cX11_findLens 17 = .ok (.lstore 6, 2) := by decide +kernel
theorem dX11_findLens_19 : decode cX11_findLens 19 = .ok (.lconst 0, 1) := by decide +kernel
theorem dX11_findLens_20 : decode cX11_findLens 20 = .ok (.lstore 8, 2) := by decide +kernel
theorem dX11_findLens_22 : decode cX11_findLens 22 = .ok (.aload_n 0, 1) := by decide +kernel
theorem dX11_findLens_23 : decode cX11_findLens 23 = .ok (.iload_n 1, 1) := by decide +kernel
theorem dX11_findLens_24 : decode cX11_findLens 24 = .ok (.invokevirtual 100, 3) := by decide +kernel
theorem dX11_findLens_27 : decode cX11_findLens 27 = .ok (.ifCond .le 35, 3) := by decide +kernel
theorem dX11_findLens_30 : decode cX11_findLens 30 = .ok (.aload_n 0, 1) := by decide +kernel
theorem dX11_findLens_31 : decode cX11_findLens 31 = .ok (.iload_n 1, 1) := by decide +kernel
theorem dX11_findLens_32 : decode cX11_findLens 32 = .ok (.iconst 0, 1) := by decide +kernel
theorem dX11_findLens_33 : decode cX11_findLens 33 = .ok (.invokevirtual 90, 3) := by decide +kernel
theorem dX11_findLens_36 : decode cX11_findLens 36 = .ok (.i2l, 1) := by decide +kernel
theorem dX11_findLens_37 : decode cX11_findLens 37 = .ok (.lstore_n 2, 1) := by decide +kernel
theorem dX11_findLens_38 : decode cX11_findLens 38 = .ok (.aload_n 0, 1) := by decide +kernel
theorem dX11_findLens_39 : decode cX11_findLens 39 = .ok (.iload_n 1, 1) := by decide +kernel
theorem dX11_findLens_40 : decode cX11_findLens 40 = .ok (.iconst 0, 1) := by decide +kernel
theorem dX11_findLens_41 : decode cX11_findLens 41 = .ok (.invokevirtual 93, 3) := by decide +kernel
theorem dX11_findLens_44 : decode cX11_findLens 44 = .ok (.i2l, 1) := by decide +kernel
theorem dX11_findLens_45 : decode cX11_findLens 45 = .ok (.lload_n 2, 1) := by decide +kernel
theorem dX11_findLens_46 : decode cX11_findLens 46 = .ok (.aload_n 0, 1) := by decide +kernel
theorem dX11_findLens_47 : decode cX11_findLens 47 = .ok (.getfield 7, 3) := by decide +kernel
theorem dX11_findLens_50 : decode cX11_findLens 50 = .ok (.bipush 16, 2) := by decide +kernel
theorem dX11_findLens_52 : decode cX11_findLens 52 = .ok (.iload_n 1, 1) := by decide +kernel
theorem dX11_findLens_53 : decode cX11_findLens 53 = .ok (.imul, 1) := by decide +kernel
theorem dX11_findLens_54 : decode cX11_findLens 54 = .ok (.iconst 2, 1) := by decide +kernel
theorem dX11_findLens_55 : decode cX11_findLens 55 = .ok (.iadd, 1) := by decide +kernel
theorem dX11_findLens_56 : decode cX11_findLens 56 = .ok (.iaload, 1) := by decide +kernel
theorem dX11_findLens_57 : decode cX11_findLens 57 = .ok (.i2l, 1) := by decide +kernel
theorem dX11_findLens_58 : decode cX11_findLens 58 = .ok (.lmul, 1) := by decide +kernel
theorem dX11_findLens_59 : decode cX11_findLens 59 = .ok (.ladd, 1) := by decide +kernel
theorem dX11_findLens_60 : decode cX11_findLens 60 = .ok (.lstore 4, 2) := by decide +kernel
theorem dX11_findLens_62 : decode cX11_findLens 62 = .ok (.aload_n 0, 1) := by decide +kernel
theorem dX11_findLens_63 : decode cX11_findLens 63 = .ok (.iload_n 1, 1) := by decide +kernel
theorem dX11_findLens_64 : decode cX11_findLens 64 = .ok (.invokevirtual 100, 3) := by decide +kernel
theorem dX11_findLens_67 : decode cX11_findLens 67 = .ok (.iconst 1, 1) := by decide +kernel
theorem dX11_findLens_68 : decode cX11_findLens 68 = .ok (.if_icmp .le 21, 3) := by decide +kernel
theorem dX11_findLens_71 : decode cX11_findLens 71 = .ok (.aload_n 0, 1) := by decide +kernel
theorem dX11_findLens_72 : decode cX11_findLens 72 = .ok (.iload_n 1, 1) := by decide +kernel
theorem dX11_findLens_73 : decode cX11_findLens 73 = .ok (.iconst 1, 1) := by decide +kernel
theorem dX11_findLens_74 : decode cX11_findLens 74 = .ok (.invokevirtual 90, 3) := by decide +kernel
theorem dX11_findLens_77 : decode cX11_findLens 77 = .ok (.i2l, 1) := by decide +kernel
theorem dX11_findLens_78 : decode cX11_findLens 78 = .ok (.lstore 6, 2) := by decide +kernel
theorem dX11_findLens_80 : decode cX11_findLens 80 = .ok (.aload_n 0, 1) := by decide +kernel
theorem dX11_findLens_81 : decode cX11_findLens 81 = .ok (.iload_n 1, 1) := by decide +kernel
theorem dX11_findLens_82 : decode cX11_findLens 82 = .ok (.iconst 1, 1) := by decide +kernel
theorem dX11_findLens_83 : decode cX11_findLens 83 = .ok (.invokevirtual 93, 3) := by decide +kernel
theorem dX11_findLens_86 : decode cX11_findLens 86 = .ok (.i2l, 1) := by decide +kernel
theorem dX11_findLens_87 : decode cX11_findLens 87 = .ok (.lstore 8, 2) := by decide +kernel
theorem dX11_findLens_89 : decode cX11_findLens 89 = .ok (.aload_n 0, 1) := by decide +kernel
theorem dX11_findLens_90 : decode cX11_findLens 90 = .ok (.lload_n 2, 1) := by decide +kernel
theorem dX11_findLens_91 : decode cX11_findLens 91 = .ok (.lload 8, 2) := by decide +kernel
theorem dX11_findLens_93 : decode cX11_findLens 93 = .ok (.lmul, 1) := by decide +kernel
theorem dX11_findLens_94 : decode cX11_findLens 94 = .ok (.lload 4, 2) := by decide +kernel
theorem dX11_findLens_96 : decode cX11_findLens 96 = .ok (.lload 6, 2) := by decide +kernel
theorem dX11_findLens_98 : decode cX11_findLens 98 = .ok (.lmul, 1) := by decide +kernel
theorem dX11_findLens_99 : decode cX11_findLens 99 = .ok (.ladd, 1) := by decide +kernel
theorem dX11_findLens_100 : decode cX11_findLens 100 = .ok (.putfield 289, 3) := by decide +kernel
theorem dX11_findLens_103 : decode cX11_findLens 103 = .ok (.aload_n 0, 1) := by decide +kernel
theorem dX11_findLens_104 : decode cX11_findLens 104 = .ok (.aload_n 0, 1) := by decide +kernel
theorem dX11_findLens_105 : decode cX11_findLens 105 = .ok (.getfield 289, 3) := by decide +kernel
theorem dX11_findLens_108 : decode cX11_findLens 108 = .ok (.lconst 0, 1) := by decide +kernel
theorem dX11_findLens_109 : decode cX11_findLens 109 = .ok (.lcmp, 1) := by decide +kernel
theorem dX11_findLens_110 : decode cX11_findLens 110 = .ok (.ifCond .ge 11, 3) := by decide +kernel
theorem dX11_findLens_113 : decode cX11_findLens 113 = .ok (.aload_n 0, 1) := by decide +kernel
theorem dX11_findLens_114 : decode cX11_findLens 114 = .ok (.getfield 289, 3) := by decide +kernel
theorem dX11_findLens_117 : decode cX11_findLens 117 = .ok (.lneg, 1) := by decide +kernel
theorem dX11_findLens_118 : decode cX11_findLens 118 = .ok (.goto 7, 3) := by decide +kernel
theorem dX11_findLens_121 : decode cX11_findLens 121 = .ok (.aload_n 0, 1) := by decide +kernel
theorem dX11_findLens_122 : decode cX11_findLens 122 = .ok (.getfield 289, 3) := by decide +kernel
theorem dX11_findLens_125 : decode cX11_findLens 125 = .ok (.putfield 289, 3) := by decide +kernel
theorem dX11_findLens_128 : decode cX11_findLens 128 = .ok (.aload_n 0, 1) := by decide +kernel
theorem dX11_findLens_129 : decode cX11_findLens 129 = .ok (.lconst 0, 1) := by decide +kernel
theorem dX11_findLens_130 : decode cX11_findLens 130 = .ok (.putfield 292, 3) := by decide +kernel
theorem dX11_findLens_133 : decode cX11_findLens 133 = .ok (.aload_n 0, 1) := by decide +kernel
theorem dX11_findLens_134 : decode cX11_findLens 134 = .ok (.getfield 289, 3) := by decide +kernel
theorem dX11_findLens_137 : decode cX11_findLens 137 = .ok (.lconst 1, 1) := by decide +kernel
theorem dX11_findLens_138 : decode cX11_findLens 138 = .ok (.lcmp, 1) := by decide +kernel
theorem dX11_findLens_139 : decode cX11_findLens 139 = .ok (.ifCond .le 99, 3) := by decide +kernel
theorem dX11_findLens_142 : decode cX11_findLens 142 = .ok (.lload_n 2, 1) := by decide +kernel
theorem dX11_findLens_143 : decode cX11_findLens 143 = .ok (.lconst 1, 1) := by decide +kernel
theorem dX11_findLens_144 : decode cX11_findLens 144 = .ok (.lcmp, 1) := by decide +kernel
theorem dX11_findLens_145 : decode cX11_findLens 145 = .ok (.ifCond .ne 7, 3) := by decide +kernel
theorem dX11_findLens_148 : decode cX11_findLens 148 = .ok (.lconst 1, 1) := by decide +kernel
theorem dX11_findLens_149 : decode cX11_findLens 149 = .ok (.goto 40, 3) := by decide +kernel
theorem dX11_findLens_152 : decode cX11_findLens 152 = .ok (.lload_n 2, 1) := by decide +kernel
theorem dX11_findLens_153 : decode cX11_findLens 153 = .ok (.lload 4, 2) := by decide +kernel
theorem dX11_findLens_155 : decode cX11_findLens 155 = .ok (.lconst 0, 1) := by decide +kernel
theorem dX11_findLens_156 : decode cX11_findLens 156 = .ok (.lcmp, 1) := by decide +kernel
theorem dX11_findLens_157 : decode cX11_findLens 157 = .ok (.ifCond .ge 9, 3) := by decide +kernel
theorem dX11_findLens_160 : decode cX11_findLens 160 = .ok (.lload 4, 2) := by decide +kernel
theorem dX11_findLens_162 : decode cX11_findLens 162 = .ok (.lneg, 1) := by decide +kernel
theorem dX11_findLens_163 : decode cX11_findLens 163 = .ok (.goto 5, 3) := by decide +kernel
theorem dX11_findLens_166 : decode cX11_findLens 166 = .ok (.lload 4, 2) := by decide +kernel
theorem dX11_findLens_168 : decode cX11_findLens 168 = .ok (.invokestatic 286, 3) := by decide +kernel
theorem dX11_findLens_171 : decode cX11_findLens 171 = .ok (.lload 4, 2) := by decide +kernel
theorem dX11_findLens_173 : decode cX11_findLens 173 = .ok (.lconst 0, 1) := by decide +kernel
theorem dX11_findLens_174 : decode cX11_findLens 174 = .ok (.lcmp, 1) := by decide +kernel
theorem dX11_findLens_175 : decode cX11_findLens 175 = .ok (.ifCond .ge 9, 3) := by decide +kernel
theorem dX11_findLens_178 : decode cX11_findLens 178 = .ok (.lload 4, 2) := by decide +kernel
theorem dX11_findLens_180 : decode cX11_findLens 180 = .ok (.lneg, 1) := by decide +kernel
theorem dX11_findLens_181 : decode cX11_findLens 181 = .ok (.goto 5, 3) := by decide +kernel
theorem dX11_findLens_184 : decode cX11_findLens 184 = .ok (.lload 4, 2) := by decide +kernel
theorem dX11_findLens_186 : decode cX11_findLens 186 = .ok (.invokestatic 295, 3) := by decide +kernel
theorem dX11_findLens_189 : decode cX11_findLens 189 = .ok (.lstore 10, 2) := by decide +kernel
theorem dX11_findLens_191 : decode cX11_findLens 191 = .ok (.lload_n 2, 1) := by decide +kernel
theorem dX11_findLens_192 : decode cX11_findLens 192 = .ok (.lconst 1, 1) := by decide +kernel
theorem dX11_findLens_193 : decode cX11_findLens 193 = .ok (.lcmp, 1) := by decide +kernel
theorem dX11_findLens_194 : decode cX11_findLens 194 = .ok (.ifCond .ne 7, 3) := by decide +kernel
theorem dX11_findLens_197 : decode cX11_findLens 197 = .ok (.lconst 0, 1) := by decide +kernel
theorem dX11_findLens_198 : decode cX11_findLens 198 = .ok (.goto 12, 3) := by decide +kernel
theorem dX11_findLens_201 : decode cX11_findLens 201 = .ok (.lload_n 2, 1) := by decide +kernel
theorem dX11_findLens_202 : decode cX11_findLens 202 = .ok (.lload 10, 2) := by decide +kernel
theorem dX11_findLens_204 : decode cX11_findLens 204 = .ok (.lmul, 1) := by decide +kernel
theorem dX11_findLens_205 : decode cX11_findLens 205 = .ok (.lconst 1, 1) := by decide +kernel
theorem dX11_findLens_206 : decode cX11_findLens 206 = .ok (.lsub, 1) := by decide +kernel
theorem dX11_findLens_207 : decode cX11_findLens 207 = .ok (.lload 4, 2) := by decide +kernel
theorem dX11_findLens_209 : decode cX11_findLens 209 = .ok (.ldiv, 1) := by decide +kernel
theorem dX11_findLens_210 : decode cX11_findLens 210 = .ok (.lstore 12, 2) := by decide +kernel
theorem dX11_findLens_212 : decode cX11_findLens 212 = .ok (.aload_n 0, 1) := by decide +kernel
theorem dX11_findLens_213 : decode cX11_findLens 213 = .ok (.lload 6, 2) := by decide +kernel
theorem dX11_findLens_215 : decode cX11_findLens 215 = .ok (.lload 10, 2) := by decide +kernel
theorem dX11_findLens_217 : decode cX11_findLens 217 = .ok (.lmul, 1) := by decide +kernel
theorem dX11_findLens_218 : decode cX11_findLens 218 = .ok (.lload 8, 2) := by decide +kernel
theorem dX11_findLens_220 : decode cX11_findLens 220 = .ok (.lload 12, 2) := by decide +kernel
theorem dX11_findLens_222 : decode cX11_findLens 222 = .ok (.lmul, 1) := by decide +kernel
theorem dX11_findLens_223 : decode cX11_findLens 223 = .ok (.ladd, 1) := by decide +kernel
theorem dX11_findLens_224 : decode cX11_findLens 224 = .ok (.aload_n 0, 1) := by decide +kernel
theorem dX11_findLens_225 : decode cX11_findLens 225 = .ok (.getfield 289, 3) := by decide +kernel
theorem dX11_findLens_228 : decode cX11_findLens 228 = .ok (.invokestatic 286, 3) := by decide +kernel
theorem dX11_findLens_231 : decode cX11_findLens 231 = .ok (.putfield 292, 3) := by decide +kernel
theorem dX11_findLens_234 : decode cX11_findLens 234 = .ok (.aload_n 0, 1) := by decide +kernel
theorem dX11_findLens_235 : decode cX11_findLens 235 = .ok (.invokevirtual 298, 3) := by decide +kernel
theorem dX11_findLens_238 : decode cX11_findLens 238 = .ok (.return_, 1) := by decide +kernel
theorem dX11_chooseLeast_0 : decode cX11_chooseLeast 0 = .ok (.aload_n 0, 1) := by decide +kernel
theorem dX11_chooseLeast_1 : decode cX11_chooseLeast 1 = .ok (.getfield 292, 3) := by decide +kernel
theorem dX11_chooseLeast_4 : decode cX11_chooseLeast 4 = .ok (.lstore_n 1, 1) := by decide +kernel
theorem dX11_chooseLeast_5 : decode cX11_chooseLeast 5 = .ok (.lload_n 1, 1) := by decide +kernel
theorem dX11_chooseLeast_6 : decode cX11_chooseLeast 6 = .ok (.aload_n 0, 1) := by decide +kernel
theorem dX11_chooseLeast_7 : decode cX11_chooseLeast 7 = .ok (.getfield 289, 3) := by decide +kernel
theorem dX11_chooseLeast_10 : decode cX11_chooseLeast 10 = .ok (.invokestatic 295, 3) := by decide +kernel
theorem dX11_chooseLeast_13 : decode cX11_chooseLeast 13 = .ok (.lstore_n 3, 1) := by decide +kernel
theorem dX11_chooseLeast_14 : decode cX11_chooseLeast 14 = .ok (.aload_n 0, 1) := by decide +kernel
theorem dX11_chooseLeast_15 : decode cX11_chooseLeast 15 = .ok (.lload_n 1, 1) := by decide +kernel
theorem dX11_chooseLeast_16 : decode cX11_chooseLeast 16 = .ok (.aload_n 0, 1) := by decide +kernel
theorem dX11_chooseLeast_17 : decode cX11_chooseLeast 17 = .ok (.getfield 289, 3) := by decide +kernel
theorem dX11_chooseLeast_20 : decode cX11_chooseLeast 20 = .ok (.lload_n 1, 1) := by decide +kernel
theorem dX11_chooseLeast_21 : decode cX11_chooseLeast 21 = .ok (.lsub, 1) := by decide +kernel
theorem dX11_chooseLeast_22 : decode cX11_chooseLeast 22 = .ok (.lcmp, 1) := by decide +kernel
theorem dX11_chooseLeast_23 : decode cX11_chooseLeast 23 = .ok (.ifCond .ge 7, 3) := by decide +kernel
theorem dX11_chooseLeast_26 : decode cX11_chooseLeast 26 = .ok (.lload_n 1, 1) := by decide +kernel
theorem dX11_chooseLeast_27 : decode cX11_chooseLeast 27 = .ok (.goto 9, 3) := by decide +kernel
theorem dX11_chooseLeast_30 : decode cX11_chooseLeast 30 = .ok (.aload_n 0, 1) := by decide +kernel
theorem dX11_chooseLeast_31 : decode cX11_chooseLeast 31 = .ok (.getfield 289, 3) := by decide +kernel
theorem dX11_chooseLeast_34 : decode cX11_chooseLeast 34 = .ok (.lload_n 1, 1) := by decide +kernel
theorem dX11_chooseLeast_35 : decode cX11_chooseLeast 35 = .ok (.lsub, 1) := by decide +kernel
theorem dX11_chooseLeast_36 : decode cX11_chooseLeast 36 = .ok (.putfield 292, 3) := by decide +kernel
theorem dX11_chooseLeast_39 : decode cX11_chooseLeast 39 = .ok (.aload_n 0, 1) := by decide +kernel
theorem dX11_chooseLeast_40 : decode cX11_chooseLeast 40 = .ok (.lload_n 3, 1) := by decide +kernel
theorem dX11_chooseLeast_41 : decode cX11_chooseLeast 41 = .ok (.aload_n 0, 1) := by decide +kernel
theorem dX11_chooseLeast_42 : decode cX11_chooseLeast 42 = .ok (.getfield 292, 3) := by decide +kernel
theorem dX11_chooseLeast_45 : decode cX11_chooseLeast 45 = .ok (.lcmp, 1) := by decide +kernel
theorem dX11_chooseLeast_46 : decode cX11_chooseLeast 46 = .ok (.ifCond .ge 7, 3) := by decide +kernel
theorem dX11_chooseLeast_49 : decode cX11_chooseLeast 49 = .ok (.lload_n 3, 1) := by decide +kernel
theorem dX11_chooseLeast_50 : decode cX11_chooseLeast 50 = .ok (.goto 7, 3) := by decide +kernel
theorem dX11_chooseLeast_53 : decode cX11_chooseLeast 53 = .ok (.aload_n 0, 1) := by decide +kernel
theorem dX11_chooseLeast_54 : decode cX11_chooseLeast 54 = .ok (.getfield 292, 3) := by decide +kernel
theorem dX11_chooseLeast_57 : decode cX11_chooseLeast 57 = .ok (.putfield 292, 3) := by decide +kernel
theorem dX11_chooseLeast_60 : decode cX11_chooseLeast 60 = .ok (.aload_n 0, 1) := by decide +kernel
theorem dX11_chooseLeast_61 : decode cX11_chooseLeast 61 = .ok (.aload_n 0, 1) := by decide +kernel
theorem dX11_chooseLeast_62 : decode cX11_chooseLeast 62 = .ok (.getfield 289, 3) := by decide +kernel
theorem dX11_chooseLeast_65 : decode cX11_chooseLeast 65 = .ok (.lload_n 3, 1) := by decide +kernel
theorem dX11_chooseLeast_66 : decode cX11_chooseLeast 66 = .ok (.lsub, 1) := by decide +kernel
theorem dX11_chooseLeast_67 : decode cX11_chooseLeast 67 = .ok (.aload_n 0, 1) := by decide +kernel
theorem dX11_chooseLeast_68 : decode cX11_chooseLeast 68 = .ok (.getfield 292, 3) := by decide +kernel
theorem dX11_chooseLeast_71 : decode cX11_chooseLeast 71 = .ok (.lcmp, 1) := by decide +kernel
theorem dX11_chooseLeast_72 : decode cX11_chooseLeast 72 = .ok (.ifCond .ge 12, 3) := by decide +kernel
theorem dX11_chooseLeast_75 : decode cX11_chooseLeast 75 = .ok (.aload_n 0, 1) := by decide +kernel
theorem dX11_chooseLeast_76 : decode cX11_chooseLeast 76 = .ok (.getfield 289, 3) := by decide +kernel
theorem dX11_chooseLeast_79 : decode cX11_chooseLeast 79 = .ok (.lload_n 3, 1) := by decide +kernel
theorem dX11_chooseLeast_80 : decode cX11_chooseLeast 80 = .ok (.lsub, 1) := by decide +kernel
theorem dX11_chooseLeast_81 : decode cX11_chooseLeast 81 = .ok (.goto 7, 3) := by decide +kernel
theorem dX11_chooseLeast_84 : decode cX11_chooseLeast 84 = .ok (.aload_n 0, 1) := by decide +kernel
theorem dX11_chooseLeast_85 : decode cX11_chooseLeast 85 = .ok (.getfield 292, 3) := by decide +kernel
theorem dX11_chooseLeast_88 : decode cX11_chooseLeast 88 = .ok (.putfield 292, 3) := by decide +kernel
theorem dX11_chooseLeast_91 : decode cX11_chooseLeast 91 = .ok (.return_, 1) := by decide +kernel
theorem dX11_lens_0 : decode cX11_lens 0 = .ok (.iload_n 1, 1) := by decide +kernel
theorem dX11_lens_1 : decode cX11_lens 1 = .ok (.invokestatic 147, 3) := by decide +kernel
theorem dX11_lens_4 : decode cX11_lens 4 = .ok (.ifCond .eq 13, 3) := by decide +kernel
theorem dX11_lens_7 : decode cX11_lens 7 = .ok (.iload_n 2, 1) := by decide +kernel
theorem dX11_lens_8 : decode cX11_lens 8 = .ok (.i2l, 1) := by decide +kernel
theorem dX11_lens_9 : decode cX11_lens 9 = .ok (.lconst 0, 1) := by decide +kernel
theorem dX11_lens_10 : decode cX11_lens 10 = .ok (.lconst 1, 1) := by decide +kernel
theorem dX11_lens_11 : decode cX11_lens 11 = .ok (.invokestatic 63, 3) := by decide +kernel
theorem dX11_lens_14 : decode cX11_lens 14 = .ok (.ifCond .ne 7, 3) := by decide +kernel
theorem dX11_lens_17 : decode cX11_lens 17 = .ok (.ldc2_w 229, 3) := by decide +kernel
theorem dX11_lens_20 : decode cX11_lens 20 = .ok (.lreturn, 1) := by decide +kernel
theorem dX11_lens_21 : decode cX11_lens 21 = .ok (.aload_n 0, 1) := by decide +kernel
theorem dX11_lens_22 : decode cX11_lens 22 = .ok (.getfield 7, 3) := by decide +kernel
theorem dX11_lens_25 : decode cX11_lens 25 = .ok (.bipush 16, 2) := by decide +kernel
theorem dX11_lens_27 : decode cX11_lens 27 = .ok (.iload_n 1, 1) := by decide +kernel
theorem dX11_lens_28 : decode cX11_lens 28 = .ok (.imul, 1) := by decide +kernel
theorem dX11_lens_29 : decode cX11_lens 29 = .ok (.iconst 0, 1) := by decide +kernel
theorem dX11_lens_30 : decode cX11_lens 30 = .ok (.iadd, 1) := by decide +kernel
theorem dX11_lens_31 : decode cX11_lens 31 = .ok (.iaload, 1) := by decide +kernel
theorem dX11_lens_32 : decode cX11_lens 32 = .ok (.ifCond .ne 26, 3) := by decide +kernel
theorem dX11_lens_35 : decode cX11_lens 35 = .ok (.aload_n 0, 1) := by decide +kernel
theorem dX11_lens_36 : decode cX11_lens 36 = .ok (.getfield 7, 3) := by decide +kernel
theorem dX11_lens_39 : decode cX11_lens 39 = .ok (.bipush 16, 2) := by decide +kernel
theorem dX11_lens_41 : decode cX11_lens 41 = .ok (.iload_n 1, 1) := by decide +kernel
theorem dX11_lens_42 : decode cX11_lens 42 = .ok (.imul, 1) := by decide +kernel
theorem dX11_lens_43 : decode cX11_lens 43 = .ok (.iconst 1, 1) := by decide +kernel
theorem dX11_lens_44 : decode cX11_lens 44 = .ok (.iadd, 1) := by decide +kernel
theorem dX11_lens_45 : decode cX11_lens 45 = .ok (.iaload, 1) := by decide +kernel
theorem dX11_lens_46 : decode cX11_lens 46 = .ok (.ifCond .ne 12, 3) := by decide +kernel
theorem dX11_lens_49 : decode cX11_lens 49 = .ok (.aload_n 0, 1) := by decide +kernel
theorem dX11_lens_50 : decode cX11_lens 50 = .ok (.iload_n 1, 1) := by decide +kernel
theorem dX11_lens_51 : decode cX11_lens 51 = .ok (.invokevirtual 100, 3) := by decide +kernel
theorem dX11_lens_54 : decode cX11_lens 54 = .ok (.iconst 2, 1) := by decide +kernel
theorem dX11_lens_55 : decode cX11_lens 55 = .ok (.if_icmp .le 7, 3) := by decide +kernel
theorem dX11_lens_58 : decode cX11_lens 58 = .ok (.ldc2_w 301, 3) := by decide +kernel
theorem dX11_lens_61 : decode cX11_lens 61 = .ok (.lreturn, 1) := by decide +kernel
theorem dX11_lens_62 : decode cX11_lens 62 = .ok (.aload_n 0, 1) := by decide +kernel
theorem dX11_lens_63 : decode cX11_lens 63 = .ok (.iload_n 1, 1) := by decide +kernel
theorem dX11_lens_64 : decode cX11_lens 64 = .ok (.invokevirtual 303, 3) := by decide +kernel
theorem dX11_lens_67 : decode cX11_lens 67 = .ok (.iload_n 2, 1) := by decide +kernel
theorem dX11_lens_68 : decode cX11_lens 68 = .ok (.ifCond .ne 10, 3) := by decide +kernel
theorem dX11_lens_71 : decode cX11_lens 71 = .ok (.aload_n 0, 1) := by decide +kernel
theorem dX11_lens_72 : decode cX11_lens 72 = .ok (.getfield 289, 3) := by decide +kernel
theorem dX11_lens_75 : decode cX11_lens 75 = .ok (.goto 7, 3) := by decide +kernel
theorem dX11_lens_78 : decode cX11_lens 78 = .ok (.aload_n 0, 1) := by decide +kernel
theorem dX11_lens_79 : decode cX11_lens 79 = .ok (.getfield 292, 3) := by decide +kernel
theorem dX11_lens_82 : decode cX11_lens 82 = .ok (.lreturn, 1) := by decide +kernel
theorem dX11_sees_0 : decode cX11_sees 0 = .ok (.iload_n 1, 1) := by decide +kernel
theorem dX11_sees_1 : decode cX11_sees 1 = .ok (.i2l, 1) := by decide +kernel
theorem dX11_sees_2 : decode cX11_sees 2 = .ok (.ldc2_w 174, 3) := by decide +kernel
theorem dX11_sees_5 : decode cX11_sees 5 = .ok (.ldc2_w 245, 3) := by decide +kernel
theorem dX11_sees_8 : decode cX11_sees 8 = .ok (.invokestatic 63, 3) := by decide +kernel
theorem dX11_sees_11 : decode cX11_sees 11 = .ok (.ifCond .eq 9, 3) := by decide +kernel
theorem dX11_sees_14 : decode cX11_sees 14 = .ok (.lload_n 2, 1) := by decide +kernel
theorem dX11_sees_15 : decode cX11_sees 15 = .ok (.lconst 0, 1) := by decide +kernel
theorem dX11_sees_16 : decode cX11_sees 16 = .ok (.lcmp, 1) := by decide +kernel
theorem dX11_sees_17 : decode cX11_sees 17 = .ok (.ifCond .ge 5, 3) := by decide +kernel
theorem dX11_sees_20 : decode cX11_sees 20 = .ok (.iconst (-1), 1) := by decide +kernel
theorem dX11_sees_21 : decode cX11_sees 21 = .ok (.ireturn, 1) := by decide +kernel
theorem dX11_sees_22 : decode cX11_sees 22 = .ok (.aload_n 0, 1) := by decide +kernel
theorem dX11_sees_23 : decode cX11_sees 23 = .ok (.getfield 306, 3) := by decide +kernel
theorem dX11_sees_26 : decode cX11_sees 26 = .ok (.bipush 6, 2) := by decide +kernel
theorem dX11_sees_28 : decode cX11_sees 28 = .ok (.if_icmp .ne 6, 3) := by decide +kernel
theorem dX11_sees_31 : decode cX11_sees 31 = .ok (.bipush (-3), 2) := by decide +kernel
theorem dX11_sees_33 : decode cX11_sees 33 = .ok (.ireturn, 1) := by decide +kernel
theorem dX11_sees_34 : decode cX11_sees 34 = .ok (.aload_n 0, 1) := by decide +kernel
theorem dX11_sees_35 : decode cX11_sees 35 = .ok (.getfield 48, 3) := by decide +kernel
theorem dX11_sees_38 : decode cX11_sees 38 = .ok (.aload_n 0, 1) := by decide +kernel
theorem dX11_sees_39 : decode cX11_sees 39 = .ok (.getfield 306, 3) := by decide +kernel
theorem dX11_sees_42 : decode cX11_sees 42 = .ok (.iload_n 1, 1) := by decide +kernel
theorem dX11_sees_43 : decode cX11_sees 43 = .ok (.iastore, 1) := by decide +kernel
theorem dX11_sees_44 : decode cX11_sees 44 = .ok (.aload_n 0, 1) := by decide +kernel
theorem dX11_sees_45 : decode cX11_sees 45 = .ok (.getfield 51, 3) := by decide +kernel
theorem dX11_sees_48 : decode cX11_sees 48 = .ok (.aload_n 0, 1) := by decide +kernel
theorem dX11_sees_49 : decode cX11_sees 49 = .ok (.getfield 306, 3) := by decide +kernel
theorem dX11_sees_52 : decode cX11_sees 52 = .ok (.lload_n 2, 1) := by decide +kernel
theorem dX11_sees_53 : decode cX11_sees 53 = .ok (.lastore, 1) := by decide +kernel
theorem dX11_sees_54 : decode cX11_sees 54 = .ok (.aload_n 0, 1) := by decide +kernel
theorem dX11_sees_55 : decode cX11_sees 55 = .ok (.dup, 1) := by decide +kernel
theorem dX11_sees_56 : decode cX11_sees 56 = .ok (.getfield 306, 3) := by decide +kernel
theorem dX11_sees_59 : decode cX11_sees 59 = .ok (.iconst 1, 1) := by decide +kernel
theorem dX11_sees_60 : decode cX11_sees 60 = .ok (.iadd, 1) := by decide +kernel
theorem dX11_sees_61 : decode cX11_sees 61 = .ok (.putfield 306, 3) := by decide +kernel
theorem dX11_sees_64 : decode cX11_sees 64 = .ok (.aload_n 0, 1) := by decide +kernel
theorem dX11_sees_65 : decode cX11_sees 65 = .ok (.getfield 306, 3) := by decide +kernel
theorem dX11_sees_68 : decode cX11_sees 68 = .ok (.ireturn, 1) := by decide +kernel
theorem dX11_forget_0 : decode cX11_forget 0 = .ok (.aload_n 0, 1) := by decide +kernel
theorem dX11_forget_1 : decode cX11_forget 1 = .ok (.getfield 306, 3) := by decide +kernel
theorem dX11_forget_4 : decode cX11_forget 4 = .ok (.istore_n 1, 1) := by decide +kernel
theorem dX11_forget_5 : decode cX11_forget 5 = .ok (.aload_n 0, 1) := by decide +kernel
theorem dX11_forget_6 : decode cX11_forget 6 = .ok (.iconst 0, 1) := by decide +kernel
theorem dX11_forget_7 : decode cX11_forget 7 = .ok (.putfield 306, 3) := by decide +kernel
theorem dX11_forget_10 : decode cX11_forget 10 = .ok (.iload_n 1, 1) := by decide +kernel
theorem dX11_forget_11 : decode cX11_forget 11 = .ok (.ireturn, 1) := by decide +kernel
theorem dX11_which_0 : decode cX11_which 0 = .ok (.iconst 0, 1) := by decide +kernel
theorem dX11_which_1 : decode cX11_which 1 = .ok (.istore_n 1, 1) := by decide +kernel
theorem dX11_which_2 : decode cX11_which 2 = .ok (.iconst 0, 1) := by decide +kernel
theorem dX11_which_3 : decode cX11_which 3 = .ok (.istore_n 2, 1) := by decide +kernel
theorem dX11_which_4 : decode cX11_which 4 = .ok (.iload_n 2, 1) := by decide +kernel
theorem dX11_which_5 : decode cX11_which 5 = .ok (.bipush 6, 2) := by decide +kernel
theorem dX11_which_7 : decode cX11_which 7 = .ok (.if_icmp .ge 76, 3) := by decide +kernel
theorem dX11_which_10 : decode cX11_which 10 = .ok (.iconst 1, 1) := by decide +kernel
theorem dX11_which_11 : decode cX11_which 11 = .ok (.istore_n 3, 1) := by decide +kernel
theorem dX11_which_12 : decode cX11_which 12 = .ok (.iconst 0, 1) := by decide +kernel
theorem dX11_which_13 : decode cX11_which 13 = .ok (.istore 4, 2) := by decide +kernel
theorem dX11_which_15 : decode cX11_which 15 = .ok (.iload 4, 2) := by decide +kernel
theorem dX11_which_17 : decode cX11_which 17 = .ok (.aload_n 0, 1) := by decide +kernel
theorem dX11_which_18 : decode cX11_which 18 = .ok (.getfield 306, 3) := by decide +kernel
theorem dX11_which_21 : decode cX11_which 21 = .ok (.if_icmp .ge 42, 3) := by decide +kernel
theorem dX11_which_24 : decode cX11_which 24 = .ok (.iload_n 3, 1) := by decide +kernel
theorem dX11_which_25 : decode cX11_which 25 = .ok (.ifCond .eq 30, 3) := by decide +kernel
theorem dX11_which_28 : decode cX11_which 28 = .ok (.aload_n 0, 1) := by decide +kernel
theorem dX11_which_29 : decode cX11_which 29 = .ok (.iload_n 2, 1) := by decide +kernel
theorem dX11_which_30 : decode cX11_which 30 = .ok (.aload_n 0, 1) := by decide +kernel
theorem dX11_which_31 : decode cX11_which 31 = .ok (.getfield 48, 3) := by decide +kernel
theorem dX11_which_34 : decode cX11_which 34 = .ok (.iload 4, 2) := by decide +kernel
theorem dX11_which_36 : decode cX11_which 36 = .ok (.iaload, 1) := by decide +kernel
theorem dX11_which_37 : decode cX11_which 37 = .ok (.invokevirtual 247, 3) := by decide +kernel
theorem dX11_which_40 : decode cX11_which 40 = .ok (.aload_n 0, 1) := by decide +kernel
theorem dX11_which_41 : decode cX11_which 41 = .ok (.getfield 51, 3) := by decide +kernel
theorem dX11_which_44 : decode cX11_which 44 = .ok (.iload 4, 2) := by decide +kernel
theorem dX11_which_46 : decode cX11_which 46 = .ok (.laload, 1) := by decide +kernel
theorem dX11_which_47 : decode cX11_which 47 = .ok (.lcmp, 1) := by decide +kernel
theorem dX11_which_48 : decode cX11_which 48 = .ok (.ifCond .ne 7, 3) := by decide +kernel
theorem dX11_which_51 : decode cX11_which 51 = .ok (.iconst 1, 1) := by decide +kernel
theorem dX11_which_52 : decode cX11_which 52 = .ok (.goto 4, 3) := by decide +kernel
theorem dX11_which_55 : decode cX11_which 55 = .ok (.iconst 0, 1) := by decide +kernel
theorem dX11_which_56 : decode cX11_which 56 = .ok (.istore_n 3, 1) := by decide +kernel
theorem dX11_which_57 : decode cX11_which 57 = .ok (.iinc 4 1, 3) := by decide +kernel
theorem dX11_which_60 : decode cX11_which 60 = .ok (.goto (-45), 3) := by decide +kernel
theorem dX11_which_63 : decode cX11_which 63 = .ok (.iload_n 1, 1) := by decide +kernel
theorem dX11_which_64 : decode cX11_which 64 = .ok (.iload_n 3, 1) := by decide +kernel
theorem dX11_which_65 : decode cX11_which 65 = .ok (.ifCond .eq 9, 3) := by decide +kernel
theorem dX11_which_68 : decode cX11_which 68 = .ok (.iconst 1, 1) := by decide +kernel
theorem dX11_which_69 : decode cX11_which 69 = .ok (.iload_n 2, 1) := by decide +kernel
theorem dX11_which_70 : decode cX11_which 70 = .ok (.ishl, 1) := by decide +kernel
theorem dX11_which_71 : decode cX11_which 71 = .ok (.goto 4, 3) := by decide +kernel
theorem dX11_which_74 : decode cX11_which 74 = .ok (.iconst 0, 1) := by decide +kernel
theorem dX11_which_75 : decode cX11_which 75 = .ok (.ior, 1) := by decide +kernel
theorem dX11_which_76 : decode cX11_which 76 = .ok (.istore_n 1, 1) := by decide +kernel
theorem dX11_which_77 : decode cX11_which 77 = .ok (.iinc 2 1, 3) := by decide +kernel
theorem dX11_which_80 : decode cX11_which 80 = .ok (.goto (-76), 3) := by decide +kernel
theorem dX11_which_83 : decode cX11_which 83 = .ok (.iload_n 1, 1) := by decide +kernel
theorem dX11_which_84 : decode cX11_which 84 = .ok (.ireturn, 1) := by decide +kernel
theorem dX11_alike_0 : decode cX11_alike 0 = .ok (.iconst 0, 1) := by decide +kernel
theorem dX11_alike_1 : decode cX11_alike 1 = .ok (.istore_n 3, 1) := by decide +kernel
theorem dX11_alike_2 : decode cX11_alike 2 = .ok (.iload_n 3, 1) := by decide +kernel
theorem dX11_alike_3 : decode cX11_alike 3 = .ok (.bipush 6, 2) := by decide +kernel
theorem dX11_alike_5 : decode cX11_alike 5 = .ok (.if_icmp .ge 21, 3) := by decide +kernel
theorem dX11_alike_8 : decode cX11_alike 8 = .ok (.aload_n 0, 1) := by decide +kernel
theorem dX11_alike_9 : decode cX11_alike 9 = .ok (.getfield 54, 3) := by decide +kernel
theorem dX11_alike_12 : decode cX11_alike 12 = .ok (.iload_n 3, 1) := by decide +kernel
theorem dX11_alike_13 : decode cX11_alike 13 = .ok (.aload_n 0, 1) := by decide +kernel
theorem dX11_alike_14 : decode cX11_alike 14 = .ok (.iload_n 3, 1) := by decide +kernel
theorem dX11_alike_15 : decode cX11_alike 15 = .ok (.iload_n 2, 1) := by decide +kernel
theorem dX11_alike_16 : decode cX11_alike 16 = .ok (.invokevirtual 247, 3) := by decide +kernel
theorem dX11_alike_19 : decode cX11_alike 19 = .ok (.lastore, 1) := by decide +kernel
theorem dX11_alike_20 : decode cX11_alike 20 = .ok (.iinc 3 1, 3) := by decide +kernel
theorem dX11_alike_23 : decode cX11_alike 23 = .ok (.goto (-21), 3) := by decide +kernel
theorem dX11_alike_26 : decode cX11_alike 26 = .ok (.iconst 0, 1) := by decide +kernel
theorem dX11_alike_27 : decode cX11_alike 27 = .ok (.istore_n 3, 1) := by decide +kernel
theorem dX11_alike_28 : decode cX11_alike 28 = .ok (.iconst 0, 1) := by decide +kernel
theorem dX11_alike_29 : decode cX11_alike 29 = .ok (.istore 4, 2) := by decide +kernel
theorem dX11_alike_31 : decode cX11_alike 31 = .ok (.iload 4, 2) := by decide +kernel
theorem dX11_alike_33 : decode cX11_alike 33 = .ok (.bipush 6, 2) := by decide +kernel
theorem dX11_alike_35 : decode cX11_alike 35 = .ok (.if_icmp .ge 84, 3) := by decide +kernel
theorem dX11_alike_38 : decode cX11_alike 38 = .ok (.iconst 0, 1) := by decide +kernel
theorem dX11_alike_39 : decode cX11_alike 39 = .ok (.istore 5, 2) := by decide +kernel
theorem dX11_alike_41 : decode cX11_alike 41 = .ok (.iconst 0, 1) := by decide +kernel
theorem dX11_alike_42 : decode cX11_alike 42 = .ok (.istore 6, 2) := by decide +kernel
theorem dX11_alike_44 : decode cX11_alike 44 = .ok (.iload 6, 2) := by decide +kernel
theorem dX11_alike_46 : decode cX11_alike 46 = .ok (.bipush 6, 2) := by decide +kernel
theorem dX11_alike_48 : decode cX11_alike 48 = .ok (.if_icmp .ge 52, 3) := by decide +kernel
theorem dX11_alike_51 : decode cX11_alike 51 = .ok (.iload 5, 2) := by decide +kernel
theorem dX11_alike_53 : decode cX11_alike 53 = .ok (.iload_n 1, 1) := by decide +kernel
theorem dX11_alike_54 : decode cX11_alike 54 = .ok (.iload 4, 2) := by decide +kernel
theorem dX11_alike_56 : decode cX11_alike 56 = .ok (.ishr, 1) := by decide +kernel
theorem dX11_alike_57 : decode cX11_alike 57 = .ok (.iload_n 1, 1) := by decide +kernel
theorem dX11_alike_58 : decode cX11_alike 58 = .ok (.iload 6, 2) := by decide +kernel
theorem dX11_alike_60 : decode cX11_alike 60 = .ok (.ishr, 1) := by decide +kernel
theorem dX11_alike_61 : decode cX11_alike 61 = .ok (.iand, 1) := by decide +kernel
theorem dX11_alike_62 : decode cX11_alike 62 = .ok (.iconst 1, 1) := by decide +kernel
theorem dX11_alike_63 : decode cX11_alike 63 = .ok (.iand, 1) := by decide +kernel
theorem dX11_alike_64 : decode cX11_alike 64 = .ok (.iconst 1, 1) := by decide +kernel
theorem dX11_alike_65 : decode cX11_alike 65 = .ok (.if_icmp .ne 25, 3) := by decide +kernel
theorem dX11_alike_68 : decode cX11_alike 68 = .ok (.aload_n 0, 1) := by decide +kernel
theorem dX11_alike_69 : decode cX11_alike 69 = .ok (.getfield 54, 3) := by decide +kernel
theorem dX11_alike_72 : decode cX11_alike 72 = .ok (.iload 4, 2) := by decide +kernel
theorem dX11_alike_74 : decode cX11_alike 74 = .ok (.laload, 1) := by decide +kernel
theorem dX11_alike_75 : decode cX11_alike 75 = .ok (.aload_n 0, 1) := by decide +kernel
theorem dX11_alike_76 : decode cX11_alike 76 = .ok (.getfield 54, 3) := by decide +kernel
theorem dX11_alike_79 : decode cX11_alike 79 = .ok (.iload 6, 2) := by decide +kernel
theorem dX11_alike_81 : decode cX11_alike 81 = .ok (.laload, 1) := by decide +kernel
theorem dX11_alike_82 : decode cX11_alike 82 = .ok (.lcmp, 1) := by decide +kernel
theorem dX11_alike_83 : decode cX11_alike 83 = .ok (.ifCond .ne 7, 3) := by decide +kernel
theorem dX11_alike_86 : decode cX11_alike 86 = .ok (.iconst 1, 1) := by decide +kernel
theorem dX11_alike_87 : decode cX11_alike 87 = .ok (.goto 4, 3) := by decide +kernel
theorem dX11_alike_90 : decode cX11_alike 90 = .ok (.iconst 0, 1) := by decide +kernel
theorem dX11_alike_91 : decode cX11_alike 91 = .ok (.iadd, 1) := by decide +kernel
theorem dX11_alike_92 : decode cX11_alike 92 = .ok (.istore 5, 2) := by decide +kernel
theorem dX11_alike_94 : decode cX11_alike 94 = .ok (.iinc 6 1, 3) := by decide +kernel
theorem dX11_alike_97 : decode cX11_alike 97 = .ok (.goto (-53), 3) := by decide +kernel
theorem dX11_alike_100 : decode cX11_alike 100 = .ok (.iload 5, 2) := by decide +kernel
theorem dX11_alike_102 : decode cX11_alike 102 = .ok (.iload_n 3, 1) := by decide +kernel
theorem dX11_alike_103 : decode cX11_alike 103 = .ok (.if_icmp .le 8, 3) := by decide +kernel
theorem dX11_alike_106 : decode cX11_alike 106 = .ok (.iload 5, 2) := by decide +kernel
theorem dX11_alike_108 : decode cX11_alike 108 = .ok (.goto 4, 3) := by decide +kernel
theorem dX11_alike_111 : decode cX11_alike 111 = .ok (.iload_n 3, 1) := by decide +kernel
theorem dX11_alike_112 : decode cX11_alike 112 = .ok (.istore_n 3, 1) := by decide +kernel
theorem dX11_alike_113 : decode cX11_alike 113 = .ok (.iinc 4 1, 3) := by decide +kernel
theorem dX11_alike_116 : decode cX11_alike 116 = .ok (.goto (-85), 3) := by decide +kernel
theorem dX11_alike_119 : decode cX11_alike 119 = .ok (.iload_n 3, 1) := by decide +kernel
theorem dX11_alike_120 : decode cX11_alike 120 = .ok (.ireturn, 1) := by decide +kernel
theorem dX11_ask_0 : decode cX11_ask 0 = .ok (.aload_n 0, 1) := by decide +kernel
theorem dX11_ask_1 : decode cX11_ask 1 = .ok (.invokevirtual 309, 3) := by decide +kernel
theorem dX11_ask_4 : decode cX11_ask 4 = .ok (.istore_n 1, 1) := by decide +kernel
theorem dX11_ask_5 : decode cX11_ask 5 = .ok (.iload_n 1, 1) := by decide +kernel
theorem dX11_ask_6 : decode cX11_ask 6 = .ok (.iload_n 1, 1) := by decide +kernel
theorem dX11_ask_7 : decode cX11_ask 7 = .ok (.iconst 1, 1) := by decide +kernel
theorem dX11_ask_8 : decode cX11_ask 8 = .ok (.isub, 1) := by decide +kernel
theorem dX11_ask_9 : decode cX11_ask 9 = .ok (.iand, 1) := by decide +kernel
theorem dX11_ask_10 : decode cX11_ask 10 = .ok (.ifCond .ne 6, 3) := by decide +kernel
theorem dX11_ask_13 : decode cX11_ask 13 = .ok (.bipush (-9), 2) := by decide +kernel
theorem dX11_ask_15 : decode cX11_ask 15 = .ok (.ireturn, 1) := by decide +kernel
theorem dX11_ask_16 : decode cX11_ask 16 = .ok (.bipush (-9), 2) := by decide +kernel
theorem dX11_ask_18 : decode cX11_ask 18 = .ok (.istore_n 2, 1) := by decide +kernel
theorem dX11_ask_19 : decode cX11_ask 19 = .ok (.bipush 7, 2) := by decide +kernel
theorem dX11_ask_21 : decode cX11_ask 21 = .ok (.istore_n 3, 1) := by decide +kernel
theorem dX11_ask_22 : decode cX11_ask 22 = .ok (.iconst 2, 1) := by decide +kernel
theorem dX11_ask_23 : decode cX11_ask 23 = .ok (.istore 4, 2) := by decide +kernel
theorem dX11_ask_25 : decode cX11_ask 25 = .ok (.iload 4, 2) := by decide +kernel
theorem dX11_ask_27 : decode cX11_ask 27 = .ok (.bipush 12, 2) := by decide +kernel
theorem dX11_ask_29 : decode cX11_ask 29 = .ok (.if_icmp .gt 44, 3) := by decide +kernel
theorem dX11_ask_32 : decode cX11_ask 32 = .ok (.aload_n 0, 1) := by decide +kernel
theorem dX11_ask_33 : decode cX11_ask 33 = .ok (.iload_n 1, 1) := by decide +kernel
theorem dX11_ask_34 : decode cX11_ask 34 = .ok (.iload 4, 2) := by decide +kernel
theorem dX11_ask_36 : decode cX11_ask 36 = .ok (.invokevirtual 313, 3) := by decide +kernel
theorem dX11_ask_39 : decode cX11_ask 39 = .ok (.istore 5, 2) := by decide +kernel
theorem dX11_ask_41 : decode cX11_ask 41 = .ok (.iload 5, 2) := by decide +kernel
theorem dX11_ask_43 : decode cX11_ask 43 = .ok (.iload_n 3, 1) := by decide +kernel
theorem dX11_ask_44 : decode cX11_ask 44 = .ok (.if_icmp .ge 8, 3) := by decide +kernel
theorem dX11_ask_47 : decode cX11_ask 47 = .ok (.iload 4, 2) := by decide +kernel
theorem dX11_ask_49 : decode cX11_ask 49 = .ok (.goto 4, 3) := by decide +kernel
theorem dX11_ask_52 : decode cX11_ask 52 = .ok (.iload_n 2, 1) := by decide +kernel
theorem dX11_ask_53 : decode cX11_ask 53 = .ok (.istore_n 2, 1) := by decide +kernel
theorem dX11_ask_54 : decode cX11_ask 54 = .ok (.iload 5, 2) := by decide +kernel
theorem dX11_ask_56 : decode cX11_ask 56 = .ok (.iload_n 3, 1) := by decide +kernel
theorem dX11_ask_57 : decode cX11_ask 57 = .ok (.if_icmp .ge 8, 3) := by decide +kernel
theorem dX11_ask_60 : decode cX11_ask 60 = .ok (.iload 5, 2) := by decide +kernel
theorem dX11_ask_62 : decode cX11_ask 62 = .ok (.goto 4, 3) := by decide +kernel
theorem dX11_ask_65 : decode cX11_ask 65 = .ok (.iload_n 3, 1) := by decide +kernel
theorem dX11_ask_66 : decode cX11_ask 66 = .ok (.istore_n 3, 1) := by decide +kernel
theorem dX11_ask_67 : decode cX11_ask 67 = .ok (.iinc 4 1, 3) := by decide +kernel
theorem dX11_ask_70 : decode cX11_ask 70 = .ok (.goto (-45), 3) := by decide +kernel
theorem dX11_ask_73 : decode cX11_ask 73 = .ok (.iload_n 2, 1) := by decide +kernel
theorem dX11_ask_74 : decode cX11_ask 74 = .ok (.ireturn, 1) := by decide +kernel
theorem dX11_allFibres_0 : decode cX11_allFibres 0 = .ok (.iconst 0, 1) := by decide +kernel
theorem dX11_allFibres_1 : decode cX11_allFibres 1 = .ok (.istore_n 1, 1) := by decide +kernel
theorem dX11_allFibres_2 : decode cX11_allFibres 2 = .ok (.iconst 0, 1) := by decide +kernel
theorem dX11_allFibres_3 : decode cX11_allFibres 3 = .ok (.istore_n 2, 1) := by decide +kernel
theorem dX11_allFibres_4 : decode cX11_allFibres 4 = .ok (.iload_n 2, 1) := by decide +kernel
theorem dX11_allFibres_5 : decode cX11_allFibres 5 = .ok (.bipush 6, 2) := by decide +kernel
theorem dX11_allFibres_7 : decode cX11_allFibres 7 = .ok (.if_icmp .ge 17, 3) := by decide +kernel
theorem dX11_allFibres_10 : decode cX11_allFibres 10 = .ok (.iload_n 1, 1) := by decide +kernel
theorem dX11_allFibres_11 : decode cX11_allFibres 11 = .ok (.aload_n 0, 1) := by decide +kernel
theorem dX11_allFibres_12 : decode cX11_allFibres 12 = .ok (.iload_n 2, 1) := by decide +kernel
theorem dX11_allFibres_13 : decode cX11_allFibres 13 = .ok (.invokevirtual 100, 3) := by decide +kernel
theorem dX11_allFibres_16 : decode cX11_allFibres 16 = .ok (.iadd, 1) := by decide +kernel
theorem dX11_allFibres_17 : decode cX11_allFibres 17 = .ok (.istore_n 1, 1) := by decide +kernel
theorem dX11_allFibres_18 : decode cX11_allFibres 18 = .ok (.iinc 2 1, 3) := by decide +kernel
theorem dX11_allFibres_21 : decode cX11_allFibres 21 = .ok (.goto (-17), 3) := by decide +kernel
theorem dX11_allFibres_24 : decode cX11_allFibres 24 = .ok (.iload_n 1, 1) := by decide +kernel
theorem dX11_allFibres_25 : decode cX11_allFibres 25 = .ok (.ireturn, 1) := by decide +kernel
theorem dX11_keep_0 : decode cX11_keep 0 = .ok (.iload_n 1, 1) := by decide +kernel
theorem dX11_keep_1 : decode cX11_keep 1 = .ok (.i2l, 1) := by decide +kernel
theorem dX11_keep_2 : decode cX11_keep 2 = .ok (.lconst 0, 1) := by decide +kernel
theorem dX11_keep_3 : decode cX11_keep 3 = .ok (.lconst 1, 1) := by decide +kernel
theorem dX11_keep_4 : decode cX11_keep 4 = .ok (.invokestatic 63, 3) := by decide +kernel
theorem dX11_keep_7 : decode cX11_keep 7 = .ok (.ifCond .ne 5, 3) := by decide +kernel
theorem dX11_keep_10 : decode cX11_keep 10 = .ok (.iconst (-1), 1) := by decide +kernel
theorem dX11_keep_11 : decode cX11_keep 11 = .ok (.ireturn, 1) := by decide +kernel
theorem dX11_keep_12 : decode cX11_keep 12 = .ok (.iconst 0, 1) := by decide +kernel
theorem dX11_keep_13 : decode cX11_keep 13 = .ok (.istore_n 2, 1) := by decide +kernel
theorem dX11_keep_14 : decode cX11_keep 14 = .ok (.iload_n 2, 1) := by decide +kernel
theorem dX11_keep_15 : decode cX11_keep 15 = .ok (.bipush 96, 2) := by decide +kernel
theorem dX11_keep_17 : decode cX11_keep 17 = .ok (.if_icmp .ge 26, 3) := by decide +kernel
theorem dX11_keep_20 : decode cX11_keep 20 = .ok (.aload_n 0, 1) := by decide +kernel
theorem dX11_keep_21 : decode cX11_keep 21 = .ok (.getfield 16, 3) := by decide +kernel
theorem dX11_keep_24 : decode cX11_keep 24 = .ok (.bipush 96, 2) := by decide +kernel
theorem dX11_keep_26 : decode cX11_keep 26 = .ok (.iload_n 1, 1) := by decide +kernel
theorem dX11_keep_27 : decode cX11_keep 27 = .ok (.imul, 1) := by decide +kernel
theorem dX11_keep_28 : decode cX11_keep 28 = .ok (.iload_n 2, 1) := by decide +kernel
theorem dX11_keep_29 : decode cX11_keep 29 = .ok (.iadd, 1) := by decide +kernel
theorem dX11_keep_30 : decode cX11_keep 30 = .ok (.aload_n 0, 1) := by decide +kernel
theorem dX11_keep_31 : decode cX11_keep 31 = .ok (.getfield 7, 3) := by decide +kernel
theorem dX11_keep_34 : decode cX11_keep 34 = .ok (.iload_n 2, 1) := by decide +kernel
theorem dX11_keep_35 : decode cX11_keep 35 = .ok (.iaload, 1) := by decide +kernel
theorem dX11_keep_36 : decode cX11_keep 36 = .ok (.iastore, 1) := by decide +kernel
theorem dX11_keep_37 : decode cX11_keep 37 = .ok (.iinc 2 1, 3) := by decide +kernel
theorem dX11_keep_40 : decode cX11_keep 40 = .ok (.goto (-26), 3) := by decide +kernel
theorem dX11_keep_43 : decode cX11_keep 43 = .ok (.aload_n 0, 1) := by decide +kernel
theorem dX11_keep_44 : decode cX11_keep 44 = .ok (.getfield 19, 3) := by decide +kernel
theorem dX11_keep_47 : decode cX11_keep 47 = .ok (.iload_n 1, 1) := by decide +kernel
theorem dX11_keep_48 : decode cX11_keep 48 = .ok (.iconst 1, 1) := by decide +kernel
theorem dX11_keep_49 : decode cX11_keep 49 = .ok (.bastore, 1) := by decide +kernel
theorem dX11_keep_50 : decode cX11_keep 50 = .ok (.aload_n 0, 1) := by decide +kernel
theorem dX11_keep_51 : decode cX11_keep 51 = .ok (.invokevirtual 316, 3) := by decide +kernel
theorem dX11_keep_54 : decode cX11_keep 54 = .ok (.ireturn, 1) := by decide +kernel
theorem dX11_back_0 : decode cX11_back 0 = .ok (.iload_n 1, 1) := by decide +kernel
theorem dX11_back_1 : decode cX11_back 1 = .ok (.i2l, 1) := by decide +kernel
theorem dX11_back_2 : decode cX11_back 2 = .ok (.lconst 0, 1) := by decide +kernel
theorem dX11_back_3 : decode cX11_back 3 = .ok (.lconst 1, 1) := by decide +kernel
theorem dX11_back_4 : decode cX11_back 4 = .ok (.invokestatic 63, 3) := by decide +kernel
theorem dX11_back_7 : decode cX11_back 7 = .ok (.ifCond .ne 5, 3) := by decide +kernel
theorem dX11_back_10 : decode cX11_back 10 = .ok (.iconst (-1), 1) := by decide +kernel
theorem dX11_back_11 : decode cX11_back 11 = .ok (.ireturn, 1) := by decide +kernel
theorem dX11_back_12 : decode cX11_back 12 = .ok (.aload_n 0, 1) := by decide +kernel
theorem dX11_back_13 : decode cX11_back 13 = .ok (.getfield 19, 3) := by decide +kernel
theorem dX11_back_16 : decode cX11_back 16 = .ok (.iload_n 1, 1) := by decide +kernel
theorem dX11_back_17 : decode cX11_back 17 = .ok (.baload, 1) := by decide +kernel
theorem dX11_back_18 : decode cX11_back 18 = .ok (.ifCond .ne 6, 3) := by decide +kernel
theorem dX11_back_21 : decode cX11_back 21 = .ok (.bipush (-2), 2) := by decide +kernel
theorem dX11_back_23 : decode cX11_back 23 = .ok (.ireturn, 1) := by decide +kernel
theorem dX11_back_24 : decode cX11_back 24 = .ok (.iconst 0, 1) := by decide +kernel
theorem dX11_back_25 : decode cX11_back 25 = .ok (.istore_n 2, 1) := by decide +kernel
theorem dX11_back_26 : decode cX11_back 26 = .ok (.iload_n 2, 1) := by decide +kernel
theorem dX11_back_27 : decode cX11_back 27 = .ok (.bipush 96, 2) := by decide +kernel
theorem dX11_back_29 : decode cX11_back 29 = .ok (.if_icmp .ge 26, 3) := by decide +kernel
theorem dX11_back_32 : decode cX11_back 32 = .ok (.aload_n 0, 1) := by decide +kernel
theorem dX11_back_33 : decode cX11_back 33 = .ok (.getfield 7, 3) := by decide +kernel
theorem dX11_back_36 : decode cX11_back 36 = .ok (.iload_n 2, 1) := by decide +kernel
theorem dX11_back_37 : decode cX11_back 37 = .ok (.aload_n 0, 1) := by decide +kernel
theorem dX11_back_38 : decode cX11_back 38 = .ok (.getfield 16, 3) := by decide +kernel
theorem dX11_back_41 : decode cX11_back 41 = .ok (.bipush 96, 2) := by decide +kernel
theorem dX11_back_43 : decode cX11_back 43 = .ok (.iload_n 1, 1) := by decide +kernel
theorem dX11_back_44 : decode cX11_back 44 = .ok (.imul, 1) := by decide +kernel
theorem dX11_back_45 : decode cX11_back 45 = .ok (.iload_n 2, 1) := by decide +kernel
theorem dX11_back_46 : decode cX11_back 46 = .ok (.iadd, 1) := by decide +kernel
theorem dX11_back_47 : decode cX11_back 47 = .ok (.iaload, 1) := by decide +kernel
theorem dX11_back_48 : decode cX11_back 48 = .ok (.iastore, 1) := by decide +kernel
theorem dX11_back_49 : decode cX11_back 49 = .ok (.iinc 2 1, 3) := by decide +kernel
theorem dX11_back_52 : decode cX11_back 52 = .ok (.goto (-26), 3) := by decide +kernel
theorem dX11_back_55 : decode cX11_back 55 = .ok (.aload_n 0, 1) := by decide +kernel
theorem dX11_back_56 : decode cX11_back 56 = .ok (.iconst 0, 1) := by decide +kernel
theorem dX11_back_57 : decode cX11_back 57 = .ok (.putfield 57, 3) := by decide +kernel
theorem dX11_back_60 : decode cX11_back 60 = .ok (.aload_n 0, 1) := by decide +kernel
theorem dX11_back_61 : decode cX11_back 61 = .ok (.invokevirtual 316, 3) := by decide +kernel
theorem dX11_back_64 : decode cX11_back 64 = .ok (.ireturn, 1) := by decide +kernel
theorem dX11_count_0 : decode cX11_count 0 = .ok (.iload_n 1, 1) := by decide +kernel
theorem dX11_count_1 : decode cX11_count 1 = .ok (.tableswitch 51 0 3 #[31, 36, 41, 46], 31) := by decide +kernel
theorem dX11_count_32 : decode cX11_count 32 = .ok (.aload_n 0, 1) := by decide +kernel
theorem dX11_count_33 : decode cX11_count 33 = .ok (.invokevirtual 316, 3) := by decide +kernel
theorem dX11_count_36 : decode cX11_count 36 = .ok (.ireturn, 1) := by decide +kernel
theorem dX11_count_37 : decode cX11_count 37 = .ok (.aload_n 0, 1) := by decide +kernel
theorem dX11_count_38 : decode cX11_count 38 = .ok (.getfield 306, 3) := by decide +kernel
theorem dX11_count_41 : decode cX11_count 41 = .ok (.ireturn, 1) := by decide +kernel
theorem dX11_count_42 : decode cX11_count 42 = .ok (.aload_n 0, 1) := by decide +kernel
theorem dX11_count_43 : decode cX11_count 43 = .ok (.getfield 110, 3) := by decide +kernel
theorem dX11_count_46 : decode cX11_count 46 = .ok (.ireturn, 1) := by decide +kernel
theorem dX11_count_47 : decode cX11_count 47 = .ok (.aload_n 0, 1) := by decide +kernel
theorem dX11_count_48 : decode cX11_count 48 = .ok (.getfield 57, 3) := by decide +kernel
theorem dX11_count_51 : decode cX11_count 51 = .ok (.ireturn, 1) := by decide +kernel
theorem dX11_count_52 : decode cX11_count 52 = .ok (.iconst (-1), 1) := by decide +kernel
theorem dX11_count_53 : decode cX11_count 53 = .ok (.ireturn, 1) := by decide +kernel
