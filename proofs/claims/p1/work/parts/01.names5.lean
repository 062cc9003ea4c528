theorem dX11_goes_113 : decode cX11_goes 113 = .ok (.bipush 26, 2) := by decide +kernel
theorem dX11_goes_115 : decode cX11_goes 115 = .ok (.iconst 3, 1) := by decide +kernel
theorem dX11_goes_116 : decode cX11_goes 116 = .ok (.invokestatic 267, 3) := by decide +kernel
theorem dX11_goes_119 : decode cX11_goes 119 = .ok (.invokevirtual 271, 3) := by decide +kernel
theorem dX11_goes_122 : decode cX11_goes 122 = .ok (.goto 284, 3) := by decide +kernel
theorem dX11_goes_125 : decode cX11_goes 125 = .ok (.aload_n 0, 1) := by decide +kernel
theorem dX11_goes_126 : decode cX11_goes 126 = .ok (.bipush 40, 2) := by decide +kernel
theorem dX11_goes_128 : decode cX11_goes 128 = .ok (.lload_n 2, 1) := by decide +kernel
theorem dX11_goes_129 : decode cX11_goes 129 = .ok (.aload_n 0, 1) := by decide +kernel
theorem dX11_goes_130 : decode cX11_goes 130 = .ok (.getfield 20, 3) := by decide +kernel
theorem dX11_goes_133 : decode cX11_goes 133 = .ok (.iload_n 1, 1) := by decide +kernel
theorem dX11_goes_134 : decode cX11_goes 134 = .ok (.iaload, 1) := by decide +kernel
theorem dX11_goes_135 : decode cX11_goes 135 = .ok (.invokestatic 287, 3) := by decide +kernel
theorem dX11_goes_138 : decode cX11_goes 138 = .ok (.invokevirtual 275, 3) := by decide +kernel
theorem dX11_goes_141 : decode cX11_goes 141 = .ok (.aload_n 0, 1) := by decide +kernel
theorem dX11_goes_142 : decode cX11_goes 142 = .ok (.bipush 41, 2) := by decide +kernel
theorem dX11_goes_144 : decode cX11_goes 144 = .ok (.lload_n 2, 1) := by decide +kernel
theorem dX11_goes_145 : decode cX11_goes 145 = .ok (.aload_n 0, 1) := by decide +kernel
theorem dX11_goes_146 : decode cX11_goes 146 = .ok (.getfield 23, 3) := by decide +kernel
theorem dX11_goes_149 : decode cX11_goes 149 = .ok (.iload_n 1, 1) := by decide +kernel
theorem dX11_goes_150 : decode cX11_goes 150 = .ok (.iaload, 1) := by decide +kernel
theorem dX11_goes_151 : decode cX11_goes 151 = .ok (.invokestatic 287, 3) := by decide +kernel
theorem dX11_goes_154 : decode cX11_goes 154 = .ok (.invokevirtual 275, 3) := by decide +kernel
theorem dX11_goes_157 : decode cX11_goes 157 = .ok (.aload_n 0, 1) := by decide +kernel
theorem dX11_goes_158 : decode cX11_goes 158 = .ok (.iload_n 1, 1) := by decide +kernel
theorem dX11_goes_159 : decode cX11_goes 159 = .ok (.iconst 1, 1) := by decide +kernel
theorem dX11_goes_160 : decode cX11_goes 160 = .ok (.iadd, 1) := by decide +kernel
theorem dX11_goes_161 : decode cX11_goes 161 = .ok (.lload_n 2, 1) := by decide +kernel
theorem dX11_goes_162 : decode cX11_goes 162 = .ok (.bipush 26, 2) := by decide +kernel
theorem dX11_goes_164 : decode cX11_goes 164 = .ok (.iconst 2, 1) := by decide +kernel
theorem dX11_goes_165 : decode cX11_goes 165 = .ok (.invokestatic 267, 3) := by decide +kernel
theorem dX11_goes_168 : decode cX11_goes 168 = .ok (.invokevirtual 271, 3) := by decide +kernel
theorem dX11_goes_171 : decode cX11_goes 171 = .ok (.goto 235, 3) := by decide +kernel
theorem dX11_goes_174 : decode cX11_goes 174 = .ok (.aload_n 0, 1) := by decide +kernel
theorem dX11_goes_175 : decode cX11_goes 175 = .ok (.iload_n 1, 1) := by decide +kernel
theorem dX11_goes_176 : decode cX11_goes 176 = .ok (.iconst 1, 1) := by decide +kernel
theorem dX11_goes_177 : decode cX11_goes 177 = .ok (.iadd, 1) := by decide +kernel
theorem dX11_goes_178 : decode cX11_goes 178 = .ok (.lload_n 2, 1) := by decide +kernel
theorem dX11_goes_179 : decode cX11_goes 179 = .ok (.bipush 26, 2) := by decide +kernel
theorem dX11_goes_181 : decode cX11_goes 181 = .ok (.lload_n 2, 1) := by decide +kernel
theorem dX11_goes_182 : decode cX11_goes 182 = .ok (.aload_n 0, 1) := by decide +kernel
theorem dX11_goes_183 : decode cX11_goes 183 = .ok (.getfield 20, 3) := by decide +kernel
theorem dX11_goes_186 : decode cX11_goes 186 = .ok (.iload_n 1, 1) := by decide +kernel
theorem dX11_goes_187 : decode cX11_goes 187 = .ok (.iaload, 1) := by decide +kernel
theorem dX11_goes_188 : decode cX11_goes 188 = .ok (.invokestatic 287, 3) := by decide +kernel
theorem dX11_goes_191 : decode cX11_goes 191 = .ok (.invokestatic 267, 3) := by decide +kernel
theorem dX11_goes_194 : decode cX11_goes 194 = .ok (.invokevirtual 271, 3) := by decide +kernel
theorem dX11_goes_197 : decode cX11_goes 197 = .ok (.goto 209, 3) := by decide +kernel
theorem dX11_goes_200 : decode cX11_goes 200 = .ok (.lload_n 2, 1) := by decide +kernel
theorem dX11_goes_201 : decode cX11_goes 201 = .ok (.aload_n 0, 1) := by decide +kernel
theorem dX11_goes_202 : decode cX11_goes 202 = .ok (.getfield 20, 3) := by decide +kernel
theorem dX11_goes_205 : decode cX11_goes 205 = .ok (.iload_n 1, 1) := by decide +kernel
theorem dX11_goes_206 : decode cX11_goes 206 = .ok (.iaload, 1) := by decide +kernel
theorem dX11_goes_207 : decode cX11_goes 207 = .ok (.invokestatic 287, 3) := by decide +kernel
theorem dX11_goes_210 : decode cX11_goes 210 = .ok (.iconst 2, 1) := by decide +kernel
theorem dX11_goes_211 : decode cX11_goes 211 = .ok (.iand, 1) := by decide +kernel
theorem dX11_goes_212 : decode cX11_goes 212 = .ok (.ifCond .eq 194, 3) := by decide +kernel
theorem dX11_goes_215 : decode cX11_goes 215 = .ok (.aload_n 0, 1) := by decide +kernel
theorem dX11_goes_216 : decode cX11_goes 216 = .ok (.getfield 93, 3) := by decide +kernel
theorem dX11_goes_219 : decode cX11_goes 219 = .ok (.bipush 40, 2) := by decide +kernel
theorem dX11_goes_221 : decode cX11_goes 221 = .ok (.aload_n 0, 1) := by decide +kernel
theorem dX11_goes_222 : decode cX11_goes 222 = .ok (.getfield 23, 3) := by decide +kernel
theorem dX11_goes_225 : decode cX11_goes 225 = .ok (.iload_n 1, 1) := by decide +kernel
theorem dX11_goes_226 : decode cX11_goes 226 = .ok (.iaload, 1) := by decide +kernel
theorem dX11_goes_227 : decode cX11_goes 227 = .ok (.iadd, 1) := by decide +kernel
theorem dX11_goes_228 : decode cX11_goes 228 = .ok (.iaload, 1) := by decide +kernel
theorem dX11_goes_229 : decode cX11_goes 229 = .ok (.ifCond .eq 177, 3) := by decide +kernel
theorem dX11_goes_232 : decode cX11_goes 232 = .ok (.aload_n 0, 1) := by decide +kernel
theorem dX11_goes_233 : decode cX11_goes 233 = .ok (.iload_n 1, 1) := by decide +kernel
theorem dX11_goes_234 : decode cX11_goes 234 = .ok (.iconst 1, 1) := by decide +kernel
theorem dX11_goes_235 : decode cX11_goes 235 = .ok (.iadd, 1) := by decide +kernel
theorem dX11_goes_236 : decode cX11_goes 236 = .ok (.lload_n 2, 1) := by decide +kernel
theorem dX11_goes_237 : decode cX11_goes 237 = .ok (.aload_n 0, 1) := by decide +kernel
theorem dX11_goes_238 : decode cX11_goes 238 = .ok (.getfield 20, 3) := by decide +kernel
theorem dX11_goes_241 : decode cX11_goes 241 = .ok (.iload_n 1, 1) := by decide +kernel
theorem dX11_goes_242 : decode cX11_goes 242 = .ok (.iaload, 1) := by decide +kernel
theorem dX11_goes_243 : decode cX11_goes 243 = .ok (.iconst 2, 1) := by decide +kernel
theorem dX11_goes_244 : decode cX11_goes 244 = .ok (.invokestatic 267, 3) := by decide +kernel
theorem dX11_goes_247 : decode cX11_goes 247 = .ok (.bipush 26, 2) := by decide +kernel
theorem dX11_goes_249 : decode cX11_goes 249 = .ok (.aload_n 0, 1) := by decide +kernel
theorem dX11_goes_250 : decode cX11_goes 250 = .ok (.getfield 93, 3) := by decide +kernel
theorem dX11_goes_253 : decode cX11_goes 253 = .ok (.bipush 40, 2) := by decide +kernel
theorem dX11_goes_255 : decode cX11_goes 255 = .ok (.aload_n 0, 1) := by decide +kernel
theorem dX11_goes_256 : decode cX11_goes 256 = .ok (.getfield 23, 3) := by decide +kernel
theorem dX11_goes_259 : decode cX11_goes 259 = .ok (.iload_n 1, 1) := by decide +kernel
theorem dX11_goes_260 : decode cX11_goes 260 = .ok (.iaload, 1) := by decide +kernel
theorem dX11_goes_261 : decode cX11_goes 261 = .ok (.iadd, 1) := by decide +kernel
theorem dX11_goes_262 : decode cX11_goes 262 = .ok (.iaload, 1) := by decide +kernel
theorem dX11_goes_263 : decode cX11_goes 263 = .ok (.invokestatic 267, 3) := by decide +kernel
theorem dX11_goes_266 : decode cX11_goes 266 = .ok (.invokevirtual 271, 3) := by decide +kernel
theorem dX11_goes_269 : decode cX11_goes 269 = .ok (.goto 137, 3) := by decide +kernel
theorem dX11_goes_272 : decode cX11_goes 272 = .ok (.aload_n 0, 1) := by decide +kernel
theorem dX11_goes_273 : decode cX11_goes 273 = .ok (.iload_n 1, 1) := by decide +kernel
theorem dX11_goes_274 : decode cX11_goes 274 = .ok (.lload_n 2, 1) := by decide +kernel
theorem dX11_goes_275 : decode cX11_goes 275 = .ok (.invokevirtual 291, 3) := by decide +kernel
theorem dX11_goes_278 : decode cX11_goes 278 = .ok (.goto 128, 3) := by decide +kernel
theorem dX11_goes_281 : decode cX11_goes 281 = .ok (.aload_n 0, 1) := by decide +kernel
theorem dX11_goes_282 : decode cX11_goes 282 = .ok (.iload_n 1, 1) := by decide +kernel
theorem dX11_goes_283 : decode cX11_goes 283 = .ok (.iconst 1, 1) := by decide +kernel
theorem dX11_goes_284 : decode cX11_goes 284 = .ok (.iadd, 1) := by decide +kernel
theorem dX11_goes_285 : decode cX11_goes 285 = .ok (.lload_n 2, 1) := by decide +kernel
theorem dX11_goes_286 : decode cX11_goes 286 = .ok (.aload_n 0, 1) := by decide +kernel
theorem dX11_goes_287 : decode cX11_goes 287 = .ok (.getfield 20, 3) := by decide +kernel
theorem dX11_goes_290 : decode cX11_goes 290 = .ok (.iload_n 1, 1) := by decide +kernel
theorem dX11_goes_291 : decode cX11_goes 291 = .ok (.iaload, 1) := by decide +kernel
theorem dX11_goes_292 : decode cX11_goes 292 = .ok (.lload_n 2, 1) := by decide +kernel
theorem dX11_goes_293 : decode cX11_goes 293 = .ok (.bipush 26, 2) := by decide +kernel
theorem dX11_goes_295 : decode cX11_goes 295 = .ok (.invokestatic 287, 3) := by decide +kernel
theorem dX11_goes_298 : decode cX11_goes 298 = .ok (.invokestatic 267, 3) := by decide +kernel
theorem dX11_goes_301 : decode cX11_goes 301 = .ok (.invokevirtual 271, 3) := by decide +kernel
theorem dX11_goes_304 : decode cX11_goes 304 = .ok (.goto 102, 3) := by decide +kernel
theorem dX11_goes_307 : decode cX11_goes 307 = .ok (.lload_n 2, 1) := by decide +kernel
theorem dX11_goes_308 : decode cX11_goes 308 = .ok (.aload_n 0, 1) := by decide +kernel
theorem dX11_goes_309 : decode cX11_goes 309 = .ok (.getfield 20, 3) := by decide +kernel
theorem dX11_goes_312 : decode cX11_goes 312 = .ok (.iload_n 1, 1) := by decide +kernel
theorem dX11_goes_313 : decode cX11_goes 313 = .ok (.iaload, 1) := by decide +kernel
theorem dX11_goes_314 : decode cX11_goes 314 = .ok (.invokestatic 287, 3) := by decide +kernel
theorem dX11_goes_317 : decode cX11_goes 317 = .ok (.iconst 2, 1) := by decide +kernel
theorem dX11_goes_318 : decode cX11_goes 318 = .ok (.iand, 1) := by decide +kernel
theorem dX11_goes_319 : decode cX11_goes 319 = .ok (.ifCond .ne 6, 3) := by decide +kernel
theorem dX11_goes_322 : decode cX11_goes 322 = .ok (.goto 84, 3) := by decide +kernel
theorem dX11_goes_325 : decode cX11_goes 325 = .ok (.aload_n 0, 1) := by decide +kernel
theorem dX11_goes_326 : decode cX11_goes 326 = .ok (.bipush 40, 2) := by decide +kernel
theorem dX11_goes_328 : decode cX11_goes 328 = .ok (.aload_n 0, 1) := by decide +kernel
theorem dX11_goes_329 : decode cX11_goes 329 = .ok (.getfield 23, 3) := by decide +kernel
theorem dX11_goes_332 : decode cX11_goes 332 = .ok (.iload_n 1, 1) := by decide +kernel
theorem dX11_goes_333 : decode cX11_goes 333 = .ok (.iaload, 1) := by decide +kernel
theorem dX11_goes_334 : decode cX11_goes 334 = .ok (.iadd, 1) := by decide +kernel
theorem dX11_goes_335 : decode cX11_goes 335 = .ok (.lload_n 2, 1) := by decide +kernel
theorem dX11_goes_336 : decode cX11_goes 336 = .ok (.bipush 26, 2) := by decide +kernel
theorem dX11_goes_338 : decode cX11_goes 338 = .ok (.invokestatic 287, 3) := by decide +kernel
theorem dX11_goes_341 : decode cX11_goes 341 = .ok (.invokevirtual 275, 3) := by decide +kernel
theorem dX11_goes_344 : decode cX11_goes 344 = .ok (.aload_n 0, 1) := by decide +kernel
theorem dX11_goes_345 : decode cX11_goes 345 = .ok (.iload_n 1, 1) := by decide +kernel
theorem dX11_goes_346 : decode cX11_goes 346 = .ok (.iconst 1, 1) := by decide +kernel
theorem dX11_goes_347 : decode cX11_goes 347 = .ok (.iadd, 1) := by decide +kernel
theorem dX11_goes_348 : decode cX11_goes 348 = .ok (.lload_n 2, 1) := by decide +kernel
theorem dX11_goes_349 : decode cX11_goes 349 = .ok (.aload_n 0, 1) := by decide +kernel
theorem dX11_goes_350 : decode cX11_goes 350 = .ok (.getfield 20, 3) := by decide +kernel
theorem dX11_goes_353 : decode cX11_goes 353 = .ok (.iload_n 1, 1) := by decide +kernel
theorem dX11_goes_354 : decode cX11_goes 354 = .ok (.iaload, 1) := by decide +kernel
theorem dX11_goes_355 : decode cX11_goes 355 = .ok (.iconst 2, 1) := by decide +kernel
theorem dX11_goes_356 : decode cX11_goes 356 = .ok (.invokestatic 267, 3) := by decide +kernel
theorem dX11_goes_359 : decode cX11_goes 359 = .ok (.invokevirtual 271, 3) := by decide +kernel
theorem dX11_goes_362 : decode cX11_goes 362 = .ok (.goto 44, 3) := by decide +kernel
theorem dX11_goes_365 : decode cX11_goes 365 = .ok (.aload_n 0, 1) := by decide +kernel
theorem dX11_goes_366 : decode cX11_goes 366 = .ok (.bipush 32, 2) := by decide +kernel
theorem dX11_goes_368 : decode cX11_goes 368 = .ok (.aload_n 0, 1) := by decide +kernel
theorem dX11_goes_369 : decode cX11_goes 369 = .ok (.iload_n 1, 1) := by decide +kernel
theorem dX11_goes_370 : decode cX11_goes 370 = .ok (.invokevirtual 293, 3) := by decide +kernel
theorem dX11_goes_373 : decode cX11_goes 373 = .ok (.iadd, 1) := by decide +kernel
theorem dX11_goes_374 : decode cX11_goes 374 = .ok (.lload_n 2, 1) := by decide +kernel
theorem dX11_goes_375 : decode cX11_goes 375 = .ok (.bipush 26, 2) := by decide +kernel
theorem dX11_goes_377 : decode cX11_goes 377 = .ok (.invokestatic 287, 3) := by decide +kernel
theorem dX11_goes_380 : decode cX11_goes 380 = .ok (.invokevirtual 275, 3) := by decide +kernel
theorem dX11_goes_383 : decode cX11_goes 383 = .ok (.goto 23, 3) := by decide +kernel
theorem dX11_goes_386 : decode cX11_goes 386 = .ok (.aload_n 0, 1) := by decide +kernel
theorem dX11_goes_387 : decode cX11_goes 387 = .ok (.aload_n 0, 1) := by decide +kernel
theorem dX11_goes_388 : decode cX11_goes 388 = .ok (.getfield 20, 3) := by decide +kernel
theorem dX11_goes_391 : decode cX11_goes 391 = .ok (.iload_n 1, 1) := by decide +kernel
theorem dX11_goes_392 : decode cX11_goes 392 = .ok (.iaload, 1) := by decide +kernel
theorem dX11_goes_393 : decode cX11_goes 393 = .ok (.lload_n 2, 1) := by decide +kernel
theorem dX11_goes_394 : decode cX11_goes 394 = .ok (.invokevirtual 271, 3) := by decide +kernel
theorem dX11_goes_397 : decode cX11_goes 397 = .ok (.goto 9, 3) := by decide +kernel
theorem dX11_goes_400 : decode cX11_goes 400 = .ok (.aload_n 0, 1) := by decide +kernel
theorem dX11_goes_401 : decode cX11_goes 401 = .ok (.iload_n 1, 1) := by decide +kernel
theorem dX11_goes_402 : decode cX11_goes 402 = .ok (.lload_n 2, 1) := by decide +kernel
theorem dX11_goes_403 : decode cX11_goes 403 = .ok (.invokevirtual 296, 3) := by decide +kernel
theorem dX11_goes_406 : decode cX11_goes 406 = .ok (.return_, 1) := by decide +kernel
theorem dX11_routineAt_0 : decode cX11_routineAt 0 = .ok (.iconst (-1), 1) := by decide +kernel
theorem dX11_routineAt_1 : decode cX11_routineAt 1 = .ok (.istore_n 2, 1) := by decide +kernel
theorem dX11_routineAt_2 : decode cX11_routineAt 2 = .ok (.iconst 0, 1) := by decide +kernel
theorem dX11_routineAt_3 : decode cX11_routineAt 3 = .ok (.istore_n 3, 1) := by decide +kernel
theorem dX11_routineAt_4 : decode cX11_routineAt 4 = .ok (.iload_n 3, 1) := by decide +kernel
theorem dX11_routineAt_5 : decode cX11_routineAt 5 = .ok (.bipush 8, 2) := by decide +kernel
theorem dX11_routineAt_7 : decode cX11_routineAt 7 = .ok (.if_icmp .ge 51, 3) := by decide +kernel
theorem dX11_routineAt_10 : decode cX11_routineAt 10 = .ok (.aload_n 0, 1) := by decide +kernel
theorem dX11_routineAt_11 : decode cX11_routineAt 11 = .ok (.getfield 32, 3) := by decide +kernel
theorem dX11_routineAt_14 : decode cX11_routineAt 14 = .ok (.iload_n 3, 1) := by decide +kernel
theorem dX11_routineAt_15 : decode cX11_routineAt 15 = .ok (.iaload, 1) := by decide +kernel
theorem dX11_routineAt_16 : decode cX11_routineAt 16 = .ok (.iconst (-1), 1) := by decide +kernel
theorem dX11_routineAt_17 : decode cX11_routineAt 17 = .ok (.if_icmp .eq 35, 3) := by decide +kernel
theorem dX11_routineAt_20 : decode cX11_routineAt 20 = .ok (.aload_n 0, 1) := by decide +kernel
theorem dX11_routineAt_21 : decode cX11_routineAt 21 = .ok (.getfield 32, 3) := by decide +kernel
theorem dX11_routineAt_24 : decode cX11_routineAt 24 = .ok (.iload_n 3, 1) := by decide +kernel
theorem dX11_routineAt_25 : decode cX11_routineAt 25 = .ok (.iaload, 1) := by decide +kernel
theorem dX11_routineAt_26 : decode cX11_routineAt 26 = .ok (.iload_n 1, 1) := by decide +kernel
theorem dX11_routineAt_27 : decode cX11_routineAt 27 = .ok (.if_icmp .gt 25, 3) := by decide +kernel
theorem dX11_routineAt_30 : decode cX11_routineAt 30 = .ok (.iload_n 2, 1) := by decide +kernel
theorem dX11_routineAt_31 : decode cX11_routineAt 31 = .ok (.iconst (-1), 1) := by decide +kernel
theorem dX11_routineAt_32 : decode cX11_routineAt 32 = .ok (.if_icmp .eq 18, 3) := by decide +kernel
theorem dX11_routineAt_35 : decode cX11_routineAt 35 = .ok (.aload_n 0, 1) := by decide +kernel
theorem dX11_routineAt_36 : decode cX11_routineAt 36 = .ok (.getfield 32, 3) := by decide +kernel
theorem dX11_routineAt_39 : decode cX11_routineAt 39 = .ok (.iload_n 3, 1) := by decide +kernel
theorem dX11_routineAt_40 : decode cX11_routineAt 40 = .ok (.iaload, 1) := by decide +kernel
theorem dX11_routineAt_41 : decode cX11_routineAt 41 = .ok (.aload_n 0, 1) := by decide +kernel
theorem dX11_routineAt_42 : decode cX11_routineAt 42 = .ok (.getfield 32, 3) := by decide +kernel
theorem dX11_routineAt_45 : decode cX11_routineAt 45 = .ok (.iload_n 2, 1) := by decide +kernel
theorem dX11_routineAt_46 : decode cX11_routineAt 46 = .ok (.iaload, 1) := by decide +kernel
theorem dX11_routineAt_47 : decode cX11_routineAt 47 = .ok (.if_icmp .le 5, 3) := by decide +kernel
theorem dX11_routineAt_50 : decode cX11_routineAt 50 = .ok (.iload_n 3, 1) := by decide +kernel
theorem dX11_routineAt_51 : decode cX11_routineAt 51 = .ok (.istore_n 2, 1) := by decide +kernel
theorem dX11_routineAt_52 : decode cX11_routineAt 52 = .ok (.iinc 3 1, 3) := by decide +kernel
theorem dX11_routineAt_55 : decode cX11_routineAt 55 = .ok (.goto (-51), 3) := by decide +kernel
theorem dX11_routineAt_58 : decode cX11_routineAt 58 = .ok (.iload_n 2, 1) := by decide +kernel
theorem dX11_routineAt_59 : decode cX11_routineAt 59 = .ok (.ireturn, 1) := by decide +kernel
set_option maxRecDepth 20000 in
theorem ggX11_calls_X11_factOf : GoodIn wsX11_calls wsX11_factOf := goodIn_r _ [8] (by decide +kernel) (by decide +kernel)
set_option maxRecDepth 20000 in
theorem gX11_calls_X11_factOf : GoodIn wsX11_calls (va_wsS RX11 287 yX11_factOf wsX11_factOf) := goodIn_app (goodIn_of _ (by decide +kernel)) ggX11_calls_X11_factOf
set_option maxRecDepth 20000 in
theorem ggX11_calls_X11_puts : GoodIn wsX11_calls wsX11_puts := goodIn_r _ [12, 13, 4, 14, 33, 34, 35, 36, 37, 38, 39, 40, 41, 42, 43, 44, 45, 46, 47, 48, 49, 50, 51, 52, 53, 54, 55, 56, 57, 58, 59, 60, 61, 62, 63, 64, 65, 66, 67, 68, 69, 70, 71, 72, 73, 74, 75, 76, 77, 78, 79, 80, 81, 82, 83, 84, 85, 86, 87, 88, 89, 90, 91, 92, 93, 94, 95, 96, 97, 98, 99, 100] (by decide +kernel) (by decide +kernel)
set_option maxRecDepth 20000 in
theorem gX11_calls_X11_puts : GoodIn wsX11_calls (wsV RX11 275 RX11 yX11_puts wsX11_puts) := goodIn_app (goodIn_of _ (by decide +kernel)) ggX11_calls_X11_puts
set_option maxRecDepth 20000 in
theorem ggX11_calls_X11_begins : GoodIn wsX11_calls wsX11_begins := goodIn_r _ [18, 19, 20, 4, 21, 22, 23, 24, 7, 25, 26, 27, 28, 29, 30, 31, 32, 14, 33, 34, 35, 36, 37, 38, 39, 40, 41, 42, 43, 44, 45, 46, 47, 48, 49, 50, 51, 52, 53, 54, 55, 56, 57, 58, 59, 60, 61, 62, 63, 64, 65, 66, 67, 68, 69, 70, 71, 72, 73, 74, 75, 76, 77, 78, 79, 80, 81, 82, 83, 84, 85, 86, 87, 88, 89, 90, 91, 92, 93, 94, 95, 96, 97, 98, 99, 100] (by decide +kernel) (by decide +kernel)
set_option maxRecDepth 20000 in
theorem gX11_calls_X11_begins : GoodIn wsX11_calls (wsV RX11 281 RX11 yX11_begins wsX11_begins) := goodIn_app (goodIn_of _ (by decide +kernel)) ggX11_calls_X11_begins
set_option maxRecDepth 20000 in
theorem ggX11_calls_X11_with : GoodIn wsX11_calls wsX11_with := goodIn_r _ [25, 26, 27] (by decide +kernel) (by decide +kernel)
set_option maxRecDepth 20000 in
theorem gX11_calls_X11_with : GoodIn wsX11_calls (va_wsS RX11 267 yX11_with wsX11_with) := goodIn_app (goodIn_of _ (by decide +kernel)) ggX11_calls_X11_with
set_option maxRecDepth 20000 in
theorem ggX11_calls_X11_flows : GoodIn wsX11_calls wsX11_flows := goodIn_r _ [31, 32, 14, 33, 34, 35, 36, 37, 38, 39, 40, 41, 42, 43, 44, 45, 46, 47, 48, 49, 50, 51, 52, 53, 54, 55, 56, 57, 58, 59, 60, 61, 62, 63, 64, 65, 66, 67, 68, 69, 70, 71, 72, 73, 74, 75, 76, 77, 78, 79, 80, 81, 82, 83, 84, 85, 86, 87, 88, 89, 90, 91, 92, 93, 94, 95, 96, 97, 98, 99, 100] (by decide +kernel) (by decide +kernel)
set_option maxRecDepth 20000 in
theorem gX11_calls_X11_flows : GoodIn wsX11_calls (wsV RX11 271 RX11 yX11_flows wsX11_flows) := goodIn_app (goodIn_of _ (by decide +kernel)) ggX11_calls_X11_flows
theorem dX11_calls_0 : decode cX11_calls 0 = .ok (.aload_n 0, 1) := by decide +kernel
theorem dX11_calls_1 : decode cX11_calls 1 = .ok (.getfield 20, 3) := by decide +kernel
theorem dX11_calls_4 : decode cX11_calls 4 = .ok (.iload_n 1, 1) := by decide +kernel
theorem dX11_calls_5 : decode cX11_calls 5 = .ok (.iaload, 1) := by decide +kernel
theorem dX11_calls_6 : decode cX11_calls 6 = .ok (.istore 4, 2) := by decide +kernel
theorem dX11_calls_8 : decode cX11_calls 8 = .ok (.iconst 0, 1) := by decide +kernel
theorem dX11_calls_9 : decode cX11_calls 9 = .ok (.istore 5, 2) := by decide +kernel
theorem dX11_calls_11 : decode cX11_calls 11 = .ok (.iload 5, 2) := by decide +kernel
theorem dX11_calls_13 : decode cX11_calls 13 = .ok (.aload_n 0, 1) := by decide +kernel
theorem dX11_calls_14 : decode cX11_calls 14 = .ok (.getfield 23, 3) := by decide +kernel
theorem dX11_calls_17 : decode cX11_calls 17 = .ok (.iload_n 1, 1) := by decide +kernel
theorem dX11_calls_18 : decode cX11_calls 18 = .ok (.iaload, 1) := by decide +kernel
theorem dX11_calls_19 : decode cX11_calls 19 = .ok (.if_icmp .ge 38, 3) := by decide +kernel
theorem dX11_calls_22 : decode cX11_calls 22 = .ok (.aload_n 0, 1) := by decide +kernel
theorem dX11_calls_23 : decode cX11_calls 23 = .ok (.iconst 4, 1) := by decide +kernel
theorem dX11_calls_24 : decode cX11_calls 24 = .ok (.iload 4, 2) := by decide +kernel
theorem dX11_calls_26 : decode cX11_calls 26 = .ok (.imul, 1) := by decide +kernel
theorem dX11_calls_27 : decode cX11_calls 27 = .ok (.iload 5, 2) := by decide +kernel
theorem dX11_calls_29 : decode cX11_calls 29 = .ok (.iadd, 1) := by decide +kernel
theorem dX11_calls_30 : decode cX11_calls 30 = .ok (.lload_n 2, 1) := by decide +kernel
theorem dX11_calls_31 : decode cX11_calls 31 = .ok (.aload_n 0, 1) := by decide +kernel
theorem dX11_calls_32 : decode cX11_calls 32 = .ok (.getfield 29, 3) := by decide +kernel
theorem dX11_calls_35 : decode cX11_calls 35 = .ok (.iload_n 1, 1) := by decide +kernel
theorem dX11_calls_36 : decode cX11_calls 36 = .ok (.iaload, 1) := by decide +kernel
theorem dX11_calls_37 : decode cX11_calls 37 = .ok (.iconst 5, 1) := by decide +kernel
theorem dX11_calls_38 : decode cX11_calls 38 = .ok (.iload 5, 2) := by decide +kernel
theorem dX11_calls_40 : decode cX11_calls 40 = .ok (.imul, 1) := by decide +kernel
theorem dX11_calls_41 : decode cX11_calls 41 = .ok (.ishr, 1) := by decide +kernel
theorem dX11_calls_42 : decode cX11_calls 42 = .ok (.bipush 31, 2) := by decide +kernel
theorem dX11_calls_44 : decode cX11_calls 44 = .ok (.iand, 1) := by decide +kernel
theorem dX11_calls_45 : decode cX11_calls 45 = .ok (.invokestatic 287, 3) := by decide +kernel
theorem dX11_calls_48 : decode cX11_calls 48 = .ok (.invokevirtual 275, 3) := by decide +kernel
theorem dX11_calls_51 : decode cX11_calls 51 = .ok (.iinc 5 1, 3) := by decide +kernel
theorem dX11_calls_54 : decode cX11_calls 54 = .ok (.goto (-43), 3) := by decide +kernel
theorem dX11_calls_57 : decode cX11_calls 57 = .ok (.aload_n 0, 1) := by decide +kernel
theorem dX11_calls_58 : decode cX11_calls 58 = .ok (.iload 4, 2) := by decide +kernel
theorem dX11_calls_60 : decode cX11_calls 60 = .ok (.invokevirtual 281, 3) := by decide +kernel
theorem dX11_calls_63 : decode cX11_calls 63 = .ok (.aload_n 0, 1) := by decide +kernel
theorem dX11_calls_64 : decode cX11_calls 64 = .ok (.getfield 93, 3) := by decide +kernel
theorem dX11_calls_67 : decode cX11_calls 67 = .ok (.bipush 32, 2) := by decide +kernel
theorem dX11_calls_69 : decode cX11_calls 69 = .ok (.iload 4, 2) := by decide +kernel
theorem dX11_calls_71 : decode cX11_calls 71 = .ok (.iadd, 1) := by decide +kernel
theorem dX11_calls_72 : decode cX11_calls 72 = .ok (.iaload, 1) := by decide +kernel
theorem dX11_calls_73 : decode cX11_calls 73 = .ok (.ifCond .eq 26, 3) := by decide +kernel
theorem dX11_calls_76 : decode cX11_calls 76 = .ok (.aload_n 0, 1) := by decide +kernel
theorem dX11_calls_77 : decode cX11_calls 77 = .ok (.iload_n 1, 1) := by decide +kernel
theorem dX11_calls_78 : decode cX11_calls 78 = .ok (.iconst 1, 1) := by decide +kernel
theorem dX11_calls_79 : decode cX11_calls 79 = .ok (.iadd, 1) := by decide +kernel
theorem dX11_calls_80 : decode cX11_calls 80 = .ok (.lload_n 2, 1) := by decide +kernel
theorem dX11_calls_81 : decode cX11_calls 81 = .ok (.bipush 26, 2) := by decide +kernel
theorem dX11_calls_83 : decode cX11_calls 83 = .ok (.aload_n 0, 1) := by decide +kernel
theorem dX11_calls_84 : decode cX11_calls 84 = .ok (.getfield 93, 3) := by decide +kernel
theorem dX11_calls_87 : decode cX11_calls 87 = .ok (.bipush 32, 2) := by decide +kernel
theorem dX11_calls_89 : decode cX11_calls 89 = .ok (.iload 4, 2) := by decide +kernel
theorem dX11_calls_91 : decode cX11_calls 91 = .ok (.iadd, 1) := by decide +kernel
theorem dX11_calls_92 : decode cX11_calls 92 = .ok (.iaload, 1) := by decide +kernel
theorem dX11_calls_93 : decode cX11_calls 93 = .ok (.invokestatic 267, 3) := by decide +kernel
theorem dX11_calls_96 : decode cX11_calls 96 = .ok (.invokevirtual 271, 3) := by decide +kernel
theorem dX11_calls_99 : decode cX11_calls 99 = .ok (.return_, 1) := by decide +kernel
set_option maxRecDepth 20000 in
theorem ggX11_tests_X11_factOf : GoodIn wsX11_tests wsX11_factOf := goodIn_r _ [9] (by decide +kernel) (by decide +kernel)
set_option maxRecDepth 20000 in
theorem gX11_tests_X11_factOf : GoodIn wsX11_tests (va_wsS RX11 287 yX11_factOf wsX11_factOf) := goodIn_app (goodIn_of _ (by decide +kernel)) ggX11_tests_X11_factOf
set_option maxRecDepth 20000 in
theorem ggX11_tests_X11_with : GoodIn wsX11_tests wsX11_with := goodIn_r _ [12, 13, 14] (by decide +kernel) (by decide +kernel)
set_option maxRecDepth 20000 in
theorem gX11_tests_X11_with : GoodIn wsX11_tests (va_wsS RX11 267 yX11_with wsX11_with) := goodIn_app (goodIn_of _ (by decide +kernel)) ggX11_tests_X11_with
set_option maxRecDepth 20000 in
theorem ggX11_tests_X11_flows : GoodIn wsX11_tests wsX11_flows := goodIn_r _ [18, 19, 20, 21, 22, 23, 24, 25, 26, 27, 28, 29, 30, 31, 32, 33, 34, 35, 36, 37, 38, 39, 40, 41, 42, 43, 44, 45, 46, 47, 48, 49, 50, 51, 52, 53, 54, 55, 56, 57, 58, 59, 60, 61, 62, 63, 64, 65, 66, 67, 68, 69, 70, 71, 72, 73, 74, 75, 76, 77, 78, 79, 80, 81, 82, 83, 84, 85, 86, 87, 88] (by decide +kernel) (by decide +kernel)
set_option maxRecDepth 20000 in
theorem gX11_tests_X11_flows : GoodIn wsX11_tests (wsV RX11 271 RX11 yX11_flows wsX11_flows) := goodIn_app (goodIn_of _ (by decide +kernel)) ggX11_tests_X11_flows
theorem dX11_tests_0 : decode cX11_tests 0 = .ok (.aload_n 0, 1) := by decide +kernel
theorem dX11_tests_1 : decode cX11_tests 1 = .ok (.getfield 17, 3) := by decide +kernel
theorem dX11_tests_4 : decode cX11_tests 4 = .ok (.iload_n 1, 1) := by decide +kernel
theorem dX11_tests_5 : decode cX11_tests 5 = .ok (.iaload, 1) := by decide +kernel
theorem dX11_tests_6 : decode cX11_tests 6 = .ok (.bipush 10, 2) := by decide +kernel
theorem dX11_tests_8 : decode cX11_tests 8 = .ok (.if_icmp .ne 7, 3) := by decide +kernel
theorem dX11_tests_11 : decode cX11_tests 11 = .ok (.iconst 1, 1) := by decide +kernel
theorem dX11_tests_12 : decode cX11_tests 12 = .ok (.goto 19, 3) := by decide +kernel
theorem dX11_tests_15 : decode cX11_tests 15 = .ok (.aload_n 0, 1) := by decide +kernel
theorem dX11_tests_16 : decode cX11_tests 16 = .ok (.getfield 17, 3) := by decide +kernel
theorem dX11_tests_19 : decode cX11_tests 19 = .ok (.iload_n 1, 1) := by decide +kernel
theorem dX11_tests_20 : decode cX11_tests 20 = .ok (.iaload, 1) := by decide +kernel
theorem dX11_tests_21 : decode cX11_tests 21 = .ok (.bipush 11, 2) := by decide +kernel
theorem dX11_tests_23 : decode cX11_tests 23 = .ok (.if_icmp .ne 7, 3) := by decide +kernel
theorem dX11_tests_26 : decode cX11_tests 26 = .ok (.iconst 2, 1) := by decide +kernel
theorem dX11_tests_27 : decode cX11_tests 27 = .ok (.goto 4, 3) := by decide +kernel
theorem dX11_tests_30 : decode cX11_tests 30 = .ok (.iconst 3, 1) := by decide +kernel
theorem dX11_tests_31 : decode cX11_tests 31 = .ok (.istore 4, 2) := by decide +kernel
theorem dX11_tests_33 : decode cX11_tests 33 = .ok (.aload_n 0, 1) := by decide +kernel
theorem dX11_tests_34 : decode cX11_tests 34 = .ok (.getfield 17, 3) := by decide +kernel
theorem dX11_tests_37 : decode cX11_tests 37 = .ok (.iload_n 1, 1) := by decide +kernel
theorem dX11_tests_38 : decode cX11_tests 38 = .ok (.iaload, 1) := by decide +kernel
theorem dX11_tests_39 : decode cX11_tests 39 = .ok (.bipush 12, 2) := by decide +kernel
theorem dX11_tests_41 : decode cX11_tests 41 = .ok (.if_icmp .ne 7, 3) := by decide +kernel
theorem dX11_tests_44 : decode cX11_tests 44 = .ok (.iconst 3, 1) := by decide +kernel
theorem dX11_tests_45 : decode cX11_tests 45 = .ok (.goto 7, 3) := by decide +kernel
theorem dX11_tests_48 : decode cX11_tests 48 = .ok (.iconst 3, 1) := by decide +kernel
theorem dX11_tests_49 : decode cX11_tests 49 = .ok (.iload 4, 2) := by decide +kernel
theorem dX11_tests_51 : decode cX11_tests 51 = .ok (.isub, 1) := by decide +kernel
theorem dX11_tests_52 : decode cX11_tests 52 = .ok (.istore 5, 2) := by decide +kernel
theorem dX11_tests_54 : decode cX11_tests 54 = .ok (.aload_n 0, 1) := by decide +kernel
theorem dX11_tests_55 : decode cX11_tests 55 = .ok (.getfield 17, 3) := by decide +kernel
theorem dX11_tests_58 : decode cX11_tests 58 = .ok (.iload_n 1, 1) := by decide +kernel
theorem dX11_tests_59 : decode cX11_tests 59 = .ok (.iaload, 1) := by decide +kernel
theorem dX11_tests_60 : decode cX11_tests 60 = .ok (.bipush 12, 2) := by decide +kernel
theorem dX11_tests_62 : decode cX11_tests 62 = .ok (.if_icmp .ne 7, 3) := by decide +kernel
theorem dX11_tests_65 : decode cX11_tests 65 = .ok (.iconst 3, 1) := by decide +kernel
theorem dX11_tests_66 : decode cX11_tests 66 = .ok (.goto 13, 3) := by decide +kernel
theorem dX11_tests_69 : decode cX11_tests 69 = .ok (.lload_n 2, 1) := by decide +kernel
theorem dX11_tests_70 : decode cX11_tests 70 = .ok (.aload_n 0, 1) := by decide +kernel
theorem dX11_tests_71 : decode cX11_tests 71 = .ok (.getfield 20, 3) := by decide +kernel
theorem dX11_tests_74 : decode cX11_tests 74 = .ok (.iload_n 1, 1) := by decide +kernel
theorem dX11_tests_75 : decode cX11_tests 75 = .ok (.iaload, 1) := by decide +kernel
theorem dX11_tests_76 : decode cX11_tests 76 = .ok (.invokestatic 287, 3) := by decide +kernel
theorem dX11_tests_79 : decode cX11_tests 79 = .ok (.istore 6, 2) := by decide +kernel
theorem dX11_tests_81 : decode cX11_tests 81 = .ok (.iload 6, 2) := by decide +kernel
theorem dX11_tests_83 : decode cX11_tests 83 = .ok (.iload 4, 2) := by decide +kernel
theorem dX11_tests_85 : decode cX11_tests 85 = .ok (.iand, 1) := by decide +kernel
theorem dX11_tests_86 : decode cX11_tests 86 = .ok (.ifCond .eq 55, 3) := by decide +kernel
theorem dX11_tests_89 : decode cX11_tests 89 = .ok (.aload_n 0, 1) := by decide +kernel
theorem dX11_tests_90 : decode cX11_tests 90 = .ok (.getfield 100, 3) := by decide +kernel
theorem dX11_tests_93 : decode cX11_tests 93 = .ok (.aload_n 0, 1) := by decide +kernel
theorem dX11_tests_94 : decode cX11_tests 94 = .ok (.getfield 23, 3) := by decide +kernel
theorem dX11_tests_97 : decode cX11_tests 97 = .ok (.iload_n 1, 1) := by decide +kernel
theorem dX11_tests_98 : decode cX11_tests 98 = .ok (.iaload, 1) := by decide +kernel
theorem dX11_tests_99 : decode cX11_tests 99 = .ok (.dup2, 1) := by decide +kernel
theorem dX11_tests_100 : decode cX11_tests 100 = .ok (.iaload, 1) := by decide +kernel
theorem dX11_tests_101 : decode cX11_tests 101 = .ok (.iconst 1, 1) := by decide +kernel
theorem dX11_tests_102 : decode cX11_tests 102 = .ok (.ior, 1) := by decide +kernel
theorem dX11_tests_103 : decode cX11_tests 103 = .ok (.iastore, 1) := by decide +kernel
theorem dX11_tests_104 : decode cX11_tests 104 = .ok (.aload_n 0, 1) := by decide +kernel
theorem dX11_tests_105 : decode cX11_tests 105 = .ok (.iload_n 1, 1) := by decide +kernel
theorem dX11_tests_106 : decode cX11_tests 106 = .ok (.iconst 1, 1) := by decide +kernel
theorem dX11_tests_107 : decode cX11_tests 107 = .ok (.iadd, 1) := by decide +kernel
theorem dX11_tests_108 : decode cX11_tests 108 = .ok (.aload_n 0, 1) := by decide +kernel
theorem dX11_tests_109 : decode cX11_tests 109 = .ok (.getfield 17, 3) := by decide +kernel
theorem dX11_tests_112 : decode cX11_tests 112 = .ok (.iload_n 1, 1) := by decide +kernel
theorem dX11_tests_113 : decode cX11_tests 113 = .ok (.iaload, 1) := by decide +kernel
theorem dX11_tests_114 : decode cX11_tests 114 = .ok (.bipush 12, 2) := by decide +kernel
theorem dX11_tests_116 : decode cX11_tests 116 = .ok (.if_icmp .ne 7, 3) := by decide +kernel
theorem dX11_tests_119 : decode cX11_tests 119 = .ok (.lload_n 2, 1) := by decide +kernel
theorem dX11_tests_120 : decode cX11_tests 120 = .ok (.goto 18, 3) := by decide +kernel
theorem dX11_tests_123 : decode cX11_tests 123 = .ok (.lload_n 2, 1) := by decide +kernel
theorem dX11_tests_124 : decode cX11_tests 124 = .ok (.aload_n 0, 1) := by decide +kernel
theorem dX11_tests_125 : decode cX11_tests 125 = .ok (.getfield 20, 3) := by decide +kernel
theorem dX11_tests_128 : decode cX11_tests 128 = .ok (.iload_n 1, 1) := by decide +kernel
theorem dX11_tests_129 : decode cX11_tests 129 = .ok (.iaload, 1) := by decide +kernel
theorem dX11_tests_130 : decode cX11_tests 130 = .ok (.iload 6, 2) := by decide +kernel
theorem dX11_tests_132 : decode cX11_tests 132 = .ok (.iload 4, 2) := by decide +kernel
theorem dX11_tests_134 : decode cX11_tests 134 = .ok (.iand, 1) := by decide +kernel
theorem dX11_tests_135 : decode cX11_tests 135 = .ok (.invokestatic 267, 3) := by decide +kernel
theorem dX11_tests_138 : decode cX11_tests 138 = .ok (.invokevirtual 271, 3) := by decide +kernel
theorem dX11_tests_141 : decode cX11_tests 141 = .ok (.iload 6, 2) := by decide +kernel
theorem dX11_tests_143 : decode cX11_tests 143 = .ok (.iload 5, 2) := by decide +kernel
theorem dX11_tests_145 : decode cX11_tests 145 = .ok (.iand, 1) := by decide +kernel
theorem dX11_tests_146 : decode cX11_tests 146 = .ok (.ifCond .eq 58, 3) := by decide +kernel
theorem dX11_tests_149 : decode cX11_tests 149 = .ok (.aload_n 0, 1) := by decide +kernel
theorem dX11_tests_150 : decode cX11_tests 150 = .ok (.getfield 100, 3) := by decide +kernel
theorem dX11_tests_153 : decode cX11_tests 153 = .ok (.aload_n 0, 1) := by decide +kernel
theorem dX11_tests_154 : decode cX11_tests 154 = .ok (.getfield 23, 3) := by decide +kernel
theorem dX11_tests_157 : decode cX11_tests 157 = .ok (.iload_n 1, 1) := by decide +kernel
theorem dX11_tests_158 : decode cX11_tests 158 = .ok (.iaload, 1) := by decide +kernel
theorem dX11_tests_159 : decode cX11_tests 159 = .ok (.dup2, 1) := by decide +kernel
theorem dX11_tests_160 : decode cX11_tests 160 = .ok (.iaload, 1) := by decide +kernel
theorem dX11_tests_161 : decode cX11_tests 161 = .ok (.iconst 2, 1) := by decide +kernel
theorem dX11_tests_162 : decode cX11_tests 162 = .ok (.ior, 1) := by decide +kernel
theorem dX11_tests_163 : decode cX11_tests 163 = .ok (.iastore, 1) := by decide +kernel
theorem dX11_tests_164 : decode cX11_tests 164 = .ok (.aload_n 0, 1) := by decide +kernel
theorem dX11_tests_165 : decode cX11_tests 165 = .ok (.aload_n 0, 1) := by decide +kernel
theorem dX11_tests_166 : decode cX11_tests 166 = .ok (.getfield 26, 3) := by decide +kernel
theorem dX11_tests_169 : decode cX11_tests 169 = .ok (.iload_n 1, 1) := by decide +kernel
theorem dX11_tests_170 : decode cX11_tests 170 = .ok (.iaload, 1) := by decide +kernel
theorem dX11_tests_171 : decode cX11_tests 171 = .ok (.aload_n 0, 1) := by decide +kernel
theorem dX11_tests_172 : decode cX11_tests 172 = .ok (.getfield 17, 3) := by decide +kernel
theorem dX11_tests_175 : decode cX11_tests 175 = .ok (.iload_n 1, 1) := by decide +kernel
theorem dX11_tests_176 : decode cX11_tests 176 = .ok (.iaload, 1) := by decide +kernel
theorem dX11_tests_177 : decode cX11_tests 177 = .ok (.bipush 12, 2) := by decide +kernel
theorem dX11_tests_179 : decode cX11_tests 179 = .ok (.if_icmp .ne 7, 3) := by decide +kernel
theorem dX11_tests_182 : decode cX11_tests 182 = .ok (.lload_n 2, 1) := by decide +kernel
theorem dX11_tests_183 : decode cX11_tests 183 = .ok (.goto 18, 3) := by decide +kernel
theorem dX11_tests_186 : decode cX11_tests 186 = .ok (.lload_n 2, 1) := by decide +kernel
theorem dX11_tests_187 : decode cX11_tests 187 = .ok (.aload_n 0, 1) := by decide +kernel
theorem dX11_tests_188 : decode cX11_tests 188 = .ok (.getfield 20, 3) := by decide +kernel
theorem dX11_tests_191 : decode cX11_tests 191 = .ok (.iload_n 1, 1) := by decide +kernel
theorem dX11_tests_192 : decode cX11_tests 192 = .ok (.iaload, 1) := by decide +kernel
theorem dX11_tests_193 : decode cX11_tests 193 = .ok (.iload 6, 2) := by decide +kernel
theorem dX11_tests_195 : decode cX11_tests 195 = .ok (.iload 5, 2) := by decide +kernel
theorem dX11_tests_197 : decode cX11_tests 197 = .ok (.iand, 1) := by decide +kernel
theorem dX11_tests_198 : decode cX11_tests 198 = .ok (.invokestatic 267, 3) := by decide +kernel
theorem dX11_tests_201 : decode cX11_tests 201 = .ok (.invokevirtual 271, 3) := by decide +kernel
theorem dX11_tests_204 : decode cX11_tests 204 = .ok (.return_, 1) := by decide +kernel
theorem dX11_frees_0 : decode cX11_frees 0 = .ok (.iconst 0, 1) := by decide +kernel
theorem dX11_frees_1 : decode cX11_frees 1 = .ok (.istore_n 1, 1) := by decide +kernel
theorem dX11_frees_2 : decode cX11_frees 2 = .ok (.iload_n 1, 1) := by decide +kernel
theorem dX11_frees_3 : decode cX11_frees 3 = .ok (.bipush 42, 2) := by decide +kernel
theorem dX11_frees_5 : decode cX11_frees 5 = .ok (.if_icmp .ge 16, 3) := by decide +kernel
theorem dX11_frees_8 : decode cX11_frees 8 = .ok (.aload_n 0, 1) := by decide +kernel
theorem dX11_frees_9 : decode cX11_frees 9 = .ok (.getfield 96, 3) := by decide +kernel
theorem dX11_frees_12 : decode cX11_frees 12 = .ok (.iload_n 1, 1) := by decide +kernel
theorem dX11_frees_13 : decode cX11_frees 13 = .ok (.iconst 0, 1) := by decide +kernel
theorem dX11_frees_14 : decode cX11_frees 14 = .ok (.bastore, 1) := by decide +kernel
theorem dX11_frees_15 : decode cX11_frees 15 = .ok (.iinc 1 1, 3) := by decide +kernel
theorem dX11_frees_18 : decode cX11_frees 18 = .ok (.goto (-16), 3) := by decide +kernel
theorem dX11_frees_21 : decode cX11_frees 21 = .ok (.return_, 1) := by decide +kernel
set_option maxRecDepth 20000 in
theorem ggX11_mark_X11_frees : GoodIn wsX11_mark wsX11_frees := goodIn_r _ [9, 10, 68, 69, 70, 71, 72, 73, 74, 75, 76, 77, 78, 79, 80, 81, 82, 83, 84, 85, 86, 87, 88, 89, 90, 91, 92, 93, 94, 95, 96, 97, 98, 99, 100, 101, 102, 103, 104, 105, 106, 107, 108, 109, 110, 111, 112, 113, 114, 115, 116, 117, 118, 119, 120, 121, 122, 123, 124, 125, 126, 127, 128, 129, 130, 131, 132, 133, 134, 135] (by decide +kernel) (by decide +kernel)
set_option maxRecDepth 20000 in
theorem gX11_mark_X11_frees : GoodIn wsX11_mark (wsV RX11 299 RX11 yX11_frees wsX11_frees) := goodIn_app (goodIn_of _ (by decide +kernel)) ggX11_mark_X11_frees
set_option maxRecDepth 20000 in
theorem ggX11_mark_X11_reckons : GoodIn wsX11_mark wsX11_reckons := goodIn_r _ [14, 15, 16, 4, 17, 18, 19, 3, 20, 21, 22, 23, 8, 24, 10, 25, 26, 27, 28, 29, 30, 31, 32, 33, 34, 2, 35, 36, 37, 38, 39, 40, 41, 42, 43, 44, 45, 46, 47, 48, 49, 50, 51, 52, 53, 54, 55, 56, 57, 58, 59, 60, 61, 62, 63, 64, 65, 66, 67, 68, 69, 70, 71, 72, 73, 74, 75, 76, 77, 78, 79, 80, 81, 82, 83, 84, 85, 86, 87, 88, 89, 90, 91, 92, 93, 94, 95, 96, 97, 98, 99, 100, 101, 102, 103, 104, 105, 106, 107, 108, 109, 110, 111, 112, 113, 114, 115, 116, 117, 118, 119, 120, 121, 122, 123, 124, 125, 126, 127, 128, 129, 130, 131, 132, 133, 134, 135] (by decide +kernel) (by decide +kernel)
set_option maxRecDepth 20000 in
theorem gX11_mark_X11_reckons : GoodIn wsX11_mark (wsV RX11 302 RX11 yX11_reckons wsX11_reckons) := goodIn_app (goodIn_of _ (by decide +kernel)) ggX11_mark_X11_reckons
theorem dX11_mark_0 : decode cX11_mark 0 = .ok (.aload_n 0, 1) := by decide +kernel
theorem dX11_mark_1 : decode cX11_mark 1 = .ok (.iconst 0, 1) := by decide +kernel
theorem dX11_mark_2 : decode cX11_mark 2 = .ok (.putfield 121, 3) := by decide +kernel
theorem dX11_mark_5 : decode cX11_mark 5 = .ok (.iload_n 2, 1) := by decide +kernel
theorem dX11_mark_6 : decode cX11_mark 6 = .ok (.ifCond .lt 23, 3) := by decide +kernel
theorem dX11_mark_9 : decode cX11_mark 9 = .ok (.iload_n 2, 1) := by decide +kernel
theorem dX11_mark_10 : decode cX11_mark 10 = .ok (.bipush 8, 2) := by decide +kernel
theorem dX11_mark_12 : decode cX11_mark 12 = .ok (.if_icmp .ge 17, 3) := by decide +kernel
theorem dX11_mark_15 : decode cX11_mark 15 = .ok (.aload_n 0, 1) := by decide +kernel
theorem dX11_mark_16 : decode cX11_mark 16 = .ok (.getfield 32, 3) := by decide +kernel
theorem dX11_mark_19 : decode cX11_mark 19 = .ok (.iload_n 2, 1) := by decide +kernel
theorem dX11_mark_20 : decode cX11_mark 20 = .ok (.iaload, 1) := by decide +kernel
theorem dX11_mark_21 : decode cX11_mark 21 = .ok (.iconst (-1), 1) := by decide +kernel
theorem dX11_mark_22 : decode cX11_mark 22 = .ok (.if_icmp .eq 7, 3) := by decide +kernel
theorem dX11_mark_25 : decode cX11_mark 25 = .ok (.iconst 1, 1) := by decide +kernel
theorem dX11_mark_26 : decode cX11_mark 26 = .ok (.goto 4, 3) := by decide +kernel
theorem dX11_mark_29 : decode cX11_mark 29 = .ok (.iconst 0, 1) := by decide +kernel
theorem dX11_mark_30 : decode cX11_mark 30 = .ok (.istore 4, 2) := by decide +kernel
theorem dX11_mark_32 : decode cX11_mark 32 = .ok (.iload_n 1, 1) := by decide +kernel
theorem dX11_mark_33 : decode cX11_mark 33 = .ok (.ifCond .lt 50, 3) := by decide +kernel
theorem dX11_mark_36 : decode cX11_mark 36 = .ok (.iload_n 1, 1) := by decide +kernel
theorem dX11_mark_37 : decode cX11_mark 37 = .ok (.iconst 2, 1) := by decide +kernel
theorem dX11_mark_38 : decode cX11_mark 38 = .ok (.if_icmp .gt 45, 3) := by decide +kernel
theorem dX11_mark_41 : decode cX11_mark 41 = .ok (.iload_n 1, 1) := by decide +kernel
theorem dX11_mark_42 : decode cX11_mark 42 = .ok (.iconst 2, 1) := by decide +kernel
theorem dX11_mark_43 : decode cX11_mark 43 = .ok (.if_icmp .ge 8, 3) := by decide +kernel
theorem dX11_mark_46 : decode cX11_mark 46 = .ok (.iload 4, 2) := by decide +kernel
theorem dX11_mark_48 : decode cX11_mark 48 = .ok (.ifCond .eq 35, 3) := by decide +kernel
theorem dX11_mark_51 : decode cX11_mark 51 = .ok (.iload_n 1, 1) := by decide +kernel
theorem dX11_mark_52 : decode cX11_mark 52 = .ok (.ifCond .ne 17, 3) := by decide +kernel
theorem dX11_mark_55 : decode cX11_mark 55 = .ok (.iload_n 3, 1) := by decide +kernel
theorem dX11_mark_56 : decode cX11_mark 56 = .ok (.ifCond .lt 27, 3) := by decide +kernel
theorem dX11_mark_59 : decode cX11_mark 59 = .ok (.iload_n 3, 1) := by decide +kernel
theorem dX11_mark_60 : decode cX11_mark 60 = .ok (.aload_n 0, 1) := by decide +kernel
theorem dX11_mark_61 : decode cX11_mark 61 = .ok (.getfield 35, 3) := by decide +kernel
theorem dX11_mark_64 : decode cX11_mark 64 = .ok (.iload_n 2, 1) := by decide +kernel
theorem dX11_mark_65 : decode cX11_mark 65 = .ok (.iaload, 1) := by decide +kernel
theorem dX11_mark_66 : decode cX11_mark 66 = .ok (.if_icmp .ge 17, 3) := by decide +kernel
theorem dX11_mark_69 : decode cX11_mark 69 = .ok (.iload_n 1, 1) := by decide +kernel
theorem dX11_mark_70 : decode cX11_mark 70 = .ok (.iconst 2, 1) := by decide +kernel
theorem dX11_mark_71 : decode cX11_mark 71 = .ok (.if_icmp .ne 14, 3) := by decide +kernel
theorem dX11_mark_74 : decode cX11_mark 74 = .ok (.iload_n 3, 1) := by decide +kernel
theorem dX11_mark_75 : decode cX11_mark 75 = .ok (.ifCond .lt 8, 3) := by decide +kernel
theorem dX11_mark_78 : decode cX11_mark 78 = .ok (.iload_n 3, 1) := by decide +kernel
theorem dX11_mark_79 : decode cX11_mark 79 = .ok (.iconst 1, 1) := by decide +kernel
theorem dX11_mark_80 : decode cX11_mark 80 = .ok (.if_icmp .le 5, 3) := by decide +kernel
theorem dX11_mark_83 : decode cX11_mark 83 = .ok (.iconst (-1), 1) := by decide +kernel
theorem dX11_mark_84 : decode cX11_mark 84 = .ok (.ireturn, 1) := by decide +kernel
theorem dX11_mark_85 : decode cX11_mark 85 = .ok (.aload_n 0, 1) := by decide +kernel
theorem dX11_mark_86 : decode cX11_mark 86 = .ok (.invokevirtual 299, 3) := by decide +kernel
theorem dX11_mark_89 : decode cX11_mark 89 = .ok (.aload_n 0, 1) := by decide +kernel
theorem dX11_mark_90 : decode cX11_mark 90 = .ok (.invokevirtual 302, 3) := by decide +kernel
theorem dX11_mark_93 : decode cX11_mark 93 = .ok (.aload_n 0, 1) := by decide +kernel
theorem dX11_mark_94 : decode cX11_mark 94 = .ok (.getfield 93, 3) := by decide +kernel
theorem dX11_mark_97 : decode cX11_mark 97 = .ok (.iload_n 1, 1) := by decide +kernel
theorem dX11_mark_98 : decode cX11_mark 98 = .ok (.ifCond .ne 11, 3) := by decide +kernel
theorem dX11_mark_101 : decode cX11_mark 101 = .ok (.iconst 4, 1) := by decide +kernel
theorem dX11_mark_102 : decode cX11_mark 102 = .ok (.iload_n 2, 1) := by decide +kernel
theorem dX11_mark_103 : decode cX11_mark 103 = .ok (.imul, 1) := by decide +kernel
theorem dX11_mark_104 : decode cX11_mark 104 = .ok (.iload_n 3, 1) := by decide +kernel
theorem dX11_mark_105 : decode cX11_mark 105 = .ok (.iadd, 1) := by decide +kernel
theorem dX11_mark_106 : decode cX11_mark 106 = .ok (.goto 19, 3) := by decide +kernel
theorem dX11_mark_109 : decode cX11_mark 109 = .ok (.iload_n 1, 1) := by decide +kernel
theorem dX11_mark_110 : decode cX11_mark 110 = .ok (.iconst 1, 1) := by decide +kernel
theorem dX11_mark_111 : decode cX11_mark 111 = .ok (.if_icmp .ne 10, 3) := by decide +kernel
theorem dX11_mark_114 : decode cX11_mark 114 = .ok (.bipush 32, 2) := by decide +kernel
theorem dX11_mark_116 : decode cX11_mark 116 = .ok (.iload_n 2, 1) := by decide +kernel
theorem dX11_mark_117 : decode cX11_mark 117 = .ok (.iadd, 1) := by decide +kernel
theorem dX11_mark_118 : decode cX11_mark 118 = .ok (.goto 7, 3) := by decide +kernel
theorem dX11_mark_121 : decode cX11_mark 121 = .ok (.bipush 40, 2) := by decide +kernel
theorem dX11_mark_123 : decode cX11_mark 123 = .ok (.iload_n 3, 1) := by decide +kernel
theorem dX11_mark_124 : decode cX11_mark 124 = .ok (.iadd, 1) := by decide +kernel
theorem dX11_mark_125 : decode cX11_mark 125 = .ok (.iaload, 1) := by decide +kernel
theorem dX11_mark_126 : decode cX11_mark 126 = .ok (.ireturn, 1) := by decide +kernel
set_option maxRecDepth 20000 in
theorem ggX11_useFact_X11_factOf : GoodIn wsX11_useFact wsX11_factOf := goodIn_r _ [9] (by decide +kernel) (by decide +kernel)
set_option maxRecDepth 20000 in
theorem gX11_useFact_X11_factOf : GoodIn wsX11_useFact (va_wsS RX11 287 yX11_factOf wsX11_factOf) := goodIn_app (goodIn_of _ (by decide +kernel)) ggX11_useFact_X11_factOf
theorem dX11_useFact_0 : decode cX11_useFact 0 = .ok (.iconst 0, 1) := by decide +kernel
theorem dX11_useFact_1 : decode cX11_useFact 1 = .ok (.istore_n 2, 1) := by decide +kernel
theorem dX11_useFact_2 : decode cX11_useFact 2 = .ok (.iload_n 2, 1) := by decide +kernel
theorem dX11_useFact_3 : decode cX11_useFact 3 = .ok (.aload_n 0, 1) := by decide +kernel
theorem dX11_useFact_4 : decode cX11_useFact 4 = .ok (.getfield 251, 3) := by decide +kernel
theorem dX11_useFact_7 : decode cX11_useFact 7 = .ok (.if_icmp .ge 71, 3) := by decide +kernel
theorem dX11_useFact_10 : decode cX11_useFact 10 = .ok (.aload_n 0, 1) := by decide +kernel
theorem dX11_useFact_11 : decode cX11_useFact 11 = .ok (.getfield 17, 3) := by decide +kernel
theorem dX11_useFact_14 : decode cX11_useFact 14 = .ok (.iload_n 2, 1) := by decide +kernel
theorem dX11_useFact_15 : decode cX11_useFact 15 = .ok (.iaload, 1) := by decide +kernel
theorem dX11_useFact_16 : decode cX11_useFact 16 = .ok (.iconst 5, 1) := by decide +kernel
theorem dX11_useFact_17 : decode cX11_useFact 17 = .ok (.if_icmp .eq 14, 3) := by decide +kernel
theorem dX11_useFact_20 : decode cX11_useFact 20 = .ok (.aload_n 0, 1) := by decide +kernel
theorem dX11_useFact_21 : decode cX11_useFact 21 = .ok (.getfield 17, 3) := by decide +kernel
theorem dX11_useFact_24 : decode cX11_useFact 24 = .ok (.iload_n 2, 1) := by decide +kernel
theorem dX11_useFact_25 : decode cX11_useFact 25 = .ok (.iaload, 1) := by decide +kernel
theorem dX11_useFact_26 : decode cX11_useFact 26 = .ok (.bipush 8, 2) := by decide +kernel
theorem dX11_useFact_28 : decode cX11_useFact 28 = .ok (.if_icmp .ne 44, 3) := by decide +kernel
theorem dX11_useFact_31 : decode cX11_useFact 31 = .ok (.aload_n 0, 1) := by decide +kernel
theorem dX11_useFact_32 : decode cX11_useFact 32 = .ok (.getfield 26, 3) := by decide +kernel
theorem dX11_useFact_35 : decode cX11_useFact 35 = .ok (.iload_n 2, 1) := by decide +kernel
theorem dX11_useFact_36 : decode cX11_useFact 36 = .ok (.iaload, 1) := by decide +kernel
theorem dX11_useFact_37 : decode cX11_useFact 37 = .ok (.iload_n 1, 1) := by decide +kernel
theorem dX11_useFact_38 : decode cX11_useFact 38 = .ok (.if_icmp .ne 34, 3) := by decide +kernel
theorem dX11_useFact_41 : decode cX11_useFact 41 = .ok (.aload_n 0, 1) := by decide +kernel
theorem dX11_useFact_42 : decode cX11_useFact 42 = .ok (.getfield 89, 3) := by decide +kernel
theorem dX11_useFact_45 : decode cX11_useFact 45 = .ok (.iload_n 2, 1) := by decide +kernel
theorem dX11_useFact_46 : decode cX11_useFact 46 = .ok (.laload, 1) := by decide +kernel
theorem dX11_useFact_47 : decode cX11_useFact 47 = .ok (.lconst 0, 1) := by decide +kernel
theorem dX11_useFact_48 : decode cX11_useFact 48 = .ok (.lcmp, 1) := by decide +kernel
theorem dX11_useFact_49 : decode cX11_useFact 49 = .ok (.ifCond .ne 7, 3) := by decide +kernel
theorem dX11_useFact_52 : decode cX11_useFact 52 = .ok (.iconst 0, 1) := by decide +kernel
theorem dX11_useFact_53 : decode cX11_useFact 53 = .ok (.goto 18, 3) := by decide +kernel
theorem dX11_useFact_56 : decode cX11_useFact 56 = .ok (.aload_n 0, 1) := by decide +kernel
theorem dX11_useFact_57 : decode cX11_useFact 57 = .ok (.getfield 89, 3) := by decide +kernel
theorem dX11_useFact_60 : decode cX11_useFact 60 = .ok (.iload_n 2, 1) := by decide +kernel
theorem dX11_useFact_61 : decode cX11_useFact 61 = .ok (.laload, 1) := by decide +kernel
theorem dX11_useFact_62 : decode cX11_useFact 62 = .ok (.aload_n 0, 1) := by decide +kernel
theorem dX11_useFact_63 : decode cX11_useFact 63 = .ok (.getfield 20, 3) := by decide +kernel
theorem dX11_useFact_66 : decode cX11_useFact 66 = .ok (.iload_n 2, 1) := by decide +kernel
theorem dX11_useFact_67 : decode cX11_useFact 67 = .ok (.iaload, 1) := by decide +kernel
theorem dX11_useFact_68 : decode cX11_useFact 68 = .ok (.invokestatic 287, 3) := by decide +kernel
theorem dX11_useFact_71 : decode cX11_useFact 71 = .ok (.ireturn, 1) := by decide +kernel
theorem dX11_useFact_72 : decode cX11_useFact 72 = .ok (.iinc 2 1, 3) := by decide +kernel
theorem dX11_useFact_75 : decode cX11_useFact 75 = .ok (.goto (-73), 3) := by decide +kernel
theorem dX11_useFact_78 : decode cX11_useFact 78 = .ok (.iconst 0, 1) := by decide +kernel
theorem dX11_useFact_79 : decode cX11_useFact 79 = .ok (.ireturn, 1) := by decide +kernel
theorem dX11_stateOf_0 : decode cX11_stateOf 0 = .ok (.iload_n 0, 1) := by decide +kernel
theorem dX11_stateOf_1 : decode cX11_stateOf 1 = .ok (.ifCond .ne 7, 3) := by decide +kernel
theorem dX11_stateOf_4 : decode cX11_stateOf 4 = .ok (.iconst 0, 1) := by decide +kernel
theorem dX11_stateOf_5 : decode cX11_stateOf 5 = .ok (.goto 22, 3) := by decide +kernel
theorem dX11_stateOf_8 : decode cX11_stateOf 8 = .ok (.iload_n 0, 1) := by decide +kernel
theorem dX11_stateOf_9 : decode cX11_stateOf 9 = .ok (.iconst 2, 1) := by decide +kernel
theorem dX11_stateOf_10 : decode cX11_stateOf 10 = .ok (.if_icmp .ne 7, 3) := by decide +kernel
theorem dX11_stateOf_13 : decode cX11_stateOf 13 = .ok (.iconst 1, 1) := by decide +kernel
theorem dX11_stateOf_14 : decode cX11_stateOf 14 = .ok (.goto 13, 3) := by decide +kernel
theorem dX11_stateOf_17 : decode cX11_stateOf 17 = .ok (.iload_n 0, 1) := by decide +kernel
theorem dX11_stateOf_18 : decode cX11_stateOf 18 = .ok (.iconst 3, 1) := by decide +kernel
theorem dX11_stateOf_19 : decode cX11_stateOf 19 = .ok (.if_icmp .ne 7, 3) := by decide +kernel
theorem dX11_stateOf_22 : decode cX11_stateOf 22 = .ok (.iconst 2, 1) := by decide +kernel
theorem dX11_stateOf_23 : decode cX11_stateOf 23 = .ok (.goto 4, 3) := by decide +kernel
theorem dX11_stateOf_26 : decode cX11_stateOf 26 = .ok (.iconst 3, 1) := by decide +kernel
theorem dX11_stateOf_27 : decode cX11_stateOf 27 = .ok (.ireturn, 1) := by decide +kernel
set_option maxRecDepth 20000 in
theorem ggX11_use_X11_frees : GoodIn wsX11_use wsX11_frees := goodIn_r _ [10, 11, 79, 80, 81, 82, 83, 84, 85, 86, 87, 88, 89, 90, 91, 92, 93, 94, 95, 96, 97, 98, 99, 100, 101, 102, 103, 104, 105, 106, 107, 108, 109, 110, 111, 112, 113, 114, 115, 116, 117, 118, 119, 120, 121, 122, 123, 124, 125, 126, 127, 128, 129, 130, 131, 132, 133, 134, 135, 136, 137, 138, 139, 140, 141, 142, 143, 144, 145, 146] (by decide +kernel) (by decide +kernel)
set_option maxRecDepth 20000 in
theorem gX11_use_X11_frees : GoodIn wsX11_use (wsV RX11 299 RX11 yX11_frees wsX11_frees) := goodIn_app (goodIn_of _ (by decide +kernel)) ggX11_use_X11_frees
set_option maxRecDepth 20000 in
theorem ggX11_use_X11_reckons : GoodIn wsX11_use wsX11_reckons := goodIn_r _ [15, 16, 17, 18, 19, 20, 21, 22, 23, 24, 25, 26, 9, 27, 11, 28, 29, 30, 31, 32, 33, 34, 35, 36, 37, 38, 39, 40, 41, 42, 43, 44, 45, 46, 47, 48, 49, 50, 51, 52, 53, 54, 55, 56, 57, 58, 59, 60, 61, 62, 63, 64, 65, 66, 67, 68, 69, 70, 71, 79, 80, 81, 82, 83, 84, 85, 86, 87, 88, 89, 90, 91, 92, 93, 94, 95, 96, 97, 98, 99, 100, 101, 102, 103, 104, 105, 106, 107, 108, 109, 110, 111, 112, 113, 114, 115, 116, 117, 118, 119, 120, 121, 122, 123, 124, 125, 126, 127, 128, 129, 130, 131, 132, 133, 134, 135, 136, 137, 138, 139, 140, 141, 142, 143, 144, 145, 146] (by decide +kernel) (by decide +kernel)
set_option maxRecDepth 20000 in
theorem gX11_use_X11_reckons : GoodIn wsX11_use (wsV RX11 302 RX11 yX11_reckons wsX11_reckons) := goodIn_app (goodIn_of _ (by decide +kernel)) ggX11_use_X11_reckons
set_option maxRecDepth 20000 in
theorem ggX11_use_X11_useFact : GoodIn wsX11_use wsX11_useFact := goodIn_r _ [75, 16, 52, 71, 17, 53, 55, 56, 9, 57, 79, 80, 81, 82, 83, 84, 85, 86, 87, 88, 89, 90, 91, 92, 93, 94, 95, 96, 97, 98, 99, 100, 101, 102, 103, 104, 105, 106, 107, 108, 109, 110, 111, 112, 113, 114, 115, 116, 117, 118, 119, 120, 121, 122, 123, 124, 125, 126, 127, 128, 129, 130, 131, 132, 133, 134, 135, 136, 137, 138, 139, 140, 141, 142, 143, 144, 145, 146] (by decide +kernel) (by decide +kernel)
set_option maxRecDepth 20000 in
theorem gX11_use_X11_useFact : GoodIn wsX11_use (wsV RX11 305 RX11 yX11_useFact wsX11_useFact) := goodIn_app (goodIn_of _ (by decide +kernel)) ggX11_use_X11_useFact
set_option maxRecDepth 20000 in
theorem ggX11_use_X11_stateOf : GoodIn wsX11_use wsX11_stateOf := goodIn_r _ [78] (by decide +kernel) (by decide +kernel)
set_option maxRecDepth 20000 in
theorem gX11_use_X11_stateOf : GoodIn wsX11_use (va_wsS RX11 308 yX11_stateOf wsX11_stateOf) := goodIn_app (goodIn_of _ (by decide +kernel)) ggX11_use_X11_stateOf
theorem dX11_use_0 : decode cX11_use 0 = .ok (.aload_n 0, 1) := by decide +kernel
theorem dX11_use_1 : decode cX11_use 1 = .ok (.iconst 0, 1) := by decide +kernel
theorem dX11_use_2 : decode cX11_use 2 = .ok (.putfield 121, 3) := by decide +kernel
theorem dX11_use_5 : decode cX11_use 5 = .ok (.iload_n 1, 1) := by decide +kernel
theorem dX11_use_6 : decode cX11_use 6 = .ok (.ifCond .lt 13, 3) := by decide +kernel
theorem dX11_use_9 : decode cX11_use 9 = .ok (.iload_n 1, 1) := by decide +kernel
theorem dX11_use_10 : decode cX11_use 10 = .ok (.aload_n 0, 1) := by decide +kernel
theorem dX11_use_11 : decode cX11_use 11 = .ok (.getfield 53, 3) := by decide +kernel
theorem dX11_use_14 : decode cX11_use 14 = .ok (.iconst 0, 1) := by decide +kernel
theorem dX11_use_15 : decode cX11_use 15 = .ok (.iaload, 1) := by decide +kernel
theorem dX11_use_16 : decode cX11_use 16 = .ok (.if_icmp .lt 5, 3) := by decide +kernel
theorem dX11_use_19 : decode cX11_use 19 = .ok (.iconst (-1), 1) := by decide +kernel
theorem dX11_use_20 : decode cX11_use 20 = .ok (.ireturn, 1) := by decide +kernel
theorem dX11_use_21 : decode cX11_use 21 = .ok (.iload_n 2, 1) := by decide +kernel
theorem dX11_use_22 : decode cX11_use 22 = .ok (.tableswitch 68 0 3 #[30, 47, 54, 61], 30) := by decide +kernel
theorem dX11_use_52 : decode cX11_use 52 = .ok (.aload_n 0, 1) := by decide +kernel
theorem dX11_use_53 : decode cX11_use 53 = .ok (.invokevirtual 299, 3) := by decide +kernel
theorem dX11_use_56 : decode cX11_use 56 = .ok (.aload_n 0, 1) := by decide +kernel
theorem dX11_use_57 : decode cX11_use 57 = .ok (.invokevirtual 302, 3) := by decide +kernel
theorem dX11_use_60 : decode cX11_use 60 = .ok (.aload_n 0, 1) := by decide +kernel
theorem dX11_use_61 : decode cX11_use 61 = .ok (.iload_n 1, 1) := by decide +kernel
theorem dX11_use_62 : decode cX11_use 62 = .ok (.invokevirtual 305, 3) := by decide +kernel
theorem dX11_use_65 : decode cX11_use 65 = .ok (.invokestatic 308, 3) := by decide +kernel
theorem dX11_use_68 : decode cX11_use 68 = .ok (.ireturn, 1) := by decide +kernel
theorem dX11_use_69 : decode cX11_use 69 = .ok (.aload_n 0, 1) := by decide +kernel
theorem dX11_use_70 : decode cX11_use 70 = .ok (.getfield 44, 3) := by decide +kernel
theorem dX11_use_73 : decode cX11_use 73 = .ok (.iload_n 1, 1) := by decide +kernel
theorem dX11_use_74 : decode cX11_use 74 = .ok (.iaload, 1) := by decide +kernel
theorem dX11_use_75 : decode cX11_use 75 = .ok (.ireturn, 1) := by decide +kernel
theorem dX11_use_76 : decode cX11_use 76 = .ok (.aload_n 0, 1) := by decide +kernel
theorem dX11_use_77 : decode cX11_use 77 = .ok (.getfield 47, 3) := by decide +kernel
theorem dX11_use_80 : decode cX11_use 80 = .ok (.iload_n 1, 1) := by decide +kernel
theorem dX11_use_81 : decode cX11_use 81 = .ok (.iaload, 1) := by decide +kernel
theorem dX11_use_82 : decode cX11_use 82 = .ok (.ireturn, 1) := by decide +kernel
theorem dX11_use_83 : decode cX11_use 83 = .ok (.aload_n 0, 1) := by decide +kernel
theorem dX11_use_84 : decode cX11_use 84 = .ok (.getfield 50, 3) := by decide +kernel
theorem dX11_use_87 : decode cX11_use 87 = .ok (.iload_n 1, 1) := by decide +kernel
theorem dX11_use_88 : decode cX11_use 88 = .ok (.iaload, 1) := by decide +kernel
theorem dX11_use_89 : decode cX11_use 89 = .ok (.ireturn, 1) := by decide +kernel
theorem dX11_use_90 : decode cX11_use 90 = .ok (.iconst (-1), 1) := by decide +kernel
theorem dX11_use_91 : decode cX11_use 91 = .ok (.ireturn, 1) := by decide +kernel
set_option maxRecDepth 20000 in
theorem ggX11_test_X11_frees : GoodIn wsX11_test wsX11_frees := goodIn_r _ [10, 11, 71, 72, 73, 74, 75, 76, 77, 78, 79, 80, 81, 82, 83, 84, 85, 86, 87, 88, 89, 90, 91, 92, 93, 94, 95, 96, 97, 98, 99, 100, 101, 102, 103, 104, 105, 106, 107, 108, 109, 110, 111, 112, 113, 114, 115, 116, 117, 118, 119, 120, 121, 122, 123, 124, 125, 126, 127, 128, 129, 130, 131, 132, 133, 134, 135, 136, 137, 138] (by decide +kernel) (by decide +kernel)
set_option maxRecDepth 20000 in
theorem gX11_test_X11_frees : GoodIn wsX11_test (wsV RX11 299 RX11 yX11_frees wsX11_frees) := goodIn_app (goodIn_of _ (by decide +kernel)) ggX11_test_X11_frees
set_option maxRecDepth 20000 in
theorem ggX11_test_X11_reckons : GoodIn wsX11_test wsX11_reckons := goodIn_r _ [15, 16, 17, 18, 3, 19, 20, 21, 22, 23, 24, 25, 9, 26, 11, 27, 28, 29, 30, 31, 32, 33, 34, 35, 36, 37, 38, 39, 40, 41, 42, 43, 44, 45, 46, 47, 48, 49, 50, 51, 52, 53, 54, 55, 56, 57, 58, 59, 60, 61, 62, 63, 64, 65, 66, 67, 68, 69, 70, 71, 72, 73, 74, 75, 76, 77, 78, 79, 80, 81, 82, 83, 84, 85, 86, 87, 88, 89, 90, 91, 92, 93, 94, 95, 96, 97, 98, 99, 100, 101, 102, 103, 104, 105, 106, 107, 108, 109, 110, 111, 112, 113, 114, 115, 116, 117, 118, 119, 120, 121, 122, 123, 124, 125, 126, 127, 128, 129, 130, 131, 132, 133, 134, 135, 136, 137, 138] (by decide +kernel) (by decide +kernel)
set_option maxRecDepth 20000 in
theorem gX11_test_X11_reckons : GoodIn wsX11_test (wsV RX11 302 RX11 yX11_reckons wsX11_reckons) := goodIn_app (goodIn_of _ (by decide +kernel)) ggX11_test_X11_reckons
theorem dX11_test_0 : decode cX11_test 0 = .ok (.aload_n 0, 1) := by decide +kernel
theorem dX11_test_1 : decode cX11_test 1 = .ok (.iconst 0, 1) := by decide +kernel
theorem dX11_test_2 : decode cX11_test 2 = .ok (.putfield 121, 3) := by decide +kernel
theorem dX11_test_5 : decode cX11_test 5 = .ok (.iload_n 1, 1) := by decide +kernel
theorem dX11_test_6 : decode cX11_test 6 = .ok (.ifCond .lt 13, 3) := by decide +kernel
theorem dX11_test_9 : decode cX11_test 9 = .ok (.iload_n 1, 1) := by decide +kernel
theorem dX11_test_10 : decode cX11_test 10 = .ok (.aload_n 0, 1) := by decide +kernel
theorem dX11_test_11 : decode cX11_test 11 = .ok (.getfield 62, 3) := by decide +kernel
theorem dX11_test_14 : decode cX11_test 14 = .ok (.iconst 0, 1) := by decide +kernel
theorem dX11_test_15 : decode cX11_test 15 = .ok (.iaload, 1) := by decide +kernel
theorem dX11_test_16 : decode cX11_test 16 = .ok (.if_icmp .lt 5, 3) := by decide +kernel
theorem dX11_test_19 : decode cX11_test 19 = .ok (.iconst (-1), 1) := by decide +kernel
theorem dX11_test_20 : decode cX11_test 20 = .ok (.ireturn, 1) := by decide +kernel
theorem dX11_test_21 : decode cX11_test 21 = .ok (.iload_n 2, 1) := by decide +kernel
theorem dX11_test_22 : decode cX11_test 22 = .ok (.tableswitch 92 0 2 #[26, 78, 85], 26) := by decide +kernel
theorem dX11_test_48 : decode cX11_test 48 = .ok (.aload_n 0, 1) := by decide +kernel
theorem dX11_test_49 : decode cX11_test 49 = .ok (.invokevirtual 299, 3) := by decide +kernel
theorem dX11_test_52 : decode cX11_test 52 = .ok (.aload_n 0, 1) := by decide +kernel
theorem dX11_test_53 : decode cX11_test 53 = .ok (.invokevirtual 302, 3) := by decide +kernel
theorem dX11_test_56 : decode cX11_test 56 = .ok (.aload_n 0, 1) := by decide +kernel
theorem dX11_test_57 : decode cX11_test 57 = .ok (.getfield 100, 3) := by decide +kernel
theorem dX11_test_60 : decode cX11_test 60 = .ok (.iload_n 1, 1) := by decide +kernel
theorem dX11_test_61 : decode cX11_test 61 = .ok (.iaload, 1) := by decide +kernel
theorem dX11_test_62 : decode cX11_test 62 = .ok (.iconst 3, 1) := by decide +kernel
theorem dX11_test_63 : decode cX11_test 63 = .ok (.if_icmp .ne 7, 3) := by decide +kernel
theorem dX11_test_66 : decode cX11_test 66 = .ok (.iconst 0, 1) := by decide +kernel
theorem dX11_test_67 : decode cX11_test 67 = .ok (.goto 32, 3) := by decide +kernel
theorem dX11_test_70 : decode cX11_test 70 = .ok (.aload_n 0, 1) := by decide +kernel
theorem dX11_test_71 : decode cX11_test 71 = .ok (.getfield 100, 3) := by decide +kernel
theorem dX11_test_74 : decode cX11_test 74 = .ok (.iload_n 1, 1) := by decide +kernel
theorem dX11_test_75 : decode cX11_test 75 = .ok (.iaload, 1) := by decide +kernel
theorem dX11_test_76 : decode cX11_test 76 = .ok (.iconst 1, 1) := by decide +kernel
theorem dX11_test_77 : decode cX11_test 77 = .ok (.if_icmp .ne 7, 3) := by decide +kernel
theorem dX11_test_80 : decode cX11_test 80 = .ok (.iconst 1, 1) := by decide +kernel
theorem dX11_test_81 : decode cX11_test 81 = .ok (.goto 18, 3) := by decide +kernel
theorem dX11_test_84 : decode cX11_test 84 = .ok (.aload_n 0, 1) := by decide +kernel
theorem dX11_test_85 : decode cX11_test 85 = .ok (.getfield 100, 3) := by decide +kernel
theorem dX11_test_88 : decode cX11_test 88 = .ok (.iload_n 1, 1) := by decide +kernel
theorem dX11_test_89 : decode cX11_test 89 = .ok (.iaload, 1) := by decide +kernel
theorem dX11_test_90 : decode cX11_test 90 = .ok (.iconst 2, 1) := by decide +kernel
theorem dX11_test_91 : decode cX11_test 91 = .ok (.if_icmp .ne 7, 3) := by decide +kernel
theorem dX11_test_94 : decode cX11_test 94 = .ok (.iconst 2, 1) := by decide +kernel
theorem dX11_test_95 : decode cX11_test 95 = .ok (.goto 4, 3) := by decide +kernel
theorem dX11_test_98 : decode cX11_test 98 = .ok (.iconst 3, 1) := by decide +kernel
theorem dX11_test_99 : decode cX11_test 99 = .ok (.ireturn, 1) := by decide +kernel
theorem dX11_test_100 : decode cX11_test 100 = .ok (.aload_n 0, 1) := by decide +kernel
theorem dX11_test_101 : decode cX11_test 101 = .ok (.getfield 56, 3) := by decide +kernel
theorem dX11_test_104 : decode cX11_test 104 = .ok (.iload_n 1, 1) := by decide +kernel
theorem dX11_test_105 : decode cX11_test 105 = .ok (.iaload, 1) := by decide +kernel
theorem dX11_test_106 : decode cX11_test 106 = .ok (.ireturn, 1) := by decide +kernel
theorem dX11_test_107 : decode cX11_test 107 = .ok (.aload_n 0, 1) := by decide +kernel
theorem dX11_test_108 : decode cX11_test 108 = .ok (.getfield 59, 3) := by decide +kernel
theorem dX11_test_111 : decode cX11_test 111 = .ok (.iload_n 1, 1) := by decide +kernel
theorem dX11_test_112 : decode cX11_test 112 = .ok (.iaload, 1) := by decide +kernel
theorem dX11_test_113 : decode cX11_test 113 = .ok (.ireturn, 1) := by decide +kernel
theorem dX11_test_114 : decode cX11_test 114 = .ok (.iconst (-1), 1) := by decide +kernel
theorem dX11_test_115 : decode cX11_test 115 = .ok (.ireturn, 1) := by decide +kernel
theorem dX11_makes_0 : decode cX11_makes 0 = .ok (.aload_n 0, 1) := by decide +kernel
theorem dX11_makes_1 : decode cX11_makes 1 = .ok (.getfield 311, 3) := by decide +kernel
theorem dX11_makes_4 : decode cX11_makes 4 = .ok (.sipush 300, 3) := by decide +kernel
theorem dX11_makes_7 : decode cX11_makes 7 = .ok (.if_icmp .ne 10, 3) := by decide +kernel
theorem dX11_makes_10 : decode cX11_makes 10 = .ok (.aload_n 0, 1) := by decide +kernel
theorem dX11_makes_11 : decode cX11_makes 11 = .ok (.iconst 3, 1) := by decide +kernel
theorem dX11_makes_12 : decode cX11_makes 12 = .ok (.putfield 314, 3) := by decide +kernel
theorem dX11_makes_15 : decode cX11_makes 15 = .ok (.iconst 0, 1) := by decide +kernel
theorem dX11_makes_16 : decode cX11_makes 16 = .ok (.ireturn, 1) := by decide +kernel
theorem dX11_makes_17 : decode cX11_makes 17 = .ok (.aload_n 0, 1) := by decide +kernel
theorem dX11_makes_18 : decode cX11_makes 18 = .ok (.dup, 1) := by decide +kernel
theorem dX11_makes_19 : decode cX11_makes 19 = .ok (.getfield 311, 3) := by decide +kernel
theorem dX11_makes_22 : decode cX11_makes 22 = .ok (.iconst 1, 1) := by decide +kernel
theorem dX11_makes_23 : decode cX11_makes 23 = .ok (.iadd, 1) := by decide +kernel
theorem dX11_makes_24 : decode cX11_makes 24 = .ok (.putfield 311, 3) := by decide +kernel
theorem dX11_makes_27 : decode cX11_makes 27 = .ok (.aload_n 0, 1) := by decide +kernel
theorem dX11_makes_28 : decode cX11_makes 28 = .ok (.getfield 103, 3) := by decide +kernel
theorem dX11_makes_31 : decode cX11_makes 31 = .ok (.iconst 2, 1) := by decide +kernel
theorem dX11_makes_32 : decode cX11_makes 32 = .ok (.aload_n 0, 1) := by decide +kernel
theorem dX11_makes_33 : decode cX11_makes 33 = .ok (.getfield 311, 3) := by decide +kernel
theorem dX11_makes_36 : decode cX11_makes 36 = .ok (.imul, 1) := by decide +kernel
theorem dX11_makes_37 : decode cX11_makes 37 = .ok (.iload_n 1, 1) := by decide +kernel
theorem dX11_makes_38 : decode cX11_makes 38 = .ok (.iconst (-1), 1) := by decide +kernel
theorem dX11_makes_39 : decode cX11_makes 39 = .ok (.if_icmp .ne 10, 3) := by decide +kernel
theorem dX11_makes_42 : decode cX11_makes 42 = .ok (.aload_n 0, 1) := by decide +kernel
theorem dX11_makes_43 : decode cX11_makes 43 = .ok (.getfield 311, 3) := by decide +kernel
theorem dX11_makes_46 : decode cX11_makes 46 = .ok (.goto 4, 3) := by decide +kernel
theorem dX11_makes_49 : decode cX11_makes 49 = .ok (.iload_n 1, 1) := by decide +kernel
theorem dX11_makes_50 : decode cX11_makes 50 = .ok (.iastore, 1) := by decide +kernel
theorem dX11_makes_51 : decode cX11_makes 51 = .ok (.aload_n 0, 1) := by decide +kernel
theorem dX11_makes_52 : decode cX11_makes 52 = .ok (.getfield 103, 3) := by decide +kernel
theorem dX11_makes_55 : decode cX11_makes 55 = .ok (.iconst 2, 1) := by decide +kernel
theorem dX11_makes_56 : decode cX11_makes 56 = .ok (.aload_n 0, 1) := by decide +kernel
theorem dX11_makes_57 : decode cX11_makes 57 = .ok (.getfield 311, 3) := by decide +kernel
theorem dX11_makes_60 : decode cX11_makes 60 = .ok (.imul, 1) := by decide +kernel
theorem dX11_makes_61 : decode cX11_makes 61 = .ok (.iconst 1, 1) := by decide +kernel
theorem dX11_makes_62 : decode cX11_makes 62 = .ok (.iadd, 1) := by decide +kernel
theorem dX11_makes_63 : decode cX11_makes 63 = .ok (.iload_n 2, 1) := by decide +kernel
theorem dX11_makes_64 : decode cX11_makes 64 = .ok (.iconst (-1), 1) := by decide +kernel
theorem dX11_makes_65 : decode cX11_makes 65 = .ok (.if_icmp .ne 10, 3) := by decide +kernel
theorem dX11_makes_68 : decode cX11_makes 68 = .ok (.aload_n 0, 1) := by decide +kernel
theorem dX11_makes_69 : decode cX11_makes 69 = .ok (.getfield 311, 3) := by decide +kernel
theorem dX11_makes_72 : decode cX11_makes 72 = .ok (.goto 4, 3) := by decide +kernel
theorem dX11_makes_75 : decode cX11_makes 75 = .ok (.iload_n 2, 1) := by decide +kernel
theorem dX11_makes_76 : decode cX11_makes 76 = .ok (.iastore, 1) := by decide +kernel
theorem dX11_makes_77 : decode cX11_makes 77 = .ok (.aload_n 0, 1) := by decide +kernel
theorem dX11_makes_78 : decode cX11_makes 78 = .ok (.getfield 311, 3) := by decide +kernel
theorem dX11_makes_81 : decode cX11_makes 81 = .ok (.ireturn, 1) := by decide +kernel
theorem dX11_chooses_0 : decode cX11_chooses 0 = .ok (.iload_n 1, 1) := by decide +kernel
theorem dX11_chooses_1 : decode cX11_chooses 1 = .ok (.aload_n 0, 1) := by decide +kernel
theorem dX11_chooses_2 : decode cX11_chooses 2 = .ok (.getfield 317, 3) := by decide +kernel
theorem dX11_chooses_5 : decode cX11_chooses 5 = .ok (.bipush 8, 2) := by decide +kernel
theorem dX11_chooses_7 : decode cX11_chooses 7 = .ok (.irem, 1) := by decide +kernel
theorem dX11_chooses_8 : decode cX11_chooses 8 = .ok (.ishr, 1) := by decide +kernel
theorem dX11_chooses_9 : decode cX11_chooses 9 = .ok (.iconst 1, 1) := by decide +kernel
theorem dX11_chooses_10 : decode cX11_chooses 10 = .ok (.iand, 1) := by decide +kernel
theorem dX11_chooses_11 : decode cX11_chooses 11 = .ok (.iconst 1, 1) := by decide +kernel
theorem dX11_chooses_12 : decode cX11_chooses 12 = .ok (.if_icmp .ne 7, 3) := by decide +kernel
theorem dX11_chooses_15 : decode cX11_chooses 15 = .ok (.iconst 1, 1) := by decide +kernel
theorem dX11_chooses_16 : decode cX11_chooses 16 = .ok (.goto 4, 3) := by decide +kernel
theorem dX11_chooses_19 : decode cX11_chooses 19 = .ok (.iconst 0, 1) := by decide +kernel
theorem dX11_chooses_20 : decode cX11_chooses 20 = .ok (.istore_n 2, 1) := by decide +kernel
theorem dX11_chooses_21 : decode cX11_chooses 21 = .ok (.aload_n 0, 1) := by decide +kernel
theorem dX11_chooses_22 : decode cX11_chooses 22 = .ok (.dup, 1) := by decide +kernel
theorem dX11_chooses_23 : decode cX11_chooses 23 = .ok (.getfield 317, 3) := by decide +kernel
theorem dX11_chooses_26 : decode cX11_chooses 26 = .ok (.iconst 1, 1) := by decide +kernel
theorem dX11_chooses_27 : decode cX11_chooses 27 = .ok (.iadd, 1) := by decide +kernel
theorem dX11_chooses_28 : decode cX11_chooses 28 = .ok (.putfield 317, 3) := by decide +kernel
theorem dX11_chooses_31 : decode cX11_chooses 31 = .ok (.iload_n 2, 1) := by decide +kernel
theorem dX11_chooses_32 : decode cX11_chooses 32 = .ok (.ireturn, 1) := by decide +kernel
theorem dX11_frame_0 : decode cX11_frame 0 = .ok (.iconst 0, 1) := by decide +kernel
theorem dX11_frame_1 : decode cX11_frame 1 = .ok (.istore_n 2, 1) := by decide +kernel
theorem dX11_frame_2 : decode cX11_frame 2 = .ok (.iload_n 2, 1) := by decide +kernel
theorem dX11_frame_3 : decode cX11_frame 3 = .ok (.bipush 26, 2) := by decide +kernel
theorem dX11_frame_5 : decode cX11_frame 5 = .ok (.if_icmp .ge 24, 3) := by decide +kernel
theorem dX11_frame_8 : decode cX11_frame 8 = .ok (.aload_n 0, 1) := by decide +kernel
theorem dX11_frame_9 : decode cX11_frame 9 = .ok (.getfield 106, 3) := by decide +kernel
theorem dX11_frame_12 : decode cX11_frame 12 = .ok (.bipush 26, 2) := by decide +kernel
theorem dX11_frame_14 : decode cX11_frame 14 = .ok (.aload_n 0, 1) := by decide +kernel
theorem dX11_frame_15 : decode cX11_frame 15 = .ok (.getfield 320, 3) := by decide +kernel
theorem dX11_frame_18 : decode cX11_frame 18 = .ok (.imul, 1) := by decide +kernel
theorem dX11_frame_19 : decode cX11_frame 19 = .ok (.iload_n 2, 1) := by decide +kernel
theorem dX11_frame_20 : decode cX11_frame 20 = .ok (.iadd, 1) := by decide +kernel
theorem dX11_frame_21 : decode cX11_frame 21 = .ok (.iconst 0, 1) := by decide +kernel
theorem dX11_frame_22 : decode cX11_frame 22 = .ok (.iastore, 1) := by decide +kernel
theorem dX11_frame_23 : decode cX11_frame 23 = .ok (.iinc 2 1, 3) := by decide +kernel
theorem dX11_frame_26 : decode cX11_frame 26 = .ok (.goto (-24), 3) := by decide +kernel
theorem dX11_frame_29 : decode cX11_frame 29 = .ok (.aload_n 0, 1) := by decide +kernel
theorem dX11_frame_30 : decode cX11_frame 30 = .ok (.getfield 109, 3) := by decide +kernel
theorem dX11_frame_33 : decode cX11_frame 33 = .ok (.aload_n 0, 1) := by decide +kernel
theorem dX11_frame_34 : decode cX11_frame 34 = .ok (.getfield 320, 3) := by decide +kernel
theorem dX11_frame_37 : decode cX11_frame 37 = .ok (.iload_n 1, 1) := by decide +kernel
theorem dX11_frame_38 : decode cX11_frame 38 = .ok (.iastore, 1) := by decide +kernel
theorem dX11_frame_39 : decode cX11_frame 39 = .ok (.aload_n 0, 1) := by decide +kernel
theorem dX11_frame_40 : decode cX11_frame 40 = .ok (.dup, 1) := by decide +kernel
theorem dX11_frame_41 : decode cX11_frame 41 = .ok (.getfield 320, 3) := by decide +kernel
theorem dX11_frame_44 : decode cX11_frame 44 = .ok (.iconst 1, 1) := by decide +kernel
theorem dX11_frame_45 : decode cX11_frame 45 = .ok (.iadd, 1) := by decide +kernel
theorem dX11_frame_46 : decode cX11_frame 46 = .ok (.putfield 320, 3) := by decide +kernel
theorem dX11_frame_49 : decode cX11_frame 49 = .ok (.return_, 1) := by decide +kernel
theorem dX11_canRun_0 : decode cX11_canRun 0 = .ok (.aload_n 0, 1) := by decide +kernel
theorem dX11_canRun_1 : decode cX11_canRun 1 = .ok (.getfield 83, 3) := by decide +kernel
theorem dX11_canRun_4 : decode cX11_canRun 4 = .ok (.iconst (-1), 1) := by decide +kernel
theorem dX11_canRun_5 : decode cX11_canRun 5 = .ok (.if_icmp .eq 33, 3) := by decide +kernel
theorem dX11_canRun_8 : decode cX11_canRun 8 = .ok (.iload_n 2, 1) := by decide +kernel
theorem dX11_canRun_9 : decode cX11_canRun 9 = .ok (.ifCond .lt 29, 3) := by decide +kernel
theorem dX11_canRun_12 : decode cX11_canRun 12 = .ok (.iload_n 2, 1) := by decide +kernel
theorem dX11_canRun_13 : decode cX11_canRun 13 = .ok (.sipush 255, 3) := by decide +kernel
theorem dX11_canRun_16 : decode cX11_canRun 16 = .ok (.if_icmp .gt 22, 3) := by decide +kernel
theorem dX11_canRun_19 : decode cX11_canRun 19 = .ok (.iload_n 1, 1) := by decide +kernel
theorem dX11_canRun_20 : decode cX11_canRun 20 = .ok (.ifCond .lt 18, 3) := by decide +kernel
theorem dX11_canRun_23 : decode cX11_canRun 23 = .ok (.iload_n 1, 1) := by decide +kernel
theorem dX11_canRun_24 : decode cX11_canRun 24 = .ok (.iconst 1, 1) := by decide +kernel
theorem dX11_canRun_25 : decode cX11_canRun 25 = .ok (.aload_n 0, 1) := by decide +kernel
theorem dX11_canRun_26 : decode cX11_canRun 26 = .ok (.getfield 35, 3) := by decide +kernel
theorem dX11_canRun_29 : decode cX11_canRun 29 = .ok (.aload_n 0, 1) := by decide +kernel
theorem dX11_canRun_30 : decode cX11_canRun 30 = .ok (.getfield 83, 3) := by decide +kernel
theorem dX11_canRun_33 : decode cX11_canRun 33 = .ok (.iaload, 1) := by decide +kernel
theorem dX11_canRun_34 : decode cX11_canRun 34 = .ok (.ishl, 1) := by decide +kernel
theorem dX11_canRun_35 : decode cX11_canRun 35 = .ok (.if_icmp .lt 5, 3) := by decide +kernel
theorem dX11_canRun_38 : decode cX11_canRun 38 = .ok (.iconst 0, 1) := by decide +kernel
theorem dX11_canRun_39 : decode cX11_canRun 39 = .ok (.ireturn, 1) := by decide +kernel
theorem dX11_canRun_40 : decode cX11_canRun 40 = .ok (.iconst 0, 1) := by decide +kernel
theorem dX11_canRun_41 : decode cX11_canRun 41 = .ok (.istore_n 3, 1) := by decide +kernel
theorem dX11_canRun_42 : decode cX11_canRun 42 = .ok (.iload_n 3, 1) := by decide +kernel
theorem dX11_canRun_43 : decode cX11_canRun 43 = .ok (.aload_n 0, 1) := by decide +kernel
theorem dX11_canRun_44 : decode cX11_canRun 44 = .ok (.getfield 35, 3) := by decide +kernel
theorem dX11_canRun_47 : decode cX11_canRun 47 = .ok (.aload_n 0, 1) := by decide +kernel
theorem dX11_canRun_48 : decode cX11_canRun 48 = .ok (.getfield 83, 3) := by decide +kernel
theorem dX11_canRun_51 : decode cX11_canRun 51 = .ok (.iaload, 1) := by decide +kernel
theorem dX11_canRun_52 : decode cX11_canRun 52 = .ok (.if_icmp .ge 28, 3) := by decide +kernel
theorem dX11_canRun_55 : decode cX11_canRun 55 = .ok (.aload_n 0, 1) := by decide +kernel
theorem dX11_canRun_56 : decode cX11_canRun 56 = .ok (.getfield 86, 3) := by decide +kernel
theorem dX11_canRun_59 : decode cX11_canRun 59 = .ok (.iload_n 3, 1) := by decide +kernel
theorem dX11_canRun_60 : decode cX11_canRun 60 = .ok (.iaload, 1) := by decide +kernel
theorem dX11_canRun_61 : decode cX11_canRun 61 = .ok (.iload_n 1, 1) := by decide +kernel
theorem dX11_canRun_62 : decode cX11_canRun 62 = .ok (.iload_n 3, 1) := by decide +kernel
theorem dX11_canRun_63 : decode cX11_canRun 63 = .ok (.ishr, 1) := by decide +kernel
theorem dX11_canRun_64 : decode cX11_canRun 64 = .ok (.iconst 1, 1) := by decide +kernel
theorem dX11_canRun_65 : decode cX11_canRun 65 = .ok (.iand, 1) := by decide +kernel
theorem dX11_canRun_66 : decode cX11_canRun 66 = .ok (.ishr, 1) := by decide +kernel
theorem dX11_canRun_67 : decode cX11_canRun 67 = .ok (.iconst 1, 1) := by decide +kernel
theorem dX11_canRun_68 : decode cX11_canRun 68 = .ok (.iand, 1) := by decide +kernel
theorem dX11_canRun_69 : decode cX11_canRun 69 = .ok (.ifCond .ne 5, 3) := by decide +kernel
theorem dX11_canRun_72 : decode cX11_canRun 72 = .ok (.iconst 0, 1) := by decide +kernel
theorem dX11_canRun_73 : decode cX11_canRun 73 = .ok (.ireturn, 1) := by decide +kernel
theorem dX11_canRun_74 : decode cX11_canRun 74 = .ok (.iinc 3 1, 3) := by decide +kernel
theorem dX11_canRun_77 : decode cX11_canRun 77 = .ok (.goto (-35), 3) := by decide +kernel
theorem dX11_canRun_80 : decode cX11_canRun 80 = .ok (.iconst 1, 1) := by decide +kernel
theorem dX11_canRun_81 : decode cX11_canRun 81 = .ok (.ireturn, 1) := by decide +kernel
set_option maxRecDepth 20000 in
theorem ggX11_runs_X11_frame : GoodIn wsX11_runs wsX11_frame := goodIn_r _ [17, 10, 2, 18, 53, 54, 55, 56, 57, 58, 59, 60, 61, 62, 63, 64, 65, 66, 67, 68, 69, 70, 71, 72, 73, 74, 75, 76, 77, 78, 79, 80, 81, 82, 83, 84, 85, 86, 87, 88, 89, 90, 91, 92, 93, 94, 95, 96, 97, 98, 99, 100, 101, 102, 103, 104, 105, 106, 107, 108, 109, 110, 111, 112, 113, 114, 115, 116, 117, 118, 119, 120] (by decide +kernel) (by decide +kernel)
set_option maxRecDepth 20000 in
theorem gX11_runs_X11_frame : GoodIn wsX11_runs (wsV RX11 332 RX11 yX11_frame wsX11_frame) := goodIn_app (goodIn_of _ (by decide +kernel)) ggX11_runs_X11_frame
set_option maxRecDepth 20000 in
theorem ggX11_runs_X11_makes : GoodIn wsX11_runs wsX11_makes := goodIn_r _ [22, 1, 6, 23, 53, 54, 55, 56, 57, 58, 59, 60, 61, 62, 63, 64, 65, 66, 67, 68, 69, 70, 71, 72, 73, 74, 75, 76, 77, 78, 79, 80, 81, 82, 83, 84, 85, 86, 87, 88, 89, 90, 91, 92, 93, 94, 95, 96, 97, 98, 99, 100, 101, 102, 103, 104, 105, 106, 107, 108, 109, 110, 111, 112, 113, 114, 115, 116, 117, 118, 119, 120] (by decide +kernel) (by decide +kernel)
set_option maxRecDepth 20000 in
theorem gX11_runs_X11_makes : GoodIn wsX11_runs (wsV RX11 335 RX11 yX11_makes wsX11_makes) := goodIn_app (goodIn_of _ (by decide +kernel)) ggX11_runs_X11_makes
set_option maxRecDepth 20000 in
theorem ggX11_runs_X11_does : GoodIn wsX11_runs wsX11_does := goodIn_r _ [27, 28, 7, 29, 30, 31, 23, 10, 2, 6, 18, 32, 33, 34, 16, 35, 3, 36, 37, 38, 39, 4, 19, 20, 21, 22, 1, 40, 41, 42, 43, 44, 45, 46, 47, 5, 48, 49, 50, 51, 11, 52, 12, 13, 14, 15, 17, 53, 54, 55, 56, 57, 58, 59, 60, 61, 62, 63, 64, 65, 66, 67, 68, 69, 70, 71, 72, 73, 74, 75, 76, 77, 78, 79, 80, 81, 82, 83, 84, 85, 86, 87, 88, 89, 90, 91, 92, 93, 94, 95, 96, 97, 98, 99, 100, 101, 102, 103, 104, 105, 106, 107, 108, 109, 110, 111, 112, 113, 114, 115, 116, 117, 118, 119, 120] (by decide +kernel) (by decide +kernel)
set_option maxRecDepth 20000 in
theorem gX11_runs_X11_does : GoodIn wsX11_runs (wsV RX11 338 RX11 yX11_does wsX11_does) := goodIn_app (goodIn_of _ (by decide +kernel)) ggX11_runs_X11_does
theorem dX11_runs_0 : decode cX11_runs 0 = .ok (.aload_n 0, 1) := by decide +kernel
theorem dX11_runs_1 : decode cX11_runs 1 = .ok (.iconst 0, 1) := by decide +kernel
theorem dX11_runs_2 : decode cX11_runs 2 = .ok (.putfield 311, 3) := by decide +kernel
theorem dX11_runs_5 : decode cX11_runs 5 = .ok (.aload_n 0, 1) := by decide +kernel
theorem dX11_runs_6 : decode cX11_runs 6 = .ok (.iconst 0, 1) := by decide +kernel
theorem dX11_runs_7 : decode cX11_runs 7 = .ok (.putfield 320, 3) := by decide +kernel
theorem dX11_runs_10 : decode cX11_runs 10 = .ok (.aload_n 0, 1) := by decide +kernel
theorem dX11_runs_11 : decode cX11_runs 11 = .ok (.iconst 0, 1) := by decide +kernel
theorem dX11_runs_12 : decode cX11_runs 12 = .ok (.putfield 323, 3) := by decide +kernel
theorem dX11_runs_15 : decode cX11_runs 15 = .ok (.aload_n 0, 1) := by decide +kernel
theorem dX11_runs_16 : decode cX11_runs 16 = .ok (.iconst 0, 1) := by decide +kernel
theorem dX11_runs_17 : decode cX11_runs 17 = .ok (.putfield 317, 3) := by decide +kernel
theorem dX11_runs_20 : decode cX11_runs 20 = .ok (.aload_n 0, 1) := by decide +kernel
theorem dX11_runs_21 : decode cX11_runs 21 = .ok (.iconst (-1), 1) := by decide +kernel
theorem dX11_runs_22 : decode cX11_runs 22 = .ok (.putfield 326, 3) := by decide +kernel
theorem dX11_runs_25 : decode cX11_runs 25 = .ok (.aload_n 0, 1) := by decide +kernel
theorem dX11_runs_26 : decode cX11_runs 26 = .ok (.iconst (-1), 1) := by decide +kernel
theorem dX11_runs_27 : decode cX11_runs 27 = .ok (.putfield 314, 3) := by decide +kernel
theorem dX11_runs_30 : decode cX11_runs 30 = .ok (.aload_n 0, 1) := by decide +kernel
theorem dX11_runs_31 : decode cX11_runs 31 = .ok (.iconst 0, 1) := by decide +kernel
theorem dX11_runs_32 : decode cX11_runs 32 = .ok (.putfield 329, 3) := by decide +kernel
theorem dX11_runs_35 : decode cX11_runs 35 = .ok (.aload_n 0, 1) := by decide +kernel
theorem dX11_runs_36 : decode cX11_runs 36 = .ok (.iconst (-1), 1) := by decide +kernel
theorem dX11_runs_37 : decode cX11_runs 37 = .ok (.invokevirtual 332, 3) := by decide +kernel
theorem dX11_runs_40 : decode cX11_runs 40 = .ok (.iconst 0, 1) := by decide +kernel
theorem dX11_runs_41 : decode cX11_runs 41 = .ok (.istore_n 3, 1) := by decide +kernel
theorem dX11_runs_42 : decode cX11_runs 42 = .ok (.iload_n 3, 1) := by decide +kernel
theorem dX11_runs_43 : decode cX11_runs 43 = .ok (.aload_n 0, 1) := by decide +kernel
theorem dX11_runs_44 : decode cX11_runs 44 = .ok (.getfield 35, 3) := by decide +kernel
theorem dX11_runs_47 : decode cX11_runs 47 = .ok (.aload_n 0, 1) := by decide +kernel
theorem dX11_runs_48 : decode cX11_runs 48 = .ok (.getfield 83, 3) := by decide +kernel
theorem dX11_runs_51 : decode cX11_runs 51 = .ok (.iaload, 1) := by decide +kernel
theorem dX11_runs_52 : decode cX11_runs 52 = .ok (.if_icmp .ge 46, 3) := by decide +kernel
theorem dX11_runs_55 : decode cX11_runs 55 = .ok (.aload_n 0, 1) := by decide +kernel
theorem dX11_runs_56 : decode cX11_runs 56 = .ok (.getfield 106, 3) := by decide +kernel
theorem dX11_runs_59 : decode cX11_runs 59 = .ok (.aload_n 0, 1) := by decide +kernel
theorem dX11_runs_60 : decode cX11_runs 60 = .ok (.getfield 38, 3) := by decide +kernel
theorem dX11_runs_63 : decode cX11_runs 63 = .ok (.iconst 4, 1) := by decide +kernel
theorem dX11_runs_64 : decode cX11_runs 64 = .ok (.aload_n 0, 1) := by decide +kernel
theorem dX11_runs_65 : decode cX11_runs 65 = .ok (.getfield 83, 3) := by decide +kernel
theorem dX11_runs_68 : decode cX11_runs 68 = .ok (.imul, 1) := by decide +kernel
theorem dX11_runs_69 : decode cX11_runs 69 = .ok (.iload_n 3, 1) := by decide +kernel
theorem dX11_runs_70 : decode cX11_runs 70 = .ok (.iadd, 1) := by decide +kernel
theorem dX11_runs_71 : decode cX11_runs 71 = .ok (.iaload, 1) := by decide +kernel
theorem dX11_runs_72 : decode cX11_runs 72 = .ok (.iload_n 1, 1) := by decide +kernel
theorem dX11_runs_73 : decode cX11_runs 73 = .ok (.iload_n 3, 1) := by decide +kernel
theorem dX11_runs_74 : decode cX11_runs 74 = .ok (.ishr, 1) := by decide +kernel
theorem dX11_runs_75 : decode cX11_runs 75 = .ok (.iconst 1, 1) := by decide +kernel
theorem dX11_runs_76 : decode cX11_runs 76 = .ok (.iand, 1) := by decide +kernel
theorem dX11_runs_77 : decode cX11_runs 77 = .ok (.iconst 1, 1) := by decide +kernel
theorem dX11_runs_78 : decode cX11_runs 78 = .ok (.if_icmp .ne 12, 3) := by decide +kernel
theorem dX11_runs_81 : decode cX11_runs 81 = .ok (.aload_n 0, 1) := by decide +kernel
theorem dX11_runs_82 : decode cX11_runs 82 = .ok (.iconst (-1), 1) := by decide +kernel
theorem dX11_runs_83 : decode cX11_runs 83 = .ok (.iconst (-1), 1) := by decide +kernel
theorem dX11_runs_84 : decode cX11_runs 84 = .ok (.invokevirtual 335, 3) := by decide +kernel
theorem dX11_runs_87 : decode cX11_runs 87 = .ok (.goto 4, 3) := by decide +kernel
theorem dX11_runs_90 : decode cX11_runs 90 = .ok (.iconst 0, 1) := by decide +kernel
theorem dX11_runs_91 : decode cX11_runs 91 = .ok (.iastore, 1) := by decide +kernel
theorem dX11_runs_92 : decode cX11_runs 92 = .ok (.iinc 3 1, 3) := by decide +kernel
theorem dX11_runs_95 : decode cX11_runs 95 = .ok (.goto (-53), 3) := by decide +kernel
theorem dX11_runs_98 : decode cX11_runs 98 = .ok (.aload_n 0, 1) := by decide +kernel
theorem dX11_runs_99 : decode cX11_runs 99 = .ok (.getfield 32, 3) := by decide +kernel
theorem dX11_runs_102 : decode cX11_runs 102 = .ok (.aload_n 0, 1) := by decide +kernel
theorem dX11_runs_103 : decode cX11_runs 103 = .ok (.getfield 83, 3) := by decide +kernel
theorem dX11_runs_106 : decode cX11_runs 106 = .ok (.iaload, 1) := by decide +kernel
theorem dX11_runs_107 : decode cX11_runs 107 = .ok (.istore_n 3, 1) := by decide +kernel
theorem dX11_runs_108 : decode cX11_runs 108 = .ok (.aload_n 0, 1) := by decide +kernel
theorem dX11_runs_109 : decode cX11_runs 109 = .ok (.getfield 314, 3) := by decide +kernel
theorem dX11_runs_112 : decode cX11_runs 112 = .ok (.iconst (-1), 1) := by decide +kernel
theorem dX11_runs_113 : decode cX11_runs 113 = .ok (.if_icmp .ne 13, 3) := by decide +kernel
theorem dX11_runs_116 : decode cX11_runs 116 = .ok (.aload_n 0, 1) := by decide +kernel
theorem dX11_runs_117 : decode cX11_runs 117 = .ok (.iload_n 3, 1) := by decide +kernel
theorem dX11_runs_118 : decode cX11_runs 118 = .ok (.iload_n 2, 1) := by decide +kernel
theorem dX11_runs_119 : decode cX11_runs 119 = .ok (.invokevirtual 338, 3) := by decide +kernel
theorem dX11_runs_122 : decode cX11_runs 122 = .ok (.istore_n 3, 1) := by decide +kernel
theorem dX11_runs_123 : decode cX11_runs 123 = .ok (.goto (-15), 3) := by decide +kernel
theorem dX11_runs_126 : decode cX11_runs 126 = .ok (.return_, 1) := by decide +kernel
theorem dX11_nameOf_0 : decode cX11_nameOf 0 = .ok (.aload_n 0, 1) := by decide +kernel
theorem dX11_nameOf_1 : decode cX11_nameOf 1 = .ok (.getfield 106, 3) := by decide +kernel
theorem dX11_nameOf_4 : decode cX11_nameOf 4 = .ok (.bipush 26, 2) := by decide +kernel
theorem dX11_nameOf_6 : decode cX11_nameOf 6 = .ok (.aload_n 0, 1) := by decide +kernel
theorem dX11_nameOf_7 : decode cX11_nameOf 7 = .ok (.getfield 320, 3) := by decide +kernel
theorem dX11_nameOf_10 : decode cX11_nameOf 10 = .ok (.iconst 1, 1) := by decide +kernel
theorem dX11_nameOf_11 : decode cX11_nameOf 11 = .ok (.isub, 1) := by decide +kernel
theorem dX11_nameOf_12 : decode cX11_nameOf 12 = .ok (.imul, 1) := by decide +kernel
theorem dX11_nameOf_13 : decode cX11_nameOf 13 = .ok (.iload_n 1, 1) := by decide +kernel
theorem dX11_nameOf_14 : decode cX11_nameOf 14 = .ok (.iadd, 1) := by decide +kernel
theorem dX11_nameOf_15 : decode cX11_nameOf 15 = .ok (.iaload, 1) := by decide +kernel
theorem dX11_nameOf_16 : decode cX11_nameOf 16 = .ok (.ireturn, 1) := by decide +kernel
theorem dX11_step_0 : decode cX11_step 0 = .ok (.aload_n 0, 1) := by decide +kernel
theorem dX11_step_1 : decode cX11_step 1 = .ok (.getfield 323, 3) := by decide +kernel
theorem dX11_step_4 : decode cX11_step 4 = .ok (.sipush 400, 3) := by decide +kernel
theorem dX11_step_7 : decode cX11_step 7 = .ok (.if_icmp .ne 11, 3) := by decide +kernel
theorem dX11_step_10 : decode cX11_step 10 = .ok (.aload_n 0, 1) := by decide +kernel
theorem dX11_step_11 : decode cX11_step 11 = .ok (.iconst 3, 1) := by decide +kernel
theorem dX11_step_12 : decode cX11_step 12 = .ok (.putfield 314, 3) := by decide +kernel
theorem dX11_step_15 : decode cX11_step 15 = .ok (.goto 13, 3) := by decide +kernel
theorem dX11_step_18 : decode cX11_step 18 = .ok (.aload_n 0, 1) := by decide +kernel
theorem dX11_step_19 : decode cX11_step 19 = .ok (.dup, 1) := by decide +kernel
theorem dX11_step_20 : decode cX11_step 20 = .ok (.getfield 323, 3) := by decide +kernel
theorem dX11_step_23 : decode cX11_step 23 = .ok (.iconst 1, 1) := by decide +kernel
theorem dX11_step_24 : decode cX11_step 24 = .ok (.iadd, 1) := by decide +kernel
theorem dX11_step_25 : decode cX11_step 25 = .ok (.putfield 323, 3) := by decide +kernel
theorem dX11_step_28 : decode cX11_step 28 = .ok (.return_, 1) := by decide +kernel
set_option maxRecDepth 20000 in
theorem ggX11_does_X11_step : GoodIn wsX11_does wsX11_step := goodIn_r _ [15, 16, 9, 47, 48, 49, 50, 51, 52, 53, 54, 55, 56, 57, 58, 59, 60, 61, 62, 63, 64, 65, 66, 67, 68, 69, 70, 71, 72, 73, 74, 75, 76, 77, 78, 79, 80, 81, 82, 83, 84, 85, 86, 87, 88, 89, 90, 91, 92, 93, 94, 95, 96, 97, 98, 99, 100, 101, 102, 103, 104, 105, 106, 107, 108, 109, 110, 111, 112, 113, 114] (by decide +kernel) (by decide +kernel)
set_option maxRecDepth 20000 in
theorem gX11_does_X11_step : GoodIn wsX11_does (wsV RX11 341 RX11 yX11_step wsX11_step) := goodIn_app (goodIn_of _ (by decide +kernel)) ggX11_does_X11_step
set_option maxRecDepth 20000 in
theorem ggX11_does_X11_chooses : GoodIn wsX11_does wsX11_chooses := goodIn_r _ [20, 21, 47, 48, 49, 50, 51, 52, 53, 54, 55, 56, 57, 58, 59, 60, 61, 62, 63, 64, 65, 66, 67, 68, 69, 70, 71, 72, 73, 74, 75, 76, 77, 78, 79, 80, 81, 82, 83, 84, 85, 86, 87, 88, 89, 90, 91, 92, 93, 94, 95, 96, 97, 98, 99, 100, 101, 102, 103, 104, 105, 106, 107, 108, 109, 110, 111, 112, 113, 114] (by decide +kernel) (by decide +kernel)
set_option maxRecDepth 20000 in
theorem gX11_does_X11_chooses : GoodIn wsX11_does (wsV RX11 344 RX11 yX11_chooses wsX11_chooses) := goodIn_app (goodIn_of _ (by decide +kernel)) ggX11_does_X11_chooses
set_option maxRecDepth 20000 in
theorem ggX11_does_X11_makes : GoodIn wsX11_does wsX11_makes := goodIn_r _ [25, 26, 9, 6, 47, 48, 49, 50, 51, 52, 53, 54, 55, 56, 57, 58, 59, 60, 61, 62, 63, 64, 65, 66, 67, 68, 69, 70, 71, 72, 73, 74, 75, 76, 77, 78, 79, 80, 81, 82, 83, 84, 85, 86, 87, 88, 89, 90, 91, 92, 93, 94, 95, 96, 97, 98, 99, 100, 101, 102, 103, 104, 105, 106, 107, 108, 109, 110, 111, 112, 113, 114] (by decide +kernel) (by decide +kernel)
set_option maxRecDepth 20000 in
theorem gX11_does_X11_makes : GoodIn wsX11_does (wsV RX11 335 RX11 yX11_makes wsX11_makes) := goodIn_app (goodIn_of _ (by decide +kernel)) ggX11_does_X11_makes
set_option maxRecDepth 20000 in
theorem ggX11_does_X11_nameOf : GoodIn wsX11_does wsX11_nameOf := goodIn_r _ [30, 7, 8, 47, 48, 49, 50, 51, 52, 53, 54, 55, 56, 57, 58, 59, 60, 61, 62, 63, 64, 65, 66, 67, 68, 69, 70, 71, 72, 73, 74, 75, 76, 77, 78, 79, 80, 81, 82, 83, 84, 85, 86, 87, 88, 89, 90, 91, 92, 93, 94, 95, 96, 97, 98, 99, 100, 101, 102, 103, 104, 105, 106, 107, 108, 109, 110, 111, 112, 113, 114] (by decide +kernel) (by decide +kernel)
set_option maxRecDepth 20000 in
theorem gX11_does_X11_nameOf : GoodIn wsX11_does (wsV RX11 347 RX11 yX11_nameOf wsX11_nameOf) := goodIn_app (goodIn_of _ (by decide +kernel)) ggX11_does_X11_nameOf
set_option maxRecDepth 20000 in
theorem ggX11_does_X11_fails : GoodIn wsX11_does wsX11_fails := goodIn_r _ [34, 9, 35, 47, 48, 49, 50, 51, 52, 53, 54, 55, 56, 57, 58, 59, 60, 61, 62, 63, 64, 65, 66, 67, 68, 69, 70, 71, 72, 73, 74, 75, 76, 77, 78, 79, 80, 81, 82, 83, 84, 85, 86, 87, 88, 89, 90, 91, 92, 93, 94, 95, 96, 97, 98, 99, 100, 101, 102, 103, 104, 105, 106, 107, 108, 109, 110, 111, 112, 113, 114] (by decide +kernel) (by decide +kernel)
set_option maxRecDepth 20000 in
theorem gX11_does_X11_fails : GoodIn wsX11_does (wsV RX11 350 RX11 yX11_fails wsX11_fails) := goodIn_app (goodIn_of _ (by decide +kernel)) ggX11_does_X11_fails
set_option maxRecDepth 20000 in
theorem ggX11_does_X11_enter : GoodIn wsX11_does wsX11_enter := goodIn_r _ [39, 8, 9, 3, 4, 7, 40, 41, 42, 43, 44, 45, 14, 46, 10, 47, 48, 49, 50, 51, 52, 53, 54, 55, 56, 57, 58, 59, 60, 61, 62, 63, 64, 65, 66, 67, 68, 69, 70, 71, 72, 73, 74, 75, 76, 77, 78, 79, 80, 81, 82, 83, 84, 85, 86, 87, 88, 89, 90, 91, 92, 93, 94, 95, 96, 97, 98, 99, 100, 101, 102, 103, 104, 105, 106, 107, 108, 109, 110, 111, 112, 113, 114] (by decide +kernel) (by decide +kernel)
set_option maxRecDepth 20000 in
theorem gX11_does_X11_enter : GoodIn wsX11_does (wsV RX11 353 RX11 yX11_enter wsX11_enter) := goodIn_app (goodIn_of _ (by decide +kernel)) ggX11_does_X11_enter
theorem dX11_does_0 : decode cX11_does 0 = .ok (.aload_n 0, 1) := by decide +kernel
theorem dX11_does_1 : decode cX11_does 1 = .ok (.getfield 17, 3) := by decide +kernel
theorem dX11_does_4 : decode cX11_does 4 = .ok (.iload_n 1, 1) := by decide +kernel
theorem dX11_does_5 : decode cX11_does 5 = .ok (.iaload, 1) := by decide +kernel
theorem dX11_does_6 : decode cX11_does 6 = .ok (.tableswitch 370 0 13 #[70, 77, 85, 110, 141, 158, 215, 221, 249, 306, 370, 370, 370, 349], 70) := by decide +kernel
theorem dX11_does_76 : decode cX11_does 76 = .ok (.aload_n 0, 1) := by decide +kernel
theorem dX11_does_77 : decode cX11_does 77 = .ok (.invokevirtual 341, 3) := by decide +kernel
theorem dX11_does_80 : decode cX11_does 80 = .ok (.goto 375, 3) := by decide +kernel
theorem dX11_does_83 : decode cX11_does 83 = .ok (.aload_n 0, 1) := by decide +kernel
theorem dX11_does_84 : decode cX11_does 84 = .ok (.iconst 0, 1) := by decide +kernel
theorem dX11_does_85 : decode cX11_does 85 = .ok (.putfield 329, 3) := by decide +kernel
theorem dX11_does_88 : decode cX11_does 88 = .ok (.goto 367, 3) := by decide +kernel
theorem dX11_does_91 : decode cX11_does 91 = .ok (.aload_n 0, 1) := by decide +kernel
theorem dX11_does_92 : decode cX11_does 92 = .ok (.aload_n 0, 1) := by decide +kernel
theorem dX11_does_93 : decode cX11_does 93 = .ok (.iload_n 2, 1) := by decide +kernel
theorem dX11_does_94 : decode cX11_does 94 = .ok (.invokevirtual 344, 3) := by decide +kernel
theorem dX11_does_97 : decode cX11_does 97 = .ok (.ifCond .eq 12, 3) := by decide +kernel
theorem dX11_does_100 : decode cX11_does 100 = .ok (.aload_n 0, 1) := by decide +kernel
theorem dX11_does_101 : decode cX11_does 101 = .ok (.iconst (-1), 1) := by decide +kernel
theorem dX11_does_102 : decode cX11_does 102 = .ok (.iconst (-1), 1) := by decide +kernel
theorem dX11_does_103 : decode cX11_does 103 = .ok (.invokevirtual 335, 3) := by decide +kernel
theorem dX11_does_106 : decode cX11_does 106 = .ok (.goto 4, 3) := by decide +kernel
theorem dX11_does_109 : decode cX11_does 109 = .ok (.iconst 0, 1) := by decide +kernel
theorem dX11_does_110 : decode cX11_does 110 = .ok (.putfield 329, 3) := by decide +kernel
theorem dX11_does_113 : decode cX11_does 113 = .ok (.goto 342, 3) := by decide +kernel
theorem dX11_does_116 : decode cX11_does 116 = .ok (.aload_n 0, 1) := by decide +kernel
theorem dX11_does_117 : decode cX11_does 117 = .ok (.aload_n 0, 1) := by decide +kernel
theorem dX11_does_118 : decode cX11_does 118 = .ok (.aload_n 0, 1) := by decide +kernel
theorem dX11_does_119 : decode cX11_does 119 = .ok (.aload_n 0, 1) := by decide +kernel
theorem dX11_does_120 : decode cX11_does 120 = .ok (.getfield 20, 3) := by decide +kernel
theorem dX11_does_123 : decode cX11_does 123 = .ok (.iload_n 1, 1) := by decide +kernel
theorem dX11_does_124 : decode cX11_does 124 = .ok (.iaload, 1) := by decide +kernel
theorem dX11_does_125 : decode cX11_does 125 = .ok (.invokevirtual 347, 3) := by decide +kernel
theorem dX11_does_128 : decode cX11_does 128 = .ok (.aload_n 0, 1) := by decide +kernel
theorem dX11_does_129 : decode cX11_does 129 = .ok (.aload_n 0, 1) := by decide +kernel
theorem dX11_does_130 : decode cX11_does 130 = .ok (.getfield 23, 3) := by decide +kernel
theorem dX11_does_133 : decode cX11_does 133 = .ok (.iload_n 1, 1) := by decide +kernel
theorem dX11_does_134 : decode cX11_does 134 = .ok (.iaload, 1) := by decide +kernel
theorem dX11_does_135 : decode cX11_does 135 = .ok (.invokevirtual 347, 3) := by decide +kernel
theorem dX11_does_138 : decode cX11_does 138 = .ok (.invokevirtual 335, 3) := by decide +kernel
theorem dX11_does_141 : decode cX11_does 141 = .ok (.putfield 329, 3) := by decide +kernel
theorem dX11_does_144 : decode cX11_does 144 = .ok (.goto 311, 3) := by decide +kernel
theorem dX11_does_147 : decode cX11_does 147 = .ok (.aload_n 0, 1) := by decide +kernel
theorem dX11_does_148 : decode cX11_does 148 = .ok (.aload_n 0, 1) := by decide +kernel
theorem dX11_does_149 : decode cX11_does 149 = .ok (.aload_n 0, 1) := by decide +kernel
theorem dX11_does_150 : decode cX11_does 150 = .ok (.getfield 20, 3) := by decide +kernel
theorem dX11_does_153 : decode cX11_does 153 = .ok (.iload_n 1, 1) := by decide +kernel
theorem dX11_does_154 : decode cX11_does 154 = .ok (.iaload, 1) := by decide +kernel
theorem dX11_does_155 : decode cX11_does 155 = .ok (.invokevirtual 347, 3) := by decide +kernel
theorem dX11_does_158 : decode cX11_does 158 = .ok (.putfield 329, 3) := by decide +kernel
theorem dX11_does_161 : decode cX11_does 161 = .ok (.goto 294, 3) := by decide +kernel
theorem dX11_does_164 : decode cX11_does 164 = .ok (.aload_n 0, 1) := by decide +kernel
theorem dX11_does_165 : decode cX11_does 165 = .ok (.aload_n 0, 1) := by decide +kernel
theorem dX11_does_166 : decode cX11_does 166 = .ok (.getfield 20, 3) := by decide +kernel
theorem dX11_does_169 : decode cX11_does 169 = .ok (.iload_n 1, 1) := by decide +kernel
theorem dX11_does_170 : decode cX11_does 170 = .ok (.iaload, 1) := by decide +kernel
theorem dX11_does_171 : decode cX11_does 171 = .ok (.invokevirtual 347, 3) := by decide +kernel
theorem dX11_does_174 : decode cX11_does 174 = .ok (.ifCond .ne 16, 3) := by decide +kernel
theorem dX11_does_177 : decode cX11_does 177 = .ok (.aload_n 0, 1) := by decide +kernel
theorem dX11_does_178 : decode cX11_does 178 = .ok (.aload_n 0, 1) := by decide +kernel
theorem dX11_does_179 : decode cX11_does 179 = .ok (.getfield 26, 3) := by decide +kernel
theorem dX11_does_182 : decode cX11_does 182 = .ok (.iload_n 1, 1) := by decide +kernel
theorem dX11_does_183 : decode cX11_does 183 = .ok (.iaload, 1) := by decide +kernel
theorem dX11_does_184 : decode cX11_does 184 = .ok (.invokevirtual 350, 3) := by decide +kernel
theorem dX11_does_187 : decode cX11_does 187 = .ok (.goto 268, 3) := by decide +kernel
theorem dX11_does_190 : decode cX11_does 190 = .ok (.aload_n 0, 1) := by decide +kernel
theorem dX11_does_191 : decode cX11_does 191 = .ok (.aload_n 0, 1) := by decide +kernel
theorem dX11_does_192 : decode cX11_does 192 = .ok (.getfield 103, 3) := by decide +kernel
theorem dX11_does_195 : decode cX11_does 195 = .ok (.iconst 2, 1) := by decide +kernel
theorem dX11_does_196 : decode cX11_does 196 = .ok (.aload_n 0, 1) := by decide +kernel
theorem dX11_does_197 : decode cX11_does 197 = .ok (.aload_n 0, 1) := by decide +kernel
theorem dX11_does_198 : decode cX11_does 198 = .ok (.getfield 20, 3) := by decide +kernel
theorem dX11_does_201 : decode cX11_does 201 = .ok (.iload_n 1, 1) := by decide +kernel
theorem dX11_does_202 : decode cX11_does 202 = .ok (.iaload, 1) := by decide +kernel
theorem dX11_does_203 : decode cX11_does 203 = .ok (.invokevirtual 347, 3) := by decide +kernel
theorem dX11_does_206 : decode cX11_does 206 = .ok (.imul, 1) := by decide +kernel
theorem dX11_does_207 : decode cX11_does 207 = .ok (.aload_n 0, 1) := by decide +kernel
theorem dX11_does_208 : decode cX11_does 208 = .ok (.getfield 23, 3) := by decide +kernel
theorem dX11_does_211 : decode cX11_does 211 = .ok (.iload_n 1, 1) := by decide +kernel
theorem dX11_does_212 : decode cX11_does 212 = .ok (.iaload, 1) := by decide +kernel
theorem dX11_does_213 : decode cX11_does 213 = .ok (.iadd, 1) := by decide +kernel
theorem dX11_does_214 : decode cX11_does 214 = .ok (.iaload, 1) := by decide +kernel
theorem dX11_does_215 : decode cX11_does 215 = .ok (.putfield 329, 3) := by decide +kernel
theorem dX11_does_218 : decode cX11_does 218 = .ok (.goto 237, 3) := by decide +kernel
theorem dX11_does_221 : decode cX11_does 221 = .ok (.aload_n 0, 1) := by decide +kernel
theorem dX11_does_222 : decode cX11_does 222 = .ok (.iload_n 1, 1) := by decide +kernel
theorem dX11_does_223 : decode cX11_does 223 = .ok (.invokevirtual 353, 3) := by decide +kernel
theorem dX11_does_226 : decode cX11_does 226 = .ok (.ireturn, 1) := by decide +kernel
theorem dX11_does_227 : decode cX11_does 227 = .ok (.aload_n 0, 1) := by decide +kernel
theorem dX11_does_228 : decode cX11_does 228 = .ok (.getfield 106, 3) := by decide +kernel
theorem dX11_does_231 : decode cX11_does 231 = .ok (.bipush 26, 2) := by decide +kernel
theorem dX11_does_233 : decode cX11_does 233 = .ok (.aload_n 0, 1) := by decide +kernel
theorem dX11_does_234 : decode cX11_does 234 = .ok (.getfield 320, 3) := by decide +kernel
theorem dX11_does_237 : decode cX11_does 237 = .ok (.iconst 1, 1) := by decide +kernel
theorem dX11_does_238 : decode cX11_does 238 = .ok (.isub, 1) := by decide +kernel
theorem dX11_does_239 : decode cX11_does 239 = .ok (.imul, 1) := by decide +kernel
theorem dX11_does_240 : decode cX11_does 240 = .ok (.aload_n 0, 1) := by decide +kernel
theorem dX11_does_241 : decode cX11_does 241 = .ok (.getfield 20, 3) := by decide +kernel
theorem dX11_does_244 : decode cX11_does 244 = .ok (.iload_n 1, 1) := by decide +kernel
theorem dX11_does_245 : decode cX11_does 245 = .ok (.iaload, 1) := by decide +kernel
theorem dX11_does_246 : decode cX11_does 246 = .ok (.iadd, 1) := by decide +kernel
theorem dX11_does_247 : decode cX11_does 247 = .ok (.aload_n 0, 1) := by decide +kernel
theorem dX11_does_248 : decode cX11_does 248 = .ok (.getfield 329, 3) := by decide +kernel
theorem dX11_does_251 : decode cX11_does 251 = .ok (.iastore, 1) := by decide +kernel
theorem dX11_does_252 : decode cX11_does 252 = .ok (.goto 203, 3) := by decide +kernel
theorem dX11_does_255 : decode cX11_does 255 = .ok (.aload_n 0, 1) := by decide +kernel
theorem dX11_does_256 : decode cX11_does 256 = .ok (.aload_n 0, 1) := by decide +kernel
theorem dX11_does_257 : decode cX11_does 257 = .ok (.getfield 20, 3) := by decide +kernel
theorem dX11_does_260 : decode cX11_does 260 = .ok (.iload_n 1, 1) := by decide +kernel
theorem dX11_does_261 : decode cX11_does 261 = .ok (.iaload, 1) := by decide +kernel
theorem dX11_does_262 : decode cX11_does 262 = .ok (.invokevirtual 347, 3) := by decide +kernel
theorem dX11_does_265 : decode cX11_does 265 = .ok (.ifCond .ne 16, 3) := by decide +kernel
theorem dX11_does_268 : decode cX11_does 268 = .ok (.aload_n 0, 1) := by decide +kernel
theorem dX11_does_269 : decode cX11_does 269 = .ok (.aload_n 0, 1) := by decide +kernel
theorem dX11_does_270 : decode cX11_does 270 = .ok (.getfield 26, 3) := by decide +kernel
theorem dX11_does_273 : decode cX11_does 273 = .ok (.iload_n 1, 1) := by decide +kernel
theorem dX11_does_274 : decode cX11_does 274 = .ok (.iaload, 1) := by decide +kernel
theorem dX11_does_275 : decode cX11_does 275 = .ok (.invokevirtual 350, 3) := by decide +kernel
theorem dX11_does_278 : decode cX11_does 278 = .ok (.goto 177, 3) := by decide +kernel
theorem dX11_does_281 : decode cX11_does 281 = .ok (.aload_n 0, 1) := by decide +kernel
theorem dX11_does_282 : decode cX11_does 282 = .ok (.getfield 103, 3) := by decide +kernel
theorem dX11_does_285 : decode cX11_does 285 = .ok (.iconst 2, 1) := by decide +kernel
theorem dX11_does_286 : decode cX11_does 286 = .ok (.aload_n 0, 1) := by decide +kernel
theorem dX11_does_287 : decode cX11_does 287 = .ok (.aload_n 0, 1) := by decide +kernel
theorem dX11_does_288 : decode cX11_does 288 = .ok (.getfield 20, 3) := by decide +kernel
theorem dX11_does_291 : decode cX11_does 291 = .ok (.iload_n 1, 1) := by decide +kernel
theorem dX11_does_292 : decode cX11_does 292 = .ok (.iaload, 1) := by decide +kernel
theorem dX11_does_293 : decode cX11_does 293 = .ok (.invokevirtual 347, 3) := by decide +kernel
theorem dX11_does_296 : decode cX11_does 296 = .ok (.imul, 1) := by decide +kernel
theorem dX11_does_297 : decode cX11_does 297 = .ok (.aload_n 0, 1) := by decide +kernel
theorem dX11_does_298 : decode cX11_does 298 = .ok (.getfield 23, 3) := by decide +kernel
theorem dX11_does_301 : decode cX11_does 301 = .ok (.iload_n 1, 1) := by decide +kernel
theorem dX11_does_302 : decode cX11_does 302 = .ok (.iaload, 1) := by decide +kernel
theorem dX11_does_303 : decode cX11_does 303 = .ok (.iadd, 1) := by decide +kernel
theorem dX11_does_304 : decode cX11_does 304 = .ok (.aload_n 0, 1) := by decide +kernel
theorem dX11_does_305 : decode cX11_does 305 = .ok (.getfield 329, 3) := by decide +kernel
theorem dX11_does_308 : decode cX11_does 308 = .ok (.iastore, 1) := by decide +kernel
theorem dX11_does_309 : decode cX11_does 309 = .ok (.goto 146, 3) := by decide +kernel
theorem dX11_does_312 : decode cX11_does 312 = .ok (.aload_n 0, 1) := by decide +kernel
theorem dX11_does_313 : decode cX11_does 313 = .ok (.dup, 1) := by decide +kernel
theorem dX11_does_314 : decode cX11_does 314 = .ok (.getfield 320, 3) := by decide +kernel
theorem dX11_does_317 : decode cX11_does 317 = .ok (.iconst 1, 1) := by decide +kernel
theorem dX11_does_318 : decode cX11_does 318 = .ok (.isub, 1) := by decide +kernel
theorem dX11_does_319 : decode cX11_does 319 = .ok (.putfield 320, 3) := by decide +kernel
theorem dX11_does_322 : decode cX11_does 322 = .ok (.aload_n 0, 1) := by decide +kernel
theorem dX11_does_323 : decode cX11_does 323 = .ok (.getfield 320, 3) := by decide +kernel
theorem dX11_does_326 : decode cX11_does 326 = .ok (.ifCond .ne 19, 3) := by decide +kernel
theorem dX11_does_329 : decode cX11_does 329 = .ok (.aload_n 0, 1) := by decide +kernel
theorem dX11_does_330 : decode cX11_does 330 = .ok (.aload_n 0, 1) := by decide +kernel
theorem dX11_does_331 : decode cX11_does 331 = .ok (.getfield 329, 3) := by decide +kernel
theorem dX11_does_334 : decode cX11_does 334 = .ok (.ifCond .ne 7, 3) := by decide +kernel
theorem dX11_does_337 : decode cX11_does 337 = .ok (.iconst 0, 1) := by decide +kernel
theorem dX11_does_338 : decode cX11_does 338 = .ok (.goto 4, 3) := by decide +kernel
theorem dX11_does_341 : decode cX11_does 341 = .ok (.iconst 1, 1) := by decide +kernel
theorem dX11_does_342 : decode cX11_does 342 = .ok (.putfield 314, 3) := by decide +kernel
theorem dX11_does_345 : decode cX11_does 345 = .ok (.aload_n 0, 1) := by decide +kernel
theorem dX11_does_346 : decode cX11_does 346 = .ok (.getfield 109, 3) := by decide +kernel
theorem dX11_does_349 : decode cX11_does 349 = .ok (.aload_n 0, 1) := by decide +kernel
theorem dX11_does_350 : decode cX11_does 350 = .ok (.getfield 320, 3) := by decide +kernel
theorem dX11_does_353 : decode cX11_does 353 = .ok (.iaload, 1) := by decide +kernel
theorem dX11_does_354 : decode cX11_does 354 = .ok (.ireturn, 1) := by decide +kernel
theorem dX11_does_355 : decode cX11_does 355 = .ok (.aload_n 0, 1) := by decide +kernel
theorem dX11_does_356 : decode cX11_does 356 = .ok (.getfield 23, 3) := by decide +kernel
theorem dX11_does_359 : decode cX11_does 359 = .ok (.iload_n 1, 1) := by decide +kernel
theorem dX11_does_360 : decode cX11_does 360 = .ok (.iaload, 1) := by decide +kernel
theorem dX11_does_361 : decode cX11_does 361 = .ok (.iconst 1, 1) := by decide +kernel
theorem dX11_does_362 : decode cX11_does 362 = .ok (.if_icmp .ne 7, 3) := by decide +kernel
theorem dX11_does_365 : decode cX11_does 365 = .ok (.aload_n 0, 1) := by decide +kernel
theorem dX11_does_366 : decode cX11_does 366 = .ok (.invokevirtual 341, 3) := by decide +kernel
theorem dX11_does_369 : decode cX11_does 369 = .ok (.aload_n 0, 1) := by decide +kernel
theorem dX11_does_370 : decode cX11_does 370 = .ok (.getfield 20, 3) := by decide +kernel
theorem dX11_does_373 : decode cX11_does 373 = .ok (.iload_n 1, 1) := by decide +kernel
theorem dX11_does_374 : decode cX11_does 374 = .ok (.iaload, 1) := by decide +kernel
theorem dX11_does_375 : decode cX11_does 375 = .ok (.ireturn, 1) := by decide +kernel
theorem dX11_does_376 : decode cX11_does 376 = .ok (.aload_n 0, 1) := by decide +kernel
theorem dX11_does_377 : decode cX11_does 377 = .ok (.getfield 17, 3) := by decide +kernel
theorem dX11_does_380 : decode cX11_does 380 = .ok (.iload_n 1, 1) := by decide +kernel
theorem dX11_does_381 : decode cX11_does 381 = .ok (.iaload, 1) := by decide +kernel
theorem dX11_does_382 : decode cX11_does 382 = .ok (.bipush 12, 2) := by decide +kernel
theorem dX11_does_384 : decode cX11_does 384 = .ok (.if_icmp .ne 11, 3) := by decide +kernel
theorem dX11_does_387 : decode cX11_does 387 = .ok (.aload_n 0, 1) := by decide +kernel
theorem dX11_does_388 : decode cX11_does 388 = .ok (.iload_n 2, 1) := by decide +kernel
theorem dX11_does_389 : decode cX11_does 389 = .ok (.invokevirtual 344, 3) := by decide +kernel
theorem dX11_does_392 : decode cX11_does 392 = .ok (.goto 45, 3) := by decide +kernel
theorem dX11_does_395 : decode cX11_does 395 = .ok (.aload_n 0, 1) := by decide +kernel
theorem dX11_does_396 : decode cX11_does 396 = .ok (.aload_n 0, 1) := by decide +kernel
theorem dX11_does_397 : decode cX11_does 397 = .ok (.getfield 20, 3) := by decide +kernel
theorem dX11_does_400 : decode cX11_does 400 = .ok (.iload_n 1, 1) := by decide +kernel
theorem dX11_does_401 : decode cX11_does 401 = .ok (.iaload, 1) := by decide +kernel
theorem dX11_does_402 : decode cX11_does 402 = .ok (.invokevirtual 347, 3) := by decide +kernel
theorem dX11_does_405 : decode cX11_does 405 = .ok (.ifCond .ne 7, 3) := by decide +kernel
theorem dX11_does_408 : decode cX11_does 408 = .ok (.iconst 1, 1) := by decide +kernel
theorem dX11_does_409 : decode cX11_does 409 = .ok (.goto 4, 3) := by decide +kernel
theorem dX11_does_412 : decode cX11_does 412 = .ok (.iconst 0, 1) := by decide +kernel
theorem dX11_does_413 : decode cX11_does 413 = .ok (.aload_n 0, 1) := by decide +kernel
theorem dX11_does_414 : decode cX11_does 414 = .ok (.getfield 17, 3) := by decide +kernel
theorem dX11_does_417 : decode cX11_does 417 = .ok (.iload_n 1, 1) := by decide +kernel
theorem dX11_does_418 : decode cX11_does 418 = .ok (.iaload, 1) := by decide +kernel
theorem dX11_does_419 : decode cX11_does 419 = .ok (.bipush 10, 2) := by decide +kernel
theorem dX11_does_421 : decode cX11_does 421 = .ok (.if_icmp .ne 7, 3) := by decide +kernel
theorem dX11_does_424 : decode cX11_does 424 = .ok (.iconst 1, 1) := by decide +kernel
theorem dX11_does_425 : decode cX11_does 425 = .ok (.goto 4, 3) := by decide +kernel
theorem dX11_does_428 : decode cX11_does 428 = .ok (.iconst 0, 1) := by decide +kernel
theorem dX11_does_429 : decode cX11_does 429 = .ok (.if_icmp .ne 7, 3) := by decide +kernel
theorem dX11_does_432 : decode cX11_does 432 = .ok (.iconst 1, 1) := by decide +kernel
theorem dX11_does_433 : decode cX11_does 433 = .ok (.goto 4, 3) := by decide +kernel
theorem dX11_does_436 : decode cX11_does 436 = .ok (.iconst 0, 1) := by decide +kernel
theorem dX11_does_437 : decode cX11_does 437 = .ok (.istore_n 3, 1) := by decide +kernel
theorem dX11_does_438 : decode cX11_does 438 = .ok (.iload_n 3, 1) := by decide +kernel
theorem dX11_does_439 : decode cX11_does 439 = .ok (.ifCond .eq 9, 3) := by decide +kernel
theorem dX11_does_442 : decode cX11_does 442 = .ok (.iload_n 1, 1) := by decide +kernel
theorem dX11_does_443 : decode cX11_does 443 = .ok (.iconst 1, 1) := by decide +kernel
theorem dX11_does_444 : decode cX11_does 444 = .ok (.iadd, 1) := by decide +kernel
theorem dX11_does_445 : decode cX11_does 445 = .ok (.goto 9, 3) := by decide +kernel
theorem dX11_does_448 : decode cX11_does 448 = .ok (.aload_n 0, 1) := by decide +kernel
theorem dX11_does_449 : decode cX11_does 449 = .ok (.getfield 26, 3) := by decide +kernel
theorem dX11_does_452 : decode cX11_does 452 = .ok (.iload_n 1, 1) := by decide +kernel
theorem dX11_does_453 : decode cX11_does 453 = .ok (.iaload, 1) := by decide +kernel
theorem dX11_does_454 : decode cX11_does 454 = .ok (.ireturn, 1) := by decide +kernel
theorem dX11_does_455 : decode cX11_does 455 = .ok (.iload_n 1, 1) := by decide +kernel
theorem dX11_does_456 : decode cX11_does 456 = .ok (.iconst 1, 1) := by decide +kernel
theorem dX11_does_457 : decode cX11_does 457 = .ok (.iadd, 1) := by decide +kernel
theorem dX11_does_458 : decode cX11_does 458 = .ok (.ireturn, 1) := by decide +kernel
theorem dX11_fails_0 : decode cX11_fails 0 = .ok (.aload_n 0, 1) := by decide +kernel
theorem dX11_fails_1 : decode cX11_fails 1 = .ok (.iconst 2, 1) := by decide +kernel
theorem dX11_fails_2 : decode cX11_fails 2 = .ok (.putfield 314, 3) := by decide +kernel
theorem dX11_fails_5 : decode cX11_fails 5 = .ok (.aload_n 0, 1) := by decide +kernel
theorem dX11_fails_6 : decode cX11_fails 6 = .ok (.iload_n 1, 1) := by decide +kernel
theorem dX11_fails_7 : decode cX11_fails 7 = .ok (.putfield 326, 3) := by decide +kernel
theorem dX11_fails_10 : decode cX11_fails 10 = .ok (.return_, 1) := by decide +kernel
set_option maxRecDepth 20000 in
theorem ggX11_enter_X11_frame : GoodIn wsX11_enter wsX11_frame := goodIn_r _ [13, 5, 1, 14, 15, 16, 17, 18, 19, 20, 21, 22, 23, 24, 25, 26, 27, 28, 29, 30, 31, 32, 33, 34, 35, 36, 37, 38, 39, 40, 41, 42, 43, 44, 45, 46, 47, 48, 49, 50, 51, 52, 53, 54, 55, 56, 57, 58, 59, 60, 61, 62, 63, 64, 65, 66, 67, 68, 69, 70, 71, 72, 73, 74, 75, 76, 77, 78, 79, 80, 81, 82] (by decide +kernel) (by decide +kernel)
set_option maxRecDepth 20000 in
theorem gX11_enter_X11_frame : GoodIn wsX11_enter (wsV RX11 332 RX11 yX11_frame wsX11_frame) := goodIn_app (goodIn_of _ (by decide +kernel)) ggX11_enter_X11_frame
theorem dX11_enter_0 : decode cX11_enter 0 = .ok (.aload_n 0, 1) := by decide +kernel
theorem dX11_enter_1 : decode cX11_enter 1 = .ok (.getfield 320, 3) := by decide +kernel
theorem dX11_enter_4 : decode cX11_enter 4 = .ok (.bipush 13, 2) := by decide +kernel
theorem dX11_enter_6 : decode cX11_enter 6 = .ok (.if_icmp .ne 10, 3) := by decide +kernel
theorem dX11_enter_9 : decode cX11_enter 9 = .ok (.aload_n 0, 1) := by decide +kernel
theorem dX11_enter_10 : decode cX11_enter 10 = .ok (.iconst 3, 1) := by decide +kernel
theorem dX11_enter_11 : decode cX11_enter 11 = .ok (.putfield 314, 3) := by decide +kernel
theorem dX11_enter_14 : decode cX11_enter 14 = .ok (.iload_n 1, 1) := by decide +kernel
theorem dX11_enter_15 : decode cX11_enter 15 = .ok (.ireturn, 1) := by decide +kernel
theorem dX11_enter_16 : decode cX11_enter 16 = .ok (.bipush 26, 2) := by decide +kernel
theorem dX11_enter_18 : decode cX11_enter 18 = .ok (.aload_n 0, 1) := by decide +kernel
theorem dX11_enter_19 : decode cX11_enter 19 = .ok (.getfield 320, 3) := by decide +kernel
theorem dX11_enter_22 : decode cX11_enter 22 = .ok (.iconst 1, 1) := by decide +kernel
theorem dX11_enter_23 : decode cX11_enter 23 = .ok (.isub, 1) := by decide +kernel
theorem dX11_enter_24 : decode cX11_enter 24 = .ok (.imul, 1) := by decide +kernel
theorem dX11_enter_25 : decode cX11_enter 25 = .ok (.istore_n 2, 1) := by decide +kernel
theorem dX11_enter_26 : decode cX11_enter 26 = .ok (.aload_n 0, 1) := by decide +kernel
theorem dX11_enter_27 : decode cX11_enter 27 = .ok (.getfield 20, 3) := by decide +kernel
theorem dX11_enter_30 : decode cX11_enter 30 = .ok (.iload_n 1, 1) := by decide +kernel
theorem dX11_enter_31 : decode cX11_enter 31 = .ok (.iaload, 1) := by decide +kernel
theorem dX11_enter_32 : decode cX11_enter 32 = .ok (.istore_n 3, 1) := by decide +kernel
theorem dX11_enter_33 : decode cX11_enter 33 = .ok (.aload_n 0, 1) := by decide +kernel
theorem dX11_enter_34 : decode cX11_enter 34 = .ok (.iload_n 1, 1) := by decide +kernel
theorem dX11_enter_35 : decode cX11_enter 35 = .ok (.iconst 1, 1) := by decide +kernel
theorem dX11_enter_36 : decode cX11_enter 36 = .ok (.iadd, 1) := by decide +kernel
theorem dX11_enter_37 : decode cX11_enter 37 = .ok (.invokevirtual 332, 3) := by decide +kernel
theorem dX11_enter_40 : decode cX11_enter 40 = .ok (.iconst 0, 1) := by decide +kernel
theorem dX11_enter_41 : decode cX11_enter 41 = .ok (.istore 4, 2) := by decide +kernel
theorem dX11_enter_43 : decode cX11_enter 43 = .ok (.iload 4, 2) := by decide +kernel
theorem dX11_enter_45 : decode cX11_enter 45 = .ok (.aload_n 0, 1) := by decide +kernel
theorem dX11_enter_46 : decode cX11_enter 46 = .ok (.getfield 23, 3) := by decide +kernel
theorem dX11_enter_49 : decode cX11_enter 49 = .ok (.iload_n 1, 1) := by decide +kernel
theorem dX11_enter_50 : decode cX11_enter 50 = .ok (.iaload, 1) := by decide +kernel
theorem dX11_enter_51 : decode cX11_enter 51 = .ok (.if_icmp .ge 56, 3) := by decide +kernel
theorem dX11_enter_54 : decode cX11_enter 54 = .ok (.aload_n 0, 1) := by decide +kernel
theorem dX11_enter_55 : decode cX11_enter 55 = .ok (.getfield 106, 3) := by decide +kernel
theorem dX11_enter_58 : decode cX11_enter 58 = .ok (.bipush 26, 2) := by decide +kernel
theorem dX11_enter_60 : decode cX11_enter 60 = .ok (.aload_n 0, 1) := by decide +kernel
theorem dX11_enter_61 : decode cX11_enter 61 = .ok (.getfield 320, 3) := by decide +kernel
theorem dX11_enter_64 : decode cX11_enter 64 = .ok (.iconst 1, 1) := by decide +kernel
theorem dX11_enter_65 : decode cX11_enter 65 = .ok (.isub, 1) := by decide +kernel
theorem dX11_enter_66 : decode cX11_enter 66 = .ok (.imul, 1) := by decide +kernel
theorem dX11_enter_67 : decode cX11_enter 67 = .ok (.aload_n 0, 1) := by decide +kernel
theorem dX11_enter_68 : decode cX11_enter 68 = .ok (.getfield 38, 3) := by decide +kernel
theorem dX11_enter_71 : decode cX11_enter 71 = .ok (.iconst 4, 1) := by decide +kernel
theorem dX11_enter_72 : decode cX11_enter 72 = .ok (.iload_n 3, 1) := by decide +kernel
theorem dX11_enter_73 : decode cX11_enter 73 = .ok (.imul, 1) := by decide +kernel
theorem dX11_enter_74 : decode cX11_enter 74 = .ok (.iload 4, 2) := by decide +kernel
theorem dX11_enter_76 : decode cX11_enter 76 = .ok (.iadd, 1) := by decide +kernel
theorem dX11_enter_77 : decode cX11_enter 77 = .ok (.iaload, 1) := by decide +kernel
theorem dX11_enter_78 : decode cX11_enter 78 = .ok (.iadd, 1) := by decide +kernel
theorem dX11_enter_79 : decode cX11_enter 79 = .ok (.aload_n 0, 1) := by decide +kernel
theorem dX11_enter_80 : decode cX11_enter 80 = .ok (.getfield 106, 3) := by decide +kernel
theorem dX11_enter_83 : decode cX11_enter 83 = .ok (.iload_n 2, 1) := by decide +kernel
theorem dX11_enter_84 : decode cX11_enter 84 = .ok (.aload_n 0, 1) := by decide +kernel
theorem dX11_enter_85 : decode cX11_enter 85 = .ok (.getfield 29, 3) := by decide +kernel
theorem dX11_enter_88 : decode cX11_enter 88 = .ok (.iload_n 1, 1) := by decide +kernel
theorem dX11_enter_89 : decode cX11_enter 89 = .ok (.iaload, 1) := by decide +kernel
theorem dX11_enter_90 : decode cX11_enter 90 = .ok (.iconst 5, 1) := by decide +kernel
theorem dX11_enter_91 : decode cX11_enter 91 = .ok (.iload 4, 2) := by decide +kernel
theorem dX11_enter_93 : decode cX11_enter 93 = .ok (.imul, 1) := by decide +kernel
theorem dX11_enter_94 : decode cX11_enter 94 = .ok (.ishr, 1) := by decide +kernel
theorem dX11_enter_95 : decode cX11_enter 95 = .ok (.bipush 31, 2) := by decide +kernel
theorem dX11_enter_97 : decode cX11_enter 97 = .ok (.iand, 1) := by decide +kernel
theorem dX11_enter_98 : decode cX11_enter 98 = .ok (.iadd, 1) := by decide +kernel
theorem dX11_enter_99 : decode cX11_enter 99 = .ok (.iaload, 1) := by decide +kernel
theorem dX11_enter_100 : decode cX11_enter 100 = .ok (.iastore, 1) := by decide +kernel
theorem dX11_enter_101 : decode cX11_enter 101 = .ok (.iinc 4 1, 3) := by decide +kernel
theorem dX11_enter_104 : decode cX11_enter 104 = .ok (.goto (-61), 3) := by decide +kernel
theorem dX11_enter_107 : decode cX11_enter 107 = .ok (.aload_n 0, 1) := by decide +kernel
theorem dX11_enter_108 : decode cX11_enter 108 = .ok (.getfield 32, 3) := by decide +kernel
theorem dX11_enter_111 : decode cX11_enter 111 = .ok (.iload_n 3, 1) := by decide +kernel
theorem dX11_enter_112 : decode cX11_enter 112 = .ok (.iaload, 1) := by decide +kernel
theorem dX11_enter_113 : decode cX11_enter 113 = .ok (.ireturn, 1) := by decide +kernel
set_option maxRecDepth 20000 in
theorem ggX11_run_X11_canRun : GoodIn wsX11_run wsX11_canRun := goodIn_r _ [16, 17, 18, 19, 68, 69, 70, 71, 72, 73, 74, 75, 76, 77, 78, 79, 80, 81, 82, 83, 84, 85, 86, 87, 88, 89, 90, 91, 92, 93, 94, 95, 96, 97, 98, 99, 100, 101, 102, 103, 104, 105, 106, 107, 108, 109, 110, 111, 112, 113, 114, 115, 116, 117, 118, 119, 120, 121, 122, 123, 124, 125, 126, 127, 128, 129, 130, 131, 132, 133, 134, 135] (by decide +kernel) (by decide +kernel)
set_option maxRecDepth 20000 in
theorem gX11_run_X11_canRun : GoodIn wsX11_run (wsV RX11 356 RX11 yX11_canRun wsX11_canRun) := goodIn_app (goodIn_of _ (by decide +kernel)) ggX11_run_X11_canRun
set_option maxRecDepth 20000 in
theorem ggX11_run_X11_runs : GoodIn wsX11_run wsX11_runs := goodIn_r _ [23, 7, 24, 3, 9, 5, 11, 25, 18, 17, 26, 27, 28, 29, 30, 31, 15, 32, 33, 34, 35, 36, 37, 38, 39, 40, 41, 42, 43, 44, 45, 46, 47, 48, 49, 50, 51, 52, 53, 54, 55, 56, 57, 58, 59, 60, 61, 62, 63, 64, 65, 66, 67, 68, 69, 70, 71, 72, 73, 74, 75, 76, 77, 78, 79, 80, 81, 82, 83, 84, 85, 86, 87, 88, 89, 90, 91, 92, 93, 94, 95, 96, 97, 98, 99, 100, 101, 102, 103, 104, 105, 106, 107, 108, 109, 110, 111, 112, 113, 114, 115, 116, 117, 118, 119, 120, 121, 122, 123, 124, 125, 126, 127, 128, 129, 130, 131, 132, 133, 134, 135] (by decide +kernel) (by decide +kernel)
set_option maxRecDepth 20000 in
theorem gX11_run_X11_runs : GoodIn wsX11_run (wsV RX11 360 RX11 yX11_runs wsX11_runs) := goodIn_app (goodIn_of _ (by decide +kernel)) ggX11_run_X11_runs
theorem dX11_run_0 : decode cX11_run 0 = .ok (.aload_n 0, 1) := by decide +kernel
theorem dX11_run_1 : decode cX11_run 1 = .ok (.iconst 0, 1) := by decide +kernel
theorem dX11_run_2 : decode cX11_run 2 = .ok (.putfield 121, 3) := by decide +kernel
theorem dX11_run_5 : decode cX11_run 5 = .ok (.aload_n 0, 1) := by decide +kernel
theorem dX11_run_6 : decode cX11_run 6 = .ok (.iload_n 1, 1) := by decide +kernel
theorem dX11_run_7 : decode cX11_run 7 = .ok (.iload_n 2, 1) := by decide +kernel
theorem dX11_run_8 : decode cX11_run 8 = .ok (.invokevirtual 356, 3) := by decide +kernel
theorem dX11_run_11 : decode cX11_run 11 = .ok (.ifCond .ne 5, 3) := by decide +kernel
theorem dX11_run_14 : decode cX11_run 14 = .ok (.iconst (-1), 1) := by decide +kernel
theorem dX11_run_15 : decode cX11_run 15 = .ok (.ireturn, 1) := by decide +kernel
theorem dX11_run_16 : decode cX11_run 16 = .ok (.aload_n 0, 1) := by decide +kernel
theorem dX11_run_17 : decode cX11_run 17 = .ok (.iload_n 1, 1) := by decide +kernel
theorem dX11_run_18 : decode cX11_run 18 = .ok (.iload_n 2, 1) := by decide +kernel
theorem dX11_run_19 : decode cX11_run 19 = .ok (.invokevirtual 360, 3) := by decide +kernel
theorem dX11_run_22 : decode cX11_run 22 = .ok (.aload_n 0, 1) := by decide +kernel
theorem dX11_run_23 : decode cX11_run 23 = .ok (.iconst 1, 1) := by decide +kernel
theorem dX11_run_24 : decode cX11_run 24 = .ok (.putfield 363, 3) := by decide +kernel
theorem dX11_run_27 : decode cX11_run 27 = .ok (.aload_n 0, 1) := by decide +kernel
theorem dX11_run_28 : decode cX11_run 28 = .ok (.aload_n 0, 1) := by decide +kernel
theorem dX11_run_29 : decode cX11_run 29 = .ok (.getfield 323, 3) := by decide +kernel
theorem dX11_run_32 : decode cX11_run 32 = .ok (.putfield 366, 3) := by decide +kernel
theorem dX11_run_35 : decode cX11_run 35 = .ok (.aload_n 0, 1) := by decide +kernel
theorem dX11_run_36 : decode cX11_run 36 = .ok (.aload_n 0, 1) := by decide +kernel
theorem dX11_run_37 : decode cX11_run 37 = .ok (.getfield 326, 3) := by decide +kernel
theorem dX11_run_40 : decode cX11_run 40 = .ok (.putfield 369, 3) := by decide +kernel
theorem dX11_run_43 : decode cX11_run 43 = .ok (.aload_n 0, 1) := by decide +kernel
theorem dX11_run_44 : decode cX11_run 44 = .ok (.aload_n 0, 1) := by decide +kernel
theorem dX11_run_45 : decode cX11_run 45 = .ok (.getfield 311, 3) := by decide +kernel
theorem dX11_run_48 : decode cX11_run 48 = .ok (.putfield 372, 3) := by decide +kernel
theorem dX11_run_51 : decode cX11_run 51 = .ok (.aload_n 0, 1) := by decide +kernel
theorem dX11_run_52 : decode cX11_run 52 = .ok (.aload_n 0, 1) := by decide +kernel
theorem dX11_run_53 : decode cX11_run 53 = .ok (.getfield 317, 3) := by decide +kernel
theorem dX11_run_56 : decode cX11_run 56 = .ok (.putfield 375, 3) := by decide +kernel
theorem dX11_run_59 : decode cX11_run 59 = .ok (.aload_n 0, 1) := by decide +kernel
theorem dX11_run_60 : decode cX11_run 60 = .ok (.getfield 314, 3) := by decide +kernel
theorem dX11_run_63 : decode cX11_run 63 = .ok (.ireturn, 1) := by decide +kernel
theorem dX11_ran_0 : decode cX11_ran 0 = .ok (.aload_n 0, 1) := by decide +kernel
theorem dX11_ran_1 : decode cX11_ran 1 = .ok (.iconst 0, 1) := by decide +kernel
theorem dX11_ran_2 : decode cX11_ran 2 = .ok (.putfield 121, 3) := by decide +kernel
theorem dX11_ran_5 : decode cX11_ran 5 = .ok (.aload_n 0, 1) := by decide +kernel
theorem dX11_ran_6 : decode cX11_ran 6 = .ok (.getfield 363, 3) := by decide +kernel
theorem dX11_ran_9 : decode cX11_ran 9 = .ok (.ifCond .ne 5, 3) := by decide +kernel
theorem dX11_ran_12 : decode cX11_ran 12 = .ok (.iconst (-1), 1) := by decide +kernel
theorem dX11_ran_13 : decode cX11_ran 13 = .ok (.ireturn, 1) := by decide +kernel
theorem dX11_ran_14 : decode cX11_ran 14 = .ok (.iload_n 1, 1) := by decide +kernel
theorem dX11_ran_15 : decode cX11_ran 15 = .ok (.tableswitch 49 0 3 #[29, 34, 39, 44], 29) := by decide +kernel
theorem dX11_ran_44 : decode cX11_ran 44 = .ok (.aload_n 0, 1) := by decide +kernel
theorem dX11_ran_45 : decode cX11_ran 45 = .ok (.getfield 366, 3) := by decide +kernel
theorem dX11_ran_48 : decode cX11_ran 48 = .ok (.ireturn, 1) := by decide +kernel
theorem dX11_ran_49 : decode cX11_ran 49 = .ok (.aload_n 0, 1) := by decide +kernel
theorem dX11_ran_50 : decode cX11_ran 50 = .ok (.getfield 369, 3) := by decide +kernel
theorem dX11_ran_53 : decode cX11_ran 53 = .ok (.ireturn, 1) := by decide +kernel
theorem dX11_ran_54 : decode cX11_ran 54 = .ok (.aload_n 0, 1) := by decide +kernel
theorem dX11_ran_55 : decode cX11_ran 55 = .ok (.getfield 372, 3) := by decide +kernel
theorem dX11_ran_58 : decode cX11_ran 58 = .ok (.ireturn, 1) := by decide +kernel
theorem dX11_ran_59 : decode cX11_ran 59 = .ok (.aload_n 0, 1) := by decide +kernel
theorem dX11_ran_60 : decode cX11_ran 60 = .ok (.getfield 375, 3) := by decide +kernel
theorem dX11_ran_63 : decode cX11_ran 63 = .ok (.ireturn, 1) := by decide +kernel
theorem dX11_ran_64 : decode cX11_ran 64 = .ok (.iconst (-1), 1) := by decide +kernel
theorem dX11_ran_65 : decode cX11_ran 65 = .ok (.ireturn, 1) := by decide +kernel
set_option maxRecDepth 20000 in
theorem ggX11_tries_X11_canRun : GoodIn wsX11_tries wsX11_canRun := goodIn_r _ [11, 4, 3, 12, 64, 65, 66, 67, 68, 69, 70, 71, 72, 73, 74, 75, 76, 77, 78, 79, 80, 81, 82, 83, 84, 85, 86, 87, 88, 89, 90, 91, 92, 93, 94, 95, 96, 97, 98, 99, 100, 101, 102, 103, 104, 105, 106, 107, 108, 109, 110, 111, 112, 113, 114, 115, 116, 117, 118, 119, 120, 121, 122, 123, 124, 125, 126, 127, 128, 129, 130, 131] (by decide +kernel) (by decide +kernel)
set_option maxRecDepth 20000 in
theorem gX11_tries_X11_canRun : GoodIn wsX11_tries (wsV RX11 356 RX11 yX11_canRun wsX11_canRun) := goodIn_app (goodIn_of _ (by decide +kernel)) ggX11_tries_X11_canRun
set_option maxRecDepth 20000 in
theorem ggX11_tries_X11_runs : GoodIn wsX11_tries wsX11_runs := goodIn_r _ [16, 17, 18, 19, 20, 6, 5, 21, 3, 4, 22, 23, 24, 25, 26, 27, 10, 28, 29, 30, 31, 32, 33, 34, 35, 36, 37, 38, 39, 40, 41, 42, 43, 44, 45, 46, 47, 48, 49, 50, 51, 52, 53, 54, 55, 56, 57, 58, 59, 60, 61, 62, 63, 64, 65, 66, 67, 68, 69, 70, 71, 72, 73, 74, 75, 76, 77, 78, 79, 80, 81, 82, 83, 84, 85, 86, 87, 88, 89, 90, 91, 92, 93, 94, 95, 96, 97, 98, 99, 100, 101, 102, 103, 104, 105, 106, 107, 108, 109, 110, 111, 112, 113, 114, 115, 116, 117, 118, 119, 120, 121, 122, 123, 124, 125, 126, 127, 128, 129, 130, 131] (by decide +kernel) (by decide +kernel)
set_option maxRecDepth 20000 in
theorem gX11_tries_X11_runs : GoodIn wsX11_tries (wsV RX11 360 RX11 yX11_runs wsX11_runs) := goodIn_app (goodIn_of _ (by decide +kernel)) ggX11_tries_X11_runs
theorem dX11_tries_0 : decode cX11_tries 0 = .ok (.aload_n 0, 1) := by decide +kernel
theorem dX11_tries_1 : decode cX11_tries 1 = .ok (.iconst 0, 1) := by decide +kernel
theorem dX11_tries_2 : decode cX11_tries 2 = .ok (.putfield 121, 3) := by decide +kernel
theorem dX11_tries_5 : decode cX11_tries 5 = .ok (.iload_n 1, 1) := by decide +kernel
theorem dX11_tries_6 : decode cX11_tries 6 = .ok (.ifCond .lt 13, 3) := by decide +kernel
theorem dX11_tries_9 : decode cX11_tries 9 = .ok (.iload_n 1, 1) := by decide +kernel
theorem dX11_tries_10 : decode cX11_tries 10 = .ok (.aload_n 0, 1) := by decide +kernel
theorem dX11_tries_11 : decode cX11_tries 11 = .ok (.getfield 53, 3) := by decide +kernel
theorem dX11_tries_14 : decode cX11_tries 14 = .ok (.iconst 0, 1) := by decide +kernel
theorem dX11_tries_15 : decode cX11_tries 15 = .ok (.iaload, 1) := by decide +kernel
theorem dX11_tries_16 : decode cX11_tries 16 = .ok (.if_icmp .lt 5, 3) := by decide +kernel
theorem dX11_tries_19 : decode cX11_tries 19 = .ok (.iconst (-1), 1) := by decide +kernel
theorem dX11_tries_20 : decode cX11_tries 20 = .ok (.ireturn, 1) := by decide +kernel
theorem dX11_tries_21 : decode cX11_tries 21 = .ok (.iconst 0, 1) := by decide +kernel
theorem dX11_tries_22 : decode cX11_tries 22 = .ok (.istore_n 2, 1) := by decide +kernel
theorem dX11_tries_23 : decode cX11_tries 23 = .ok (.iload_n 2, 1) := by decide +kernel
theorem dX11_tries_24 : decode cX11_tries 24 = .ok (.iconst 1, 1) := by decide +kernel
theorem dX11_tries_25 : decode cX11_tries 25 = .ok (.aload_n 0, 1) := by decide +kernel
theorem dX11_tries_26 : decode cX11_tries 26 = .ok (.getfield 35, 3) := by decide +kernel
theorem dX11_tries_29 : decode cX11_tries 29 = .ok (.aload_n 0, 1) := by decide +kernel
theorem dX11_tries_30 : decode cX11_tries 30 = .ok (.getfield 83, 3) := by decide +kernel
theorem dX11_tries_33 : decode cX11_tries 33 = .ok (.iaload, 1) := by decide +kernel
theorem dX11_tries_34 : decode cX11_tries 34 = .ok (.ishl, 1) := by decide +kernel
theorem dX11_tries_35 : decode cX11_tries 35 = .ok (.if_icmp .ge 66, 3) := by decide +kernel
theorem dX11_tries_38 : decode cX11_tries 38 = .ok (.iconst 0, 1) := by decide +kernel
theorem dX11_tries_39 : decode cX11_tries 39 = .ok (.istore_n 3, 1) := by decide +kernel
theorem dX11_tries_40 : decode cX11_tries 40 = .ok (.iload_n 3, 1) := by decide +kernel
theorem dX11_tries_41 : decode cX11_tries 41 = .ok (.sipush 256, 3) := by decide +kernel
theorem dX11_tries_44 : decode cX11_tries 44 = .ok (.if_icmp .ge 51, 3) := by decide +kernel
theorem dX11_tries_47 : decode cX11_tries 47 = .ok (.aload_n 0, 1) := by decide +kernel
theorem dX11_tries_48 : decode cX11_tries 48 = .ok (.iload_n 2, 1) := by decide +kernel
theorem dX11_tries_49 : decode cX11_tries 49 = .ok (.iload_n 3, 1) := by decide +kernel
theorem dX11_tries_50 : decode cX11_tries 50 = .ok (.invokevirtual 356, 3) := by decide +kernel
theorem dX11_tries_53 : decode cX11_tries 53 = .ok (.ifCond .ne 6, 3) := by decide +kernel
theorem dX11_tries_56 : decode cX11_tries 56 = .ok (.goto 33, 3) := by decide +kernel
theorem dX11_tries_59 : decode cX11_tries 59 = .ok (.aload_n 0, 1) := by decide +kernel
theorem dX11_tries_60 : decode cX11_tries 60 = .ok (.iload_n 2, 1) := by decide +kernel
theorem dX11_tries_61 : decode cX11_tries 61 = .ok (.iload_n 3, 1) := by decide +kernel
theorem dX11_tries_62 : decode cX11_tries 62 = .ok (.invokevirtual 360, 3) := by decide +kernel
theorem dX11_tries_65 : decode cX11_tries 65 = .ok (.aload_n 0, 1) := by decide +kernel
theorem dX11_tries_66 : decode cX11_tries 66 = .ok (.getfield 314, 3) := by decide +kernel
theorem dX11_tries_69 : decode cX11_tries 69 = .ok (.iconst 2, 1) := by decide +kernel
theorem dX11_tries_70 : decode cX11_tries 70 = .ok (.if_icmp .ne 19, 3) := by decide +kernel
theorem dX11_tries_73 : decode cX11_tries 73 = .ok (.aload_n 0, 1) := by decide +kernel
theorem dX11_tries_74 : decode cX11_tries 74 = .ok (.getfield 326, 3) := by decide +kernel
theorem dX11_tries_77 : decode cX11_tries 77 = .ok (.iload_n 1, 1) := by decide +kernel
theorem dX11_tries_78 : decode cX11_tries 78 = .ok (.if_icmp .ne 11, 3) := by decide +kernel
theorem dX11_tries_81 : decode cX11_tries 81 = .ok (.sipush 256, 3) := by decide +kernel
theorem dX11_tries_84 : decode cX11_tries 84 = .ok (.iload_n 2, 1) := by decide +kernel
theorem dX11_tries_85 : decode cX11_tries 85 = .ok (.imul, 1) := by decide +kernel
theorem dX11_tries_86 : decode cX11_tries 86 = .ok (.iload_n 3, 1) := by decide +kernel
theorem dX11_tries_87 : decode cX11_tries 87 = .ok (.iadd, 1) := by decide +kernel
theorem dX11_tries_88 : decode cX11_tries 88 = .ok (.ireturn, 1) := by decide +kernel
theorem dX11_tries_89 : decode cX11_tries 89 = .ok (.iinc 3 1, 3) := by decide +kernel
theorem dX11_tries_92 : decode cX11_tries 92 = .ok (.goto (-52), 3) := by decide +kernel
theorem dX11_tries_95 : decode cX11_tries 95 = .ok (.iinc 2 1, 3) := by decide +kernel
theorem dX11_tries_98 : decode cX11_tries 98 = .ok (.goto (-75), 3) := by decide +kernel
theorem dX11_tries_101 : decode cX11_tries 101 = .ok (.iconst (-1), 1) := by decide +kernel
theorem dX11_tries_102 : decode cX11_tries 102 = .ok (.ireturn, 1) := by decide +kernel
theorem dX11_price_0 : decode cX11_price 0 = .ok (.aload_n 0, 1) := by decide +kernel
theorem dX11_price_1 : decode cX11_price 1 = .ok (.iconst 0, 1) := by decide +kernel
theorem dX11_price_2 : decode cX11_price 2 = .ok (.putfield 121, 3) := by decide +kernel
theorem dX11_price_5 : decode cX11_price 5 = .ok (.iload_n 1, 1) := by decide +kernel
theorem dX11_price_6 : decode cX11_price 6 = .ok (.ifCond .lt 19, 3) := by decide +kernel
theorem dX11_price_9 : decode cX11_price 9 = .ok (.iload_n 1, 1) := by decide +kernel
theorem dX11_price_10 : decode cX11_price 10 = .ok (.iconst 3, 1) := by decide +kernel
theorem dX11_price_11 : decode cX11_price 11 = .ok (.if_icmp .gt 14, 3) := by decide +kernel
theorem dX11_price_14 : decode cX11_price 14 = .ok (.iload_n 2, 1) := by decide +kernel
theorem dX11_price_15 : decode cX11_price 15 = .ok (.iconst 1, 1) := by decide +kernel
theorem dX11_price_16 : decode cX11_price 16 = .ok (.if_icmp .lt 9, 3) := by decide +kernel
theorem dX11_price_19 : decode cX11_price 19 = .ok (.iload_n 2, 1) := by decide +kernel
theorem dX11_price_20 : decode cX11_price 20 = .ok (.bipush 99, 2) := by decide +kernel
theorem dX11_price_22 : decode cX11_price 22 = .ok (.if_icmp .le 5, 3) := by decide +kernel
theorem dX11_price_25 : decode cX11_price 25 = .ok (.iconst 0, 1) := by decide +kernel
theorem dX11_price_26 : decode cX11_price 26 = .ok (.ireturn, 1) := by decide +kernel
theorem dX11_price_27 : decode cX11_price 27 = .ok (.aload_n 0, 1) := by decide +kernel
theorem dX11_price_28 : decode cX11_price 28 = .ok (.getfield 112, 3) := by decide +kernel
theorem dX11_price_31 : decode cX11_price 31 = .ok (.iload_n 1, 1) := by decide +kernel
theorem dX11_price_32 : decode cX11_price 32 = .ok (.iload_n 2, 1) := by decide +kernel
theorem dX11_price_33 : decode cX11_price 33 = .ok (.iastore, 1) := by decide +kernel
theorem dX11_price_34 : decode cX11_price 34 = .ok (.iconst 1, 1) := by decide +kernel
theorem dX11_price_35 : decode cX11_price 35 = .ok (.ireturn, 1) := by decide +kernel
set_option maxRecDepth 20000 in
theorem ggX11_guards_X11_useFact : GoodIn wsX11_guards wsX11_useFact := goodIn_r _ [6, 7, 8, 9, 10, 11, 12, 13, 5, 14, 15, 16, 17, 18, 19, 20, 21, 22, 23, 24, 25, 26, 27, 28, 29, 30, 31, 32, 33, 34, 35, 36, 37, 38, 39, 40, 41, 42, 43, 44, 45, 46, 47, 48, 49, 50, 51, 52, 53, 54, 55, 56, 57, 58, 59, 60, 61, 62, 63, 64, 65, 66, 67, 68, 69, 70, 71, 72, 73, 74, 75, 76, 77, 78, 79, 80, 81, 82] (by decide +kernel) (by decide +kernel)
set_option maxRecDepth 20000 in
theorem gX11_guards_X11_useFact : GoodIn wsX11_guards (wsV RX11 305 RX11 yX11_useFact wsX11_useFact) := goodIn_app (goodIn_of _ (by decide +kernel)) ggX11_guards_X11_useFact
theorem dX11_guards_0 : decode cX11_guards 0 = .ok (.iconst 0, 1) := by decide +kernel
theorem dX11_guards_1 : decode cX11_guards 1 = .ok (.istore_n 1, 1) := by decide +kernel
theorem dX11_guards_2 : decode cX11_guards 2 = .ok (.iconst 0, 1) := by decide +kernel
theorem dX11_guards_3 : decode cX11_guards 3 = .ok (.istore_n 2, 1) := by decide +kernel
theorem dX11_guards_4 : decode cX11_guards 4 = .ok (.iload_n 2, 1) := by decide +kernel
theorem dX11_guards_5 : decode cX11_guards 5 = .ok (.aload_n 0, 1) := by decide +kernel
theorem dX11_guards_6 : decode cX11_guards 6 = .ok (.getfield 53, 3) := by decide +kernel
theorem dX11_guards_9 : decode cX11_guards 9 = .ok (.iconst 0, 1) := by decide +kernel
theorem dX11_guards_10 : decode cX11_guards 10 = .ok (.iaload, 1) := by decide +kernel
theorem dX11_guards_11 : decode cX11_guards 11 = .ok (.if_icmp .ge 27, 3) := by decide +kernel
theorem dX11_guards_14 : decode cX11_guards 14 = .ok (.iload_n 1, 1) := by decide +kernel
theorem dX11_guards_15 : decode cX11_guards 15 = .ok (.aload_n 0, 1) := by decide +kernel
theorem dX11_guards_16 : decode cX11_guards 16 = .ok (.iload_n 2, 1) := by decide +kernel
theorem dX11_guards_17 : decode cX11_guards 17 = .ok (.invokevirtual 305, 3) := by decide +kernel
theorem dX11_guards_20 : decode cX11_guards 20 = .ok (.iconst 1, 1) := by decide +kernel
theorem dX11_guards_21 : decode cX11_guards 21 = .ok (.iand, 1) := by decide +kernel
theorem dX11_guards_22 : decode cX11_guards 22 = .ok (.ifCond .eq 7, 3) := by decide +kernel
theorem dX11_guards_25 : decode cX11_guards 25 = .ok (.iconst 1, 1) := by decide +kernel
theorem dX11_guards_26 : decode cX11_guards 26 = .ok (.goto 4, 3) := by decide +kernel
theorem dX11_guards_29 : decode cX11_guards 29 = .ok (.iconst 0, 1) := by decide +kernel
theorem dX11_guards_30 : decode cX11_guards 30 = .ok (.iadd, 1) := by decide +kernel
theorem dX11_guards_31 : decode cX11_guards 31 = .ok (.istore_n 1, 1) := by decide +kernel
theorem dX11_guards_32 : decode cX11_guards 32 = .ok (.iinc 2 1, 3) := by decide +kernel
theorem dX11_guards_35 : decode cX11_guards 35 = .ok (.goto (-31), 3) := by decide +kernel
theorem dX11_guards_38 : decode cX11_guards 38 = .ok (.iload_n 1, 1) := by decide +kernel
theorem dX11_guards_39 : decode cX11_guards 39 = .ok (.ireturn, 1) := by decide +kernel
theorem dX11_kindOf_0 : decode cX11_kindOf 0 = .ok (.iload_n 0, 1) := by decide +kernel
theorem dX11_kindOf_1 : decode cX11_kindOf 1 = .ok (.bipush 32, 2) := by decide +kernel
theorem dX11_kindOf_3 : decode cX11_kindOf 3 = .ok (.if_icmp .ge 7, 3) := by decide +kernel
theorem dX11_kindOf_6 : decode cX11_kindOf 6 = .ok (.iconst 0, 1) := by decide +kernel
theorem dX11_kindOf_7 : decode cX11_kindOf 7 = .ok (.goto 14, 3) := by decide +kernel
theorem dX11_kindOf_10 : decode cX11_kindOf 10 = .ok (.iload_n 0, 1) := by decide +kernel
theorem dX11_kindOf_11 : decode cX11_kindOf 11 = .ok (.bipush 40, 2) := by decide +kernel
theorem dX11_kindOf_13 : decode cX11_kindOf 13 = .ok (.if_icmp .ge 7, 3) := by decide +kernel
theorem dX11_kindOf_16 : decode cX11_kindOf 16 = .ok (.iconst 1, 1) := by decide +kernel
theorem dX11_kindOf_17 : decode cX11_kindOf 17 = .ok (.goto 4, 3) := by decide +kernel
theorem dX11_kindOf_20 : decode cX11_kindOf 20 = .ok (.iconst 2, 1) := by decide +kernel
theorem dX11_kindOf_21 : decode cX11_kindOf 21 = .ok (.ireturn, 1) := by decide +kernel
set_option maxRecDepth 20000 in
theorem ggX11_mend_X11_frees : GoodIn wsX11_mend wsX11_frees := goodIn_r _ [16, 6, 87, 88, 89, 90, 91, 92, 93, 94, 95, 96, 97, 98, 99, 100, 101, 102, 103, 104, 105, 106, 107, 108, 109, 110, 111, 112, 113, 114, 115, 116, 117, 118, 119, 120, 121, 122, 123, 124, 125, 126, 127, 128, 129, 130, 131, 132, 133, 134, 135, 136, 137, 138, 139, 140, 141, 142, 143, 144, 145, 146, 147, 148, 149, 150, 151, 152, 153, 154] (by decide +kernel) (by decide +kernel)
set_option maxRecDepth 20000 in
theorem gX11_mend_X11_frees : GoodIn wsX11_mend (wsV RX11 299 RX11 yX11_frees wsX11_frees) := goodIn_app (goodIn_of _ (by decide +kernel)) ggX11_mend_X11_frees
set_option maxRecDepth 20000 in
theorem ggX11_mend_X11_reckons : GoodIn wsX11_mend wsX11_reckons := goodIn_r _ [20, 21, 22, 4, 23, 2, 24, 25, 26, 27, 28, 29, 15, 30, 6, 31, 32, 33, 34, 35, 36, 37, 38, 39, 40, 41, 42, 43, 44, 45, 46, 47, 48, 49, 50, 51, 52, 53, 54, 55, 56, 57, 58, 59, 60, 61, 62, 63, 64, 65, 66, 67, 68, 69, 70, 71, 72, 73, 74, 87, 88, 89, 90, 91, 92, 93, 94, 95, 96, 97, 98, 99, 100, 101, 102, 103, 104, 105, 106, 107, 108, 109, 110, 111, 112, 113, 114, 115, 116, 117, 118, 119, 120, 121, 122, 123, 124, 125, 126, 127, 128, 129, 130, 131, 132, 133, 134, 135, 136, 137, 138, 139, 140, 141, 142, 143, 144, 145, 146, 147, 148, 149, 150, 151, 152, 153, 154] (by decide +kernel) (by decide +kernel)
set_option maxRecDepth 20000 in
theorem gX11_mend_X11_reckons : GoodIn wsX11_mend (wsV RX11 302 RX11 yX11_reckons wsX11_reckons) := goodIn_app (goodIn_of _ (by decide +kernel)) ggX11_mend_X11_reckons
set_option maxRecDepth 20000 in
theorem ggX11_mend_X11_kindOf : GoodIn wsX11_mend wsX11_kindOf := goodIn_r _ [77] (by decide +kernel) (by decide +kernel)
set_option maxRecDepth 20000 in
theorem gX11_mend_X11_kindOf : GoodIn wsX11_mend (va_wsS RX11 381 yX11_kindOf wsX11_kindOf) := goodIn_app (goodIn_of _ (by decide +kernel)) ggX11_mend_X11_kindOf
set_option maxRecDepth 20000 in
theorem ggX11_mend_X11_guards : GoodIn wsX11_mend wsX11_guards := goodIn_r _ [81, 82, 83, 84, 85, 15, 86, 21, 55, 74, 22, 56, 58, 59, 60, 87, 88, 89, 90, 91, 92, 93, 94, 95, 96, 97, 98, 99, 100, 101, 102, 103, 104, 105, 106, 107, 108, 109, 110, 111, 112, 113, 114, 115, 116, 117, 118, 119, 120, 121, 122, 123, 124, 125, 126, 127, 128, 129, 130, 131, 132, 133, 134, 135, 136, 137, 138, 139, 140, 141, 142, 143, 144, 145, 146, 147, 148, 149, 150, 151, 152, 153, 154] (by decide +kernel) (by decide +kernel)
set_option maxRecDepth 20000 in
theorem gX11_mend_X11_guards : GoodIn wsX11_mend (wsV RX11 384 RX11 yX11_guards wsX11_guards) := goodIn_app (goodIn_of _ (by decide +kernel)) ggX11_mend_X11_guards
theorem dX11_mend_0 : decode cX11_mend 0 = .ok (.aload_n 0, 1) := by decide +kernel
theorem dX11_mend_1 : decode cX11_mend 1 = .ok (.iconst 0, 1) := by decide +kernel
theorem dX11_mend_2 : decode cX11_mend 2 = .ok (.putfield 121, 3) := by decide +kernel
theorem dX11_mend_5 : decode cX11_mend 5 = .ok (.aload_n 0, 1) := by decide +kernel
theorem dX11_mend_6 : decode cX11_mend 6 = .ok (.getfield 83, 3) := by decide +kernel
theorem dX11_mend_9 : decode cX11_mend 9 = .ok (.iconst (-1), 1) := by decide +kernel
theorem dX11_mend_10 : decode cX11_mend 10 = .ok (.if_icmp .ne 5, 3) := by decide +kernel
theorem dX11_mend_13 : decode cX11_mend 13 = .ok (.iconst (-1), 1) := by decide +kernel
theorem dX11_mend_14 : decode cX11_mend 14 = .ok (.ireturn, 1) := by decide +kernel
theorem dX11_mend_15 : decode cX11_mend 15 = .ok (.aload_n 0, 1) := by decide +kernel
theorem dX11_mend_16 : decode cX11_mend 16 = .ok (.invokevirtual 299, 3) := by decide +kernel
theorem dX11_mend_19 : decode cX11_mend 19 = .ok (.aload_n 0, 1) := by decide +kernel
theorem dX11_mend_20 : decode cX11_mend 20 = .ok (.invokevirtual 302, 3) := by decide +kernel
theorem dX11_mend_23 : decode cX11_mend 23 = .ok (.aload_n 0, 1) := by decide +kernel
theorem dX11_mend_24 : decode cX11_mend 24 = .ok (.iconst 0, 1) := by decide +kernel
theorem dX11_mend_25 : decode cX11_mend 25 = .ok (.putfield 378, 3) := by decide +kernel
theorem dX11_mend_28 : decode cX11_mend 28 = .ok (.iconst 0, 1) := by decide +kernel
theorem dX11_mend_29 : decode cX11_mend 29 = .ok (.istore_n 1, 1) := by decide +kernel
theorem dX11_mend_30 : decode cX11_mend 30 = .ok (.iload_n 1, 1) := by decide +kernel
theorem dX11_mend_31 : decode cX11_mend 31 = .ok (.bipush 42, 2) := by decide +kernel
theorem dX11_mend_33 : decode cX11_mend 33 = .ok (.if_icmp .ge 67, 3) := by decide +kernel
theorem dX11_mend_36 : decode cX11_mend 36 = .ok (.aload_n 0, 1) := by decide +kernel
theorem dX11_mend_37 : decode cX11_mend 37 = .ok (.getfield 378, 3) := by decide +kernel
theorem dX11_mend_40 : decode cX11_mend 40 = .ok (.bipush 10, 2) := by decide +kernel
theorem dX11_mend_42 : decode cX11_mend 42 = .ok (.if_icmp .ge 58, 3) := by decide +kernel
theorem dX11_mend_45 : decode cX11_mend 45 = .ok (.aload_n 0, 1) := by decide +kernel
theorem dX11_mend_46 : decode cX11_mend 46 = .ok (.getfield 93, 3) := by decide +kernel
theorem dX11_mend_49 : decode cX11_mend 49 = .ok (.iload_n 1, 1) := by decide +kernel
theorem dX11_mend_50 : decode cX11_mend 50 = .ok (.iaload, 1) := by decide +kernel
theorem dX11_mend_51 : decode cX11_mend 51 = .ok (.iconst 3, 1) := by decide +kernel
theorem dX11_mend_52 : decode cX11_mend 52 = .ok (.if_icmp .ne 42, 3) := by decide +kernel
theorem dX11_mend_55 : decode cX11_mend 55 = .ok (.iload_n 1, 1) := by decide +kernel
theorem dX11_mend_56 : decode cX11_mend 56 = .ok (.bipush 32, 2) := by decide +kernel
theorem dX11_mend_58 : decode cX11_mend 58 = .ok (.if_icmp .ge 16, 3) := by decide +kernel
theorem dX11_mend_61 : decode cX11_mend 61 = .ok (.iload_n 1, 1) := by decide +kernel
theorem dX11_mend_62 : decode cX11_mend 62 = .ok (.iconst 4, 1) := by decide +kernel
theorem dX11_mend_63 : decode cX11_mend 63 = .ok (.idiv, 1) := by decide +kernel
theorem dX11_mend_64 : decode cX11_mend 64 = .ok (.aload_n 0, 1) := by decide +kernel
theorem dX11_mend_65 : decode cX11_mend 65 = .ok (.getfield 83, 3) := by decide +kernel
theorem dX11_mend_68 : decode cX11_mend 68 = .ok (.if_icmp .ne 6, 3) := by decide +kernel
theorem dX11_mend_71 : decode cX11_mend 71 = .ok (.goto 23, 3) := by decide +kernel
theorem dX11_mend_74 : decode cX11_mend 74 = .ok (.aload_n 0, 1) := by decide +kernel
theorem dX11_mend_75 : decode cX11_mend 75 = .ok (.getfield 115, 3) := by decide +kernel
theorem dX11_mend_78 : decode cX11_mend 78 = .ok (.aload_n 0, 1) := by decide +kernel
theorem dX11_mend_79 : decode cX11_mend 79 = .ok (.getfield 378, 3) := by decide +kernel
theorem dX11_mend_82 : decode cX11_mend 82 = .ok (.iload_n 1, 1) := by decide +kernel
theorem dX11_mend_83 : decode cX11_mend 83 = .ok (.iastore, 1) := by decide +kernel
theorem dX11_mend_84 : decode cX11_mend 84 = .ok (.aload_n 0, 1) := by decide +kernel
theorem dX11_mend_85 : decode cX11_mend 85 = .ok (.dup, 1) := by decide +kernel
theorem dX11_mend_86 : decode cX11_mend 86 = .ok (.getfield 378, 3) := by decide +kernel
theorem dX11_mend_89 : decode cX11_mend 89 = .ok (.iconst 1, 1) := by decide +kernel
theorem dX11_mend_90 : decode cX11_mend 90 = .ok (.iadd, 1) := by decide +kernel
theorem dX11_mend_91 : decode cX11_mend 91 = .ok (.putfield 378, 3) := by decide +kernel
theorem dX11_mend_94 : decode cX11_mend 94 = .ok (.iinc 1 1, 3) := by decide +kernel
theorem dX11_mend_97 : decode cX11_mend 97 = .ok (.goto (-67), 3) := by decide +kernel
theorem dX11_mend_100 : decode cX11_mend 100 = .ok (.iconst (-1), 1) := by decide +kernel
theorem dX11_mend_101 : decode cX11_mend 101 = .ok (.istore_n 1, 1) := by decide +kernel
theorem dX11_mend_102 : decode cX11_mend 102 = .ok (.iconst 0, 1) := by decide +kernel
theorem dX11_mend_103 : decode cX11_mend 103 = .ok (.istore_n 2, 1) := by decide +kernel
theorem dX11_mend_104 : decode cX11_mend 104 = .ok (.iconst 0, 1) := by decide +kernel
theorem dX11_mend_105 : decode cX11_mend 105 = .ok (.istore_n 3, 1) := by decide +kernel
theorem dX11_mend_106 : decode cX11_mend 106 = .ok (.iload_n 3, 1) := by decide +kernel
theorem dX11_mend_107 : decode cX11_mend 107 = .ok (.iconst 1, 1) := by decide +kernel
theorem dX11_mend_108 : decode cX11_mend 108 = .ok (.aload_n 0, 1) := by decide +kernel
theorem dX11_mend_109 : decode cX11_mend 109 = .ok (.getfield 378, 3) := by decide +kernel
theorem dX11_mend_112 : decode cX11_mend 112 = .ok (.ishl, 1) := by decide +kernel
theorem dX11_mend_113 : decode cX11_mend 113 = .ok (.if_icmp .ge 140, 3) := by decide +kernel
theorem dX11_mend_116 : decode cX11_mend 116 = .ok (.aload_n 0, 1) := by decide +kernel
theorem dX11_mend_117 : decode cX11_mend 117 = .ok (.invokevirtual 299, 3) := by decide +kernel
theorem dX11_mend_120 : decode cX11_mend 120 = .ok (.iconst 0, 1) := by decide +kernel
theorem dX11_mend_121 : decode cX11_mend 121 = .ok (.istore 4, 2) := by decide +kernel
theorem dX11_mend_123 : decode cX11_mend 123 = .ok (.iconst 0, 1) := by decide +kernel
theorem dX11_mend_124 : decode cX11_mend 124 = .ok (.istore 5, 2) := by decide +kernel
theorem dX11_mend_126 : decode cX11_mend 126 = .ok (.iload 5, 2) := by decide +kernel
theorem dX11_mend_128 : decode cX11_mend 128 = .ok (.aload_n 0, 1) := by decide +kernel
theorem dX11_mend_129 : decode cX11_mend 129 = .ok (.getfield 378, 3) := by decide +kernel
theorem dX11_mend_132 : decode cX11_mend 132 = .ok (.if_icmp .ge 54, 3) := by decide +kernel
theorem dX11_mend_135 : decode cX11_mend 135 = .ok (.iload_n 3, 1) := by decide +kernel
theorem dX11_mend_136 : decode cX11_mend 136 = .ok (.iload 5, 2) := by decide +kernel
theorem dX11_mend_138 : decode cX11_mend 138 = .ok (.ishr, 1) := by decide +kernel
theorem dX11_mend_139 : decode cX11_mend 139 = .ok (.iconst 1, 1) := by decide +kernel
theorem dX11_mend_140 : decode cX11_mend 140 = .ok (.iand, 1) := by decide +kernel
theorem dX11_mend_141 : decode cX11_mend 141 = .ok (.ifCond .ne 6, 3) := by decide +kernel
theorem dX11_mend_144 : decode cX11_mend 144 = .ok (.goto 36, 3) := by decide +kernel
theorem dX11_mend_147 : decode cX11_mend 147 = .ok (.aload_n 0, 1) := by decide +kernel
theorem dX11_mend_148 : decode cX11_mend 148 = .ok (.getfield 96, 3) := by decide +kernel
theorem dX11_mend_151 : decode cX11_mend 151 = .ok (.aload_n 0, 1) := by decide +kernel
theorem dX11_mend_152 : decode cX11_mend 152 = .ok (.getfield 115, 3) := by decide +kernel
theorem dX11_mend_155 : decode cX11_mend 155 = .ok (.iload 5, 2) := by decide +kernel
theorem dX11_mend_157 : decode cX11_mend 157 = .ok (.iaload, 1) := by decide +kernel
theorem dX11_mend_158 : decode cX11_mend 158 = .ok (.iconst 1, 1) := by decide +kernel
theorem dX11_mend_159 : decode cX11_mend 159 = .ok (.bastore, 1) := by decide +kernel
theorem dX11_mend_160 : decode cX11_mend 160 = .ok (.iload 4, 2) := by decide +kernel
theorem dX11_mend_162 : decode cX11_mend 162 = .ok (.aload_n 0, 1) := by decide +kernel
theorem dX11_mend_163 : decode cX11_mend 163 = .ok (.getfield 112, 3) := by decide +kernel
theorem dX11_mend_166 : decode cX11_mend 166 = .ok (.aload_n 0, 1) := by decide +kernel
theorem dX11_mend_167 : decode cX11_mend 167 = .ok (.getfield 115, 3) := by decide +kernel
theorem dX11_mend_170 : decode cX11_mend 170 = .ok (.iload 5, 2) := by decide +kernel
theorem dX11_mend_172 : decode cX11_mend 172 = .ok (.iaload, 1) := by decide +kernel
theorem dX11_mend_173 : decode cX11_mend 173 = .ok (.invokestatic 381, 3) := by decide +kernel
theorem dX11_mend_176 : decode cX11_mend 176 = .ok (.iaload, 1) := by decide +kernel
theorem dX11_mend_177 : decode cX11_mend 177 = .ok (.iadd, 1) := by decide +kernel
theorem dX11_mend_178 : decode cX11_mend 178 = .ok (.istore 4, 2) := by decide +kernel
theorem dX11_mend_180 : decode cX11_mend 180 = .ok (.iinc 5 1, 3) := by decide +kernel
theorem dX11_mend_183 : decode cX11_mend 183 = .ok (.goto (-57), 3) := by decide +kernel
theorem dX11_mend_186 : decode cX11_mend 186 = .ok (.iload_n 1, 1) := by decide +kernel
theorem dX11_mend_187 : decode cX11_mend 187 = .ok (.iconst (-1), 1) := by decide +kernel
theorem dX11_mend_188 : decode cX11_mend 188 = .ok (.if_icmp .eq 12, 3) := by decide +kernel
theorem dX11_mend_191 : decode cX11_mend 191 = .ok (.iload 4, 2) := by decide +kernel
theorem dX11_mend_193 : decode cX11_mend 193 = .ok (.iload_n 1, 1) := by decide +kernel
theorem dX11_mend_194 : decode cX11_mend 194 = .ok (.if_icmp .lt 6, 3) := by decide +kernel
theorem dX11_mend_197 : decode cX11_mend 197 = .ok (.goto 50, 3) := by decide +kernel
theorem dX11_mend_200 : decode cX11_mend 200 = .ok (.aload_n 0, 1) := by decide +kernel
theorem dX11_mend_201 : decode cX11_mend 201 = .ok (.invokevirtual 302, 3) := by decide +kernel
theorem dX11_mend_204 : decode cX11_mend 204 = .ok (.iload 4, 2) := by decide +kernel
theorem dX11_mend_206 : decode cX11_mend 206 = .ok (.aload_n 0, 1) := by decide +kernel
theorem dX11_mend_207 : decode cX11_mend 207 = .ok (.getfield 112, 3) := by decide +kernel
theorem dX11_mend_210 : decode cX11_mend 210 = .ok (.iconst 3, 1) := by decide +kernel
theorem dX11_mend_211 : decode cX11_mend 211 = .ok (.iaload, 1) := by decide +kernel
theorem dX11_mend_212 : decode cX11_mend 212 = .ok (.aload_n 0, 1) := by decide +kernel
theorem dX11_mend_213 : decode cX11_mend 213 = .ok (.invokevirtual 384, 3) := by decide +kernel
theorem dX11_mend_216 : decode cX11_mend 216 = .ok (.imul, 1) := by decide +kernel
theorem dX11_mend_217 : decode cX11_mend 217 = .ok (.iadd, 1) := by decide +kernel
theorem dX11_mend_218 : decode cX11_mend 218 = .ok (.istore 4, 2) := by decide +kernel
theorem dX11_mend_220 : decode cX11_mend 220 = .ok (.iload_n 1, 1) := by decide +kernel
theorem dX11_mend_221 : decode cX11_mend 221 = .ok (.iconst (-1), 1) := by decide +kernel
theorem dX11_mend_222 : decode cX11_mend 222 = .ok (.if_icmp .eq 12, 3) := by decide +kernel
theorem dX11_mend_225 : decode cX11_mend 225 = .ok (.iload 4, 2) := by decide +kernel
theorem dX11_mend_227 : decode cX11_mend 227 = .ok (.iload_n 1, 1) := by decide +kernel
theorem dX11_mend_228 : decode cX11_mend 228 = .ok (.if_icmp .lt 6, 3) := by decide +kernel
theorem dX11_mend_231 : decode cX11_mend 231 = .ok (.goto 16, 3) := by decide +kernel
theorem dX11_mend_234 : decode cX11_mend 234 = .ok (.iload 4, 2) := by decide +kernel
theorem dX11_mend_236 : decode cX11_mend 236 = .ok (.istore_n 1, 1) := by decide +kernel
theorem dX11_mend_237 : decode cX11_mend 237 = .ok (.iload_n 3, 1) := by decide +kernel
theorem dX11_mend_238 : decode cX11_mend 238 = .ok (.istore_n 2, 1) := by decide +kernel
theorem dX11_mend_239 : decode cX11_mend 239 = .ok (.aload_n 0, 1) := by decide +kernel
theorem dX11_mend_240 : decode cX11_mend 240 = .ok (.aload_n 0, 1) := by decide +kernel
theorem dX11_mend_241 : decode cX11_mend 241 = .ok (.invokevirtual 384, 3) := by decide +kernel
theorem dX11_mend_244 : decode cX11_mend 244 = .ok (.putfield 387, 3) := by decide +kernel
theorem dX11_mend_247 : decode cX11_mend 247 = .ok (.iinc 3 1, 3) := by decide +kernel
theorem dX11_mend_250 : decode cX11_mend 250 = .ok (.goto (-144), 3) := by decide +kernel
theorem dX11_mend_253 : decode cX11_mend 253 = .ok (.aload_n 0, 1) := by decide +kernel
theorem dX11_mend_254 : decode cX11_mend 254 = .ok (.iconst 0, 1) := by decide +kernel
theorem dX11_mend_255 : decode cX11_mend 255 = .ok (.putfield 390, 3) := by decide +kernel
theorem dX11_mend_258 : decode cX11_mend 258 = .ok (.iconst 0, 1) := by decide +kernel
theorem dX11_mend_259 : decode cX11_mend 259 = .ok (.istore_n 3, 1) := by decide +kernel
theorem dX11_mend_260 : decode cX11_mend 260 = .ok (.iload_n 3, 1) := by decide +kernel
theorem dX11_mend_261 : decode cX11_mend 261 = .ok (.aload_n 0, 1) := by decide +kernel
theorem dX11_mend_262 : decode cX11_mend 262 = .ok (.getfield 378, 3) := by decide +kernel
theorem dX11_mend_265 : decode cX11_mend 265 = .ok (.if_icmp .ge 45, 3) := by decide +kernel
theorem dX11_mend_268 : decode cX11_mend 268 = .ok (.iload_n 2, 1) := by decide +kernel
theorem dX11_mend_269 : decode cX11_mend 269 = .ok (.iload_n 3, 1) := by decide +kernel
theorem dX11_mend_270 : decode cX11_mend 270 = .ok (.ishr, 1) := by decide +kernel
theorem dX11_mend_271 : decode cX11_mend 271 = .ok (.iconst 1, 1) := by decide +kernel
theorem dX11_mend_272 : decode cX11_mend 272 = .ok (.iand, 1) := by decide +kernel
theorem dX11_mend_273 : decode cX11_mend 273 = .ok (.ifCond .ne 6, 3) := by decide +kernel
theorem dX11_mend_276 : decode cX11_mend 276 = .ok (.goto 28, 3) := by decide +kernel
theorem dX11_mend_279 : decode cX11_mend 279 = .ok (.aload_n 0, 1) := by decide +kernel
theorem dX11_mend_280 : decode cX11_mend 280 = .ok (.getfield 118, 3) := by decide +kernel
theorem dX11_mend_283 : decode cX11_mend 283 = .ok (.aload_n 0, 1) := by decide +kernel
theorem dX11_mend_284 : decode cX11_mend 284 = .ok (.getfield 390, 3) := by decide +kernel
theorem dX11_mend_287 : decode cX11_mend 287 = .ok (.aload_n 0, 1) := by decide +kernel
theorem dX11_mend_288 : decode cX11_mend 288 = .ok (.getfield 115, 3) := by decide +kernel
theorem dX11_mend_291 : decode cX11_mend 291 = .ok (.iload_n 3, 1) := by decide +kernel
theorem dX11_mend_292 : decode cX11_mend 292 = .ok (.iaload, 1) := by decide +kernel
theorem dX11_mend_293 : decode cX11_mend 293 = .ok (.iastore, 1) := by decide +kernel
theorem dX11_mend_294 : decode cX11_mend 294 = .ok (.aload_n 0, 1) := by decide +kernel
theorem dX11_mend_295 : decode cX11_mend 295 = .ok (.dup, 1) := by decide +kernel
theorem dX11_mend_296 : decode cX11_mend 296 = .ok (.getfield 390, 3) := by decide +kernel
theorem dX11_mend_299 : decode cX11_mend 299 = .ok (.iconst 1, 1) := by decide +kernel
theorem dX11_mend_300 : decode cX11_mend 300 = .ok (.iadd, 1) := by decide +kernel
theorem dX11_mend_301 : decode cX11_mend 301 = .ok (.putfield 390, 3) := by decide +kernel
theorem dX11_mend_304 : decode cX11_mend 304 = .ok (.iinc 3 1, 3) := by decide +kernel
theorem dX11_mend_307 : decode cX11_mend 307 = .ok (.goto (-47), 3) := by decide +kernel
theorem dX11_mend_310 : decode cX11_mend 310 = .ok (.aload_n 0, 1) := by decide +kernel
theorem dX11_mend_311 : decode cX11_mend 311 = .ok (.iconst 1, 1) := by decide +kernel
theorem dX11_mend_312 : decode cX11_mend 312 = .ok (.putfield 393, 3) := by decide +kernel
theorem dX11_mend_315 : decode cX11_mend 315 = .ok (.iload_n 1, 1) := by decide +kernel
theorem dX11_mend_316 : decode cX11_mend 316 = .ok (.ireturn, 1) := by decide +kernel
theorem dX11_mended_0 : decode cX11_mended 0 = .ok (.aload_n 0, 1) := by decide +kernel
theorem dX11_mended_1 : decode cX11_mended 1 = .ok (.iconst 0, 1) := by decide +kernel
theorem dX11_mended_2 : decode cX11_mended 2 = .ok (.putfield 121, 3) := by decide +kernel
theorem dX11_mended_5 : decode cX11_mended 5 = .ok (.aload_n 0, 1) := by decide +kernel
theorem dX11_mended_6 : decode cX11_mended 6 = .ok (.getfield 393, 3) := by decide +kernel
theorem dX11_mended_9 : decode cX11_mended 9 = .ok (.ifCond .eq 17, 3) := by decide +kernel
theorem dX11_mended_12 : decode cX11_mended 12 = .ok (.iload_n 1, 1) := by decide +kernel
theorem dX11_mended_13 : decode cX11_mended 13 = .ok (.ifCond .lt 13, 3) := by decide +kernel
theorem dX11_mended_16 : decode cX11_mended 16 = .ok (.iload_n 1, 1) := by decide +kernel
theorem dX11_mended_17 : decode cX11_mended 17 = .ok (.iconst 2, 1) := by decide +kernel
theorem dX11_mended_18 : decode cX11_mended 18 = .ok (.aload_n 0, 1) := by decide +kernel
theorem dX11_mended_19 : decode cX11_mended 19 = .ok (.getfield 390, 3) := by decide +kernel
theorem dX11_mended_22 : decode cX11_mended 22 = .ok (.iadd, 1) := by decide +kernel
theorem dX11_mended_23 : decode cX11_mended 23 = .ok (.if_icmp .lt 5, 3) := by decide +kernel
theorem dX11_mended_26 : decode cX11_mended 26 = .ok (.iconst (-1), 1) := by decide +kernel
theorem dX11_mended_27 : decode cX11_mended 27 = .ok (.ireturn, 1) := by decide +kernel
theorem dX11_mended_28 : decode cX11_mended 28 = .ok (.iload_n 1, 1) := by decide +kernel
theorem dX11_mended_29 : decode cX11_mended 29 = .ok (.iconst 2, 1) := by decide +kernel
theorem dX11_mended_30 : decode cX11_mended 30 = .ok (.if_icmp .ge 19, 3) := by decide +kernel
theorem dX11_mended_33 : decode cX11_mended 33 = .ok (.iload_n 1, 1) := by decide +kernel
theorem dX11_mended_34 : decode cX11_mended 34 = .ok (.ifCond .ne 10, 3) := by decide +kernel
theorem dX11_mended_37 : decode cX11_mended 37 = .ok (.aload_n 0, 1) := by decide +kernel
theorem dX11_mended_38 : decode cX11_mended 38 = .ok (.getfield 390, 3) := by decide +kernel
theorem dX11_mended_41 : decode cX11_mended 41 = .ok (.goto 7, 3) := by decide +kernel
theorem dX11_mended_44 : decode cX11_mended 44 = .ok (.aload_n 0, 1) := by decide +kernel
theorem dX11_mended_45 : decode cX11_mended 45 = .ok (.getfield 387, 3) := by decide +kernel
theorem dX11_mended_48 : decode cX11_mended 48 = .ok (.ireturn, 1) := by decide +kernel
theorem dX11_mended_49 : decode cX11_mended 49 = .ok (.aload_n 0, 1) := by decide +kernel
theorem dX11_mended_50 : decode cX11_mended 50 = .ok (.getfield 118, 3) := by decide +kernel
theorem dX11_mended_53 : decode cX11_mended 53 = .ok (.iload_n 1, 1) := by decide +kernel
theorem dX11_mended_54 : decode cX11_mended 54 = .ok (.iconst 2, 1) := by decide +kernel
theorem dX11_mended_55 : decode cX11_mended 55 = .ok (.isub, 1) := by decide +kernel
theorem dX11_mended_56 : decode cX11_mended 56 = .ok (.iaload, 1) := by decide +kernel
theorem dX11_mended_57 : decode cX11_mended 57 = .ok (.istore_n 2, 1) := by decide +kernel
theorem dX11_mended_58 : decode cX11_mended 58 = .ok (.iload_n 2, 1) := by decide +kernel
theorem dX11_mended_59 : decode cX11_mended 59 = .ok (.bipush 32, 2) := by decide +kernel
theorem dX11_mended_61 : decode cX11_mended 61 = .ok (.if_icmp .ge 16, 3) := by decide +kernel
theorem dX11_mended_64 : decode cX11_mended 64 = .ok (.bipush 10, 2) := by decide +kernel
theorem dX11_mended_66 : decode cX11_mended 66 = .ok (.iload_n 2, 1) := by decide +kernel
theorem dX11_mended_67 : decode cX11_mended 67 = .ok (.iconst 4, 1) := by decide +kernel
theorem dX11_mended_68 : decode cX11_mended 68 = .ok (.idiv, 1) := by decide +kernel
theorem dX11_mended_69 : decode cX11_mended 69 = .ok (.imul, 1) := by decide +kernel
theorem dX11_mended_70 : decode cX11_mended 70 = .ok (.iload_n 2, 1) := by decide +kernel
theorem dX11_mended_71 : decode cX11_mended 71 = .ok (.iconst 4, 1) := by decide +kernel
theorem dX11_mended_72 : decode cX11_mended 72 = .ok (.irem, 1) := by decide +kernel
theorem dX11_mended_73 : decode cX11_mended 73 = .ok (.iadd, 1) := by decide +kernel
theorem dX11_mended_74 : decode cX11_mended 74 = .ok (.goto 30, 3) := by decide +kernel
theorem dX11_mended_77 : decode cX11_mended 77 = .ok (.iload_n 2, 1) := by decide +kernel
theorem dX11_mended_78 : decode cX11_mended 78 = .ok (.bipush 40, 2) := by decide +kernel
theorem dX11_mended_80 : decode cX11_mended 80 = .ok (.if_icmp .ge 16, 3) := by decide +kernel
theorem dX11_mended_83 : decode cX11_mended 83 = .ok (.bipush 100, 2) := by decide +kernel
theorem dX11_mended_85 : decode cX11_mended 85 = .ok (.bipush 10, 2) := by decide +kernel
theorem dX11_mended_87 : decode cX11_mended 87 = .ok (.iload_n 2, 1) := by decide +kernel
theorem dX11_mended_88 : decode cX11_mended 88 = .ok (.bipush 32, 2) := by decide +kernel
theorem dX11_mended_90 : decode cX11_mended 90 = .ok (.isub, 1) := by decide +kernel
theorem dX11_mended_91 : decode cX11_mended 91 = .ok (.imul, 1) := by decide +kernel
theorem dX11_mended_92 : decode cX11_mended 92 = .ok (.iadd, 1) := by decide +kernel
theorem dX11_mended_93 : decode cX11_mended 93 = .ok (.goto 11, 3) := by decide +kernel
theorem dX11_mended_96 : decode cX11_mended 96 = .ok (.sipush 200, 3) := by decide +kernel
theorem dX11_mended_99 : decode cX11_mended 99 = .ok (.iload_n 2, 1) := by decide +kernel
theorem dX11_mended_100 : decode cX11_mended 100 = .ok (.iadd, 1) := by decide +kernel
theorem dX11_mended_101 : decode cX11_mended 101 = .ok (.bipush 40, 2) := by decide +kernel
theorem dX11_mended_103 : decode cX11_mended 103 = .ok (.isub, 1) := by decide +kernel
theorem dX11_mended_104 : decode cX11_mended 104 = .ok (.ireturn, 1) := by decide +kernel
set_option maxRecDepth 20000 in
theorem ggX11_count_X11_frees : GoodIn wsX11_count wsX11_frees := goodIn_r _ [9, 10, 78, 79, 80, 81, 82, 83, 84, 85, 86, 87, 88, 89, 90, 91, 92, 93, 94, 95, 96, 97, 98, 99, 100, 101, 102, 103, 104, 105, 106, 107, 108, 109, 110, 111, 112, 113, 114, 115, 116, 117, 118, 119, 120, 121, 122, 123, 124, 125, 126, 127, 128, 129, 130, 131, 132, 133, 134, 135, 136, 137, 138, 139, 140, 141, 142, 143, 144, 145] (by decide +kernel) (by decide +kernel)
set_option maxRecDepth 20000 in
theorem gX11_count_X11_frees : GoodIn wsX11_count (wsV RX11 299 RX11 yX11_frees wsX11_frees) := goodIn_app (goodIn_of _ (by decide +kernel)) ggX11_count_X11_frees
set_option maxRecDepth 20000 in
theorem ggX11_count_X11_reckons : GoodIn wsX11_count wsX11_reckons := goodIn_r _ [14, 15, 16, 17, 18, 4, 19, 20, 21, 22, 23, 24, 8, 25, 10, 26, 27, 28, 29, 30, 31, 32, 33, 34, 35, 36, 37, 38, 39, 40, 41, 42, 43, 44, 45, 46, 47, 48, 49, 50, 51, 52, 53, 54, 55, 56, 57, 58, 59, 60, 61, 62, 63, 64, 65, 66, 67, 68, 69, 78, 79, 80, 81, 82, 83, 84, 85, 86, 87, 88, 89, 90, 91, 92, 93, 94, 95, 96, 97, 98, 99, 100, 101, 102, 103, 104, 105, 106, 107, 108, 109, 110, 111, 112, 113, 114, 115, 116, 117, 118, 119, 120, 121, 122, 123, 124, 125, 126, 127, 128, 129, 130, 131, 132, 133, 134, 135, 136, 137, 138, 139, 140, 141, 142, 143, 144, 145] (by decide +kernel) (by decide +kernel)
set_option maxRecDepth 20000 in
theorem gX11_count_X11_reckons : GoodIn wsX11_count (wsV RX11 302 RX11 yX11_reckons wsX11_reckons) := goodIn_app (goodIn_of _ (by decide +kernel)) ggX11_count_X11_reckons
set_option maxRecDepth 20000 in
theorem ggX11_count_X11_useFact : GoodIn wsX11_count wsX11_useFact := goodIn_r _ [73, 15, 50, 69, 16, 51, 53, 54, 8, 55, 78, 79, 80, 81, 82, 83, 84, 85, 86, 87, 88, 89, 90, 91, 92, 93, 94, 95, 96, 97, 98, 99, 100, 101, 102, 103, 104, 105, 106, 107, 108, 109, 110, 111, 112, 113, 114, 115, 116, 117, 118, 119, 120, 121, 122, 123, 124, 125, 126, 127, 128, 129, 130, 131, 132, 133, 134, 135, 136, 137, 138, 139, 140, 141, 142, 143, 144, 145] (by decide +kernel) (by decide +kernel)
set_option maxRecDepth 20000 in
theorem gX11_count_X11_useFact : GoodIn wsX11_count (wsV RX11 305 RX11 yX11_useFact wsX11_useFact) := goodIn_app (goodIn_of _ (by decide +kernel)) ggX11_count_X11_useFact
set_option maxRecDepth 20000 in
theorem ggX11_count_X11_routinesMany : GoodIn wsX11_count wsX11_routinesMany := goodIn_r _ [77, 36, 78, 79, 80, 81, 82, 83, 84, 85, 86, 87, 88, 89, 90, 91, 92, 93, 94, 95, 96, 97, 98, 99, 100, 101, 102, 103, 104, 105, 106, 107, 108, 109, 110, 111, 112, 113, 114, 115, 116, 117, 118, 119, 120, 121, 122, 123, 124, 125, 126, 127, 128, 129, 130, 131, 132, 133, 134, 135, 136, 137, 138, 139, 140, 141, 142, 143, 144, 145] (by decide +kernel) (by decide +kernel)
set_option maxRecDepth 20000 in
theorem gX11_count_X11_routinesMany : GoodIn wsX11_count (wsV RX11 248 RX11 yX11_routinesMany wsX11_routinesMany) := goodIn_app (goodIn_of _ (by decide +kernel)) ggX11_count_X11_routinesMany
theorem dX11_count_0 : decode cX11_count 0 = .ok (.aload_n 0, 1) := by decide +kernel
theorem dX11_count_1 : decode cX11_count 1 = .ok (.iconst 0, 1) := by decide +kernel
theorem dX11_count_2 : decode cX11_count 2 = .ok (.putfield 121, 3) := by decide +kernel
theorem dX11_count_5 : decode cX11_count 5 = .ok (.iconst 0, 1) := by decide +kernel
theorem dX11_count_6 : decode cX11_count 6 = .ok (.istore_n 2, 1) := by decide +kernel
theorem dX11_count_7 : decode cX11_count 7 = .ok (.iconst 0, 1) := by decide +kernel
theorem dX11_count_8 : decode cX11_count 8 = .ok (.istore_n 3, 1) := by decide +kernel
theorem dX11_count_9 : decode cX11_count 9 = .ok (.iload_n 1, 1) := by decide +kernel
theorem dX11_count_10 : decode cX11_count 10 = .ok (.iconst 4, 1) := by decide +kernel
theorem dX11_count_11 : decode cX11_count 11 = .ok (.if_icmp .eq 8, 3) := by decide +kernel
theorem dX11_count_14 : decode cX11_count 14 = .ok (.iload_n 1, 1) := by decide +kernel
theorem dX11_count_15 : decode cX11_count 15 = .ok (.iconst 5, 1) := by decide +kernel
theorem dX11_count_16 : decode cX11_count 16 = .ok (.if_icmp .ne 67, 3) := by decide +kernel
theorem dX11_count_19 : decode cX11_count 19 = .ok (.aload_n 0, 1) := by decide +kernel
theorem dX11_count_20 : decode cX11_count 20 = .ok (.invokevirtual 299, 3) := by decide +kernel
theorem dX11_count_23 : decode cX11_count 23 = .ok (.aload_n 0, 1) := by decide +kernel
theorem dX11_count_24 : decode cX11_count 24 = .ok (.invokevirtual 302, 3) := by decide +kernel
theorem dX11_count_27 : decode cX11_count 27 = .ok (.iconst 0, 1) := by decide +kernel
theorem dX11_count_28 : decode cX11_count 28 = .ok (.istore 4, 2) := by decide +kernel
theorem dX11_count_30 : decode cX11_count 30 = .ok (.iload 4, 2) := by decide +kernel
theorem dX11_count_32 : decode cX11_count 32 = .ok (.aload_n 0, 1) := by decide +kernel
theorem dX11_count_33 : decode cX11_count 33 = .ok (.getfield 53, 3) := by decide +kernel
theorem dX11_count_36 : decode cX11_count 36 = .ok (.iconst 0, 1) := by decide +kernel
theorem dX11_count_37 : decode cX11_count 37 = .ok (.iaload, 1) := by decide +kernel
theorem dX11_count_38 : decode cX11_count 38 = .ok (.if_icmp .ge 45, 3) := by decide +kernel
theorem dX11_count_41 : decode cX11_count 41 = .ok (.iload_n 2, 1) := by decide +kernel
theorem dX11_count_42 : decode cX11_count 42 = .ok (.aload_n 0, 1) := by decide +kernel
theorem dX11_count_43 : decode cX11_count 43 = .ok (.iload 4, 2) := by decide +kernel
theorem dX11_count_45 : decode cX11_count 45 = .ok (.invokevirtual 305, 3) := by decide +kernel
theorem dX11_count_48 : decode cX11_count 48 = .ok (.iconst 3, 1) := by decide +kernel
theorem dX11_count_49 : decode cX11_count 49 = .ok (.if_icmp .ne 7, 3) := by decide +kernel
theorem dX11_count_52 : decode cX11_count 52 = .ok (.iconst 1, 1) := by decide +kernel
theorem dX11_count_53 : decode cX11_count 53 = .ok (.goto 4, 3) := by decide +kernel
theorem dX11_count_56 : decode cX11_count 56 = .ok (.iconst 0, 1) := by decide +kernel
theorem dX11_count_57 : decode cX11_count 57 = .ok (.iadd, 1) := by decide +kernel
theorem dX11_count_58 : decode cX11_count 58 = .ok (.istore_n 2, 1) := by decide +kernel
theorem dX11_count_59 : decode cX11_count 59 = .ok (.iload_n 3, 1) := by decide +kernel
theorem dX11_count_60 : decode cX11_count 60 = .ok (.aload_n 0, 1) := by decide +kernel
theorem dX11_count_61 : decode cX11_count 61 = .ok (.iload 4, 2) := by decide +kernel
theorem dX11_count_63 : decode cX11_count 63 = .ok (.invokevirtual 305, 3) := by decide +kernel
theorem dX11_count_66 : decode cX11_count 66 = .ok (.iconst 1, 1) := by decide +kernel
theorem dX11_count_67 : decode cX11_count 67 = .ok (.if_icmp .ne 7, 3) := by decide +kernel
theorem dX11_count_70 : decode cX11_count 70 = .ok (.iconst 1, 1) := by decide +kernel
theorem dX11_count_71 : decode cX11_count 71 = .ok (.goto 4, 3) := by decide +kernel
theorem dX11_count_74 : decode cX11_count 74 = .ok (.iconst 0, 1) := by decide +kernel
theorem dX11_count_75 : decode cX11_count 75 = .ok (.iadd, 1) := by decide +kernel
theorem dX11_count_76 : decode cX11_count 76 = .ok (.istore_n 3, 1) := by decide +kernel
theorem dX11_count_77 : decode cX11_count 77 = .ok (.iinc 4 1, 3) := by decide +kernel
theorem dX11_count_80 : decode cX11_count 80 = .ok (.goto (-50), 3) := by decide +kernel
theorem dX11_count_83 : decode cX11_count 83 = .ok (.iload_n 1, 1) := by decide +kernel
theorem dX11_count_84 : decode cX11_count 84 = .ok (.tableswitch 68 0 5 #[40, 45, 52, 59, 64, 66], 40) := by decide +kernel
theorem dX11_count_124 : decode cX11_count 124 = .ok (.aload_n 0, 1) := by decide +kernel
theorem dX11_count_125 : decode cX11_count 125 = .ok (.invokevirtual 248, 3) := by decide +kernel
theorem dX11_count_128 : decode cX11_count 128 = .ok (.ireturn, 1) := by decide +kernel
theorem dX11_count_129 : decode cX11_count 129 = .ok (.aload_n 0, 1) := by decide +kernel
theorem dX11_count_130 : decode cX11_count 130 = .ok (.getfield 53, 3) := by decide +kernel
theorem dX11_count_133 : decode cX11_count 133 = .ok (.iconst 0, 1) := by decide +kernel
theorem dX11_count_134 : decode cX11_count 134 = .ok (.iaload, 1) := by decide +kernel
theorem dX11_count_135 : decode cX11_count 135 = .ok (.ireturn, 1) := by decide +kernel
theorem dX11_count_136 : decode cX11_count 136 = .ok (.aload_n 0, 1) := by decide +kernel
theorem dX11_count_137 : decode cX11_count 137 = .ok (.getfield 62, 3) := by decide +kernel
theorem dX11_count_140 : decode cX11_count 140 = .ok (.iconst 0, 1) := by decide +kernel
theorem dX11_count_141 : decode cX11_count 141 = .ok (.iaload, 1) := by decide +kernel
theorem dX11_count_142 : decode cX11_count 142 = .ok (.ireturn, 1) := by decide +kernel
theorem dX11_count_143 : decode cX11_count 143 = .ok (.aload_n 0, 1) := by decide +kernel
theorem dX11_count_144 : decode cX11_count 144 = .ok (.getfield 83, 3) := by decide +kernel
theorem dX11_count_147 : decode cX11_count 147 = .ok (.ireturn, 1) := by decide +kernel
theorem dX11_count_148 : decode cX11_count 148 = .ok (.iload_n 2, 1) := by decide +kernel
theorem dX11_count_149 : decode cX11_count 149 = .ok (.ireturn, 1) := by decide +kernel
theorem dX11_count_150 : decode cX11_count 150 = .ok (.iload_n 3, 1) := by decide +kernel
theorem dX11_count_151 : decode cX11_count 151 = .ok (.ireturn, 1) := by decide +kernel
theorem dX11_count_152 : decode cX11_count 152 = .ok (.iconst (-1), 1) := by decide +kernel
theorem dX11_count_153 : decode cX11_count 153 = .ok (.ireturn, 1) := by decide +kernel
theorem dJ9_floorMod_7cf53_0 : decode cJ9_floorMod_7cf53 0 = .ok (.iload_n 0, 1) := by decide +kernel
theorem dJ9_floorMod_7cf53_1 : decode cJ9_floorMod_7cf53 1 = .ok (.iload_n 1, 1) := by decide +kernel
theorem dJ9_floorMod_7cf53_2 : decode cJ9_floorMod_7cf53 2 = .ok (.irem, 1) := by decide +kernel
theorem dJ9_floorMod_7cf53_3 : decode cJ9_floorMod_7cf53 3 = .ok (.istore_n 2, 1) := by decide +kernel
theorem dJ9_floorMod_7cf53_4 : decode cJ9_floorMod_7cf53 4 = .ok (.iload_n 0, 1) := by decide +kernel
theorem dJ9_floorMod_7cf53_5 : decode cJ9_floorMod_7cf53 5 = .ok (.iload_n 1, 1) := by decide +kernel
theorem dJ9_floorMod_7cf53_6 : decode cJ9_floorMod_7cf53 6 = .ok (.ixor, 1) := by decide +kernel
theorem dJ9_floorMod_7cf53_7 : decode cJ9_floorMod_7cf53 7 = .ok (.ifCond .ge 11, 3) := by decide +kernel
theorem dJ9_floorMod_7cf53_10 : decode cJ9_floorMod_7cf53 10 = .ok (.iload_n 2, 1) := by decide +kernel
theorem dJ9_floorMod_7cf53_11 : decode cJ9_floorMod_7cf53 11 = .ok (.ifCond .eq 7, 3) := by decide +kernel
theorem dJ9_floorMod_7cf53_14 : decode cJ9_floorMod_7cf53 14 = .ok (.iload_n 2, 1) := by decide +kernel
theorem dJ9_floorMod_7cf53_15 : decode cJ9_floorMod_7cf53 15 = .ok (.iload_n 1, 1) := by decide +kernel
theorem dJ9_floorMod_7cf53_16 : decode cJ9_floorMod_7cf53 16 = .ok (.iadd, 1) := by decide +kernel
theorem dJ9_floorMod_7cf53_17 : decode cJ9_floorMod_7cf53 17 = .ok (.ireturn, 1) := by decide +kernel
theorem dJ9_floorMod_7cf53_18 : decode cJ9_floorMod_7cf53 18 = .ok (.iload_n 2, 1) := by decide +kernel
theorem dJ9_floorMod_7cf53_19 : decode cJ9_floorMod_7cf53 19 = .ok (.ireturn, 1) := by decide +kernel
theorem dJ9_max_7cf53_0 : decode cJ9_max_7cf53 0 = .ok (.iload_n 0, 1) := by decide +kernel
theorem dJ9_max_7cf53_1 : decode cJ9_max_7cf53 1 = .ok (.iload_n 1, 1) := by decide +kernel
theorem dJ9_max_7cf53_2 : decode cJ9_max_7cf53 2 = .ok (.if_icmp .lt 7, 3) := by decide +kernel
theorem dJ9_max_7cf53_5 : decode cJ9_max_7cf53 5 = .ok (.iload_n 0, 1) := by decide +kernel
theorem dJ9_max_7cf53_6 : decode cJ9_max_7cf53 6 = .ok (.goto 4, 3) := by decide +kernel
theorem dJ9_max_7cf53_9 : decode cJ9_max_7cf53 9 = .ok (.iload_n 1, 1) := by decide +kernel
theorem dJ9_max_7cf53_10 : decode cJ9_max_7cf53 10 = .ok (.ireturn, 1) := by decide +kernel
theorem dJ9_min_7cf53_0 : decode cJ9_min_7cf53 0 = .ok (.iload_n 0, 1) := by decide +kernel
theorem dJ9_min_7cf53_1 : decode cJ9_min_7cf53 1 = .ok (.iload_n 1, 1) := by decide +kernel
theorem dJ9_min_7cf53_2 : decode cJ9_min_7cf53 2 = .ok (.if_icmp .gt 7, 3) := by decide +kernel
theorem dJ9_min_7cf53_5 : decode cJ9_min_7cf53 5 = .ok (.iload_n 0, 1) := by decide +kernel
theorem dJ9_min_7cf53_6 : decode cJ9_min_7cf53 6 = .ok (.goto 4, 3) := by decide +kernel
theorem dJ9_min_7cf53_9 : decode cJ9_min_7cf53 9 = .ok (.iload_n 1, 1) := by decide +kernel
theorem dJ9_min_7cf53_10 : decode cJ9_min_7cf53 10 = .ok (.ireturn, 1) := by decide +kernel
set_option maxRecDepth 20000 in
theorem ggJ0_length_8abf5_J0_coder_7d493 : GoodIn wsJ0_length_8abf5 wsJ0_coder_7d493 := goodIn_r _ [6, 7, 8] (by decide +kernel) (by decide +kernel)
set_option maxRecDepth 20000 in
theorem gJ0_length_8abf5_J0_coder_7d493 : GoodIn wsJ0_length_8abf5 (wsV RJ0 335 RJ0 yJ0_coder_7d493 wsJ0_coder_7d493) := goodIn_app (goodIn_of _ (by decide +kernel)) ggJ0_length_8abf5_J0_coder_7d493
theorem dJ0_length_8abf5_0 : decode cJ0_length_8abf5 0 = .ok (.aload_n 0, 1) := by decide +kernel
theorem dJ0_length_8abf5_1 : decode cJ0_length_8abf5 1 = .ok (.getfield 9, 3) := by decide +kernel
theorem dJ0_length_8abf5_4 : decode cJ0_length_8abf5 4 = .ok (.arraylength, 1) := by decide +kernel
theorem dJ0_length_8abf5_5 : decode cJ0_length_8abf5 5 = .ok (.aload_n 0, 1) := by decide +kernel
theorem dJ0_length_8abf5_6 : decode cJ0_length_8abf5 6 = .ok (.invokevirtual 335, 3) := by decide +kernel
theorem dJ0_length_8abf5_9 : decode cJ0_length_8abf5 9 = .ok (.ishr, 1) := by decide +kernel
theorem dJ0_length_8abf5_10 : decode cJ0_length_8abf5 10 = .ok (.ireturn, 1) := by decide +kernel
set_option maxRecDepth 20000 in
theorem ggJ0_charAt_5068e_J0_isLatin1_aae02 : GoodIn wsJ0_charAt_5068e wsJ0_isLatin1_aae02 := goodIn_r _ [6, 7, 8] (by decide +kernel) (by decide +kernel)
set_option maxRecDepth 20000 in
theorem gJ0_charAt_5068e_J0_isLatin1_aae02 : GoodIn wsJ0_charAt_5068e (wsV RJ0 492 RJ0 yJ0_isLatin1_aae02 wsJ0_isLatin1_aae02) := goodIn_app (goodIn_of _ (by decide +kernel)) ggJ0_charAt_5068e_J0_isLatin1_aae02
set_option maxRecDepth 20000 in
theorem ggJ0_charAt_5068e_J1_charAt_3b067 : GoodIn wsJ0_charAt_5068e wsJ1_charAt_3b067 := goodIn_r _ [12, 13, 14, 5, 15, 16, 17, 18, 19, 20] (by decide +kernel) (by decide +kernel)
set_option maxRecDepth 20000 in
theorem gJ0_charAt_5068e_J1_charAt_3b067 : GoodIn wsJ0_charAt_5068e (va_wsS RJ0 495 yJ1_charAt_3b067 wsJ1_charAt_3b067) := goodIn_app (goodIn_of _ (by decide +kernel)) ggJ0_charAt_5068e_J1_charAt_3b067
set_option maxRecDepth 20000 in
theorem ggJ0_charAt_5068e_J2_charAt_3b067 : GoodIn wsJ0_charAt_5068e wsJ2_charAt_3b067 := goodIn_r _ [24, 25, 26, 23, 27, 28, 29, 30, 31, 14, 5, 15, 16, 17, 18, 19, 20, 32, 33, 34, 35, 36, 37] (by decide +kernel) (by decide +kernel)
set_option maxRecDepth 20000 in
theorem gJ0_charAt_5068e_J2_charAt_3b067 : GoodIn wsJ0_charAt_5068e (va_wsS RJ0 498 yJ2_charAt_3b067 wsJ2_charAt_3b067) := goodIn_app (goodIn_of _ (by decide +kernel)) ggJ0_charAt_5068e_J2_charAt_3b067
theorem dJ0_charAt_5068e_0 : decode cJ0_charAt_5068e 0 = .ok (.aload_n 0, 1) := by decide +kernel
theorem dJ0_charAt_5068e_1 : decode cJ0_charAt_5068e 1 = .ok (.invokevirtual 492, 3) := by decide +kernel
theorem dJ0_charAt_5068e_4 : decode cJ0_charAt_5068e 4 = .ok (.ifCond .eq 12, 3) := by decide +kernel
theorem dJ0_charAt_5068e_7 : decode cJ0_charAt_5068e 7 = .ok (.aload_n 0, 1) := by decide +kernel
theorem dJ0_charAt_5068e_8 : decode cJ0_charAt_5068e 8 = .ok (.getfield 9, 3) := by decide +kernel
theorem dJ0_charAt_5068e_11 : decode cJ0_charAt_5068e 11 = .ok (.iload_n 1, 1) := by decide +kernel
theorem dJ0_charAt_5068e_12 : decode cJ0_charAt_5068e 12 = .ok (.invokestatic 495, 3) := by decide +kernel
theorem dJ0_charAt_5068e_15 : decode cJ0_charAt_5068e 15 = .ok (.ireturn, 1) := by decide +kernel
theorem dJ0_charAt_5068e_16 : decode cJ0_charAt_5068e 16 = .ok (.aload_n 0, 1) := by decide +kernel
theorem dJ0_charAt_5068e_17 : decode cJ0_charAt_5068e 17 = .ok (.getfield 9, 3) := by decide +kernel
theorem dJ0_charAt_5068e_20 : decode cJ0_charAt_5068e 20 = .ok (.iload_n 1, 1) := by decide +kernel
theorem dJ0_charAt_5068e_21 : decode cJ0_charAt_5068e 21 = .ok (.invokestatic 498, 3) := by decide +kernel
theorem dJ0_charAt_5068e_24 : decode cJ0_charAt_5068e 24 = .ok (.ireturn, 1) := by decide +kernel
theorem dJ0_coder_7d493_0 : decode cJ0_coder_7d493 0 = .ok (.getstatic 38, 3) := by decide +kernel
theorem dJ0_coder_7d493_3 : decode cJ0_coder_7d493 3 = .ok (.ifCond .eq 10, 3) := by decide +kernel
theorem dJ0_coder_7d493_6 : decode cJ0_coder_7d493 6 = .ok (.aload_n 0, 1) := by decide +kernel
theorem dJ0_coder_7d493_7 : decode cJ0_coder_7d493 7 = .ok (.getfield 15, 3) := by decide +kernel
theorem dJ0_coder_7d493_10 : decode cJ0_coder_7d493 10 = .ok (.goto 4, 3) := by decide +kernel
theorem dJ0_coder_7d493_13 : decode cJ0_coder_7d493 13 = .ok (.iconst 1, 1) := by decide +kernel
theorem dJ0_coder_7d493_14 : decode cJ0_coder_7d493 14 = .ok (.ireturn, 1) := by decide +kernel
theorem dJ0_isLatin1_aae02_0 : decode cJ0_isLatin1_aae02 0 = .ok (.getstatic 38, 3) := by decide +kernel
theorem dJ0_isLatin1_aae02_3 : decode cJ0_isLatin1_aae02 3 = .ok (.ifCond .eq 14, 3) := by decide +kernel
theorem dJ0_isLatin1_aae02_6 : decode cJ0_isLatin1_aae02 6 = .ok (.aload_n 0, 1) := by decide +kernel
theorem dJ0_isLatin1_aae02_7 : decode cJ0_isLatin1_aae02 7 = .ok (.getfield 15, 3) := by decide +kernel
theorem dJ0_isLatin1_aae02_10 : decode cJ0_isLatin1_aae02 10 = .ok (.ifCond .ne 7, 3) := by decide +kernel
theorem dJ0_isLatin1_aae02_13 : decode cJ0_isLatin1_aae02 13 = .ok (.iconst 1, 1) := by decide +kernel
theorem dJ0_isLatin1_aae02_14 : decode cJ0_isLatin1_aae02 14 = .ok (.goto 4, 3) := by decide +kernel
theorem dJ0_isLatin1_aae02_17 : decode cJ0_isLatin1_aae02 17 = .ok (.iconst 0, 1) := by decide +kernel
theorem dJ0_isLatin1_aae02_18 : decode cJ0_isLatin1_aae02 18 = .ok (.ireturn, 1) := by decide +kernel
set_option maxRecDepth 20000 in
theorem ggJ0_checkIndex_df160_J3_checkIndex_8e157 : GoodIn wsJ0_checkIndex_df160 wsJ3_checkIndex_8e157 := goodIn_r _ [5] (by decide +kernel) (by decide +kernel)
set_option maxRecDepth 20000 in
theorem gJ0_checkIndex_df160_J3_checkIndex_8e157 : GoodIn wsJ0_checkIndex_df160 (va_wsS RJ0 1059 yJ3_checkIndex_8e157 wsJ3_checkIndex_8e157) := goodIn_app (goodIn_of _ (by decide +kernel)) ggJ0_checkIndex_df160_J3_checkIndex_8e157
theorem dJ0_checkIndex_df160_0 : decode cJ0_checkIndex_df160 0 = .ok (.iload_n 0, 1) := by decide +kernel
theorem dJ0_checkIndex_df160_1 : decode cJ0_checkIndex_df160 1 = .ok (.iload_n 1, 1) := by decide +kernel
theorem dJ0_checkIndex_df160_2 : decode cJ0_checkIndex_df160 2 = .ok (.getstatic 1053, 3) := by decide +kernel
theorem dJ0_checkIndex_df160_5 : decode cJ0_checkIndex_df160 5 = .ok (.invokestatic 1059, 3) := by decide +kernel
theorem dJ0_checkIndex_df160_8 : decode cJ0_checkIndex_df160 8 = .ok (.pop, 1) := by decide +kernel
theorem dJ0_checkIndex_df160_9 : decode cJ0_checkIndex_df160 9 = .ok (.return_, 1) := by decide +kernel
set_option maxRecDepth 20000 in
theorem ggJ1_charAt_3b067_J0_checkIndex_df160 : GoodIn wsJ1_charAt_3b067 wsJ0_checkIndex_df160 := goodIn_r _ [4, 5, 6, 7, 8, 9] (by decide +kernel) (by decide +kernel)
set_option maxRecDepth 20000 in
theorem gJ1_charAt_3b067_J0_checkIndex_df160 : GoodIn wsJ1_charAt_3b067 (va_wsS RJ1 9 yJ0_checkIndex_df160 wsJ0_checkIndex_df160) := goodIn_app (goodIn_of _ (by decide +kernel)) ggJ1_charAt_3b067_J0_checkIndex_df160
theorem dJ1_charAt_3b067_0 : decode cJ1_charAt_3b067 0 = .ok (.iload_n 1, 1) := by decide +kernel
theorem dJ1_charAt_3b067_1 : decode cJ1_charAt_3b067 1 = .ok (.aload_n 0, 1) := by decide +kernel
theorem dJ1_charAt_3b067_2 : decode cJ1_charAt_3b067 2 = .ok (.arraylength, 1) := by decide +kernel
theorem dJ1_charAt_3b067_3 : decode cJ1_charAt_3b067 3 = .ok (.invokestatic 9, 3) := by decide +kernel
theorem dJ1_charAt_3b067_6 : decode cJ1_charAt_3b067 6 = .ok (.aload_n 0, 1) := by decide +kernel
theorem dJ1_charAt_3b067_7 : decode cJ1_charAt_3b067 7 = .ok (.iload_n 1, 1) := by decide +kernel
theorem dJ1_charAt_3b067_8 : decode cJ1_charAt_3b067 8 = .ok (.baload, 1) := by decide +kernel
theorem dJ1_charAt_3b067_9 : decode cJ1_charAt_3b067 9 = .ok (.sipush 255, 3) := by decide +kernel
theorem dJ1_charAt_3b067_12 : decode cJ1_charAt_3b067 12 = .ok (.iand, 1) := by decide +kernel
theorem dJ1_charAt_3b067_13 : decode cJ1_charAt_3b067 13 = .ok (.i2c, 1) := by decide +kernel
theorem dJ1_charAt_3b067_14 : decode cJ1_charAt_3b067 14 = .ok (.ireturn, 1) := by decide +kernel
set_option maxRecDepth 20000 in
theorem ggJ2_getChar_3b067_J2_length_9d52b : GoodIn wsJ2_getChar_3b067 wsJ2_length_9d52b := goodIn_r _ [7] (by decide +kernel) (by decide +kernel)
set_option maxRecDepth 20000 in
theorem gJ2_getChar_3b067_J2_length_9d52b : GoodIn wsJ2_getChar_3b067 (va_wsS RJ2 48 yJ2_length_9d52b wsJ2_length_9d52b) := goodIn_app (goodIn_of _ (by decide +kernel)) ggJ2_getChar_3b067_J2_length_9d52b
theorem dJ2_getChar_3b067_0 : decode cJ2_getChar_3b067 0 = .ok (.getstatic 44, 3) := by decide +kernel
theorem dJ2_getChar_3b067_3 : decode cJ2_getChar_3b067 3 = .ok (.ifCond .ne 25, 3) := by decide +kernel
theorem dJ2_getChar_3b067_6 : decode cJ2_getChar_3b067 6 = .ok (.iload_n 1, 1) := by decide +kernel
theorem dJ2_getChar_3b067_7 : decode cJ2_getChar_3b067 7 = .ok (.ifCond .lt 11, 3) := by decide +kernel
theorem dJ2_getChar_3b067_10 : decode cJ2_getChar_3b067 10 = .ok (.iload_n 1, 1) := by decide +kernel
theorem dJ2_getChar_3b067_11 : decode cJ2_getChar_3b067 11 = .ok (.aload_n 0, 1) := by decide +kernel
theorem dJ2_getChar_3b067_12 : decode cJ2_getChar_3b067 12 = .ok (.invokestatic 48, 3) := by decide +kernel
theorem dJ2_getChar_3b067_15 : decode cJ2_getChar_3b067 15 = .ok (.if_icmp .lt 13, 3) := by decide +kernel
theorem dJ2_getChar_3b067_18 : decode cJ2_getChar_3b067 18 = .ok (.new 52, 3) := by decide +kernel
theorem dJ2_getChar_3b067_21 : decode cJ2_getChar_3b067 21 = .ok (.dup, 1) := by decide +kernel
theorem dJ2_getChar_3b067_22 : decode cJ2_getChar_3b067 22 = .ok (.ldc 54, 2) := by decide +kernel
theorem dJ2_getChar_3b067_24 : decode cJ2_getChar_3b067 24 = .ok (.invokespecial 56, 3) := by decide +kernel
theorem dJ2_getChar_3b067_27 : decode cJ2_getChar_3b067 27 = .ok (.athrow, 1) := by decide +kernel
theorem dJ2_getChar_3b067_28 : decode cJ2_getChar_3b067 28 = .ok (.iload_n 1, 1) := by decide +kernel
theorem dJ2_getChar_3b067_29 : decode cJ2_getChar_3b067 29 = .ok (.iconst 1, 1) := by decide +kernel
theorem dJ2_getChar_3b067_30 : decode cJ2_getChar_3b067 30 = .ok (.ishl, 1) := by decide +kernel
theorem dJ2_getChar_3b067_31 : decode cJ2_getChar_3b067 31 = .ok (.istore_n 1, 1) := by decide +kernel
theorem dJ2_getChar_3b067_32 : decode cJ2_getChar_3b067 32 = .ok (.aload_n 0, 1) := by decide +kernel
theorem dJ2_getChar_3b067_33 : decode cJ2_getChar_3b067 33 = .ok (.iload_n 1, 1) := by decide +kernel
theorem dJ2_getChar_3b067_34 : decode cJ2_getChar_3b067 34 = .ok (.iinc 1 1, 3) := by decide +kernel
theorem dJ2_getChar_3b067_37 : decode cJ2_getChar_3b067 37 = .ok (.baload, 1) := by decide +kernel
theorem dJ2_getChar_3b067_38 : decode cJ2_getChar_3b067 38 = .ok (.sipush 255, 3) := by decide +kernel
theorem dJ2_getChar_3b067_41 : decode cJ2_getChar_3b067 41 = .ok (.iand, 1) := by decide +kernel
theorem dJ2_getChar_3b067_42 : decode cJ2_getChar_3b067 42 = .ok (.getstatic 59, 3) := by decide +kernel
theorem dJ2_getChar_3b067_45 : decode cJ2_getChar_3b067 45 = .ok (.ishl, 1) := by decide +kernel
theorem dJ2_getChar_3b067_46 : decode cJ2_getChar_3b067 46 = .ok (.aload_n 0, 1) := by decide +kernel
theorem dJ2_getChar_3b067_47 : decode cJ2_getChar_3b067 47 = .ok (.iload_n 1, 1) := by decide +kernel
theorem dJ2_getChar_3b067_48 : decode cJ2_getChar_3b067 48 = .ok (.baload, 1) := by decide +kernel
theorem dJ2_getChar_3b067_49 : decode cJ2_getChar_3b067 49 = .ok (.sipush 255, 3) := by decide +kernel
theorem dJ2_getChar_3b067_52 : decode cJ2_getChar_3b067 52 = .ok (.iand, 1) := by decide +kernel
theorem dJ2_getChar_3b067_53 : decode cJ2_getChar_3b067 53 = .ok (.getstatic 63, 3) := by decide +kernel
theorem dJ2_getChar_3b067_56 : decode cJ2_getChar_3b067 56 = .ok (.ishl, 1) := by decide +kernel
theorem dJ2_getChar_3b067_57 : decode cJ2_getChar_3b067 57 = .ok (.ior, 1) := by decide +kernel
theorem dJ2_getChar_3b067_58 : decode cJ2_getChar_3b067 58 = .ok (.i2c, 1) := by decide +kernel
theorem dJ2_getChar_3b067_59 : decode cJ2_getChar_3b067 59 = .ok (.ireturn, 1) := by decide +kernel
theorem dJ2_length_9d52b_0 : decode cJ2_length_9d52b 0 = .ok (.aload_n 0, 1) := by decide +kernel
theorem dJ2_length_9d52b_1 : decode cJ2_length_9d52b 1 = .ok (.arraylength, 1) := by decide +kernel
theorem dJ2_length_9d52b_2 : decode cJ2_length_9d52b 2 = .ok (.iconst 1, 1) := by decide +kernel
theorem dJ2_length_9d52b_3 : decode cJ2_length_9d52b 3 = .ok (.ishr, 1) := by decide +kernel
theorem dJ2_length_9d52b_4 : decode cJ2_length_9d52b 4 = .ok (.ireturn, 1) := by decide +kernel
set_option maxRecDepth 20000 in
theorem ggJ2_charAt_3b067_J2_checkIndex_2214a : GoodIn wsJ2_charAt_3b067 wsJ2_checkIndex_2214a := goodIn_r _ [4, 5, 6, 3, 7, 8, 9, 10, 11, 12, 13, 14, 15, 16] (by decide +kernel) (by decide +kernel)
set_option maxRecDepth 20000 in
theorem gJ2_charAt_3b067_J2_checkIndex_2214a : GoodIn wsJ2_charAt_3b067 (va_wsS RJ2 67 yJ2_checkIndex_2214a wsJ2_checkIndex_2214a) := goodIn_app (goodIn_of _ (by decide +kernel)) ggJ2_charAt_3b067_J2_checkIndex_2214a
set_option maxRecDepth 20000 in
theorem ggJ2_charAt_3b067_J2_getChar_3b067 : GoodIn wsJ2_charAt_3b067 wsJ2_getChar_3b067 := goodIn_r _ [19, 20, 21, 22, 5, 6, 3, 7] (by decide +kernel) (by decide +kernel)
set_option maxRecDepth 20000 in
theorem gJ2_charAt_3b067_J2_getChar_3b067 : GoodIn wsJ2_charAt_3b067 (va_wsS RJ2 71 yJ2_getChar_3b067 wsJ2_getChar_3b067) := goodIn_app (goodIn_of _ (by decide +kernel)) ggJ2_charAt_3b067_J2_getChar_3b067
theorem dJ2_charAt_3b067_0 : decode cJ2_charAt_3b067 0 = .ok (.iload_n 1, 1) := by decide +kernel
theorem dJ2_charAt_3b067_1 : decode cJ2_charAt_3b067 1 = .ok (.aload_n 0, 1) := by decide +kernel
theorem dJ2_charAt_3b067_2 : decode cJ2_charAt_3b067 2 = .ok (.invokestatic 67, 3) := by decide +kernel
theorem dJ2_charAt_3b067_5 : decode cJ2_charAt_3b067 5 = .ok (.aload_n 0, 1) := by decide +kernel
theorem dJ2_charAt_3b067_6 : decode cJ2_charAt_3b067 6 = .ok (.iload_n 1, 1) := by decide +kernel
theorem dJ2_charAt_3b067_7 : decode cJ2_charAt_3b067 7 = .ok (.invokestatic 71, 3) := by decide +kernel
theorem dJ2_charAt_3b067_10 : decode cJ2_charAt_3b067 10 = .ok (.ireturn, 1) := by decide +kernel
set_option maxRecDepth 20000 in
theorem ggJ2_checkIndex_2214a_J2_length_9d52b : GoodIn wsJ2_checkIndex_2214a wsJ2_length_9d52b := goodIn_r _ [4] (by decide +kernel) (by decide +kernel)
set_option maxRecDepth 20000 in
theorem gJ2_checkIndex_2214a_J2_length_9d52b : GoodIn wsJ2_checkIndex_2214a (va_wsS RJ2 48 yJ2_length_9d52b wsJ2_length_9d52b) := goodIn_app (goodIn_of _ (by decide +kernel)) ggJ2_checkIndex_2214a_J2_length_9d52b
set_option maxRecDepth 20000 in
theorem ggJ2_checkIndex_2214a_J0_checkIndex_df160 : GoodIn wsJ2_checkIndex_2214a wsJ0_checkIndex_df160 := goodIn_r _ [8, 9, 10, 11, 12, 13] (by decide +kernel) (by decide +kernel)
set_option maxRecDepth 20000 in
theorem gJ2_checkIndex_2214a_J0_checkIndex_df160 : GoodIn wsJ2_checkIndex_2214a (va_wsS RJ2 414 yJ0_checkIndex_df160 wsJ0_checkIndex_df160) := goodIn_app (goodIn_of _ (by decide +kernel)) ggJ2_checkIndex_2214a_J0_checkIndex_df160
theorem dJ2_checkIndex_2214a_0 : decode cJ2_checkIndex_2214a 0 = .ok (.iload_n 0, 1) := by decide +kernel
theorem dJ2_checkIndex_2214a_1 : decode cJ2_checkIndex_2214a 1 = .ok (.aload_n 1, 1) := by decide +kernel
theorem dJ2_checkIndex_2214a_2 : decode cJ2_checkIndex_2214a 2 = .ok (.invokestatic 48, 3) := by decide +kernel
theorem dJ2_checkIndex_2214a_5 : decode cJ2_checkIndex_2214a 5 = .ok (.invokestatic 414, 3) := by decide +kernel
theorem dJ2_checkIndex_2214a_8 : decode cJ2_checkIndex_2214a 8 = .ok (.return_, 1) := by decide +kernel
theorem dJ7_fill_d0a16_0 : decode cJ7_fill_d0a16 0 = .ok (.iconst 0, 1) := by decide +kernel
theorem dJ7_fill_d0a16_1 : decode cJ7_fill_d0a16 1 = .ok (.istore_n 3, 1) := by decide +kernel
theorem dJ7_fill_d0a16_2 : decode cJ7_fill_d0a16 2 = .ok (.aload_n 0, 1) := by decide +kernel
theorem dJ7_fill_d0a16_3 : decode cJ7_fill_d0a16 3 = .ok (.arraylength, 1) := by decide +kernel
theorem dJ7_fill_d0a16_4 : decode cJ7_fill_d0a16 4 = .ok (.istore 4, 2) := by decide +kernel
theorem dJ7_fill_d0a16_6 : decode cJ7_fill_d0a16 6 = .ok (.iload_n 3, 1) := by decide +kernel
theorem dJ7_fill_d0a16_7 : decode cJ7_fill_d0a16 7 = .ok (.iload 4, 2) := by decide +kernel
theorem dJ7_fill_d0a16_9 : decode cJ7_fill_d0a16 9 = .ok (.if_icmp .ge 13, 3) := by decide +kernel
theorem dJ7_fill_d0a16_12 : decode cJ7_fill_d0a16 12 = .ok (.aload_n 0, 1) := by decide +kernel
theorem dJ7_fill_d0a16_13 : decode cJ7_fill_d0a16 13 = .ok (.iload_n 3, 1) := by decide +kernel
theorem dJ7_fill_d0a16_14 : decode cJ7_fill_d0a16 14 = .ok (.lload_n 1, 1) := by decide +kernel
theorem dJ7_fill_d0a16_15 : decode cJ7_fill_d0a16 15 = .ok (.lastore, 1) := by decide +kernel
theorem dJ7_fill_d0a16_16 : decode cJ7_fill_d0a16 16 = .ok (.iinc 3 1, 3) := by decide +kernel
theorem dJ7_fill_d0a16_19 : decode cJ7_fill_d0a16 19 = .ok (.goto (-13), 3) := by decide +kernel
theorem dJ7_fill_d0a16_22 : decode cJ7_fill_d0a16 22 = .ok (.return_, 1) := by decide +kernel
theorem dJ7_fill_53178_0 : decode cJ7_fill_53178 0 = .ok (.iconst 0, 1) := by decide +kernel
theorem dJ7_fill_53178_1 : decode cJ7_fill_53178 1 = .ok (.istore_n 2, 1) := by decide +kernel
theorem dJ7_fill_53178_2 : decode cJ7_fill_53178 2 = .ok (.aload_n 0, 1) := by decide +kernel
theorem dJ7_fill_53178_3 : decode cJ7_fill_53178 3 = .ok (.arraylength, 1) := by decide +kernel
theorem dJ7_fill_53178_4 : decode cJ7_fill_53178 4 = .ok (.istore_n 3, 1) := by decide +kernel
theorem dJ7_fill_53178_5 : decode cJ7_fill_53178 5 = .ok (.iload_n 2, 1) := by decide +kernel
theorem dJ7_fill_53178_6 : decode cJ7_fill_53178 6 = .ok (.iload_n 3, 1) := by decide +kernel
theorem dJ7_fill_53178_7 : decode cJ7_fill_53178 7 = .ok (.if_icmp .ge 13, 3) := by decide +kernel
theorem dJ7_fill_53178_10 : decode cJ7_fill_53178 10 = .ok (.aload_n 0, 1) := by decide +kernel
theorem dJ7_fill_53178_11 : decode cJ7_fill_53178 11 = .ok (.iload_n 2, 1) := by decide +kernel
theorem dJ7_fill_53178_12 : decode cJ7_fill_53178 12 = .ok (.iload_n 1, 1) := by decide +kernel
theorem dJ7_fill_53178_13 : decode cJ7_fill_53178 13 = .ok (.iastore, 1) := by decide +kernel
theorem dJ7_fill_53178_14 : decode cJ7_fill_53178 14 = .ok (.iinc 2 1, 3) := by decide +kernel
theorem dJ7_fill_53178_17 : decode cJ7_fill_53178 17 = .ok (.goto (-12), 3) := by decide +kernel
theorem dJ7_fill_53178_20 : decode cJ7_fill_53178 20 = .ok (.return_, 1) := by decide +kernel
theorem dJ3_checkIndex_8e157_0 : decode cJ3_checkIndex_8e157 0 = .ok (.iload_n 0, 1) := by decide +kernel
theorem dJ3_checkIndex_8e157_1 : decode cJ3_checkIndex_8e157 1 = .ok (.ifCond .lt 8, 3) := by decide +kernel
theorem dJ3_checkIndex_8e157_4 : decode cJ3_checkIndex_8e157 4 = .ok (.iload_n 0, 1) := by decide +kernel
theorem dJ3_checkIndex_8e157_5 : decode cJ3_checkIndex_8e157 5 = .ok (.iload_n 1, 1) := by decide +kernel
theorem dJ3_checkIndex_8e157_6 : decode cJ3_checkIndex_8e157 6 = .ok (.if_icmp .lt 10, 3) := by decide +kernel
theorem dJ3_checkIndex_8e157_9 : decode cJ3_checkIndex_8e157 9 = .ok (.aload_n 2, 1) := by decide +kernel
theorem dJ3_checkIndex_8e157_10 : decode cJ3_checkIndex_8e157 10 = .ok (.iload_n 0, 1) := by decide +kernel
theorem dJ3_checkIndex_8e157_11 : decode cJ3_checkIndex_8e157 11 = .ok (.iload_n 1, 1) := by decide +kernel
theorem dJ3_checkIndex_8e157_12 : decode cJ3_checkIndex_8e157 12 = .ok (.invokestatic 95, 3) := by decide +kernel
theorem dJ3_checkIndex_8e157_15 : decode cJ3_checkIndex_8e157 15 = .ok (.athrow, 1) := by decide +kernel
theorem dJ3_checkIndex_8e157_16 : decode cJ3_checkIndex_8e157 16 = .ok (.iload_n 0, 1) := by decide +kernel
theorem dJ3_checkIndex_8e157_17 : decode cJ3_checkIndex_8e157 17 = .ok (.ireturn, 1) := by decide +kernel
set_option maxRecDepth 20000 in
theorem ggL_law_X10_init : GoodIn wsL_law wsX10_init := goodIn_r _ [8, 9, 10, 11, 12, 13, 14, 15, 16, 17, 18, 19, 20, 21, 22, 23, 24, 25, 26, 27, 28, 29, 30, 31, 32, 33, 34, 35, 36, 37, 38, 39, 40, 41, 42, 43, 44, 45, 46, 47, 48, 49, 50, 51, 52, 53, 54, 55, 56, 57, 58, 59, 60, 61, 62, 63, 64, 65, 66, 67, 68, 69, 70, 71, 72, 73, 74, 75, 76, 77, 78, 79, 80, 81, 82, 83, 84, 85, 86, 87, 88, 89, 90, 91, 92, 93, 94, 95, 96, 97, 98, 99, 100, 101, 102, 103, 104, 105, 106, 107, 108, 109, 110, 111, 112, 113, 114, 115, 116, 117, 118, 119, 120, 121, 122, 123, 124, 125, 126, 127, 128, 129, 130, 131, 132, 133, 134, 135, 136, 137, 1114, 1115, 1116, 1117, 1118, 1119, 1120, 1121, 1122, 1123, 1124, 1125, 1126, 1195, 1196, 1197, 1198, 1199, 1200, 1201, 1202, 1203, 1204, 1205, 1206, 1207, 1208, 1209, 1210, 1211, 1212, 1213, 1214, 1215, 1216, 1217, 1218, 1219, 1220, 1221, 1222, 1223, 1224, 1225, 1226, 1227, 1228, 1229, 1230, 1231, 1232, 1233, 1234, 1235, 1236, 1237, 1238, 1239, 1240, 1241, 1242, 1243, 1244, 1245, 1246, 1247, 1248, 1249, 1250, 1251, 1252, 1253, 1254, 1255, 1256, 1257, 1258, 1259, 1260, 1261, 1262, 1263, 1264, 1265, 1266, 1267, 1268, 1269, 1270, 1271, 1272] (by decide +kernel) (by decide +kernel)
set_option maxRecDepth 20000 in
theorem gL_law_X10_init : GoodIn wsL_law (wsX10_init) := ggL_law_X10_init
set_option maxRecDepth 20000 in
theorem ggL_law_X11_init : GoodIn wsL_law wsX11_init := goodIn_r _ [140, 141, 10, 11, 47, 142, 143, 144, 145, 146, 147, 148, 149, 150, 151, 152, 153, 154, 155, 156, 157, 158, 159, 160, 161, 162, 163, 164, 165, 166, 167, 95, 168, 169, 170, 171, 172, 173, 174, 175, 176, 177, 178, 1127, 1128, 1129, 1130, 1131, 1132, 1133, 1134, 1135, 1136, 1137, 1138, 1139, 1140, 1141, 1142, 1143, 1144, 1145, 1146, 1147, 1148, 1149, 1150, 1151, 1152, 1153, 1154, 1155, 1156, 1157, 1158, 1159, 1160, 1161, 1162, 1163, 1164, 1165, 1166, 1167, 1168, 1169, 1170, 1171, 1172, 1173, 1174, 1175, 1176, 1177, 1178, 1179, 1180, 1181, 1182, 1183, 1184, 1185, 1186, 1187, 1188, 1189, 1190, 1191, 1192, 1193, 1194] (by decide +kernel) (by decide +kernel)
set_option maxRecDepth 20000 in
theorem gL_law_X11_init : GoodIn wsL_law (wsX11_init) := ggL_law_X11_init
set_option maxRecDepth 20000 in
theorem ggL_law_X10_feed : GoodIn wsL_law wsX10_feed := goodIn_r _ [182, 183, 184, 185, 186, 2, 187, 13, 1114, 1115, 1116, 1117, 1118, 1119, 1120, 1121, 1122, 1123, 1124, 1125, 1126] (by decide +kernel) (by decide +kernel)
set_option maxRecDepth 20000 in
theorem gL_law_X10_feed : GoodIn wsL_law (wsV RL 13 RX10 yX10_feed wsX10_feed) := goodIn_app (goodIn_of _ (by decide +kernel)) ggL_law_X10_feed
set_option maxRecDepth 20000 in
theorem ggL_law_X11_feed : GoodIn wsL_law wsX11_feed := goodIn_r _ [191, 192, 193, 142, 1127, 1128, 1129, 1130, 1131, 1132, 1133, 1134, 1135, 1136, 1137, 1138, 1139, 1140, 1141, 1142, 1143, 1144, 1145, 1146, 1147, 1148, 1149, 1150, 1151, 1152, 1153, 1154, 1155, 1156, 1157, 1158, 1159, 1160, 1161, 1162, 1163, 1164, 1165, 1166, 1167, 1168, 1169, 1170, 1171, 1172, 1173, 1174, 1175, 1176, 1177, 1178, 1179, 1180, 1181, 1182, 1183, 1184, 1185, 1186, 1187, 1188, 1189, 1190, 1191, 1192, 1193, 1194] (by decide +kernel) (by decide +kernel)
set_option maxRecDepth 20000 in
theorem gL_law_X11_feed : GoodIn wsL_law (wsV RL 17 RX11 yX11_feed wsX11_feed) := goodIn_app (goodIn_of _ (by decide +kernel)) ggL_law_X11_feed
set_option maxRecDepth 20000 in
theorem ggL_law_X10_text : GoodIn wsL_law wsX10_text := goodIn_r _ [197, 183, 17, 13, 25, 21, 198, 199, 200, 26, 30, 201, 202, 203, 204, 205, 206, 16, 207, 208, 209, 210, 211, 212, 213, 214, 215, 216, 217, 218, 219, 220, 221, 222, 223, 224, 225, 226, 227, 228, 229, 230, 231, 232, 233, 234, 235, 236, 237, 238, 239, 240, 241, 242, 243, 244, 245, 246, 247, 248, 249, 250, 251, 252, 253, 254, 255, 256, 257, 258, 259, 260, 261, 262, 263, 264, 265, 266, 267, 268, 269, 270, 271, 272, 273, 274, 275, 276, 277, 278, 279, 280, 281, 282, 52, 283, 284, 285, 286, 287, 288, 289, 290, 291, 292, 24, 293, 81, 82, 83, 294, 295, 296, 79, 297, 298, 299, 20, 300, 59, 301, 302, 303, 304, 305, 68, 306, 307, 308, 309, 80, 310, 311, 312, 313, 314, 315, 316, 317, 318, 319, 320, 321, 322, 323, 324, 325, 326, 327, 328, 329, 330, 331, 332, 333, 334, 335, 336, 337, 338, 339, 340, 341, 342, 60, 61, 343, 344, 345, 346, 347, 348, 349, 350, 351, 352, 353, 354, 355, 356, 357, 358, 62, 359, 360, 361, 362, 363, 364, 365, 366, 77, 78, 367, 368, 369, 370, 371, 372, 373, 374, 375, 376, 58, 377, 378, 379, 380, 381, 382, 72, 383, 384, 385, 386, 387, 388, 389, 390, 391, 392, 393, 394, 395, 396, 397, 398, 399, 400, 401, 402, 403, 404, 63, 64, 65, 405, 406, 407, 408, 409, 410, 411, 412, 413, 414, 415, 416, 417, 418, 419, 420, 421, 422, 423, 424, 425, 426, 427, 428, 429, 430, 431, 432, 433, 434, 435, 436, 437, 438, 439, 440, 441, 442, 443, 444, 445, 446, 66, 67, 447, 448, 449, 450, 451, 452, 453, 454, 455, 456, 457, 458, 459, 460, 461, 462, 463, 29, 464, 88, 89, 465, 466, 467, 468, 469, 470, 471, 2, 472, 34, 473, 42, 474, 46, 475, 1114, 1115, 1116, 1117, 1118, 1119, 1120, 1121, 1122, 1123, 1124, 1125, 1126, 1212, 1213, 1214, 1215, 1216, 1217, 1218, 1219, 1220, 1221, 1222, 1223, 1224, 1198, 1199, 1200, 1201, 1202, 1203, 1204, 1205, 1206, 1207, 1208, 1209, 1210, 1211, 1195, 1196, 1197, 1271, 1272, 1225, 1226, 1227, 1228, 1229, 1230, 1231, 1232, 1233, 1234, 1235, 1236, 1237, 1238, 1255, 1256, 1257, 1258, 1259, 1260, 1261, 1262, 1263, 1264, 1265, 1266, 1267, 1268, 1269, 1270] (by decide +kernel) (by decide +kernel)
set_option maxRecDepth 20000 in
theorem gL_law_X10_text : GoodIn wsL_law (wsV RL 18 RX10 yX10_text wsX10_text) := goodIn_app (goodIn_of _ (by decide +kernel)) ggL_law_X10_text
set_option maxRecDepth 20000 in
theorem ggL_law_X11_text : GoodIn wsL_law wsX11_text := goodIn_r _ [479, 192, 193, 480, 481, 482, 483, 143, 484, 485, 486, 5, 487, 488, 489, 490, 491, 156, 159, 152, 149, 492, 161, 150, 162, 160, 493, 494, 495, 496, 497, 498, 499, 500, 501, 502, 142, 503, 504, 505, 506, 507, 508, 509, 510, 231, 232, 233, 234, 235, 236, 237, 238, 239, 240, 241, 511, 243, 244, 245, 246, 247, 248, 249, 250, 251, 252, 253, 254, 255, 256, 257, 258, 259, 260, 261, 262, 263, 264, 265, 266, 267, 268, 269, 270, 271, 272, 273, 274, 275, 276, 277, 278, 512, 513, 514, 515, 516, 151, 517, 518, 519, 520, 521, 522, 523, 524, 525, 526, 527, 528, 529, 530, 531, 532, 533, 534, 535, 536, 537, 538, 539, 540, 163, 164, 165, 541, 542, 543, 544, 147, 145, 545, 546, 547, 548, 144, 146, 549, 550, 551, 552, 553, 554, 555, 556, 557, 558, 559, 560, 153, 154, 155, 561, 562, 563, 564, 565, 566, 567, 568, 569, 570, 571, 572, 148, 573, 574, 575, 576, 157, 158, 577, 578, 579, 580, 581, 582, 583, 584, 585, 166, 167, 586, 587, 588, 589, 1127, 1128, 1129, 1130, 1131, 1132, 1133, 1134, 1135, 1136, 1137, 1138, 1139, 1140, 1141, 1142, 1143, 1144, 1145, 1146, 1147, 1148, 1149, 1150, 1151, 1152, 1153, 1154, 1155, 1156, 1157, 1158, 1159, 1160, 1161, 1162, 1163, 1164, 1165, 1166, 1167, 1168, 1169, 1170, 1171, 1172, 1173, 1174, 1175, 1176, 1177, 1178, 1179, 1180, 1181, 1182, 1183, 1184, 1185, 1186, 1187, 1188, 1189, 1190, 1191, 1192, 1193, 1194] (by decide +kernel) (by decide +kernel)
set_option maxRecDepth 20000 in
theorem gL_law_X11_text : GoodIn wsL_law (wsV RL 22 RX11 yX11_text wsX11_text) := goodIn_app (goodIn_of _ (by decide +kernel)) ggL_law_X11_text
set_option maxRecDepth 20000 in
theorem ggL_law_X10_fault : GoodIn wsL_law wsX10_fault := goodIn_r _ [593, 199, 26, 1114, 1115, 1116, 1117, 1118, 1119, 1120, 1121, 1122, 1123, 1124, 1125, 1126] (by decide +kernel) (by decide +kernel)
set_option maxRecDepth 20000 in
theorem gL_law_X10_fault : GoodIn wsL_law (wsV RL 23 RX10 yX10_fault wsX10_fault) := goodIn_app (goodIn_of _ (by decide +kernel)) ggL_law_X10_fault
set_option maxRecDepth 20000 in
theorem ggL_law_X11_fault : GoodIn wsL_law wsX11_fault := goodIn_r _ [597, 192, 482, 143, 1127, 1128, 1129, 1130, 1131, 1132, 1133, 1134, 1135, 1136, 1137, 1138, 1139, 1140, 1141, 1142, 1143, 1144, 1145, 1146, 1147, 1148, 1149, 1150, 1151, 1152, 1153, 1154, 1155, 1156, 1157, 1158, 1159, 1160, 1161, 1162, 1163, 1164, 1165, 1166, 1167, 1168, 1169, 1170, 1171, 1172, 1173, 1174, 1175, 1176, 1177, 1178, 1179, 1180, 1181, 1182, 1183, 1184, 1185, 1186, 1187, 1188, 1189, 1190, 1191, 1192, 1193, 1194] (by decide +kernel) (by decide +kernel)
set_option maxRecDepth 20000 in
theorem gL_law_X11_fault : GoodIn wsL_law (wsV RL 26 RX11 yX11_fault wsX11_fault) := goodIn_app (goodIn_of _ (by decide +kernel)) ggL_law_X11_fault
set_option maxRecDepth 20000 in
theorem ggL_law_X10_entry : GoodIn wsL_law wsX10_entry := goodIn_r _ [601, 30, 201, 602, 336, 337, 20, 338, 302, 461, 462, 463, 29, 464, 88, 89, 465, 466, 467, 468, 469, 470, 471, 2, 472, 34, 473, 42, 474, 46, 475, 1114, 1115, 1116, 1117, 1118, 1119, 1120, 1121, 1122, 1123, 1124, 1125, 1126, 1222, 1223, 1224, 1198, 1199, 1200, 1201, 1202, 1203, 1204, 1205, 1206, 1207, 1208, 1209, 1210, 1211, 1225, 1226, 1227, 1228, 1229, 1230, 1231, 1232, 1233, 1234, 1235, 1236, 1237, 1238, 1255, 1256, 1257, 1258, 1259, 1260, 1261, 1262, 1263, 1264, 1265, 1266, 1267, 1268, 1269, 1270] (by decide +kernel) (by decide +kernel)
set_option maxRecDepth 20000 in
theorem gL_law_X10_entry : GoodIn wsL_law (wsV RL 27 RX10 yX10_entry wsX10_entry) := goodIn_app (goodIn_of _ (by decide +kernel)) ggL_law_X10_entry
set_option maxRecDepth 20000 in
theorem ggL_law_X11_entry : GoodIn wsL_law wsX11_entry := goodIn_r _ [606, 192, 149, 582, 583, 584, 5, 585, 166, 167, 1127, 1128, 1129, 1130, 1131, 1132, 1133, 1134, 1135, 1136, 1137, 1138, 1139, 1140, 1141, 1142, 1143, 1144, 1145, 1146, 1147, 1148, 1149, 1150, 1151, 1152, 1153, 1154, 1155, 1156, 1157, 1158, 1159, 1160, 1161, 1162, 1163, 1164, 1165, 1166, 1167, 1168, 1169, 1170, 1171, 1172, 1173, 1174, 1175, 1176, 1177, 1178, 1179, 1180, 1181, 1182, 1183, 1184, 1185, 1186, 1187, 1188, 1189, 1190, 1191, 1192, 1193, 1194] (by decide +kernel) (by decide +kernel)
set_option maxRecDepth 20000 in
theorem gL_law_X11_entry : GoodIn wsL_law (wsV RL 31 RX11 yX11_entry wsX11_entry) := goodIn_app (goodIn_of _ (by decide +kernel)) ggL_law_X11_entry
set_option maxRecDepth 20000 in
theorem ggL_law_X10_outer : GoodIn wsL_law wsX10_outer := goodIn_r _ [610, 30, 611, 612, 613, 614, 29, 615, 90, 616, 88, 617, 210, 211, 212, 618, 353, 285, 354, 619, 336, 337, 20, 338, 302, 620, 284, 286, 469, 470, 471, 2, 472, 34, 473, 42, 474, 46, 475, 1114, 1115, 1116, 1117, 1118, 1119, 1120, 1121, 1122, 1123, 1124, 1125, 1126, 1222, 1223, 1224, 1198, 1199, 1200, 1201, 1202, 1203, 1204, 1205, 1206, 1207, 1208, 1209, 1210, 1211, 1225, 1226, 1227, 1228, 1229, 1230, 1231, 1232, 1233, 1234, 1235, 1236, 1237, 1238, 1255, 1256, 1257, 1258, 1259, 1260, 1261, 1262, 1263, 1264, 1265, 1266, 1267, 1268, 1269, 1270] (by decide +kernel) (by decide +kernel)
set_option maxRecDepth 20000 in
theorem gL_law_X10_outer : GoodIn wsL_law (wsV RL 32 RX10 yX10_outer wsX10_outer) := goodIn_app (goodIn_of _ (by decide +kernel)) ggL_law_X10_outer
set_option maxRecDepth 20000 in
theorem ggL_law_X11_outer : GoodIn wsL_law wsX11_outer := goodIn_r _ [624, 192, 166, 150, 167, 1127, 1128, 1129, 1130, 1131, 1132, 1133, 1134, 1135, 1136, 1137, 1138, 1139, 1140, 1141, 1142, 1143, 1144, 1145, 1146, 1147, 1148, 1149, 1150, 1151, 1152, 1153, 1154, 1155, 1156, 1157, 1158, 1159, 1160, 1161, 1162, 1163, 1164, 1165, 1166, 1167, 1168, 1169, 1170, 1171, 1172, 1173, 1174, 1175, 1176, 1177, 1178, 1179, 1180, 1181, 1182, 1183, 1184, 1185, 1186, 1187, 1188, 1189, 1190, 1191, 1192, 1193, 1194] (by decide +kernel) (by decide +kernel)
set_option maxRecDepth 20000 in
theorem gL_law_X11_outer : GoodIn wsL_law (wsV RL 36 RX11 yX11_outer wsX11_outer) := goodIn_app (goodIn_of _ (by decide +kernel)) ggL_law_X11_outer
set_option maxRecDepth 20000 in
theorem ggL_law_X10_mark : GoodIn wsL_law wsX10_mark := goodIn_r _ [628, 34, 629, 630, 631, 632, 2, 633, 30, 201, 634, 602, 336, 337, 20, 338, 302, 635, 353, 285, 354, 636, 637, 638, 33, 639, 101, 640, 641, 106, 642, 96, 97, 643, 644, 645, 646, 647, 102, 103, 104, 105, 648, 98, 99, 100, 649, 650, 467, 651, 652, 466, 468, 653, 654, 655, 656, 657, 658, 659, 660, 613, 614, 29, 615, 90, 616, 88, 617, 210, 211, 212, 618, 619, 661, 662, 663, 664, 665, 666, 284, 286, 667, 668, 669, 670, 671, 672, 673, 674, 356, 357, 358, 62, 352, 675, 676, 677, 678, 679, 680, 681, 682, 683, 684, 685, 686, 687, 688, 431, 432, 58, 433, 378, 72, 689, 690, 691, 692, 693, 694, 695, 696, 697, 698, 699, 700, 701, 702, 703, 704, 705, 706, 707, 708, 709, 710, 711, 458, 459, 460, 430, 712, 713, 714, 715, 716, 717, 718, 719, 1114, 1115, 1116, 1117, 1118, 1119, 1120, 1121, 1122, 1123, 1124, 1125, 1126, 1225, 1226, 1227, 1228, 1229, 1230, 1231, 1232, 1233, 1234, 1235, 1236, 1237, 1238, 1222, 1223, 1224, 1198, 1199, 1200, 1201, 1202, 1203, 1204, 1205, 1206, 1207, 1208, 1209, 1210, 1211, 1271, 1272] (by decide +kernel) (by decide +kernel)
set_option maxRecDepth 20000 in
theorem gL_law_X10_mark : GoodIn wsL_law (wsV RL 37 RX10 yX10_mark wsX10_mark) := goodIn_app (goodIn_of _ (by decide +kernel)) ggL_law_X10_mark
set_option maxRecDepth 20000 in
theorem ggL_law_X11_mark : GoodIn wsL_law wsX11_mark := goodIn_r _ [723, 192, 149, 150, 169, 724, 725, 726, 5, 727, 171, 728, 729, 730, 731, 581, 168, 172, 166, 732, 167, 733, 734, 735, 736, 737, 738, 739, 740, 741, 742, 743, 744, 745, 151, 746, 747, 748, 749, 750, 751, 752, 753, 754, 755, 756, 757, 758, 144, 145, 146, 759, 760, 761, 762, 763, 764, 765, 148, 766, 767, 768, 769, 770, 771, 772, 773, 147, 1127, 1128, 1129, 1130, 1131, 1132, 1133, 1134, 1135, 1136, 1137, 1138, 1139, 1140, 1141, 1142, 1143, 1144, 1145, 1146, 1147, 1148, 1149, 1150, 1151, 1152, 1153, 1154, 1155, 1156, 1157, 1158, 1159, 1160, 1161, 1162, 1163, 1164, 1165, 1166, 1167, 1168, 1169, 1170, 1171, 1172, 1173, 1174, 1175, 1176, 1177, 1178, 1179, 1180, 1181, 1182, 1183, 1184, 1185, 1186, 1187, 1188, 1189, 1190, 1191, 1192, 1193, 1194] (by decide +kernel) (by decide +kernel)
set_option maxRecDepth 20000 in
theorem gL_law_X11_mark : GoodIn wsL_law (wsV RL 41 RX11 yX11_mark wsX11_mark) := goodIn_app (goodIn_of _ (by decide +kernel)) ggL_law_X11_mark
set_option maxRecDepth 20000 in
theorem ggL_law_X10_use : GoodIn wsL_law wsX10_use := goodIn_r _ [777, 30, 201, 778, 34, 779, 780, 781, 782, 636, 637, 638, 33, 639, 101, 640, 641, 106, 642, 96, 97, 643, 644, 645, 646, 647, 102, 103, 104, 105, 648, 98, 99, 100, 649, 650, 467, 651, 652, 466, 468, 653, 654, 655, 656, 657, 658, 659, 336, 337, 20, 338, 302, 660, 613, 614, 29, 615, 90, 616, 88, 617, 210, 211, 212, 618, 353, 285, 354, 619, 661, 662, 663, 664, 665, 666, 284, 286, 667, 668, 669, 670, 671, 672, 673, 674, 356, 357, 358, 62, 352, 675, 676, 677, 678, 679, 680, 681, 682, 683, 684, 685, 686, 687, 688, 431, 432, 58, 433, 378, 72, 689, 690, 691, 692, 693, 694, 695, 696, 697, 698, 699, 700, 701, 702, 703, 704, 705, 706, 707, 708, 709, 710, 711, 458, 459, 460, 430, 712, 713, 714, 715, 716, 717, 718, 719, 635, 783, 784, 2, 785, 1114, 1115, 1116, 1117, 1118, 1119, 1120, 1121, 1122, 1123, 1124, 1125, 1126, 1222, 1223, 1224, 1198, 1199, 1200, 1201, 1202, 1203, 1204, 1205, 1206, 1207, 1208, 1209, 1210, 1211, 1225, 1226, 1227, 1228, 1229, 1230, 1231, 1232, 1233, 1234, 1235, 1236, 1237, 1238, 1271, 1272] (by decide +kernel) (by decide +kernel)
set_option maxRecDepth 20000 in
theorem gL_law_X10_use : GoodIn wsL_law (wsV RL 42 RX10 yX10_use wsX10_use) := goodIn_app (goodIn_of _ (by decide +kernel)) ggL_law_X10_use
set_option maxRecDepth 20000 in
theorem ggL_law_X11_use : GoodIn wsL_law wsX11_use := goodIn_r _ [789, 192, 156, 153, 154, 155, 724, 725, 726, 5, 727, 171, 728, 729, 730, 731, 581, 168, 169, 172, 166, 732, 150, 167, 733, 734, 735, 736, 737, 738, 739, 740, 741, 742, 743, 744, 745, 151, 149, 746, 747, 748, 749, 750, 751, 752, 753, 754, 755, 756, 757, 758, 144, 145, 146, 759, 760, 761, 762, 763, 764, 765, 148, 766, 767, 768, 769, 770, 771, 772, 773, 147, 790, 791, 792, 793, 794, 795, 796, 1127, 1128, 1129, 1130, 1131, 1132, 1133, 1134, 1135, 1136, 1137, 1138, 1139, 1140, 1141, 1142, 1143, 1144, 1145, 1146, 1147, 1148, 1149, 1150, 1151, 1152, 1153, 1154, 1155, 1156, 1157, 1158, 1159, 1160, 1161, 1162, 1163, 1164, 1165, 1166, 1167, 1168, 1169, 1170, 1171, 1172, 1173, 1174, 1175, 1176, 1177, 1178, 1179, 1180, 1181, 1182, 1183, 1184, 1185, 1186, 1187, 1188, 1189, 1190, 1191, 1192, 1193, 1194] (by decide +kernel) (by decide +kernel)
set_option maxRecDepth 20000 in
theorem gL_law_X11_use : GoodIn wsL_law (wsV RL 46 RX11 yX11_use wsX11_use) := goodIn_app (goodIn_of _ (by decide +kernel)) ggL_law_X11_use
set_option maxRecDepth 20000 in
theorem ggL_law_X10_test : GoodIn wsL_law wsX10_test := goodIn_r _ [800, 30, 201, 801, 34, 802, 803, 804, 636, 637, 638, 33, 639, 101, 640, 641, 106, 642, 96, 97, 643, 644, 645, 646, 647, 102, 103, 104, 105, 648, 98, 99, 100, 649, 650, 467, 651, 652, 466, 468, 653, 654, 655, 656, 657, 658, 659, 336, 337, 20, 338, 302, 660, 613, 614, 29, 615, 90, 616, 88, 617, 210, 211, 212, 618, 353, 285, 354, 619, 661, 662, 663, 664, 665, 666, 284, 286, 667, 668, 669, 670, 671, 672, 673, 674, 356, 357, 358, 62, 352, 675, 676, 677, 678, 679, 680, 681, 682, 683, 684, 685, 686, 687, 688, 431, 432, 58, 433, 378, 72, 689, 690, 691, 692, 693, 694, 695, 696, 697, 698, 699, 700, 701, 702, 703, 704, 705, 706, 707, 708, 709, 710, 711, 458, 459, 460, 430, 712, 713, 714, 715, 716, 717, 718, 719, 635, 805, 806, 2, 807, 1114, 1115, 1116, 1117, 1118, 1119, 1120, 1121, 1122, 1123, 1124, 1125, 1126, 1222, 1223, 1224, 1198, 1199, 1200, 1201, 1202, 1203, 1204, 1205, 1206, 1207, 1208, 1209, 1210, 1211, 1225, 1226, 1227, 1228, 1229, 1230, 1231, 1232, 1233, 1234, 1235, 1236, 1237, 1238, 1271, 1272] (by decide +kernel) (by decide +kernel)
set_option maxRecDepth 20000 in
theorem gL_law_X10_test : GoodIn wsL_law (wsV RL 47 RX10 yX10_test wsX10_test) := goodIn_app (goodIn_of _ (by decide +kernel)) ggL_law_X10_test
set_option maxRecDepth 20000 in
theorem ggL_law_X11_test : GoodIn wsL_law wsX11_test := goodIn_r _ [811, 192, 159, 172, 157, 158, 724, 725, 726, 5, 727, 171, 728, 729, 730, 731, 581, 168, 169, 166, 732, 150, 167, 733, 734, 735, 736, 737, 738, 739, 740, 741, 742, 743, 744, 745, 151, 149, 746, 747, 748, 749, 750, 751, 752, 753, 754, 755, 756, 757, 758, 144, 145, 146, 759, 760, 761, 762, 763, 764, 765, 148, 766, 767, 768, 769, 770, 771, 772, 773, 147, 1127, 1128, 1129, 1130, 1131, 1132, 1133, 1134, 1135, 1136, 1137, 1138, 1139, 1140, 1141, 1142, 1143, 1144, 1145, 1146, 1147, 1148, 1149, 1150, 1151, 1152, 1153, 1154, 1155, 1156, 1157, 1158, 1159, 1160, 1161, 1162, 1163, 1164, 1165, 1166, 1167, 1168, 1169, 1170, 1171, 1172, 1173, 1174, 1175, 1176, 1177, 1178, 1179, 1180, 1181, 1182, 1183, 1184, 1185, 1186, 1187, 1188, 1189, 1190, 1191, 1192, 1193, 1194] (by decide +kernel) (by decide +kernel)
set_option maxRecDepth 20000 in
theorem gL_law_X11_test : GoodIn wsL_law (wsV RL 50 RX11 yX11_test wsX11_test) := goodIn_app (goodIn_of _ (by decide +kernel)) ggL_law_X11_test
set_option maxRecDepth 20000 in
theorem ggL_law_X10_run : GoodIn wsL_law wsX10_run := goodIn_r _ [815, 30, 38, 48, 816, 817, 818, 819, 820, 821, 822, 29, 823, 90, 88, 89, 619, 336, 337, 20, 338, 302, 824, 613, 614, 615, 616, 617, 210, 211, 212, 618, 353, 285, 354, 825, 826, 827, 37, 828, 829, 830, 831, 832, 833, 834, 835, 114, 115, 116, 117, 118, 836, 837, 838, 839, 840, 841, 842, 843, 844, 845, 846, 847, 848, 111, 849, 284, 286, 850, 851, 356, 357, 358, 62, 352, 852, 853, 854, 855, 856, 857, 858, 859, 113, 860, 861, 862, 863, 864, 865, 866, 867, 868, 869, 870, 431, 432, 58, 433, 378, 72, 871, 872, 873, 874, 112, 875, 876, 877, 878, 879, 880, 881, 882, 883, 884, 885, 886, 887, 888, 889, 890, 891, 892, 893, 894, 895, 896, 897, 898, 899, 900, 901, 902, 903, 904, 905, 906, 907, 908, 909, 910, 911, 458, 459, 460, 430, 912, 713, 714, 715, 620, 1114, 1115, 1116, 1117, 1118, 1119, 1120, 1121, 1122, 1123, 1124, 1125, 1126, 1239, 1240, 1241, 1242, 1243, 1244, 1245, 1246, 1247, 1248, 1249, 1250, 1251, 1252, 1253, 1254, 1222, 1223, 1224, 1198, 1199, 1200, 1201, 1202, 1203, 1204, 1205, 1206, 1207, 1208, 1209, 1210, 1211, 1271, 1272] (by decide +kernel) (by decide +kernel)
set_option maxRecDepth 20000 in
theorem gL_law_X10_run : GoodIn wsL_law (wsV RL 51 RX10 yX10_run wsX10_run) := goodIn_app (goodIn_of _ (by decide +kernel)) ggL_law_X10_run
set_option maxRecDepth 20000 in
theorem ggL_law_X11_run : GoodIn wsL_law wsX11_run := goodIn_r _ [916, 192, 917, 918, 919, 920, 921, 922, 923, 924, 925, 926, 927, 928, 929, 5, 930, 166, 150, 167, 931, 932, 933, 934, 935, 936, 174, 151, 149, 937, 938, 939, 940, 175, 941, 942, 943, 944, 173, 945, 946, 947, 948, 144, 145, 146, 147, 949, 950, 951, 952, 953, 954, 955, 956, 957, 958, 959, 960, 961, 962, 963, 964, 965, 966, 967, 968, 148, 1127, 1128, 1129, 1130, 1131, 1132, 1133, 1134, 1135, 1136, 1137, 1138, 1139, 1140, 1141, 1142, 1143, 1144, 1145, 1146, 1147, 1148, 1149, 1150, 1151, 1152, 1153, 1154, 1155, 1156, 1157, 1158, 1159, 1160, 1161, 1162, 1163, 1164, 1165, 1166, 1167, 1168, 1169, 1170, 1171, 1172, 1173, 1174, 1175, 1176, 1177, 1178, 1179, 1180, 1181, 1182, 1183, 1184, 1185, 1186, 1187, 1188, 1189, 1190, 1191, 1192, 1193, 1194] (by decide +kernel) (by decide +kernel)
set_option maxRecDepth 20000 in
theorem gL_law_X11_run : GoodIn wsL_law (wsV RL 54 RX11 yX11_run wsX11_run) := goodIn_app (goodIn_of _ (by decide +kernel)) ggL_law_X11_run
set_option maxRecDepth 20000 in
theorem ggL_law_X10_ran : GoodIn wsL_law wsX10_ran := goodIn_r _ [972, 48, 1114, 1115, 1116, 1117, 1118, 1119, 1120, 1121, 1122, 1123, 1124, 1125, 1126] (by decide +kernel) (by decide +kernel)
set_option maxRecDepth 20000 in
theorem gL_law_X10_ran : GoodIn wsL_law (wsV RL 55 RX10 yX10_ran wsX10_ran) := goodIn_app (goodIn_of _ (by decide +kernel)) ggL_law_X10_ran
set_option maxRecDepth 20000 in
theorem ggL_law_X11_ran : GoodIn wsL_law wsX11_ran := goodIn_r _ [976, 192, 917, 919, 921, 923, 925, 1127, 1128, 1129, 1130, 1131, 1132, 1133, 1134, 1135, 1136, 1137, 1138, 1139, 1140, 1141, 1142, 1143, 1144, 1145, 1146, 1147, 1148, 1149, 1150, 1151, 1152, 1153, 1154, 1155, 1156, 1157, 1158, 1159, 1160, 1161, 1162, 1163, 1164, 1165, 1166, 1167, 1168, 1169, 1170, 1171, 1172, 1173, 1174, 1175, 1176, 1177, 1178, 1179, 1180, 1181, 1182, 1183, 1184, 1185, 1186, 1187, 1188, 1189, 1190, 1191, 1192, 1193, 1194] (by decide +kernel) (by decide +kernel)
set_option maxRecDepth 20000 in
theorem gL_law_X11_ran : GoodIn wsL_law (wsV RL 58 RX11 yX11_ran wsX11_ran) := goodIn_app (goodIn_of _ (by decide +kernel)) ggL_law_X11_ran
set_option maxRecDepth 20000 in
theorem ggL_law_X10_tries : GoodIn wsL_law wsX10_tries := goodIn_r _ [980, 30, 201, 778, 34, 42, 981, 636, 637, 638, 33, 639, 101, 640, 641, 106, 642, 96, 97, 643, 644, 645, 646, 647, 102, 103, 104, 105, 648, 98, 99, 100, 649, 650, 467, 651, 652, 466, 468, 653, 654, 655, 656, 657, 658, 659, 336, 337, 20, 338, 302, 660, 613, 614, 29, 615, 90, 616, 88, 617, 210, 211, 212, 618, 353, 285, 354, 619, 661, 662, 663, 664, 665, 666, 284, 286, 667, 668, 669, 670, 671, 672, 673, 674, 356, 357, 358, 62, 352, 675, 676, 677, 678, 679, 680, 681, 682, 683, 684, 685, 686, 687, 688, 431, 432, 58, 433, 378, 72, 689, 690, 691, 692, 693, 694, 695, 696, 697, 698, 699, 700, 701, 702, 703, 704, 705, 706, 707, 708, 709, 710, 711, 458, 459, 460, 430, 712, 713, 714, 715, 716, 717, 718, 719, 982, 983, 984, 985, 986, 987, 988, 989, 41, 990, 125, 991, 123, 124, 126, 127, 992, 993, 994, 821, 822, 823, 89, 824, 995, 826, 827, 37, 828, 829, 830, 831, 832, 833, 834, 835, 114, 115, 116, 117, 118, 836, 837, 838, 839, 840, 841, 842, 843, 844, 845, 846, 847, 848, 111, 849, 850, 851, 852, 853, 854, 855, 856, 857, 858, 859, 113, 860, 861, 862, 863, 864, 865, 866, 867, 868, 869, 870, 871, 872, 873, 874, 112, 875, 876, 877, 878, 879, 880, 881, 882, 883, 884, 885, 886, 887, 888, 889, 890, 891, 892, 893, 894, 895, 896, 897, 898, 899, 900, 901, 902, 903, 904, 905, 906, 907, 908, 909, 910, 911, 912, 996, 997, 998, 999, 1000, 1001, 1002, 1003, 1004, 1005, 1006, 635, 1114, 1115, 1116, 1117, 1118, 1119, 1120, 1121, 1122, 1123, 1124, 1125, 1126, 1222, 1223, 1224, 1198, 1199, 1200, 1201, 1202, 1203, 1204, 1205, 1206, 1207, 1208, 1209, 1210, 1211, 1255, 1256, 1257, 1258, 1259, 1260, 1225, 1226, 1227, 1228, 1229, 1230, 1231, 1232, 1233, 1234, 1235, 1236, 1237, 1238, 1271, 1272, 1239, 1240, 1241, 1242, 1243, 1244, 1245, 1246, 1247, 1248, 1249, 1250, 1251, 1252, 1253, 1254] (by decide +kernel) (by decide +kernel)
set_option maxRecDepth 20000 in
theorem gL_law_X10_tries : GoodIn wsL_law (wsV RL 59 RX10 yX10_tries wsX10_tries) := goodIn_app (goodIn_of _ (by decide +kernel)) ggL_law_X10_tries
set_option maxRecDepth 20000 in
theorem ggL_law_X11_tries : GoodIn wsL_law wsX11_tries := goodIn_r _ [1010, 192, 156, 150, 166, 926, 920, 927, 928, 929, 5, 930, 167, 931, 932, 933, 934, 922, 935, 918, 924, 936, 174, 151, 149, 937, 938, 939, 940, 175, 941, 942, 943, 944, 173, 945, 946, 947, 948, 144, 145, 146, 147, 949, 950, 951, 952, 953, 954, 955, 956, 957, 958, 959, 960, 961, 962, 963, 964, 965, 966, 967, 968, 148, 1127, 1128, 1129, 1130, 1131, 1132, 1133, 1134, 1135, 1136, 1137, 1138, 1139, 1140, 1141, 1142, 1143, 1144, 1145, 1146, 1147, 1148, 1149, 1150, 1151, 1152, 1153, 1154, 1155, 1156, 1157, 1158, 1159, 1160, 1161, 1162, 1163, 1164, 1165, 1166, 1167, 1168, 1169, 1170, 1171, 1172, 1173, 1174, 1175, 1176, 1177, 1178, 1179, 1180, 1181, 1182, 1183, 1184, 1185, 1186, 1187, 1188, 1189, 1190, 1191, 1192, 1193, 1194] (by decide +kernel) (by decide +kernel)
set_option maxRecDepth 20000 in
theorem gL_law_X11_tries : GoodIn wsL_law (wsV RL 62 RX11 yX11_tries wsX11_tries) := goodIn_app (goodIn_of _ (by decide +kernel)) ggL_law_X11_tries
set_option maxRecDepth 20000 in
theorem ggL_law_X10_price : GoodIn wsL_law wsX10_price := goodIn_r _ [1014, 46, 1015, 475, 620, 284, 285, 286, 1114, 1115, 1116, 1117, 1118, 1119, 1120, 1121, 1122, 1123, 1124, 1125, 1126, 1261, 1262, 1263, 1264, 1265, 1266, 1267, 1268, 1269, 1270] (by decide +kernel) (by decide +kernel)
set_option maxRecDepth 20000 in
theorem gL_law_X10_price : GoodIn wsL_law (wsV RL 63 RX10 yX10_price wsX10_price) := goodIn_app (goodIn_of _ (by decide +kernel)) ggL_law_X10_price
set_option maxRecDepth 20000 in
theorem ggL_law_X11_price : GoodIn wsL_law wsX11_price := goodIn_r _ [1019, 192, 176, 1127, 1128, 1129, 1130, 1131, 1132, 1133, 1134, 1135, 1136, 1137, 1138, 1139, 1140, 1141, 1142, 1143, 1144, 1145, 1146, 1147, 1148, 1149, 1150, 1151, 1152, 1153, 1154, 1155, 1156, 1157, 1158, 1159, 1160, 1161, 1162, 1163, 1164, 1165, 1166, 1167, 1168, 1169, 1170, 1171, 1172, 1173, 1174, 1175, 1176, 1177, 1178, 1179, 1180, 1181, 1182, 1183, 1184, 1185, 1186, 1187, 1188, 1189, 1190, 1191, 1192, 1193, 1194] (by decide +kernel) (by decide +kernel)
set_option maxRecDepth 20000 in
theorem gL_law_X11_price : GoodIn wsL_law (wsV RL 66 RX11 yX11_price wsX11_price) := goodIn_app (goodIn_of _ (by decide +kernel)) ggL_law_X11_price
set_option maxRecDepth 20000 in
theorem ggL_law_X10_mend : GoodIn wsL_law wsX10_mend := goodIn_r _ [1023, 30, 201, 203, 46, 1024, 1025, 1026, 1027, 45, 1028, 135, 137, 1029, 1030, 132, 136, 1031, 1032, 210, 211, 212, 1033, 637, 638, 33, 639, 101, 640, 641, 106, 642, 96, 97, 643, 644, 645, 646, 647, 102, 103, 104, 105, 648, 98, 99, 100, 649, 650, 467, 651, 652, 466, 468, 653, 654, 655, 656, 657, 658, 659, 336, 337, 20, 338, 302, 660, 613, 614, 29, 615, 90, 616, 88, 617, 618, 353, 285, 354, 619, 661, 662, 663, 664, 665, 666, 284, 286, 667, 668, 669, 670, 671, 672, 673, 674, 356, 357, 358, 62, 352, 675, 676, 677, 678, 679, 680, 681, 682, 683, 684, 685, 686, 687, 688, 431, 432, 58, 433, 378, 72, 689, 690, 691, 692, 693, 694, 695, 696, 697, 698, 699, 700, 701, 702, 703, 704, 705, 706, 707, 708, 709, 710, 711, 458, 459, 460, 430, 712, 713, 714, 715, 716, 717, 718, 719, 1034, 1035, 1036, 1037, 1038, 1039, 1040, 133, 1041, 1042, 1043, 983, 984, 985, 986, 1044, 1045, 1046, 1047, 1048, 1049, 1050, 1051, 1052, 1053, 1054, 1055, 1056, 1057, 1058, 1059, 1060, 1061, 1062, 1063, 1064, 1065, 1066, 1067, 1068, 1069, 1070, 1071, 134, 1072, 1073, 1074, 1114, 1115, 1116, 1117, 1118, 1119, 1120, 1121, 1122, 1123, 1124, 1125, 1126, 1222, 1223, 1224, 1198, 1199, 1200, 1201, 1202, 1203, 1204, 1205, 1206, 1207, 1208, 1209, 1210, 1211, 1261, 1262, 1263, 1264, 1265, 1266, 1267, 1268, 1269, 1270, 1225, 1226, 1227, 1228, 1229, 1230, 1231, 1232, 1233, 1234, 1235, 1236, 1237, 1238, 1271, 1272] (by decide +kernel) (by decide +kernel)
set_option maxRecDepth 20000 in
theorem gL_law_X10_mend : GoodIn wsL_law (wsV RL 67 RX10 yX10_mend wsX10_mend) := goodIn_app (goodIn_of _ (by decide +kernel)) ggL_law_X10_mend
set_option maxRecDepth 20000 in
theorem ggL_law_X11_mend : GoodIn wsL_law wsX11_mend := goodIn_r _ [1078, 192, 166, 1079, 169, 177, 171, 176, 1080, 1081, 178, 1082, 724, 725, 726, 5, 727, 728, 729, 730, 731, 581, 168, 172, 732, 150, 167, 733, 734, 735, 736, 737, 738, 739, 740, 741, 742, 743, 744, 745, 151, 149, 746, 747, 748, 749, 750, 751, 752, 753, 754, 755, 756, 757, 758, 144, 145, 146, 759, 760, 761, 762, 763, 764, 765, 148, 766, 767, 768, 769, 770, 771, 772, 773, 147, 1083, 1084, 1085, 1086, 1087, 1088, 1089, 156, 790, 791, 792, 793, 1127, 1128, 1129, 1130, 1131, 1132, 1133, 1134, 1135, 1136, 1137, 1138, 1139, 1140, 1141, 1142, 1143, 1144, 1145, 1146, 1147, 1148, 1149, 1150, 1151, 1152, 1153, 1154, 1155, 1156, 1157, 1158, 1159, 1160, 1161, 1162, 1163, 1164, 1165, 1166, 1167, 1168, 1169, 1170, 1171, 1172, 1173, 1174, 1175, 1176, 1177, 1178, 1179, 1180, 1181, 1182, 1183, 1184, 1185, 1186, 1187, 1188, 1189, 1190, 1191, 1192, 1193, 1194] (by decide +kernel) (by decide +kernel)
set_option maxRecDepth 20000 in
theorem gL_law_X11_mend : GoodIn wsL_law (wsV RL 71 RX11 yX11_mend wsX11_mend) := goodIn_app (goodIn_of _ (by decide +kernel)) ggL_law_X11_mend
set_option maxRecDepth 20000 in
theorem ggL_law_X10_mended : GoodIn wsL_law wsX10_mended := goodIn_r _ [1093, 46, 1024, 1094, 1095, 1096, 635, 353, 285, 354, 1114, 1115, 1116, 1117, 1118, 1119, 1120, 1121, 1122, 1123, 1124, 1125, 1126, 1261, 1262, 1263, 1264, 1265, 1266, 1267, 1268, 1269, 1270] (by decide +kernel) (by decide +kernel)
set_option maxRecDepth 20000 in
theorem gL_law_X10_mended : GoodIn wsL_law (wsV RL 72 RX10 yX10_mended wsX10_mended) := goodIn_app (goodIn_of _ (by decide +kernel)) ggL_law_X10_mended
set_option maxRecDepth 20000 in
theorem ggL_law_X11_mended : GoodIn wsL_law wsX11_mended := goodIn_r _ [1100, 192, 1082, 1081, 1080, 178, 1127, 1128, 1129, 1130, 1131, 1132, 1133, 1134, 1135, 1136, 1137, 1138, 1139, 1140, 1141, 1142, 1143, 1144, 1145, 1146, 1147, 1148, 1149, 1150, 1151, 1152, 1153, 1154, 1155, 1156, 1157, 1158, 1159, 1160, 1161, 1162, 1163, 1164, 1165, 1166, 1167, 1168, 1169, 1170, 1171, 1172, 1173, 1174, 1175, 1176, 1177, 1178, 1179, 1180, 1181, 1182, 1183, 1184, 1185, 1186, 1187, 1188, 1189, 1190, 1191, 1192, 1193, 1194] (by decide +kernel) (by decide +kernel)
set_option maxRecDepth 20000 in
theorem gL_law_X11_mended : GoodIn wsL_law (wsV RL 75 RX11 yX11_mended wsX11_mended) := goodIn_app (goodIn_of _ (by decide +kernel)) ggL_law_X11_mended
set_option maxRecDepth 20000 in
theorem ggL_law_X10_count : GoodIn wsL_law wsX10_count := goodIn_r _ [1104, 30, 201, 203, 778, 801, 1105, 1106, 1107, 1108, 2, 1109, 34, 779, 636, 637, 638, 33, 639, 101, 640, 641, 106, 642, 96, 97, 643, 644, 645, 646, 647, 102, 103, 104, 105, 648, 98, 99, 100, 649, 650, 467, 651, 652, 466, 468, 653, 654, 655, 656, 657, 658, 659, 336, 337, 20, 338, 302, 660, 613, 614, 29, 615, 90, 616, 88, 617, 210, 211, 212, 618, 353, 285, 354, 619, 661, 662, 663, 664, 665, 666, 284, 286, 667, 668, 669, 670, 671, 672, 673, 674, 356, 357, 358, 62, 352, 675, 676, 677, 678, 679, 680, 681, 682, 683, 684, 685, 686, 687, 688, 431, 432, 58, 433, 378, 72, 689, 690, 691, 692, 693, 694, 695, 696, 697, 698, 699, 700, 701, 702, 703, 704, 705, 706, 707, 708, 709, 710, 711, 458, 459, 460, 430, 712, 713, 714, 715, 716, 717, 718, 719, 635, 1114, 1115, 1116, 1117, 1118, 1119, 1120, 1121, 1122, 1123, 1124, 1125, 1126, 1222, 1223, 1224, 1198, 1199, 1200, 1201, 1202, 1203, 1204, 1205, 1206, 1207, 1208, 1209, 1210, 1211, 1225, 1226, 1227, 1228, 1229, 1230, 1231, 1232, 1233, 1234, 1235, 1236, 1237, 1238, 1271, 1272] (by decide +kernel) (by decide +kernel)
set_option maxRecDepth 20000 in
theorem gL_law_X10_count : GoodIn wsL_law (wsV RL 76 RX10 yX10_count wsX10_count) := goodIn_app (goodIn_of _ (by decide +kernel)) ggL_law_X10_count
set_option maxRecDepth 20000 in
theorem ggL_law_X11_count : GoodIn wsL_law wsX11_count := goodIn_r _ [1113, 192, 156, 159, 166, 724, 725, 726, 5, 727, 171, 728, 729, 730, 731, 581, 168, 169, 172, 732, 150, 167, 733, 734, 735, 736, 737, 738, 739, 740, 741, 742, 743, 744, 745, 151, 149, 746, 747, 748, 749, 750, 751, 752, 753, 754, 755, 756, 757, 758, 144, 145, 146, 759, 760, 761, 762, 763, 764, 765, 148, 766, 767, 768, 769, 770, 771, 772, 773, 147, 790, 791, 792, 793, 586, 587, 588, 589, 1127, 1128, 1129, 1130, 1131, 1132, 1133, 1134, 1135, 1136, 1137, 1138, 1139, 1140, 1141, 1142, 1143, 1144, 1145, 1146, 1147, 1148, 1149, 1150, 1151, 1152, 1153, 1154, 1155, 1156, 1157, 1158, 1159, 1160, 1161, 1162, 1163, 1164, 1165, 1166, 1167, 1168, 1169, 1170, 1171, 1172, 1173, 1174, 1175, 1176, 1177, 1178, 1179, 1180, 1181, 1182, 1183, 1184, 1185, 1186, 1187, 1188, 1189, 1190, 1191, 1192, 1193, 1194] (by decide +kernel) (by decide +kernel)
set_option maxRecDepth 20000 in
theorem gL_law_X11_count : GoodIn wsL_law (wsV RL 79 RX11 yX11_count wsX11_count) := goodIn_app (goodIn_of _ (by decide +kernel)) ggL_law_X11_count
theorem dL_law_0 : decode cL_law 0 = .ok (.new 7, 3) := by decide +kernel
theorem dL_law_3 : decode cL_law 3 = .ok (.dup, 1) := by decide +kernel
theorem dL_law_4 : decode cL_law 4 = .ok (.invokespecial 9, 3) := by decide +kernel
theorem dL_law_7 : decode cL_law 7 = .ok (.astore_n 1, 1) := by decide +kernel
theorem dL_law_8 : decode cL_law 8 = .ok (.new 10, 3) := by decide +kernel
theorem dL_law_11 : decode cL_law 11 = .ok (.dup, 1) := by decide +kernel
theorem dL_law_12 : decode cL_law 12 = .ok (.invokespecial 12, 3) := by decide +kernel
theorem dL_law_15 : decode cL_law 15 = .ok (.astore_n 2, 1) := by decide +kernel
theorem dL_law_16 : decode cL_law 16 = .ok (.iconst 0, 1) := by decide +kernel
theorem dL_law_17 : decode cL_law 17 = .ok (.istore_n 3, 1) := by decide +kernel
theorem dL_law_18 : decode cL_law 18 = .ok (.iload_n 3, 1) := by decide +kernel
theorem dL_law_19 : decode cL_law 19 = .ok (.aload_n 0, 1) := by decide +kernel
theorem dL_law_20 : decode cL_law 20 = .ok (.arraylength, 1) := by decide +kernel
theorem dL_law_21 : decode cL_law 21 = .ok (.bipush 6, 2) := by decide +kernel
theorem dL_law_23 : decode cL_law 23 = .ok (.isub, 1) := by decide +kernel
theorem dL_law_24 : decode cL_law 24 = .ok (.if_icmp .gt 535, 3) := by decide +kernel
theorem dL_law_27 : decode cL_law 27 = .ok (.aload_n 0, 1) := by decide +kernel
theorem dL_law_28 : decode cL_law 28 = .ok (.iload_n 3, 1) := by decide +kernel
theorem dL_law_29 : decode cL_law 29 = .ok (.iaload, 1) := by decide +kernel
theorem dL_law_30 : decode cL_law 30 = .ok (.bipush 15, 2) := by decide +kernel
theorem dL_law_32 : decode cL_law 32 = .ok (.iand, 1) := by decide +kernel
theorem dL_law_33 : decode cL_law 33 = .ok (.tableswitch 520 0 14 #[75, 138, 161, 184, 207, 240, 283, 316, 349, 382, 405, 428, 461, 474, 497], 75) := by decide +kernel
theorem dL_law_108 : decode cL_law 108 = .ok (.aload_n 1, 1) := by decide +kernel
theorem dL_law_109 : decode cL_law 109 = .ok (.aload_n 0, 1) := by decide +kernel
theorem dL_law_110 : decode cL_law 110 = .ok (.iload_n 3, 1) := by decide +kernel
theorem dL_law_111 : decode cL_law 111 = .ok (.iconst 1, 1) := by decide +kernel
theorem dL_law_112 : decode cL_law 112 = .ok (.iadd, 1) := by decide +kernel
theorem dL_law_113 : decode cL_law 113 = .ok (.iaload, 1) := by decide +kernel
theorem dL_law_114 : decode cL_law 114 = .ok (.aload_n 0, 1) := by decide +kernel
theorem dL_law_115 : decode cL_law 115 = .ok (.iload_n 3, 1) := by decide +kernel
theorem dL_law_116 : decode cL_law 116 = .ok (.iconst 2, 1) := by decide +kernel
theorem dL_law_117 : decode cL_law 117 = .ok (.iadd, 1) := by decide +kernel
theorem dL_law_118 : decode cL_law 118 = .ok (.iaload, 1) := by decide +kernel
theorem dL_law_119 : decode cL_law 119 = .ok (.aload_n 0, 1) := by decide +kernel
theorem dL_law_120 : decode cL_law 120 = .ok (.iload_n 3, 1) := by decide +kernel
theorem dL_law_121 : decode cL_law 121 = .ok (.iconst 3, 1) := by decide +kernel
theorem dL_law_122 : decode cL_law 122 = .ok (.iadd, 1) := by decide +kernel
theorem dL_law_123 : decode cL_law 123 = .ok (.iaload, 1) := by decide +kernel
theorem dL_law_124 : decode cL_law 124 = .ok (.aload_n 0, 1) := by decide +kernel
theorem dL_law_125 : decode cL_law 125 = .ok (.iload_n 3, 1) := by decide +kernel
theorem dL_law_126 : decode cL_law 126 = .ok (.iconst 4, 1) := by decide +kernel
theorem dL_law_127 : decode cL_law 127 = .ok (.iadd, 1) := by decide +kernel
theorem dL_law_128 : decode cL_law 128 = .ok (.iaload, 1) := by decide +kernel
theorem dL_law_129 : decode cL_law 129 = .ok (.aload_n 0, 1) := by decide +kernel
theorem dL_law_130 : decode cL_law 130 = .ok (.iload_n 3, 1) := by decide +kernel
theorem dL_law_131 : decode cL_law 131 = .ok (.iconst 5, 1) := by decide +kernel
theorem dL_law_132 : decode cL_law 132 = .ok (.iadd, 1) := by decide +kernel
theorem dL_law_133 : decode cL_law 133 = .ok (.iaload, 1) := by decide +kernel
theorem dL_law_134 : decode cL_law 134 = .ok (.invokevirtual 13, 3) := by decide +kernel
theorem dL_law_137 : decode cL_law 137 = .ok (.aload_n 2, 1) := by decide +kernel
theorem dL_law_138 : decode cL_law 138 = .ok (.aload_n 0, 1) := by decide +kernel
theorem dL_law_139 : decode cL_law 139 = .ok (.iload_n 3, 1) := by decide +kernel
theorem dL_law_140 : decode cL_law 140 = .ok (.iconst 1, 1) := by decide +kernel
theorem dL_law_141 : decode cL_law 141 = .ok (.iadd, 1) := by decide +kernel
theorem dL_law_142 : decode cL_law 142 = .ok (.iaload, 1) := by decide +kernel
theorem dL_law_143 : decode cL_law 143 = .ok (.aload_n 0, 1) := by decide +kernel
theorem dL_law_144 : decode cL_law 144 = .ok (.iload_n 3, 1) := by decide +kernel
theorem dL_law_145 : decode cL_law 145 = .ok (.iconst 2, 1) := by decide +kernel
theorem dL_law_146 : decode cL_law 146 = .ok (.iadd, 1) := by decide +kernel
theorem dL_law_147 : decode cL_law 147 = .ok (.iaload, 1) := by decide +kernel
theorem dL_law_148 : decode cL_law 148 = .ok (.aload_n 0, 1) := by decide +kernel
theorem dL_law_149 : decode cL_law 149 = .ok (.iload_n 3, 1) := by decide +kernel
theorem dL_law_150 : decode cL_law 150 = .ok (.iconst 3, 1) := by decide +kernel
theorem dL_law_151 : decode cL_law 151 = .ok (.iadd, 1) := by decide +kernel
theorem dL_law_152 : decode cL_law 152 = .ok (.iaload, 1) := by decide +kernel
theorem dL_law_153 : decode cL_law 153 = .ok (.aload_n 0, 1) := by decide +kernel
theorem dL_law_154 : decode cL_law 154 = .ok (.iload_n 3, 1) := by decide +kernel
theorem dL_law_155 : decode cL_law 155 = .ok (.iconst 4, 1) := by decide +kernel
theorem dL_law_156 : decode cL_law 156 = .ok (.iadd, 1) := by decide +kernel
theorem dL_law_157 : decode cL_law 157 = .ok (.iaload, 1) := by decide +kernel
theorem dL_law_158 : decode cL_law 158 = .ok (.aload_n 0, 1) := by decide +kernel
theorem dL_law_159 : decode cL_law 159 = .ok (.iload_n 3, 1) := by decide +kernel
theorem dL_law_160 : decode cL_law 160 = .ok (.iconst 5, 1) := by decide +kernel
theorem dL_law_161 : decode cL_law 161 = .ok (.iadd, 1) := by decide +kernel
theorem dL_law_162 : decode cL_law 162 = .ok (.iaload, 1) := by decide +kernel
theorem dL_law_163 : decode cL_law 163 = .ok (.invokevirtual 17, 3) := by decide +kernel
theorem dL_law_166 : decode cL_law 166 = .ok (.if_icmp .eq 387, 3) := by decide +kernel
theorem dL_law_169 : decode cL_law 169 = .ok (.iconst 0, 1) := by decide +kernel
theorem dL_law_170 : decode cL_law 170 = .ok (.ireturn, 1) := by decide +kernel
theorem dL_law_171 : decode cL_law 171 = .ok (.aload_n 1, 1) := by decide +kernel
theorem dL_law_172 : decode cL_law 172 = .ok (.aload_n 0, 1) := by decide +kernel
theorem dL_law_173 : decode cL_law 173 = .ok (.iload_n 3, 1) := by decide +kernel
theorem dL_law_174 : decode cL_law 174 = .ok (.iconst 1, 1) := by decide +kernel
theorem dL_law_175 : decode cL_law 175 = .ok (.iadd, 1) := by decide +kernel
theorem dL_law_176 : decode cL_law 176 = .ok (.iaload, 1) := by decide +kernel
theorem dL_law_177 : decode cL_law 177 = .ok (.invokevirtual 18, 3) := by decide +kernel
theorem dL_law_180 : decode cL_law 180 = .ok (.aload_n 2, 1) := by decide +kernel
theorem dL_law_181 : decode cL_law 181 = .ok (.aload_n 0, 1) := by decide +kernel
theorem dL_law_182 : decode cL_law 182 = .ok (.iload_n 3, 1) := by decide +kernel
theorem dL_law_183 : decode cL_law 183 = .ok (.iconst 1, 1) := by decide +kernel
theorem dL_law_184 : decode cL_law 184 = .ok (.iadd, 1) := by decide +kernel
theorem dL_law_185 : decode cL_law 185 = .ok (.iaload, 1) := by decide +kernel
theorem dL_law_186 : decode cL_law 186 = .ok (.invokevirtual 22, 3) := by decide +kernel
theorem dL_law_189 : decode cL_law 189 = .ok (.if_icmp .eq 364, 3) := by decide +kernel
theorem dL_law_192 : decode cL_law 192 = .ok (.iconst 0, 1) := by decide +kernel
theorem dL_law_193 : decode cL_law 193 = .ok (.ireturn, 1) := by decide +kernel
theorem dL_law_194 : decode cL_law 194 = .ok (.aload_n 1, 1) := by decide +kernel
theorem dL_law_195 : decode cL_law 195 = .ok (.aload_n 0, 1) := by decide +kernel
theorem dL_law_196 : decode cL_law 196 = .ok (.iload_n 3, 1) := by decide +kernel
theorem dL_law_197 : decode cL_law 197 = .ok (.iconst 1, 1) := by decide +kernel
theorem dL_law_198 : decode cL_law 198 = .ok (.iadd, 1) := by decide +kernel
theorem dL_law_199 : decode cL_law 199 = .ok (.iaload, 1) := by decide +kernel
theorem dL_law_200 : decode cL_law 200 = .ok (.invokevirtual 23, 3) := by decide +kernel
theorem dL_law_203 : decode cL_law 203 = .ok (.aload_n 2, 1) := by decide +kernel
theorem dL_law_204 : decode cL_law 204 = .ok (.aload_n 0, 1) := by decide +kernel
theorem dL_law_205 : decode cL_law 205 = .ok (.iload_n 3, 1) := by decide +kernel
theorem dL_law_206 : decode cL_law 206 = .ok (.iconst 1, 1) := by decide +kernel
theorem dL_law_207 : decode cL_law 207 = .ok (.iadd, 1) := by decide +kernel
theorem dL_law_208 : decode cL_law 208 = .ok (.iaload, 1) := by decide +kernel
theorem dL_law_209 : decode cL_law 209 = .ok (.invokevirtual 26, 3) := by decide +kernel
theorem dL_law_212 : decode cL_law 212 = .ok (.if_icmp .eq 341, 3) := by decide +kernel
theorem dL_law_215 : decode cL_law 215 = .ok (.iconst 0, 1) := by decide +kernel
theorem dL_law_216 : decode cL_law 216 = .ok (.ireturn, 1) := by decide +kernel
theorem dL_law_217 : decode cL_law 217 = .ok (.aload_n 1, 1) := by decide +kernel
theorem dL_law_218 : decode cL_law 218 = .ok (.aload_n 0, 1) := by decide +kernel
theorem dL_law_219 : decode cL_law 219 = .ok (.iload_n 3, 1) := by decide +kernel
theorem dL_law_220 : decode cL_law 220 = .ok (.iconst 1, 1) := by decide +kernel
theorem dL_law_221 : decode cL_law 221 = .ok (.iadd, 1) := by decide +kernel
theorem dL_law_222 : decode cL_law 222 = .ok (.iaload, 1) := by decide +kernel
theorem dL_law_223 : decode cL_law 223 = .ok (.invokevirtual 27, 3) := by decide +kernel
theorem dL_law_226 : decode cL_law 226 = .ok (.aload_n 2, 1) := by decide +kernel
theorem dL_law_227 : decode cL_law 227 = .ok (.aload_n 0, 1) := by decide +kernel
theorem dL_law_228 : decode cL_law 228 = .ok (.iload_n 3, 1) := by decide +kernel
theorem dL_law_229 : decode cL_law 229 = .ok (.iconst 1, 1) := by decide +kernel
theorem dL_law_230 : decode cL_law 230 = .ok (.iadd, 1) := by decide +kernel
theorem dL_law_231 : decode cL_law 231 = .ok (.iaload, 1) := by decide +kernel
theorem dL_law_232 : decode cL_law 232 = .ok (.invokevirtual 31, 3) := by decide +kernel
theorem dL_law_235 : decode cL_law 235 = .ok (.if_icmp .eq 318, 3) := by decide +kernel
theorem dL_law_238 : decode cL_law 238 = .ok (.iconst 0, 1) := by decide +kernel
theorem dL_law_239 : decode cL_law 239 = .ok (.ireturn, 1) := by decide +kernel
theorem dL_law_240 : decode cL_law 240 = .ok (.aload_n 1, 1) := by decide +kernel
theorem dL_law_241 : decode cL_law 241 = .ok (.aload_n 0, 1) := by decide +kernel
theorem dL_law_242 : decode cL_law 242 = .ok (.iload_n 3, 1) := by decide +kernel
theorem dL_law_243 : decode cL_law 243 = .ok (.iconst 1, 1) := by decide +kernel
theorem dL_law_244 : decode cL_law 244 = .ok (.iadd, 1) := by decide +kernel
theorem dL_law_245 : decode cL_law 245 = .ok (.iaload, 1) := by decide +kernel
theorem dL_law_246 : decode cL_law 246 = .ok (.aload_n 0, 1) := by decide +kernel
theorem dL_law_247 : decode cL_law 247 = .ok (.iload_n 3, 1) := by decide +kernel
theorem dL_law_248 : decode cL_law 248 = .ok (.iconst 2, 1) := by decide +kernel
theorem dL_law_249 : decode cL_law 249 = .ok (.iadd, 1) := by decide +kernel
theorem dL_law_250 : decode cL_law 250 = .ok (.iaload, 1) := by decide +kernel
theorem dL_law_251 : decode cL_law 251 = .ok (.invokevirtual 32, 3) := by decide +kernel
theorem dL_law_254 : decode cL_law 254 = .ok (.aload_n 2, 1) := by decide +kernel
theorem dL_law_255 : decode cL_law 255 = .ok (.aload_n 0, 1) := by decide +kernel
theorem dL_law_256 : decode cL_law 256 = .ok (.iload_n 3, 1) := by decide +kernel
theorem dL_law_257 : decode cL_law 257 = .ok (.iconst 1, 1) := by decide +kernel
theorem dL_law_258 : decode cL_law 258 = .ok (.iadd, 1) := by decide +kernel
theorem dL_law_259 : decode cL_law 259 = .ok (.iaload, 1) := by decide +kernel
theorem dL_law_260 : decode cL_law 260 = .ok (.aload_n 0, 1) := by decide +kernel
theorem dL_law_261 : decode cL_law 261 = .ok (.iload_n 3, 1) := by decide +kernel
theorem dL_law_262 : decode cL_law 262 = .ok (.iconst 2, 1) := by decide +kernel
theorem dL_law_263 : decode cL_law 263 = .ok (.iadd, 1) := by decide +kernel
theorem dL_law_264 : decode cL_law 264 = .ok (.iaload, 1) := by decide +kernel
theorem dL_law_265 : decode cL_law 265 = .ok (.invokevirtual 36, 3) := by decide +kernel
theorem dL_law_268 : decode cL_law 268 = .ok (.if_icmp .eq 285, 3) := by decide +kernel
theorem dL_law_271 : decode cL_law 271 = .ok (.iconst 0, 1) := by decide +kernel
theorem dL_law_272 : decode cL_law 272 = .ok (.ireturn, 1) := by decide +kernel
theorem dL_law_273 : decode cL_law 273 = .ok (.aload_n 1, 1) := by decide +kernel
theorem dL_law_274 : decode cL_law 274 = .ok (.aload_n 0, 1) := by decide +kernel
theorem dL_law_275 : decode cL_law 275 = .ok (.iload_n 3, 1) := by decide +kernel
theorem dL_law_276 : decode cL_law 276 = .ok (.iconst 1, 1) := by decide +kernel
theorem dL_law_277 : decode cL_law 277 = .ok (.iadd, 1) := by decide +kernel
theorem dL_law_278 : decode cL_law 278 = .ok (.iaload, 1) := by decide +kernel
theorem dL_law_279 : decode cL_law 279 = .ok (.aload_n 0, 1) := by decide +kernel
theorem dL_law_280 : decode cL_law 280 = .ok (.iload_n 3, 1) := by decide +kernel
theorem dL_law_281 : decode cL_law 281 = .ok (.iconst 2, 1) := by decide +kernel
theorem dL_law_282 : decode cL_law 282 = .ok (.iadd, 1) := by decide +kernel
theorem dL_law_283 : decode cL_law 283 = .ok (.iaload, 1) := by decide +kernel
theorem dL_law_284 : decode cL_law 284 = .ok (.aload_n 0, 1) := by decide +kernel
theorem dL_law_285 : decode cL_law 285 = .ok (.iload_n 3, 1) := by decide +kernel
theorem dL_law_286 : decode cL_law 286 = .ok (.iconst 3, 1) := by decide +kernel
theorem dL_law_287 : decode cL_law 287 = .ok (.iadd, 1) := by decide +kernel
theorem dL_law_288 : decode cL_law 288 = .ok (.iaload, 1) := by decide +kernel
theorem dL_law_289 : decode cL_law 289 = .ok (.invokevirtual 37, 3) := by decide +kernel
theorem dL_law_292 : decode cL_law 292 = .ok (.aload_n 2, 1) := by decide +kernel
theorem dL_law_293 : decode cL_law 293 = .ok (.aload_n 0, 1) := by decide +kernel
theorem dL_law_294 : decode cL_law 294 = .ok (.iload_n 3, 1) := by decide +kernel
theorem dL_law_295 : decode cL_law 295 = .ok (.iconst 1, 1) := by decide +kernel
theorem dL_law_296 : decode cL_law 296 = .ok (.iadd, 1) := by decide +kernel
theorem dL_law_297 : decode cL_law 297 = .ok (.iaload, 1) := by decide +kernel
theorem dL_law_298 : decode cL_law 298 = .ok (.aload_n 0, 1) := by decide +kernel
theorem dL_law_299 : decode cL_law 299 = .ok (.iload_n 3, 1) := by decide +kernel
theorem dL_law_300 : decode cL_law 300 = .ok (.iconst 2, 1) := by decide +kernel
theorem dL_law_301 : decode cL_law 301 = .ok (.iadd, 1) := by decide +kernel
theorem dL_law_302 : decode cL_law 302 = .ok (.iaload, 1) := by decide +kernel
theorem dL_law_303 : decode cL_law 303 = .ok (.aload_n 0, 1) := by decide +kernel
theorem dL_law_304 : decode cL_law 304 = .ok (.iload_n 3, 1) := by decide +kernel
theorem dL_law_305 : decode cL_law 305 = .ok (.iconst 3, 1) := by decide +kernel
theorem dL_law_306 : decode cL_law 306 = .ok (.iadd, 1) := by decide +kernel
theorem dL_law_307 : decode cL_law 307 = .ok (.iaload, 1) := by decide +kernel
theorem dL_law_308 : decode cL_law 308 = .ok (.invokevirtual 41, 3) := by decide +kernel
theorem dL_law_311 : decode cL_law 311 = .ok (.if_icmp .eq 242, 3) := by decide +kernel
theorem dL_law_314 : decode cL_law 314 = .ok (.iconst 0, 1) := by decide +kernel
theorem dL_law_315 : decode cL_law 315 = .ok (.ireturn, 1) := by decide +kernel
theorem dL_law_316 : decode cL_law 316 = .ok (.aload_n 1, 1) := by decide +kernel
theorem dL_law_317 : decode cL_law 317 = .ok (.aload_n 0, 1) := by decide +kernel
theorem dL_law_318 : decode cL_law 318 = .ok (.iload_n 3, 1) := by decide +kernel
theorem dL_law_319 : decode cL_law 319 = .ok (.iconst 1, 1) := by decide +kernel
theorem dL_law_320 : decode cL_law 320 = .ok (.iadd, 1) := by decide +kernel
theorem dL_law_321 : decode cL_law 321 = .ok (.iaload, 1) := by decide +kernel
theorem dL_law_322 : decode cL_law 322 = .ok (.aload_n 0, 1) := by decide +kernel
theorem dL_law_323 : decode cL_law 323 = .ok (.iload_n 3, 1) := by decide +kernel
theorem dL_law_324 : decode cL_law 324 = .ok (.iconst 2, 1) := by decide +kernel
theorem dL_law_325 : decode cL_law 325 = .ok (.iadd, 1) := by decide +kernel
theorem dL_law_326 : decode cL_law 326 = .ok (.iaload, 1) := by decide +kernel
theorem dL_law_327 : decode cL_law 327 = .ok (.invokevirtual 42, 3) := by decide +kernel
theorem dL_law_330 : decode cL_law 330 = .ok (.aload_n 2, 1) := by decide +kernel
theorem dL_law_331 : decode cL_law 331 = .ok (.aload_n 0, 1) := by decide +kernel
theorem dL_law_332 : decode cL_law 332 = .ok (.iload_n 3, 1) := by decide +kernel
theorem dL_law_333 : decode cL_law 333 = .ok (.iconst 1, 1) := by decide +kernel
theorem dL_law_334 : decode cL_law 334 = .ok (.iadd, 1) := by decide +kernel
theorem dL_law_335 : decode cL_law 335 = .ok (.iaload, 1) := by decide +kernel
theorem dL_law_336 : decode cL_law 336 = .ok (.aload_n 0, 1) := by decide +kernel
theorem dL_law_337 : decode cL_law 337 = .ok (.iload_n 3, 1) := by decide +kernel
theorem dL_law_338 : decode cL_law 338 = .ok (.iconst 2, 1) := by decide +kernel
theorem dL_law_339 : decode cL_law 339 = .ok (.iadd, 1) := by decide +kernel
theorem dL_law_340 : decode cL_law 340 = .ok (.iaload, 1) := by decide +kernel
theorem dL_law_341 : decode cL_law 341 = .ok (.invokevirtual 46, 3) := by decide +kernel
theorem dL_law_344 : decode cL_law 344 = .ok (.if_icmp .eq 209, 3) := by decide +kernel
theorem dL_law_347 : decode cL_law 347 = .ok (.iconst 0, 1) := by decide +kernel
theorem dL_law_348 : decode cL_law 348 = .ok (.ireturn, 1) := by decide +kernel
theorem dL_law_349 : decode cL_law 349 = .ok (.aload_n 1, 1) := by decide +kernel
theorem dL_law_350 : decode cL_law 350 = .ok (.aload_n 0, 1) := by decide +kernel
theorem dL_law_351 : decode cL_law 351 = .ok (.iload_n 3, 1) := by decide +kernel
theorem dL_law_352 : decode cL_law 352 = .ok (.iconst 1, 1) := by decide +kernel
theorem dL_law_353 : decode cL_law 353 = .ok (.iadd, 1) := by decide +kernel
theorem dL_law_354 : decode cL_law 354 = .ok (.iaload, 1) := by decide +kernel
theorem dL_law_355 : decode cL_law 355 = .ok (.aload_n 0, 1) := by decide +kernel
theorem dL_law_356 : decode cL_law 356 = .ok (.iload_n 3, 1) := by decide +kernel
theorem dL_law_357 : decode cL_law 357 = .ok (.iconst 2, 1) := by decide +kernel
theorem dL_law_358 : decode cL_law 358 = .ok (.iadd, 1) := by decide +kernel
theorem dL_law_359 : decode cL_law 359 = .ok (.iaload, 1) := by decide +kernel
theorem dL_law_360 : decode cL_law 360 = .ok (.invokevirtual 47, 3) := by decide +kernel
theorem dL_law_363 : decode cL_law 363 = .ok (.aload_n 2, 1) := by decide +kernel
theorem dL_law_364 : decode cL_law 364 = .ok (.aload_n 0, 1) := by decide +kernel
theorem dL_law_365 : decode cL_law 365 = .ok (.iload_n 3, 1) := by decide +kernel
theorem dL_law_366 : decode cL_law 366 = .ok (.iconst 1, 1) := by decide +kernel
theorem dL_law_367 : decode cL_law 367 = .ok (.iadd, 1) := by decide +kernel
theorem dL_law_368 : decode cL_law 368 = .ok (.iaload, 1) := by decide +kernel
theorem dL_law_369 : decode cL_law 369 = .ok (.aload_n 0, 1) := by decide +kernel
theorem dL_law_370 : decode cL_law 370 = .ok (.iload_n 3, 1) := by decide +kernel
theorem dL_law_371 : decode cL_law 371 = .ok (.iconst 2, 1) := by decide +kernel
theorem dL_law_372 : decode cL_law 372 = .ok (.iadd, 1) := by decide +kernel
theorem dL_law_373 : decode cL_law 373 = .ok (.iaload, 1) := by decide +kernel
theorem dL_law_374 : decode cL_law 374 = .ok (.invokevirtual 50, 3) := by decide +kernel
theorem dL_law_377 : decode cL_law 377 = .ok (.if_icmp .eq 176, 3) := by decide +kernel
theorem dL_law_380 : decode cL_law 380 = .ok (.iconst 0, 1) := by decide +kernel
theorem dL_law_381 : decode cL_law 381 = .ok (.ireturn, 1) := by decide +kernel
theorem dL_law_382 : decode cL_law 382 = .ok (.aload_n 1, 1) := by decide +kernel
theorem dL_law_383 : decode cL_law 383 = .ok (.aload_n 0, 1) := by decide +kernel
theorem dL_law_384 : decode cL_law 384 = .ok (.iload_n 3, 1) := by decide +kernel
theorem dL_law_385 : decode cL_law 385 = .ok (.iconst 1, 1) := by decide +kernel
theorem dL_law_386 : decode cL_law 386 = .ok (.iadd, 1) := by decide +kernel
theorem dL_law_387 : decode cL_law 387 = .ok (.iaload, 1) := by decide +kernel
theorem dL_law_388 : decode cL_law 388 = .ok (.aload_n 0, 1) := by decide +kernel
theorem dL_law_389 : decode cL_law 389 = .ok (.iload_n 3, 1) := by decide +kernel
theorem dL_law_390 : decode cL_law 390 = .ok (.iconst 2, 1) := by decide +kernel
theorem dL_law_391 : decode cL_law 391 = .ok (.iadd, 1) := by decide +kernel
theorem dL_law_392 : decode cL_law 392 = .ok (.iaload, 1) := by decide +kernel
theorem dL_law_393 : decode cL_law 393 = .ok (.invokevirtual 51, 3) := by decide +kernel
theorem dL_law_396 : decode cL_law 396 = .ok (.aload_n 2, 1) := by decide +kernel
theorem dL_law_397 : decode cL_law 397 = .ok (.aload_n 0, 1) := by decide +kernel
theorem dL_law_398 : decode cL_law 398 = .ok (.iload_n 3, 1) := by decide +kernel
theorem dL_law_399 : decode cL_law 399 = .ok (.iconst 1, 1) := by decide +kernel
theorem dL_law_400 : decode cL_law 400 = .ok (.iadd, 1) := by decide +kernel
theorem dL_law_401 : decode cL_law 401 = .ok (.iaload, 1) := by decide +kernel
theorem dL_law_402 : decode cL_law 402 = .ok (.aload_n 0, 1) := by decide +kernel
theorem dL_law_403 : decode cL_law 403 = .ok (.iload_n 3, 1) := by decide +kernel
theorem dL_law_404 : decode cL_law 404 = .ok (.iconst 2, 1) := by decide +kernel
theorem dL_law_405 : decode cL_law 405 = .ok (.iadd, 1) := by decide +kernel
theorem dL_law_406 : decode cL_law 406 = .ok (.iaload, 1) := by decide +kernel
theorem dL_law_407 : decode cL_law 407 = .ok (.invokevirtual 54, 3) := by decide +kernel
theorem dL_law_410 : decode cL_law 410 = .ok (.if_icmp .eq 143, 3) := by decide +kernel
theorem dL_law_413 : decode cL_law 413 = .ok (.iconst 0, 1) := by decide +kernel
theorem dL_law_414 : decode cL_law 414 = .ok (.ireturn, 1) := by decide +kernel
theorem dL_law_415 : decode cL_law 415 = .ok (.aload_n 1, 1) := by decide +kernel
theorem dL_law_416 : decode cL_law 416 = .ok (.aload_n 0, 1) := by decide +kernel
theorem dL_law_417 : decode cL_law 417 = .ok (.iload_n 3, 1) := by decide +kernel
theorem dL_law_418 : decode cL_law 418 = .ok (.iconst 1, 1) := by decide +kernel
theorem dL_law_419 : decode cL_law 419 = .ok (.iadd, 1) := by decide +kernel
theorem dL_law_420 : decode cL_law 420 = .ok (.iaload, 1) := by decide +kernel
theorem dL_law_421 : decode cL_law 421 = .ok (.invokevirtual 55, 3) := by decide +kernel
theorem dL_law_424 : decode cL_law 424 = .ok (.aload_n 2, 1) := by decide +kernel
theorem dL_law_425 : decode cL_law 425 = .ok (.aload_n 0, 1) := by decide +kernel
theorem dL_law_426 : decode cL_law 426 = .ok (.iload_n 3, 1) := by decide +kernel
theorem dL_law_427 : decode cL_law 427 = .ok (.iconst 1, 1) := by decide +kernel
theorem dL_law_428 : decode cL_law 428 = .ok (.iadd, 1) := by decide +kernel
theorem dL_law_429 : decode cL_law 429 = .ok (.iaload, 1) := by decide +kernel
theorem dL_law_430 : decode cL_law 430 = .ok (.invokevirtual 58, 3) := by decide +kernel
theorem dL_law_433 : decode cL_law 433 = .ok (.if_icmp .eq 120, 3) := by decide +kernel
theorem dL_law_436 : decode cL_law 436 = .ok (.iconst 0, 1) := by decide +kernel
theorem dL_law_437 : decode cL_law 437 = .ok (.ireturn, 1) := by decide +kernel
theorem dL_law_438 : decode cL_law 438 = .ok (.aload_n 1, 1) := by decide +kernel
theorem dL_law_439 : decode cL_law 439 = .ok (.aload_n 0, 1) := by decide +kernel
theorem dL_law_440 : decode cL_law 440 = .ok (.iload_n 3, 1) := by decide +kernel
theorem dL_law_441 : decode cL_law 441 = .ok (.iconst 1, 1) := by decide +kernel
theorem dL_law_442 : decode cL_law 442 = .ok (.iadd, 1) := by decide +kernel
theorem dL_law_443 : decode cL_law 443 = .ok (.iaload, 1) := by decide +kernel
theorem dL_law_444 : decode cL_law 444 = .ok (.invokevirtual 59, 3) := by decide +kernel
theorem dL_law_447 : decode cL_law 447 = .ok (.aload_n 2, 1) := by decide +kernel
theorem dL_law_448 : decode cL_law 448 = .ok (.aload_n 0, 1) := by decide +kernel
theorem dL_law_449 : decode cL_law 449 = .ok (.iload_n 3, 1) := by decide +kernel
theorem dL_law_450 : decode cL_law 450 = .ok (.iconst 1, 1) := by decide +kernel
theorem dL_law_451 : decode cL_law 451 = .ok (.iadd, 1) := by decide +kernel
theorem dL_law_452 : decode cL_law 452 = .ok (.iaload, 1) := by decide +kernel
theorem dL_law_453 : decode cL_law 453 = .ok (.invokevirtual 62, 3) := by decide +kernel
theorem dL_law_456 : decode cL_law 456 = .ok (.if_icmp .eq 97, 3) := by decide +kernel
theorem dL_law_459 : decode cL_law 459 = .ok (.iconst 0, 1) := by decide +kernel
theorem dL_law_460 : decode cL_law 460 = .ok (.ireturn, 1) := by decide +kernel
theorem dL_law_461 : decode cL_law 461 = .ok (.aload_n 1, 1) := by decide +kernel
theorem dL_law_462 : decode cL_law 462 = .ok (.aload_n 0, 1) := by decide +kernel
theorem dL_law_463 : decode cL_law 463 = .ok (.iload_n 3, 1) := by decide +kernel
theorem dL_law_464 : decode cL_law 464 = .ok (.iconst 1, 1) := by decide +kernel
theorem dL_law_465 : decode cL_law 465 = .ok (.iadd, 1) := by decide +kernel
theorem dL_law_466 : decode cL_law 466 = .ok (.iaload, 1) := by decide +kernel
theorem dL_law_467 : decode cL_law 467 = .ok (.aload_n 0, 1) := by decide +kernel
theorem dL_law_468 : decode cL_law 468 = .ok (.iload_n 3, 1) := by decide +kernel
theorem dL_law_469 : decode cL_law 469 = .ok (.iconst 2, 1) := by decide +kernel
theorem dL_law_470 : decode cL_law 470 = .ok (.iadd, 1) := by decide +kernel
theorem dL_law_471 : decode cL_law 471 = .ok (.iaload, 1) := by decide +kernel
theorem dL_law_472 : decode cL_law 472 = .ok (.invokevirtual 63, 3) := by decide +kernel
theorem dL_law_475 : decode cL_law 475 = .ok (.aload_n 2, 1) := by decide +kernel
theorem dL_law_476 : decode cL_law 476 = .ok (.aload_n 0, 1) := by decide +kernel
theorem dL_law_477 : decode cL_law 477 = .ok (.iload_n 3, 1) := by decide +kernel
theorem dL_law_478 : decode cL_law 478 = .ok (.iconst 1, 1) := by decide +kernel
theorem dL_law_479 : decode cL_law 479 = .ok (.iadd, 1) := by decide +kernel
theorem dL_law_480 : decode cL_law 480 = .ok (.iaload, 1) := by decide +kernel
theorem dL_law_481 : decode cL_law 481 = .ok (.aload_n 0, 1) := by decide +kernel
theorem dL_law_482 : decode cL_law 482 = .ok (.iload_n 3, 1) := by decide +kernel
theorem dL_law_483 : decode cL_law 483 = .ok (.iconst 2, 1) := by decide +kernel
theorem dL_law_484 : decode cL_law 484 = .ok (.iadd, 1) := by decide +kernel
theorem dL_law_485 : decode cL_law 485 = .ok (.iaload, 1) := by decide +kernel
theorem dL_law_486 : decode cL_law 486 = .ok (.invokevirtual 66, 3) := by decide +kernel
theorem dL_law_489 : decode cL_law 489 = .ok (.if_icmp .eq 64, 3) := by decide +kernel
theorem dL_law_492 : decode cL_law 492 = .ok (.iconst 0, 1) := by decide +kernel
theorem dL_law_493 : decode cL_law 493 = .ok (.ireturn, 1) := by decide +kernel
theorem dL_law_494 : decode cL_law 494 = .ok (.aload_n 1, 1) := by decide +kernel
theorem dL_law_495 : decode cL_law 495 = .ok (.invokevirtual 67, 3) := by decide +kernel
theorem dL_law_498 : decode cL_law 498 = .ok (.aload_n 2, 1) := by decide +kernel
theorem dL_law_499 : decode cL_law 499 = .ok (.invokevirtual 71, 3) := by decide +kernel
theorem dL_law_502 : decode cL_law 502 = .ok (.if_icmp .eq 51, 3) := by decide +kernel
theorem dL_law_505 : decode cL_law 505 = .ok (.iconst 0, 1) := by decide +kernel
theorem dL_law_506 : decode cL_law 506 = .ok (.ireturn, 1) := by decide +kernel
theorem dL_law_507 : decode cL_law 507 = .ok (.aload_n 1, 1) := by decide +kernel
theorem dL_law_508 : decode cL_law 508 = .ok (.aload_n 0, 1) := by decide +kernel
theorem dL_law_509 : decode cL_law 509 = .ok (.iload_n 3, 1) := by decide +kernel
theorem dL_law_510 : decode cL_law 510 = .ok (.iconst 1, 1) := by decide +kernel
theorem dL_law_511 : decode cL_law 511 = .ok (.iadd, 1) := by decide +kernel
theorem dL_law_512 : decode cL_law 512 = .ok (.iaload, 1) := by decide +kernel
theorem dL_law_513 : decode cL_law 513 = .ok (.invokevirtual 72, 3) := by decide +kernel
theorem dL_law_516 : decode cL_law 516 = .ok (.aload_n 2, 1) := by decide +kernel
theorem dL_law_517 : decode cL_law 517 = .ok (.aload_n 0, 1) := by decide +kernel
theorem dL_law_518 : decode cL_law 518 = .ok (.iload_n 3, 1) := by decide +kernel
theorem dL_law_519 : decode cL_law 519 = .ok (.iconst 1, 1) := by decide +kernel
theorem dL_law_520 : decode cL_law 520 = .ok (.iadd, 1) := by decide +kernel
theorem dL_law_521 : decode cL_law 521 = .ok (.iaload, 1) := by decide +kernel
theorem dL_law_522 : decode cL_law 522 = .ok (.invokevirtual 75, 3) := by decide +kernel
theorem dL_law_525 : decode cL_law 525 = .ok (.if_icmp .eq 28, 3) := by decide +kernel
theorem dL_law_528 : decode cL_law 528 = .ok (.iconst 0, 1) := by decide +kernel
theorem dL_law_529 : decode cL_law 529 = .ok (.ireturn, 1) := by decide +kernel
theorem dL_law_530 : decode cL_law 530 = .ok (.aload_n 1, 1) := by decide +kernel
theorem dL_law_531 : decode cL_law 531 = .ok (.aload_n 0, 1) := by decide +kernel
theorem dL_law_532 : decode cL_law 532 = .ok (.iload_n 3, 1) := by decide +kernel
theorem dL_law_533 : decode cL_law 533 = .ok (.iconst 1, 1) := by decide +kernel
theorem dL_law_534 : decode cL_law 534 = .ok (.iadd, 1) := by decide +kernel
theorem dL_law_535 : decode cL_law 535 = .ok (.iaload, 1) := by decide +kernel
theorem dL_law_536 : decode cL_law 536 = .ok (.invokevirtual 76, 3) := by decide +kernel
theorem dL_law_539 : decode cL_law 539 = .ok (.aload_n 2, 1) := by decide +kernel
theorem dL_law_540 : decode cL_law 540 = .ok (.aload_n 0, 1) := by decide +kernel
theorem dL_law_541 : decode cL_law 541 = .ok (.iload_n 3, 1) := by decide +kernel
theorem dL_law_542 : decode cL_law 542 = .ok (.iconst 1, 1) := by decide +kernel
theorem dL_law_543 : decode cL_law 543 = .ok (.iadd, 1) := by decide +kernel
theorem dL_law_544 : decode cL_law 544 = .ok (.iaload, 1) := by decide +kernel
theorem dL_law_545 : decode cL_law 545 = .ok (.invokevirtual 79, 3) := by decide +kernel
theorem dL_law_548 : decode cL_law 548 = .ok (.if_icmp .eq 5, 3) := by decide +kernel
theorem dL_law_551 : decode cL_law 551 = .ok (.iconst 0, 1) := by decide +kernel
theorem dL_law_552 : decode cL_law 552 = .ok (.ireturn, 1) := by decide +kernel
theorem dL_law_553 : decode cL_law 553 = .ok (.iinc 3 6, 3) := by decide +kernel
theorem dL_law_556 : decode cL_law 556 = .ok (.goto (-538), 3) := by decide +kernel
theorem dL_law_559 : decode cL_law 559 = .ok (.iconst 1, 1) := by decide +kernel
theorem dL_law_560 : decode cL_law 560 = .ok (.ireturn, 1) := by decide +kernel
abbrev vwCl : List vw_C := [(RX0, TX0, 2), (RX1, TX1, 14), (RX2, TX2, 10), (RX3, TX3, 14), (RX4, TX4, 10), (RX6, TX6, 16), (RX7, TX7, 3), (RX8, TX8, 3), (RX9, TX9, 6), (RX10, TX10, 13), (RX11, TX11, 68)]
