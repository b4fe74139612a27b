theorem dc_L_law_236 : decode bc_L_law 236 = .ok (.iaload, 1) := by decide +kernel
theorem dc_L_law_237 : decode bc_L_law 237 = .ok (.aload_n 3, 1) := by decide +kernel
theorem dc_L_law_238 : decode bc_L_law 238 = .ok (.invokestatic 90, 3) := by decide +kernel
theorem dc_L_law_241 : decode bc_L_law 241 = .ok (.istore 5, 2) := by decide +kernel
theorem dc_L_law_243 : decode bc_L_law 243 = .ok (.aload_n 2, 1) := by decide +kernel
theorem dc_L_law_244 : decode bc_L_law 244 = .ok (.aload_n 0, 1) := by decide +kernel
theorem dc_L_law_245 : decode bc_L_law 245 = .ok (.iload 4, 2) := by decide +kernel
theorem dc_L_law_247 : decode bc_L_law 247 = .ok (.iconst 1, 1) := by decide +kernel
theorem dc_L_law_248 : decode bc_L_law 248 = .ok (.iadd, 1) := by decide +kernel
theorem dc_L_law_249 : decode bc_L_law 249 = .ok (.iaload, 1) := by decide +kernel
theorem dc_L_law_250 : decode bc_L_law 250 = .ok (.aload_n 0, 1) := by decide +kernel
theorem dc_L_law_251 : decode bc_L_law 251 = .ok (.iload 4, 2) := by decide +kernel
theorem dc_L_law_253 : decode bc_L_law 253 = .ok (.iconst 2, 1) := by decide +kernel
theorem dc_L_law_254 : decode bc_L_law 254 = .ok (.iadd, 1) := by decide +kernel
theorem dc_L_law_255 : decode bc_L_law 255 = .ok (.iaload, 1) := by decide +kernel
theorem dc_L_law_256 : decode bc_L_law 256 = .ok (.invokevirtual 93, 3) := by decide +kernel
theorem dc_L_law_259 : decode bc_L_law 259 = .ok (.istore 6, 2) := by decide +kernel
theorem dc_L_law_261 : decode bc_L_law 261 = .ok (.aload_n 2, 1) := by decide +kernel
theorem dc_L_law_262 : decode bc_L_law 262 = .ok (.invokevirtual 83, 3) := by decide +kernel
theorem dc_L_law_265 : decode bc_L_law 265 = .ok (.iload 5, 2) := by decide +kernel
theorem dc_L_law_267 : decode bc_L_law 267 = .ok (.if_icmp .eq 5, 3) := by decide +kernel
theorem dc_L_law_270 : decode bc_L_law 270 = .ok (.iconst 0, 1) := by decide +kernel
theorem dc_L_law_271 : decode bc_L_law 271 = .ok (.ireturn, 1) := by decide +kernel
theorem dc_L_law_272 : decode bc_L_law 272 = .ok (.iload 5, 2) := by decide +kernel
theorem dc_L_law_274 : decode bc_L_law 274 = .ok (.ifCond .ne 15, 3) := by decide +kernel
theorem dc_L_law_277 : decode bc_L_law 277 = .ok (.aload_n 3, 1) := by decide +kernel
theorem dc_L_law_278 : decode bc_L_law 278 = .ok (.iconst 0, 1) := by decide +kernel
theorem dc_L_law_279 : decode bc_L_law 279 = .ok (.laload, 1) := by decide +kernel
theorem dc_L_law_280 : decode bc_L_law 280 = .ok (.iload 6, 2) := by decide +kernel
theorem dc_L_law_282 : decode bc_L_law 282 = .ok (.i2l, 1) := by decide +kernel
theorem dc_L_law_283 : decode bc_L_law 283 = .ok (.lcmp, 1) := by decide +kernel
theorem dc_L_law_284 : decode bc_L_law 284 = .ok (.ifCond .eq 5, 3) := by decide +kernel
theorem dc_L_law_287 : decode bc_L_law 287 = .ok (.iconst 0, 1) := by decide +kernel
theorem dc_L_law_288 : decode bc_L_law 288 = .ok (.ireturn, 1) := by decide +kernel
theorem dc_L_law_289 : decode bc_L_law 289 = .ok (.goto 960, 3) := by decide +kernel
theorem dc_L_law_292 : decode bc_L_law 292 = .ok (.aload_n 1, 1) := by decide +kernel
theorem dc_L_law_293 : decode bc_L_law 293 = .ok (.aload_n 0, 1) := by decide +kernel
theorem dc_L_law_294 : decode bc_L_law 294 = .ok (.iload 4, 2) := by decide +kernel
theorem dc_L_law_296 : decode bc_L_law 296 = .ok (.iconst 1, 1) := by decide +kernel
theorem dc_L_law_297 : decode bc_L_law 297 = .ok (.iadd, 1) := by decide +kernel
theorem dc_L_law_298 : decode bc_L_law 298 = .ok (.iaload, 1) := by decide +kernel
theorem dc_L_law_299 : decode bc_L_law 299 = .ok (.aload_n 0, 1) := by decide +kernel
theorem dc_L_law_300 : decode bc_L_law 300 = .ok (.iload 4, 2) := by decide +kernel
theorem dc_L_law_302 : decode bc_L_law 302 = .ok (.iconst 2, 1) := by decide +kernel
theorem dc_L_law_303 : decode bc_L_law 303 = .ok (.iadd, 1) := by decide +kernel
theorem dc_L_law_304 : decode bc_L_law 304 = .ok (.iaload, 1) := by decide +kernel
theorem dc_L_law_305 : decode bc_L_law 305 = .ok (.aload_n 0, 1) := by decide +kernel
theorem dc_L_law_306 : decode bc_L_law 306 = .ok (.iload 4, 2) := by decide +kernel
theorem dc_L_law_308 : decode bc_L_law 308 = .ok (.iconst 3, 1) := by decide +kernel
theorem dc_L_law_309 : decode bc_L_law 309 = .ok (.iadd, 1) := by decide +kernel
theorem dc_L_law_310 : decode bc_L_law 310 = .ok (.iaload, 1) := by decide +kernel
theorem dc_L_law_311 : decode bc_L_law 311 = .ok (.aload_n 3, 1) := by decide +kernel
theorem dc_L_law_312 : decode bc_L_law 312 = .ok (.invokestatic 94, 3) := by decide +kernel
theorem dc_L_law_315 : decode bc_L_law 315 = .ok (.istore 5, 2) := by decide +kernel
theorem dc_L_law_317 : decode bc_L_law 317 = .ok (.aload_n 2, 1) := by decide +kernel
theorem dc_L_law_318 : decode bc_L_law 318 = .ok (.aload_n 0, 1) := by decide +kernel
theorem dc_L_law_319 : decode bc_L_law 319 = .ok (.iload 4, 2) := by decide +kernel
theorem dc_L_law_321 : decode bc_L_law 321 = .ok (.iconst 1, 1) := by decide +kernel
theorem dc_L_law_322 : decode bc_L_law 322 = .ok (.iadd, 1) := by decide +kernel
theorem dc_L_law_323 : decode bc_L_law 323 = .ok (.iaload, 1) := by decide +kernel
theorem dc_L_law_324 : decode bc_L_law 324 = .ok (.aload_n 0, 1) := by decide +kernel
theorem dc_L_law_325 : decode bc_L_law 325 = .ok (.iload 4, 2) := by decide +kernel
theorem dc_L_law_327 : decode bc_L_law 327 = .ok (.iconst 2, 1) := by decide +kernel
theorem dc_L_law_328 : decode bc_L_law 328 = .ok (.iadd, 1) := by decide +kernel
theorem dc_L_law_329 : decode bc_L_law 329 = .ok (.iaload, 1) := by decide +kernel
theorem dc_L_law_330 : decode bc_L_law 330 = .ok (.aload_n 0, 1) := by decide +kernel
theorem dc_L_law_331 : decode bc_L_law 331 = .ok (.iload 4, 2) := by decide +kernel
theorem dc_L_law_333 : decode bc_L_law 333 = .ok (.iconst 3, 1) := by decide +kernel
theorem dc_L_law_334 : decode bc_L_law 334 = .ok (.iadd, 1) := by decide +kernel
theorem dc_L_law_335 : decode bc_L_law 335 = .ok (.iaload, 1) := by decide +kernel
theorem dc_L_law_336 : decode bc_L_law 336 = .ok (.invokevirtual 97, 3) := by decide +kernel
theorem dc_L_law_339 : decode bc_L_law 339 = .ok (.istore 6, 2) := by decide +kernel
theorem dc_L_law_341 : decode bc_L_law 341 = .ok (.aload_n 2, 1) := by decide +kernel
theorem dc_L_law_342 : decode bc_L_law 342 = .ok (.invokevirtual 83, 3) := by decide +kernel
theorem dc_L_law_345 : decode bc_L_law 345 = .ok (.iload 5, 2) := by decide +kernel
theorem dc_L_law_347 : decode bc_L_law 347 = .ok (.if_icmp .eq 5, 3) := by decide +kernel
theorem dc_L_law_350 : decode bc_L_law 350 = .ok (.iconst 0, 1) := by decide +kernel
theorem dc_L_law_351 : decode bc_L_law 351 = .ok (.ireturn, 1) := by decide +kernel
theorem dc_L_law_352 : decode bc_L_law 352 = .ok (.iload 5, 2) := by decide +kernel
theorem dc_L_law_354 : decode bc_L_law 354 = .ok (.ifCond .ne 15, 3) := by decide +kernel
theorem dc_L_law_357 : decode bc_L_law 357 = .ok (.aload_n 3, 1) := by decide +kernel
theorem dc_L_law_358 : decode bc_L_law 358 = .ok (.iconst 0, 1) := by decide +kernel
theorem dc_L_law_359 : decode bc_L_law 359 = .ok (.laload, 1) := by decide +kernel
theorem dc_L_law_360 : decode bc_L_law 360 = .ok (.iload 6, 2) := by decide +kernel
theorem dc_L_law_362 : decode bc_L_law 362 = .ok (.i2l, 1) := by decide +kernel
theorem dc_L_law_363 : decode bc_L_law 363 = .ok (.lcmp, 1) := by decide +kernel
theorem dc_L_law_364 : decode bc_L_law 364 = .ok (.ifCond .eq 5, 3) := by decide +kernel
theorem dc_L_law_367 : decode bc_L_law 367 = .ok (.iconst 0, 1) := by decide +kernel
theorem dc_L_law_368 : decode bc_L_law 368 = .ok (.ireturn, 1) := by decide +kernel
theorem dc_L_law_369 : decode bc_L_law 369 = .ok (.goto 880, 3) := by decide +kernel
theorem dc_L_law_372 : decode bc_L_law 372 = .ok (.aload_n 1, 1) := by decide +kernel
theorem dc_L_law_373 : decode bc_L_law 373 = .ok (.aload_n 0, 1) := by decide +kernel
theorem dc_L_law_374 : decode bc_L_law 374 = .ok (.iload 4, 2) := by decide +kernel
theorem dc_L_law_376 : decode bc_L_law 376 = .ok (.iconst 1, 1) := by decide +kernel
theorem dc_L_law_377 : decode bc_L_law 377 = .ok (.iadd, 1) := by decide +kernel
