theorem d_Law_law_284 : decode b_Law_law 284 = .ok (.aload_n 1, 1) := by decide +kernel
theorem d_Law_law_285 : decode b_Law_law 285 = .ok (.aload_n 0, 1) := by decide +kernel
theorem d_Law_law_286 : decode b_Law_law 286 = .ok (.iload 4, 2) := by decide +kernel
theorem d_Law_law_288 : decode b_Law_law 288 = .ok (.iconst 1, 1) := by decide +kernel
theorem d_Law_law_289 : decode b_Law_law 289 = .ok (.iadd, 1) := by decide +kernel
theorem d_Law_law_290 : decode b_Law_law 290 = .ok (.iaload, 1) := by decide +kernel
theorem d_Law_law_291 : decode b_Law_law 291 = .ok (.aload_n 0, 1) := by decide +kernel
theorem d_Law_law_292 : decode b_Law_law 292 = .ok (.iload 4, 2) := by decide +kernel
theorem d_Law_law_294 : decode b_Law_law 294 = .ok (.iconst 2, 1) := by decide +kernel
theorem d_Law_law_295 : decode b_Law_law 295 = .ok (.iadd, 1) := by decide +kernel
theorem d_Law_law_296 : decode b_Law_law 296 = .ok (.iaload, 1) := by decide +kernel
theorem d_Law_law_297 : decode b_Law_law 297 = .ok (.aload_n 0, 1) := by decide +kernel
theorem d_Law_law_298 : decode b_Law_law 298 = .ok (.iload 4, 2) := by decide +kernel
theorem d_Law_law_300 : decode b_Law_law 300 = .ok (.iconst 3, 1) := by decide +kernel
theorem d_Law_law_301 : decode b_Law_law 301 = .ok (.iadd, 1) := by decide +kernel
theorem d_Law_law_302 : decode b_Law_law 302 = .ok (.iaload, 1) := by decide +kernel
theorem d_Law_law_303 : decode b_Law_law 303 = .ok (.ifCond .eq 7, 3) := by decide +kernel
theorem d_Law_law_306 : decode b_Law_law 306 = .ok (.iconst 1, 1) := by decide +kernel
theorem d_Law_law_307 : decode b_Law_law 307 = .ok (.goto 4, 3) := by decide +kernel
theorem d_Law_law_310 : decode b_Law_law 310 = .ok (.iconst 0, 1) := by decide +kernel
theorem d_Law_law_311 : decode b_Law_law 311 = .ok (.aload_n 3, 1) := by decide +kernel
theorem d_Law_law_312 : decode b_Law_law 312 = .ok (.invokestatic 77, 3) := by decide +kernel
theorem d_Law_law_315 : decode b_Law_law 315 = .ok (.istore 5, 2) := by decide +kernel
theorem d_Law_law_317 : decode b_Law_law 317 = .ok (.aload_n 2, 1) := by decide +kernel
theorem d_Law_law_318 : decode b_Law_law 318 = .ok (.aload_n 0, 1) := by decide +kernel
theorem d_Law_law_319 : decode b_Law_law 319 = .ok (.iload 4, 2) := by decide +kernel
theorem d_Law_law_321 : decode b_Law_law 321 = .ok (.iconst 1, 1) := by decide +kernel
theorem d_Law_law_322 : decode b_Law_law 322 = .ok (.iadd, 1) := by decide +kernel
theorem d_Law_law_323 : decode b_Law_law 323 = .ok (.iaload, 1) := by decide +kernel
theorem d_Law_law_324 : decode b_Law_law 324 = .ok (.aload_n 0, 1) := by decide +kernel
theorem d_Law_law_325 : decode b_Law_law 325 = .ok (.iload 4, 2) := by decide +kernel
theorem d_Law_law_327 : decode b_Law_law 327 = .ok (.iconst 2, 1) := by decide +kernel
theorem d_Law_law_328 : decode b_Law_law 328 = .ok (.iadd, 1) := by decide +kernel
theorem d_Law_law_329 : decode b_Law_law 329 = .ok (.iaload, 1) := by decide +kernel
theorem d_Law_law_330 : decode b_Law_law 330 = .ok (.aload_n 0, 1) := by decide +kernel
theorem d_Law_law_331 : decode b_Law_law 331 = .ok (.iload 4, 2) := by decide +kernel
theorem d_Law_law_333 : decode b_Law_law 333 = .ok (.iconst 3, 1) := by decide +kernel
theorem d_Law_law_334 : decode b_Law_law 334 = .ok (.iadd, 1) := by decide +kernel
theorem d_Law_law_335 : decode b_Law_law 335 = .ok (.iaload, 1) := by decide +kernel
theorem d_Law_law_336 : decode b_Law_law 336 = .ok (.ifCond .eq 7, 3) := by decide +kernel
theorem d_Law_law_339 : decode b_Law_law 339 = .ok (.iconst 1, 1) := by decide +kernel
theorem d_Law_law_340 : decode b_Law_law 340 = .ok (.goto 4, 3) := by decide +kernel
theorem d_Law_law_343 : decode b_Law_law 343 = .ok (.iconst 0, 1) := by decide +kernel
theorem d_Law_law_344 : decode b_Law_law 344 = .ok (.invokevirtual 80, 3) := by decide +kernel
theorem d_Law_law_347 : decode b_Law_law 347 = .ok (.istore 6, 2) := by decide +kernel
theorem d_Law_law_349 : decode b_Law_law 349 = .ok (.aload_n 2, 1) := by decide +kernel
theorem d_Law_law_350 : decode b_Law_law 350 = .ok (.invokevirtual 67, 3) := by decide +kernel
theorem d_Law_law_353 : decode b_Law_law 353 = .ok (.iload 5, 2) := by decide +kernel
theorem d_Law_law_355 : decode b_Law_law 355 = .ok (.if_icmp .eq 5, 3) := by decide +kernel
theorem d_Law_law_358 : decode b_Law_law 358 = .ok (.iconst 0, 1) := by decide +kernel
theorem d_Law_law_359 : decode b_Law_law 359 = .ok (.ireturn, 1) := by decide +kernel
theorem d_Law_law_360 : decode b_Law_law 360 = .ok (.iload 5, 2) := by decide +kernel
theorem d_Law_law_362 : decode b_Law_law 362 = .ok (.ifCond .ne 15, 3) := by decide +kernel
theorem d_Law_law_365 : decode b_Law_law 365 = .ok (.aload_n 3, 1) := by decide +kernel
theorem d_Law_law_366 : decode b_Law_law 366 = .ok (.iconst 0, 1) := by decide +kernel
theorem d_Law_law_367 : decode b_Law_law 367 = .ok (.laload, 1) := by decide +kernel
theorem d_Law_law_368 : decode b_Law_law 368 = .ok (.iload 6, 2) := by decide +kernel
theorem d_Law_law_370 : decode b_Law_law 370 = .ok (.i2l, 1) := by decide +kernel
theorem d_Law_law_371 : decode b_Law_law 371 = .ok (.lcmp, 1) := by decide +kernel
theorem d_Law_law_372 : decode b_Law_law 372 = .ok (.ifCond .eq 5, 3) := by decide +kernel
