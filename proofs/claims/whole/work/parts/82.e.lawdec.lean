theorem d_Law_law_375 : decode b_Law_law 375 = .ok (.iconst 0, 1) := by decide +kernel
theorem d_Law_law_376 : decode b_Law_law 376 = .ok (.ireturn, 1) := by decide +kernel
theorem d_Law_law_377 : decode b_Law_law 377 = .ok (.goto 767, 3) := by decide +kernel
theorem d_Law_law_380 : decode b_Law_law 380 = .ok (.aload_n 1, 1) := by decide +kernel
theorem d_Law_law_381 : decode b_Law_law 381 = .ok (.aload_n 0, 1) := by decide +kernel
theorem d_Law_law_382 : decode b_Law_law 382 = .ok (.iload 4, 2) := by decide +kernel
theorem d_Law_law_384 : decode b_Law_law 384 = .ok (.iconst 1, 1) := by decide +kernel
theorem d_Law_law_385 : decode b_Law_law 385 = .ok (.iadd, 1) := by decide +kernel
theorem d_Law_law_386 : decode b_Law_law 386 = .ok (.iaload, 1) := by decide +kernel
theorem d_Law_law_387 : decode b_Law_law 387 = .ok (.aload_n 0, 1) := by decide +kernel
theorem d_Law_law_388 : decode b_Law_law 388 = .ok (.iload 4, 2) := by decide +kernel
theorem d_Law_law_390 : decode b_Law_law 390 = .ok (.iconst 2, 1) := by decide +kernel
theorem d_Law_law_391 : decode b_Law_law 391 = .ok (.iadd, 1) := by decide +kernel
theorem d_Law_law_392 : decode b_Law_law 392 = .ok (.iaload, 1) := by decide +kernel
theorem d_Law_law_393 : decode b_Law_law 393 = .ok (.invokevirtual 81, 3) := by decide +kernel
theorem d_Law_law_396 : decode b_Law_law 396 = .ok (.aload_n 2, 1) := by decide +kernel
theorem d_Law_law_397 : decode b_Law_law 397 = .ok (.aload_n 0, 1) := by decide +kernel
theorem d_Law_law_398 : decode b_Law_law 398 = .ok (.iload 4, 2) := by decide +kernel
theorem d_Law_law_400 : decode b_Law_law 400 = .ok (.iconst 1, 1) := by decide +kernel
theorem d_Law_law_401 : decode b_Law_law 401 = .ok (.iadd, 1) := by decide +kernel
theorem d_Law_law_402 : decode b_Law_law 402 = .ok (.iaload, 1) := by decide +kernel
theorem d_Law_law_403 : decode b_Law_law 403 = .ok (.aload_n 0, 1) := by decide +kernel
theorem d_Law_law_404 : decode b_Law_law 404 = .ok (.iload 4, 2) := by decide +kernel
theorem d_Law_law_406 : decode b_Law_law 406 = .ok (.iconst 2, 1) := by decide +kernel
theorem d_Law_law_407 : decode b_Law_law 407 = .ok (.iadd, 1) := by decide +kernel
theorem d_Law_law_408 : decode b_Law_law 408 = .ok (.iaload, 1) := by decide +kernel
theorem d_Law_law_409 : decode b_Law_law 409 = .ok (.invokevirtual 85, 3) := by decide +kernel
theorem d_Law_law_412 : decode b_Law_law 412 = .ok (.if_icmp .eq 732, 3) := by decide +kernel
theorem d_Law_law_415 : decode b_Law_law 415 = .ok (.iconst 0, 1) := by decide +kernel
theorem d_Law_law_416 : decode b_Law_law 416 = .ok (.ireturn, 1) := by decide +kernel
theorem d_Law_law_417 : decode b_Law_law 417 = .ok (.aload_n 1, 1) := by decide +kernel
theorem d_Law_law_418 : decode b_Law_law 418 = .ok (.aload_n 0, 1) := by decide +kernel
theorem d_Law_law_419 : decode b_Law_law 419 = .ok (.iload 4, 2) := by decide +kernel
theorem d_Law_law_421 : decode b_Law_law 421 = .ok (.iconst 1, 1) := by decide +kernel
theorem d_Law_law_422 : decode b_Law_law 422 = .ok (.iadd, 1) := by decide +kernel
theorem d_Law_law_423 : decode b_Law_law 423 = .ok (.iaload, 1) := by decide +kernel
theorem d_Law_law_424 : decode b_Law_law 424 = .ok (.aload_n 0, 1) := by decide +kernel
theorem d_Law_law_425 : decode b_Law_law 425 = .ok (.iload 4, 2) := by decide +kernel
theorem d_Law_law_427 : decode b_Law_law 427 = .ok (.iconst 2, 1) := by decide +kernel
theorem d_Law_law_428 : decode b_Law_law 428 = .ok (.iadd, 1) := by decide +kernel
theorem d_Law_law_429 : decode b_Law_law 429 = .ok (.iaload, 1) := by decide +kernel
theorem d_Law_law_430 : decode b_Law_law 430 = .ok (.aload_n 0, 1) := by decide +kernel
theorem d_Law_law_431 : decode b_Law_law 431 = .ok (.iload 4, 2) := by decide +kernel
theorem d_Law_law_433 : decode b_Law_law 433 = .ok (.iconst 3, 1) := by decide +kernel
theorem d_Law_law_434 : decode b_Law_law 434 = .ok (.iadd, 1) := by decide +kernel
theorem d_Law_law_435 : decode b_Law_law 435 = .ok (.iaload, 1) := by decide +kernel
theorem d_Law_law_436 : decode b_Law_law 436 = .ok (.aload_n 3, 1) := by decide +kernel
theorem d_Law_law_437 : decode b_Law_law 437 = .ok (.invokestatic 86, 3) := by decide +kernel
theorem d_Law_law_440 : decode b_Law_law 440 = .ok (.istore 5, 2) := by decide +kernel
theorem d_Law_law_442 : decode b_Law_law 442 = .ok (.aload_n 2, 1) := by decide +kernel
theorem d_Law_law_443 : decode b_Law_law 443 = .ok (.aload_n 0, 1) := by decide +kernel
theorem d_Law_law_444 : decode b_Law_law 444 = .ok (.iload 4, 2) := by decide +kernel
theorem d_Law_law_446 : decode b_Law_law 446 = .ok (.iconst 1, 1) := by decide +kernel
theorem d_Law_law_447 : decode b_Law_law 447 = .ok (.iadd, 1) := by decide +kernel
theorem d_Law_law_448 : decode b_Law_law 448 = .ok (.iaload, 1) := by decide +kernel
theorem d_Law_law_449 : decode b_Law_law 449 = .ok (.aload_n 0, 1) := by decide +kernel
theorem d_Law_law_450 : decode b_Law_law 450 = .ok (.iload 4, 2) := by decide +kernel
theorem d_Law_law_452 : decode b_Law_law 452 = .ok (.iconst 2, 1) := by decide +kernel
theorem d_Law_law_453 : decode b_Law_law 453 = .ok (.iadd, 1) := by decide +kernel
theorem d_Law_law_454 : decode b_Law_law 454 = .ok (.iaload, 1) := by decide +kernel
