set_option maxRecDepth 20000 in
theorem AdL_law_31lawdec02_0 : decode cL_law 334 = .ok (.aload_n 0, 1) ∧ decode cL_law 335 = .ok (.iload_n 3, 1) ∧ decode cL_law 336 = .ok (.iconst 1, 1) ∧ decode cL_law 337 = .ok (.iadd, 1) ∧ decode cL_law 338 = .ok (.iaload, 1) ∧ decode cL_law 339 = .ok (.invokevirtual 47, 3) ∧ decode cL_law 342 = .ok (.pop, 1) ∧ decode cL_law 343 = .ok (.goto 498, 3) ∧ decode cL_law 346 = .ok (.aload_n 1, 1) ∧ decode cL_law 347 = .ok (.aload_n 0, 1) ∧ decode cL_law 348 = .ok (.iload_n 3, 1) ∧ decode cL_law 349 = .ok (.iconst 1, 1) ∧ decode cL_law 350 = .ok (.iadd, 1) ∧ decode cL_law 351 = .ok (.iaload, 1) ∧ decode cL_law 352 = .ok (.aload_n 0, 1) ∧ decode cL_law 353 = .ok (.iload_n 3, 1) := by decide +kernel
theorem dL_law_334 : decode cL_law 334 = .ok (.aload_n 0, 1) := AdL_law_31lawdec02_0.1
theorem dL_law_335 : decode cL_law 335 = .ok (.iload_n 3, 1) := AdL_law_31lawdec02_0.2.1
theorem dL_law_336 : decode cL_law 336 = .ok (.iconst 1, 1) := AdL_law_31lawdec02_0.2.2.1
theorem dL_law_337 : decode cL_law 337 = .ok (.iadd, 1) := AdL_law_31lawdec02_0.2.2.2.1
theorem dL_law_338 : decode cL_law 338 = .ok (.iaload, 1) := AdL_law_31lawdec02_0.2.2.2.2.1
theorem dL_law_339 : decode cL_law 339 = .ok (.invokevirtual 47, 3) := AdL_law_31lawdec02_0.2.2.2.2.2.1
theorem dL_law_342 : decode cL_law 342 = .ok (.pop, 1) := AdL_law_31lawdec02_0.2.2.2.2.2.2.1
theorem dL_law_343 : decode cL_law 343 = .ok (.goto 498, 3) := AdL_law_31lawdec02_0.2.2.2.2.2.2.2.1
theorem dL_law_346 : decode cL_law 346 = .ok (.aload_n 1, 1) := AdL_law_31lawdec02_0.2.2.2.2.2.2.2.2.1
theorem dL_law_347 : decode cL_law 347 = .ok (.aload_n 0, 1) := AdL_law_31lawdec02_0.2.2.2.2.2.2.2.2.2.1
theorem dL_law_348 : decode cL_law 348 = .ok (.iload_n 3, 1) := AdL_law_31lawdec02_0.2.2.2.2.2.2.2.2.2.2.1
theorem dL_law_349 : decode cL_law 349 = .ok (.iconst 1, 1) := AdL_law_31lawdec02_0.2.2.2.2.2.2.2.2.2.2.2.1
theorem dL_law_350 : decode cL_law 350 = .ok (.iadd, 1) := AdL_law_31lawdec02_0.2.2.2.2.2.2.2.2.2.2.2.2.1
theorem dL_law_351 : decode cL_law 351 = .ok (.iaload, 1) := AdL_law_31lawdec02_0.2.2.2.2.2.2.2.2.2.2.2.2.2.1
theorem dL_law_352 : decode cL_law 352 = .ok (.aload_n 0, 1) := AdL_law_31lawdec02_0.2.2.2.2.2.2.2.2.2.2.2.2.2.2.1
theorem dL_law_353 : decode cL_law 353 = .ok (.iload_n 3, 1) := AdL_law_31lawdec02_0.2.2.2.2.2.2.2.2.2.2.2.2.2.2.2
set_option maxRecDepth 20000 in
theorem AdL_law_31lawdec02_1 : decode cL_law 354 = .ok (.iconst 2, 1) ∧ decode cL_law 355 = .ok (.iadd, 1) ∧ decode cL_law 356 = .ok (.iaload, 1) ∧ decode cL_law 357 = .ok (.ifCond .eq 7, 3) ∧ decode cL_law 360 = .ok (.iconst 1, 1) ∧ decode cL_law 361 = .ok (.goto 4, 3) ∧ decode cL_law 364 = .ok (.iconst 0, 1) ∧ decode cL_law 365 = .ok (.invokevirtual 48, 3) ∧ decode cL_law 368 = .ok (.pop, 1) ∧ decode cL_law 369 = .ok (.aload_n 2, 1) ∧ decode cL_law 370 = .ok (.aload_n 0, 1) ∧ decode cL_law 371 = .ok (.iload_n 3, 1) ∧ decode cL_law 372 = .ok (.iconst 1, 1) ∧ decode cL_law 373 = .ok (.iadd, 1) ∧ decode cL_law 374 = .ok (.iaload, 1) ∧ decode cL_law 375 = .ok (.aload_n 0, 1) := by decide +kernel
theorem dL_law_354 : decode cL_law 354 = .ok (.iconst 2, 1) := AdL_law_31lawdec02_1.1
theorem dL_law_355 : decode cL_law 355 = .ok (.iadd, 1) := AdL_law_31lawdec02_1.2.1
theorem dL_law_356 : decode cL_law 356 = .ok (.iaload, 1) := AdL_law_31lawdec02_1.2.2.1
theorem dL_law_357 : decode cL_law 357 = .ok (.ifCond .eq 7, 3) := AdL_law_31lawdec02_1.2.2.2.1
theorem dL_law_360 : decode cL_law 360 = .ok (.iconst 1, 1) := AdL_law_31lawdec02_1.2.2.2.2.1
theorem dL_law_361 : decode cL_law 361 = .ok (.goto 4, 3) := AdL_law_31lawdec02_1.2.2.2.2.2.1
theorem dL_law_364 : decode cL_law 364 = .ok (.iconst 0, 1) := AdL_law_31lawdec02_1.2.2.2.2.2.2.1
theorem dL_law_365 : decode cL_law 365 = .ok (.invokevirtual 48, 3) := AdL_law_31lawdec02_1.2.2.2.2.2.2.2.1
theorem dL_law_368 : decode cL_law 368 = .ok (.pop, 1) := AdL_law_31lawdec02_1.2.2.2.2.2.2.2.2.1
theorem dL_law_369 : decode cL_law 369 = .ok (.aload_n 2, 1) := AdL_law_31lawdec02_1.2.2.2.2.2.2.2.2.2.1
theorem dL_law_370 : decode cL_law 370 = .ok (.aload_n 0, 1) := AdL_law_31lawdec02_1.2.2.2.2.2.2.2.2.2.2.1
theorem dL_law_371 : decode cL_law 371 = .ok (.iload_n 3, 1) := AdL_law_31lawdec02_1.2.2.2.2.2.2.2.2.2.2.2.1
theorem dL_law_372 : decode cL_law 372 = .ok (.iconst 1, 1) := AdL_law_31lawdec02_1.2.2.2.2.2.2.2.2.2.2.2.2.1
theorem dL_law_373 : decode cL_law 373 = .ok (.iadd, 1) := AdL_law_31lawdec02_1.2.2.2.2.2.2.2.2.2.2.2.2.2.1
theorem dL_law_374 : decode cL_law 374 = .ok (.iaload, 1) := AdL_law_31lawdec02_1.2.2.2.2.2.2.2.2.2.2.2.2.2.2.1
theorem dL_law_375 : decode cL_law 375 = .ok (.aload_n 0, 1) := AdL_law_31lawdec02_1.2.2.2.2.2.2.2.2.2.2.2.2.2.2.2
set_option maxRecDepth 20000 in
theorem AdL_law_31lawdec02_2 : decode cL_law 376 = .ok (.iload_n 3, 1) ∧ decode cL_law 377 = .ok (.iconst 2, 1) ∧ decode cL_law 378 = .ok (.iadd, 1) ∧ decode cL_law 379 = .ok (.iaload, 1) ∧ decode cL_law 380 = .ok (.ifCond .eq 7, 3) ∧ decode cL_law 383 = .ok (.iconst 1, 1) ∧ decode cL_law 384 = .ok (.goto 4, 3) ∧ decode cL_law 387 = .ok (.iconst 0, 1) ∧ decode cL_law 388 = .ok (.invokevirtual 52, 3) ∧ decode cL_law 391 = .ok (.pop, 1) ∧ decode cL_law 392 = .ok (.goto 449, 3) ∧ decode cL_law 395 = .ok (.aload_n 1, 1) ∧ decode cL_law 396 = .ok (.invokevirtual 53, 3) ∧ decode cL_law 399 = .ok (.pop, 1) ∧ decode cL_law 400 = .ok (.aload_n 2, 1) ∧ decode cL_law 401 = .ok (.invokevirtual 56, 3) := by decide +kernel
theorem dL_law_376 : decode cL_law 376 = .ok (.iload_n 3, 1) := AdL_law_31lawdec02_2.1
theorem dL_law_377 : decode cL_law 377 = .ok (.iconst 2, 1) := AdL_law_31lawdec02_2.2.1
theorem dL_law_378 : decode cL_law 378 = .ok (.iadd, 1) := AdL_law_31lawdec02_2.2.2.1
theorem dL_law_379 : decode cL_law 379 = .ok (.iaload, 1) := AdL_law_31lawdec02_2.2.2.2.1
theorem dL_law_380 : decode cL_law 380 = .ok (.ifCond .eq 7, 3) := AdL_law_31lawdec02_2.2.2.2.2.1
theorem dL_law_383 : decode cL_law 383 = .ok (.iconst 1, 1) := AdL_law_31lawdec02_2.2.2.2.2.2.1
theorem dL_law_384 : decode cL_law 384 = .ok (.goto 4, 3) := AdL_law_31lawdec02_2.2.2.2.2.2.2.1
theorem dL_law_387 : decode cL_law 387 = .ok (.iconst 0, 1) := AdL_law_31lawdec02_2.2.2.2.2.2.2.2.1
theorem dL_law_388 : decode cL_law 388 = .ok (.invokevirtual 52, 3) := AdL_law_31lawdec02_2.2.2.2.2.2.2.2.2.1
theorem dL_law_391 : decode cL_law 391 = .ok (.pop, 1) := AdL_law_31lawdec02_2.2.2.2.2.2.2.2.2.2.1
theorem dL_law_392 : decode cL_law 392 = .ok (.goto 449, 3) := AdL_law_31lawdec02_2.2.2.2.2.2.2.2.2.2.2.1
theorem dL_law_395 : decode cL_law 395 = .ok (.aload_n 1, 1) := AdL_law_31lawdec02_2.2.2.2.2.2.2.2.2.2.2.2.1
theorem dL_law_396 : decode cL_law 396 = .ok (.invokevirtual 53, 3) := AdL_law_31lawdec02_2.2.2.2.2.2.2.2.2.2.2.2.2.1
theorem dL_law_399 : decode cL_law 399 = .ok (.pop, 1) := AdL_law_31lawdec02_2.2.2.2.2.2.2.2.2.2.2.2.2.2.1
theorem dL_law_400 : decode cL_law 400 = .ok (.aload_n 2, 1) := AdL_law_31lawdec02_2.2.2.2.2.2.2.2.2.2.2.2.2.2.2.1
theorem dL_law_401 : decode cL_law 401 = .ok (.invokevirtual 56, 3) := AdL_law_31lawdec02_2.2.2.2.2.2.2.2.2.2.2.2.2.2.2.2
set_option maxRecDepth 20000 in
theorem AdL_law_31lawdec02_3 : decode cL_law 404 = .ok (.pop, 1) ∧ decode cL_law 405 = .ok (.goto 436, 3) ∧ decode cL_law 408 = .ok (.aload_n 1, 1) ∧ decode cL_law 409 = .ok (.aload_n 0, 1) ∧ decode cL_law 410 = .ok (.iload_n 3, 1) ∧ decode cL_law 411 = .ok (.iconst 1, 1) ∧ decode cL_law 412 = .ok (.iadd, 1) ∧ decode cL_law 413 = .ok (.iaload, 1) ∧ decode cL_law 414 = .ok (.invokevirtual 57, 3) ∧ decode cL_law 417 = .ok (.pop, 1) ∧ decode cL_law 418 = .ok (.aload_n 2, 1) ∧ decode cL_law 419 = .ok (.aload_n 0, 1) ∧ decode cL_law 420 = .ok (.iload_n 3, 1) ∧ decode cL_law 421 = .ok (.iconst 1, 1) ∧ decode cL_law 422 = .ok (.iadd, 1) ∧ decode cL_law 423 = .ok (.iaload, 1) := by decide +kernel
theorem dL_law_404 : decode cL_law 404 = .ok (.pop, 1) := AdL_law_31lawdec02_3.1
theorem dL_law_405 : decode cL_law 405 = .ok (.goto 436, 3) := AdL_law_31lawdec02_3.2.1
theorem dL_law_408 : decode cL_law 408 = .ok (.aload_n 1, 1) := AdL_law_31lawdec02_3.2.2.1
theorem dL_law_409 : decode cL_law 409 = .ok (.aload_n 0, 1) := AdL_law_31lawdec02_3.2.2.2.1
theorem dL_law_410 : decode cL_law 410 = .ok (.iload_n 3, 1) := AdL_law_31lawdec02_3.2.2.2.2.1
theorem dL_law_411 : decode cL_law 411 = .ok (.iconst 1, 1) := AdL_law_31lawdec02_3.2.2.2.2.2.1
theorem dL_law_412 : decode cL_law 412 = .ok (.iadd, 1) := AdL_law_31lawdec02_3.2.2.2.2.2.2.1
theorem dL_law_413 : decode cL_law 413 = .ok (.iaload, 1) := AdL_law_31lawdec02_3.2.2.2.2.2.2.2.1
theorem dL_law_414 : decode cL_law 414 = .ok (.invokevirtual 57, 3) := AdL_law_31lawdec02_3.2.2.2.2.2.2.2.2.1
theorem dL_law_417 : decode cL_law 417 = .ok (.pop, 1) := AdL_law_31lawdec02_3.2.2.2.2.2.2.2.2.2.1
theorem dL_law_418 : decode cL_law 418 = .ok (.aload_n 2, 1) := AdL_law_31lawdec02_3.2.2.2.2.2.2.2.2.2.2.1
theorem dL_law_419 : decode cL_law 419 = .ok (.aload_n 0, 1) := AdL_law_31lawdec02_3.2.2.2.2.2.2.2.2.2.2.2.1
theorem dL_law_420 : decode cL_law 420 = .ok (.iload_n 3, 1) := AdL_law_31lawdec02_3.2.2.2.2.2.2.2.2.2.2.2.2.1
theorem dL_law_421 : decode cL_law 421 = .ok (.iconst 1, 1) := AdL_law_31lawdec02_3.2.2.2.2.2.2.2.2.2.2.2.2.2.1
theorem dL_law_422 : decode cL_law 422 = .ok (.iadd, 1) := AdL_law_31lawdec02_3.2.2.2.2.2.2.2.2.2.2.2.2.2.2.1
theorem dL_law_423 : decode cL_law 423 = .ok (.iaload, 1) := AdL_law_31lawdec02_3.2.2.2.2.2.2.2.2.2.2.2.2.2.2.2
set_option maxRecDepth 20000 in
theorem AdL_law_31lawdec02_4 : decode cL_law 424 = .ok (.invokevirtual 60, 3) ∧ decode cL_law 427 = .ok (.pop, 1) ∧ decode cL_law 428 = .ok (.goto 413, 3) ∧ decode cL_law 431 = .ok (.aload_n 1, 1) ∧ decode cL_law 432 = .ok (.invokevirtual 61, 3) ∧ decode cL_law 435 = .ok (.pop, 1) := by decide +kernel
theorem dL_law_424 : decode cL_law 424 = .ok (.invokevirtual 60, 3) := AdL_law_31lawdec02_4.1
theorem dL_law_427 : decode cL_law 427 = .ok (.pop, 1) := AdL_law_31lawdec02_4.2.1
theorem dL_law_428 : decode cL_law 428 = .ok (.goto 413, 3) := AdL_law_31lawdec02_4.2.2.1
theorem dL_law_431 : decode cL_law 431 = .ok (.aload_n 1, 1) := AdL_law_31lawdec02_4.2.2.2.1
theorem dL_law_432 : decode cL_law 432 = .ok (.invokevirtual 61, 3) := AdL_law_31lawdec02_4.2.2.2.2.1
theorem dL_law_435 : decode cL_law 435 = .ok (.pop, 1) := AdL_law_31lawdec02_4.2.2.2.2.2
