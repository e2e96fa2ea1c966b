theorem d_LW_law_294 : decode M_LW_law.2.1 294 = .ok (.invokevirtual 33, 3) := by decide +kernel
theorem d_LW_law_297 : decode M_LW_law.2.1 297 = .ok (.if_icmp .eq 729, 3) := by decide +kernel
theorem d_LW_law_300 : decode M_LW_law.2.1 300 = .ok (.iconst 0, 1) := by decide +kernel
theorem d_LW_law_301 : decode M_LW_law.2.1 301 = .ok (.ireturn, 1) := by decide +kernel
theorem d_LW_law_302 : decode M_LW_law.2.1 302 = .ok (.aload_n 1, 1) := by decide +kernel
theorem d_LW_law_303 : decode M_LW_law.2.1 303 = .ok (.aload_n 0, 1) := by decide +kernel
theorem d_LW_law_304 : decode M_LW_law.2.1 304 = .ok (.iload_n 3, 1) := by decide +kernel
theorem d_LW_law_305 : decode M_LW_law.2.1 305 = .ok (.iconst 1, 1) := by decide +kernel
theorem d_LW_law_306 : decode M_LW_law.2.1 306 = .ok (.iadd, 1) := by decide +kernel
theorem d_LW_law_307 : decode M_LW_law.2.1 307 = .ok (.iaload, 1) := by decide +kernel
theorem d_LW_law_308 : decode M_LW_law.2.1 308 = .ok (.invokevirtual 34, 3) := by decide +kernel
theorem d_LW_law_311 : decode M_LW_law.2.1 311 = .ok (.aload_n 2, 1) := by decide +kernel
theorem d_LW_law_312 : decode M_LW_law.2.1 312 = .ok (.aload_n 0, 1) := by decide +kernel
theorem d_LW_law_313 : decode M_LW_law.2.1 313 = .ok (.iload_n 3, 1) := by decide +kernel
theorem d_LW_law_314 : decode M_LW_law.2.1 314 = .ok (.iconst 1, 1) := by decide +kernel
theorem d_LW_law_315 : decode M_LW_law.2.1 315 = .ok (.iadd, 1) := by decide +kernel
theorem d_LW_law_316 : decode M_LW_law.2.1 316 = .ok (.iaload, 1) := by decide +kernel
theorem d_LW_law_317 : decode M_LW_law.2.1 317 = .ok (.invokevirtual 37, 3) := by decide +kernel
theorem d_LW_law_320 : decode M_LW_law.2.1 320 = .ok (.if_icmp .eq 706, 3) := by decide +kernel
theorem d_LW_law_323 : decode M_LW_law.2.1 323 = .ok (.iconst 0, 1) := by decide +kernel
theorem d_LW_law_324 : decode M_LW_law.2.1 324 = .ok (.ireturn, 1) := by decide +kernel
theorem d_LW_law_325 : decode M_LW_law.2.1 325 = .ok (.aload_n 1, 1) := by decide +kernel
theorem d_LW_law_326 : decode M_LW_law.2.1 326 = .ok (.aload_n 0, 1) := by decide +kernel
theorem d_LW_law_327 : decode M_LW_law.2.1 327 = .ok (.iload_n 3, 1) := by decide +kernel
theorem d_LW_law_328 : decode M_LW_law.2.1 328 = .ok (.iconst 1, 1) := by decide +kernel
theorem d_LW_law_329 : decode M_LW_law.2.1 329 = .ok (.iadd, 1) := by decide +kernel
theorem d_LW_law_330 : decode M_LW_law.2.1 330 = .ok (.iaload, 1) := by decide +kernel
theorem d_LW_law_331 : decode M_LW_law.2.1 331 = .ok (.invokevirtual 38, 3) := by decide +kernel
theorem d_LW_law_334 : decode M_LW_law.2.1 334 = .ok (.aload_n 2, 1) := by decide +kernel
theorem d_LW_law_335 : decode M_LW_law.2.1 335 = .ok (.aload_n 0, 1) := by decide +kernel
theorem d_LW_law_336 : decode M_LW_law.2.1 336 = .ok (.iload_n 3, 1) := by decide +kernel
theorem d_LW_law_337 : decode M_LW_law.2.1 337 = .ok (.iconst 1, 1) := by decide +kernel
theorem d_LW_law_338 : decode M_LW_law.2.1 338 = .ok (.iadd, 1) := by decide +kernel
theorem d_LW_law_339 : decode M_LW_law.2.1 339 = .ok (.iaload, 1) := by decide +kernel
theorem d_LW_law_340 : decode M_LW_law.2.1 340 = .ok (.invokevirtual 41, 3) := by decide +kernel
theorem d_LW_law_343 : decode M_LW_law.2.1 343 = .ok (.if_icmp .eq 683, 3) := by decide +kernel
theorem d_LW_law_346 : decode M_LW_law.2.1 346 = .ok (.iconst 0, 1) := by decide +kernel
theorem d_LW_law_347 : decode M_LW_law.2.1 347 = .ok (.ireturn, 1) := by decide +kernel
theorem d_LW_law_348 : decode M_LW_law.2.1 348 = .ok (.aload_n 1, 1) := by decide +kernel
theorem d_LW_law_349 : decode M_LW_law.2.1 349 = .ok (.aload_n 0, 1) := by decide +kernel
theorem d_LW_law_350 : decode M_LW_law.2.1 350 = .ok (.iload_n 3, 1) := by decide +kernel
theorem d_LW_law_351 : decode M_LW_law.2.1 351 = .ok (.iconst 1, 1) := by decide +kernel
theorem d_LW_law_352 : decode M_LW_law.2.1 352 = .ok (.iadd, 1) := by decide +kernel
theorem d_LW_law_353 : decode M_LW_law.2.1 353 = .ok (.iaload, 1) := by decide +kernel
theorem d_LW_law_354 : decode M_LW_law.2.1 354 = .ok (.invokevirtual 42, 3) := by decide +kernel
theorem d_LW_law_357 : decode M_LW_law.2.1 357 = .ok (.aload_n 2, 1) := by decide +kernel
theorem d_LW_law_358 : decode M_LW_law.2.1 358 = .ok (.aload_n 0, 1) := by decide +kernel
theorem d_LW_law_359 : decode M_LW_law.2.1 359 = .ok (.iload_n 3, 1) := by decide +kernel
theorem d_LW_law_360 : decode M_LW_law.2.1 360 = .ok (.iconst 1, 1) := by decide +kernel
theorem d_LW_law_361 : decode M_LW_law.2.1 361 = .ok (.iadd, 1) := by decide +kernel
theorem d_LW_law_362 : decode M_LW_law.2.1 362 = .ok (.iaload, 1) := by decide +kernel
theorem d_LW_law_363 : decode M_LW_law.2.1 363 = .ok (.invokevirtual 45, 3) := by decide +kernel
theorem d_LW_law_366 : decode M_LW_law.2.1 366 = .ok (.if_icmp .eq 660, 3) := by decide +kernel
theorem d_LW_law_369 : decode M_LW_law.2.1 369 = .ok (.iconst 0, 1) := by decide +kernel
theorem d_LW_law_370 : decode M_LW_law.2.1 370 = .ok (.ireturn, 1) := by decide +kernel
theorem d_LW_law_371 : decode M_LW_law.2.1 371 = .ok (.aload_n 1, 1) := by decide +kernel
theorem d_LW_law_372 : decode M_LW_law.2.1 372 = .ok (.aload_n 0, 1) := by decide +kernel
theorem d_LW_law_373 : decode M_LW_law.2.1 373 = .ok (.iload_n 3, 1) := by decide +kernel
theorem d_LW_law_374 : decode M_LW_law.2.1 374 = .ok (.iconst 1, 1) := by decide +kernel
theorem d_LW_law_375 : decode M_LW_law.2.1 375 = .ok (.iadd, 1) := by decide +kernel
theorem d_LW_law_376 : decode M_LW_law.2.1 376 = .ok (.iaload, 1) := by decide +kernel
theorem d_LW_law_377 : decode M_LW_law.2.1 377 = .ok (.invokevirtual 46, 3) := by decide +kernel
theorem d_LW_law_380 : decode M_LW_law.2.1 380 = .ok (.aload_n 2, 1) := by decide +kernel
theorem d_LW_law_381 : decode M_LW_law.2.1 381 = .ok (.aload_n 0, 1) := by decide +kernel
theorem d_LW_law_382 : decode M_LW_law.2.1 382 = .ok (.iload_n 3, 1) := by decide +kernel
theorem d_LW_law_383 : decode M_LW_law.2.1 383 = .ok (.iconst 1, 1) := by decide +kernel
theorem d_LW_law_384 : decode M_LW_law.2.1 384 = .ok (.iadd, 1) := by decide +kernel
theorem d_LW_law_385 : decode M_LW_law.2.1 385 = .ok (.iaload, 1) := by decide +kernel
theorem d_LW_law_386 : decode M_LW_law.2.1 386 = .ok (.invokevirtual 49, 3) := by decide +kernel
theorem d_LW_law_389 : decode M_LW_law.2.1 389 = .ok (.if_icmp .eq 637, 3) := by decide +kernel
theorem d_LW_law_392 : decode M_LW_law.2.1 392 = .ok (.iconst 0, 1) := by decide +kernel
theorem d_LW_law_393 : decode M_LW_law.2.1 393 = .ok (.ireturn, 1) := by decide +kernel
theorem d_LW_law_394 : decode M_LW_law.2.1 394 = .ok (.aload_n 1, 1) := by decide +kernel
theorem d_LW_law_395 : decode M_LW_law.2.1 395 = .ok (.aload_n 0, 1) := by decide +kernel
theorem d_LW_law_396 : decode M_LW_law.2.1 396 = .ok (.iload_n 3, 1) := by decide +kernel
theorem d_LW_law_397 : decode M_LW_law.2.1 397 = .ok (.iconst 1, 1) := by decide +kernel
theorem d_LW_law_398 : decode M_LW_law.2.1 398 = .ok (.iadd, 1) := by decide +kernel
theorem d_LW_law_399 : decode M_LW_law.2.1 399 = .ok (.iaload, 1) := by decide +kernel
theorem d_LW_law_400 : decode M_LW_law.2.1 400 = .ok (.invokevirtual 50, 3) := by decide +kernel
theorem d_LW_law_403 : decode M_LW_law.2.1 403 = .ok (.aload_n 2, 1) := by decide +kernel
theorem d_LW_law_404 : decode M_LW_law.2.1 404 = .ok (.aload_n 0, 1) := by decide +kernel
theorem d_LW_law_405 : decode M_LW_law.2.1 405 = .ok (.iload_n 3, 1) := by decide +kernel
theorem d_LW_law_406 : decode M_LW_law.2.1 406 = .ok (.iconst 1, 1) := by decide +kernel
theorem d_LW_law_407 : decode M_LW_law.2.1 407 = .ok (.iadd, 1) := by decide +kernel
theorem d_LW_law_408 : decode M_LW_law.2.1 408 = .ok (.iaload, 1) := by decide +kernel
theorem d_LW_law_409 : decode M_LW_law.2.1 409 = .ok (.invokevirtual 53, 3) := by decide +kernel
theorem d_LW_law_412 : decode M_LW_law.2.1 412 = .ok (.if_icmp .eq 614, 3) := by decide +kernel
theorem d_LW_law_415 : decode M_LW_law.2.1 415 = .ok (.iconst 0, 1) := by decide +kernel
theorem d_LW_law_416 : decode M_LW_law.2.1 416 = .ok (.ireturn, 1) := by decide +kernel
theorem d_LW_law_417 : decode M_LW_law.2.1 417 = .ok (.aload_n 1, 1) := by decide +kernel
theorem d_LW_law_418 : decode M_LW_law.2.1 418 = .ok (.aload_n 0, 1) := by decide +kernel
theorem d_LW_law_419 : decode M_LW_law.2.1 419 = .ok (.iload_n 3, 1) := by decide +kernel
theorem d_LW_law_420 : decode M_LW_law.2.1 420 = .ok (.iconst 1, 1) := by decide +kernel
theorem d_LW_law_421 : decode M_LW_law.2.1 421 = .ok (.iadd, 1) := by decide +kernel
theorem d_LW_law_422 : decode M_LW_law.2.1 422 = .ok (.iaload, 1) := by decide +kernel
theorem d_LW_law_423 : decode M_LW_law.2.1 423 = .ok (.invokevirtual 54, 3) := by decide +kernel
theorem d_LW_law_426 : decode M_LW_law.2.1 426 = .ok (.aload_n 2, 1) := by decide +kernel
theorem d_LW_law_427 : decode M_LW_law.2.1 427 = .ok (.aload_n 0, 1) := by decide +kernel
theorem d_LW_law_428 : decode M_LW_law.2.1 428 = .ok (.iload_n 3, 1) := by decide +kernel
theorem d_LW_law_429 : decode M_LW_law.2.1 429 = .ok (.iconst 1, 1) := by decide +kernel
theorem d_LW_law_430 : decode M_LW_law.2.1 430 = .ok (.iadd, 1) := by decide +kernel
theorem d_LW_law_431 : decode M_LW_law.2.1 431 = .ok (.iaload, 1) := by decide +kernel
theorem d_LW_law_432 : decode M_LW_law.2.1 432 = .ok (.invokevirtual 57, 3) := by decide +kernel
theorem d_LW_law_435 : decode M_LW_law.2.1 435 = .ok (.if_icmp .eq 591, 3) := by decide +kernel
theorem d_LW_law_438 : decode M_LW_law.2.1 438 = .ok (.iconst 0, 1) := by decide +kernel
theorem d_LW_law_439 : decode M_LW_law.2.1 439 = .ok (.ireturn, 1) := by decide +kernel
theorem d_LW_law_440 : decode M_LW_law.2.1 440 = .ok (.aload_n 1, 1) := by decide +kernel
theorem d_LW_law_441 : decode M_LW_law.2.1 441 = .ok (.aload_n 0, 1) := by decide +kernel
theorem d_LW_law_442 : decode M_LW_law.2.1 442 = .ok (.iload_n 3, 1) := by decide +kernel
theorem d_LW_law_443 : decode M_LW_law.2.1 443 = .ok (.iconst 1, 1) := by decide +kernel
theorem d_LW_law_444 : decode M_LW_law.2.1 444 = .ok (.iadd, 1) := by decide +kernel
theorem d_LW_law_445 : decode M_LW_law.2.1 445 = .ok (.iaload, 1) := by decide +kernel
theorem d_LW_law_446 : decode M_LW_law.2.1 446 = .ok (.aload_n 0, 1) := by decide +kernel
theorem d_LW_law_447 : decode M_LW_law.2.1 447 = .ok (.iload_n 3, 1) := by decide +kernel
theorem d_LW_law_448 : decode M_LW_law.2.1 448 = .ok (.iconst 2, 1) := by decide +kernel
theorem d_LW_law_449 : decode M_LW_law.2.1 449 = .ok (.iadd, 1) := by decide +kernel
theorem d_LW_law_450 : decode M_LW_law.2.1 450 = .ok (.iaload, 1) := by decide +kernel
theorem d_LW_law_451 : decode M_LW_law.2.1 451 = .ok (.aload_n 0, 1) := by decide +kernel
theorem d_LW_law_452 : decode M_LW_law.2.1 452 = .ok (.iload_n 3, 1) := by decide +kernel
theorem d_LW_law_453 : decode M_LW_law.2.1 453 = .ok (.iconst 3, 1) := by decide +kernel
